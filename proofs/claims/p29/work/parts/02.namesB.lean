theorem dX0_init_0 : decode cX0_init 0 = .ok (.aload_n 0, 1) := by decide +kernel
theorem dX0_init_1 : decode cX0_init 1 = .ok (.invokespecial 3, 3) := by decide +kernel
theorem dX0_init_4 : decode cX0_init 4 = .ok (.aload_n 0, 1) := by decide +kernel
theorem dX0_init_5 : decode cX0_init 5 = .ok (.iconst 0, 1) := by decide +kernel
theorem dX0_init_6 : decode cX0_init 6 = .ok (.putfield 9, 3) := by decide +kernel
theorem dX0_init_9 : decode cX0_init 9 = .ok (.aload_n 0, 1) := by decide +kernel
theorem dX0_init_10 : decode cX0_init 10 = .ok (.bipush 30, 2) := by decide +kernel
theorem dX0_init_12 : decode cX0_init 12 = .ok (.newarray .int, 2) := by decide +kernel
theorem dX0_init_14 : decode cX0_init 14 = .ok (.putfield 15, 3) := by decide +kernel
theorem dX0_init_17 : decode cX0_init 17 = .ok (.aload_n 0, 1) := by decide +kernel
theorem dX0_init_18 : decode cX0_init 18 = .ok (.bipush 30, 2) := by decide +kernel
theorem dX0_init_20 : decode cX0_init 20 = .ok (.newarray .int, 2) := by decide +kernel
theorem dX0_init_22 : decode cX0_init 22 = .ok (.putfield 19, 3) := by decide +kernel
theorem dX0_init_25 : decode cX0_init 25 = .ok (.aload_n 0, 1) := by decide +kernel
theorem dX0_init_26 : decode cX0_init 26 = .ok (.bipush 30, 2) := by decide +kernel
theorem dX0_init_28 : decode cX0_init 28 = .ok (.newarray .int, 2) := by decide +kernel
theorem dX0_init_30 : decode cX0_init 30 = .ok (.putfield 22, 3) := by decide +kernel
theorem dX0_init_33 : decode cX0_init 33 = .ok (.aload_n 0, 1) := by decide +kernel
theorem dX0_init_34 : decode cX0_init 34 = .ok (.bipush 30, 2) := by decide +kernel
theorem dX0_init_36 : decode cX0_init 36 = .ok (.newarray .int, 2) := by decide +kernel
theorem dX0_init_38 : decode cX0_init 38 = .ok (.putfield 25, 3) := by decide +kernel
theorem dX0_init_41 : decode cX0_init 41 = .ok (.aload_n 0, 1) := by decide +kernel
theorem dX0_init_42 : decode cX0_init 42 = .ok (.bipush 30, 2) := by decide +kernel
theorem dX0_init_44 : decode cX0_init 44 = .ok (.newarray .int, 2) := by decide +kernel
theorem dX0_init_46 : decode cX0_init 46 = .ok (.putfield 28, 3) := by decide +kernel
theorem dX0_init_49 : decode cX0_init 49 = .ok (.aload_n 0, 1) := by decide +kernel
theorem dX0_init_50 : decode cX0_init 50 = .ok (.bipush 30, 2) := by decide +kernel
theorem dX0_init_52 : decode cX0_init 52 = .ok (.newarray .int, 2) := by decide +kernel
theorem dX0_init_54 : decode cX0_init 54 = .ok (.putfield 31, 3) := by decide +kernel
theorem dX0_init_57 : decode cX0_init 57 = .ok (.aload_n 0, 1) := by decide +kernel
theorem dX0_init_58 : decode cX0_init 58 = .ok (.bipush 30, 2) := by decide +kernel
theorem dX0_init_60 : decode cX0_init 60 = .ok (.newarray .int, 2) := by decide +kernel
theorem dX0_init_62 : decode cX0_init 62 = .ok (.putfield 34, 3) := by decide +kernel
theorem dX0_init_65 : decode cX0_init 65 = .ok (.aload_n 0, 1) := by decide +kernel
theorem dX0_init_66 : decode cX0_init 66 = .ok (.bipush 30, 2) := by decide +kernel
theorem dX0_init_68 : decode cX0_init 68 = .ok (.newarray .int, 2) := by decide +kernel
theorem dX0_init_70 : decode cX0_init 70 = .ok (.putfield 37, 3) := by decide +kernel
theorem dX0_init_73 : decode cX0_init 73 = .ok (.return_, 1) := by decide +kernel
set_option maxRecDepth 20000 in
theorem ggX0_copyFrom_X6_copyRow : GoodIn wsX0_copyFrom wsX6_copyRow := goodIn_r _ [12, 13, 14, 15, 16, 17, 18, 19, 20] (by decide +kernel) (by decide +kernel)
set_option maxRecDepth 20000 in
theorem gX0_copyFrom_X6_copyRow_n40 : GoodIn wsX0_copyFrom (wsX6_copyRow) := ggX0_copyFrom_X6_copyRow
theorem dX0_copyFrom_0 : decode cX0_copyFrom 0 = .ok (.aload_n 0, 1) := by decide +kernel
theorem dX0_copyFrom_1 : decode cX0_copyFrom 1 = .ok (.aload_n 1, 1) := by decide +kernel
theorem dX0_copyFrom_2 : decode cX0_copyFrom 2 = .ok (.getfield 9, 3) := by decide +kernel
theorem dX0_copyFrom_5 : decode cX0_copyFrom 5 = .ok (.putfield 9, 3) := by decide +kernel
theorem dX0_copyFrom_8 : decode cX0_copyFrom 8 = .ok (.aload_n 1, 1) := by decide +kernel
theorem dX0_copyFrom_9 : decode cX0_copyFrom 9 = .ok (.getfield 15, 3) := by decide +kernel
theorem dX0_copyFrom_12 : decode cX0_copyFrom 12 = .ok (.aload_n 0, 1) := by decide +kernel
theorem dX0_copyFrom_13 : decode cX0_copyFrom 13 = .ok (.getfield 15, 3) := by decide +kernel
theorem dX0_copyFrom_16 : decode cX0_copyFrom 16 = .ok (.invokestatic 40, 3) := by decide +kernel
theorem dX0_copyFrom_19 : decode cX0_copyFrom 19 = .ok (.aload_n 1, 1) := by decide +kernel
theorem dX0_copyFrom_20 : decode cX0_copyFrom 20 = .ok (.getfield 19, 3) := by decide +kernel
theorem dX0_copyFrom_23 : decode cX0_copyFrom 23 = .ok (.aload_n 0, 1) := by decide +kernel
theorem dX0_copyFrom_24 : decode cX0_copyFrom 24 = .ok (.getfield 19, 3) := by decide +kernel
theorem dX0_copyFrom_27 : decode cX0_copyFrom 27 = .ok (.invokestatic 40, 3) := by decide +kernel
theorem dX0_copyFrom_30 : decode cX0_copyFrom 30 = .ok (.aload_n 1, 1) := by decide +kernel
theorem dX0_copyFrom_31 : decode cX0_copyFrom 31 = .ok (.getfield 22, 3) := by decide +kernel
theorem dX0_copyFrom_34 : decode cX0_copyFrom 34 = .ok (.aload_n 0, 1) := by decide +kernel
theorem dX0_copyFrom_35 : decode cX0_copyFrom 35 = .ok (.getfield 22, 3) := by decide +kernel
theorem dX0_copyFrom_38 : decode cX0_copyFrom 38 = .ok (.invokestatic 40, 3) := by decide +kernel
theorem dX0_copyFrom_41 : decode cX0_copyFrom 41 = .ok (.aload_n 1, 1) := by decide +kernel
theorem dX0_copyFrom_42 : decode cX0_copyFrom 42 = .ok (.getfield 25, 3) := by decide +kernel
theorem dX0_copyFrom_45 : decode cX0_copyFrom 45 = .ok (.aload_n 0, 1) := by decide +kernel
theorem dX0_copyFrom_46 : decode cX0_copyFrom 46 = .ok (.getfield 25, 3) := by decide +kernel
theorem dX0_copyFrom_49 : decode cX0_copyFrom 49 = .ok (.invokestatic 40, 3) := by decide +kernel
theorem dX0_copyFrom_52 : decode cX0_copyFrom 52 = .ok (.aload_n 1, 1) := by decide +kernel
theorem dX0_copyFrom_53 : decode cX0_copyFrom 53 = .ok (.getfield 28, 3) := by decide +kernel
theorem dX0_copyFrom_56 : decode cX0_copyFrom 56 = .ok (.aload_n 0, 1) := by decide +kernel
theorem dX0_copyFrom_57 : decode cX0_copyFrom 57 = .ok (.getfield 28, 3) := by decide +kernel
theorem dX0_copyFrom_60 : decode cX0_copyFrom 60 = .ok (.invokestatic 40, 3) := by decide +kernel
theorem dX0_copyFrom_63 : decode cX0_copyFrom 63 = .ok (.aload_n 1, 1) := by decide +kernel
theorem dX0_copyFrom_64 : decode cX0_copyFrom 64 = .ok (.getfield 31, 3) := by decide +kernel
theorem dX0_copyFrom_67 : decode cX0_copyFrom 67 = .ok (.aload_n 0, 1) := by decide +kernel
theorem dX0_copyFrom_68 : decode cX0_copyFrom 68 = .ok (.getfield 31, 3) := by decide +kernel
theorem dX0_copyFrom_71 : decode cX0_copyFrom 71 = .ok (.invokestatic 40, 3) := by decide +kernel
theorem dX0_copyFrom_74 : decode cX0_copyFrom 74 = .ok (.aload_n 1, 1) := by decide +kernel
theorem dX0_copyFrom_75 : decode cX0_copyFrom 75 = .ok (.getfield 34, 3) := by decide +kernel
theorem dX0_copyFrom_78 : decode cX0_copyFrom 78 = .ok (.aload_n 0, 1) := by decide +kernel
theorem dX0_copyFrom_79 : decode cX0_copyFrom 79 = .ok (.getfield 34, 3) := by decide +kernel
theorem dX0_copyFrom_82 : decode cX0_copyFrom 82 = .ok (.invokestatic 40, 3) := by decide +kernel
theorem dX0_copyFrom_85 : decode cX0_copyFrom 85 = .ok (.aload_n 1, 1) := by decide +kernel
theorem dX0_copyFrom_86 : decode cX0_copyFrom 86 = .ok (.getfield 37, 3) := by decide +kernel
theorem dX0_copyFrom_89 : decode cX0_copyFrom 89 = .ok (.aload_n 0, 1) := by decide +kernel
theorem dX0_copyFrom_90 : decode cX0_copyFrom 90 = .ok (.getfield 37, 3) := by decide +kernel
theorem dX0_copyFrom_93 : decode cX0_copyFrom 93 = .ok (.invokestatic 40, 3) := by decide +kernel
theorem dX0_copyFrom_96 : decode cX0_copyFrom 96 = .ok (.return_, 1) := by decide +kernel
theorem dX0_has_0 : decode cX0_has 0 = .ok (.iload_n 1, 1) := by decide +kernel
theorem dX0_has_1 : decode cX0_has 1 = .ok (.ifCond .lt 15, 3) := by decide +kernel
theorem dX0_has_4 : decode cX0_has 4 = .ok (.iload_n 1, 1) := by decide +kernel
theorem dX0_has_5 : decode cX0_has 5 = .ok (.aload_n 0, 1) := by decide +kernel
theorem dX0_has_6 : decode cX0_has 6 = .ok (.getfield 9, 3) := by decide +kernel
theorem dX0_has_9 : decode cX0_has 9 = .ok (.if_icmp .ge 7, 3) := by decide +kernel
theorem dX0_has_12 : decode cX0_has 12 = .ok (.iconst 1, 1) := by decide +kernel
theorem dX0_has_13 : decode cX0_has 13 = .ok (.goto 4, 3) := by decide +kernel
theorem dX0_has_16 : decode cX0_has 16 = .ok (.iconst 0, 1) := by decide +kernel
theorem dX0_has_17 : decode cX0_has 17 = .ok (.ireturn, 1) := by decide +kernel
theorem dX0_isFull_0 : decode cX0_isFull 0 = .ok (.aload_n 0, 1) := by decide +kernel
theorem dX0_isFull_1 : decode cX0_isFull 1 = .ok (.getfield 9, 3) := by decide +kernel
theorem dX0_isFull_4 : decode cX0_isFull 4 = .ok (.bipush 30, 2) := by decide +kernel
theorem dX0_isFull_6 : decode cX0_isFull 6 = .ok (.if_icmp .lt 7, 3) := by decide +kernel
theorem dX0_isFull_9 : decode cX0_isFull 9 = .ok (.iconst 1, 1) := by decide +kernel
theorem dX0_isFull_10 : decode cX0_isFull 10 = .ok (.goto 4, 3) := by decide +kernel
theorem dX0_isFull_13 : decode cX0_isFull 13 = .ok (.iconst 0, 1) := by decide +kernel
theorem dX0_isFull_14 : decode cX0_isFull 14 = .ok (.ireturn, 1) := by decide +kernel
theorem dX0_hasPlace_0 : decode cX0_hasPlace 0 = .ok (.iconst 0, 1) := by decide +kernel
theorem dX0_hasPlace_1 : decode cX0_hasPlace 1 = .ok (.istore_n 3, 1) := by decide +kernel
theorem dX0_hasPlace_2 : decode cX0_hasPlace 2 = .ok (.iload_n 3, 1) := by decide +kernel
theorem dX0_hasPlace_3 : decode cX0_hasPlace 3 = .ok (.aload_n 0, 1) := by decide +kernel
theorem dX0_hasPlace_4 : decode cX0_hasPlace 4 = .ok (.getfield 9, 3) := by decide +kernel
theorem dX0_hasPlace_7 : decode cX0_hasPlace 7 = .ok (.if_icmp .ge 31, 3) := by decide +kernel
theorem dX0_hasPlace_10 : decode cX0_hasPlace 10 = .ok (.aload_n 0, 1) := by decide +kernel
theorem dX0_hasPlace_11 : decode cX0_hasPlace 11 = .ok (.getfield 15, 3) := by decide +kernel
theorem dX0_hasPlace_14 : decode cX0_hasPlace 14 = .ok (.iload_n 3, 1) := by decide +kernel
theorem dX0_hasPlace_15 : decode cX0_hasPlace 15 = .ok (.iaload, 1) := by decide +kernel
theorem dX0_hasPlace_16 : decode cX0_hasPlace 16 = .ok (.iload_n 1, 1) := by decide +kernel
theorem dX0_hasPlace_17 : decode cX0_hasPlace 17 = .ok (.if_icmp .ne 15, 3) := by decide +kernel
theorem dX0_hasPlace_20 : decode cX0_hasPlace 20 = .ok (.aload_n 0, 1) := by decide +kernel
theorem dX0_hasPlace_21 : decode cX0_hasPlace 21 = .ok (.getfield 19, 3) := by decide +kernel
theorem dX0_hasPlace_24 : decode cX0_hasPlace 24 = .ok (.iload_n 3, 1) := by decide +kernel
theorem dX0_hasPlace_25 : decode cX0_hasPlace 25 = .ok (.iaload, 1) := by decide +kernel
theorem dX0_hasPlace_26 : decode cX0_hasPlace 26 = .ok (.iload_n 2, 1) := by decide +kernel
theorem dX0_hasPlace_27 : decode cX0_hasPlace 27 = .ok (.if_icmp .ne 5, 3) := by decide +kernel
theorem dX0_hasPlace_30 : decode cX0_hasPlace 30 = .ok (.iconst 1, 1) := by decide +kernel
theorem dX0_hasPlace_31 : decode cX0_hasPlace 31 = .ok (.ireturn, 1) := by decide +kernel
theorem dX0_hasPlace_32 : decode cX0_hasPlace 32 = .ok (.iinc 3 1, 3) := by decide +kernel
theorem dX0_hasPlace_35 : decode cX0_hasPlace 35 = .ok (.goto (-33), 3) := by decide +kernel
theorem dX0_hasPlace_38 : decode cX0_hasPlace 38 = .ok (.iconst 0, 1) := by decide +kernel
theorem dX0_hasPlace_39 : decode cX0_hasPlace 39 = .ok (.ireturn, 1) := by decide +kernel
set_option maxRecDepth 20000 in
theorem ggX0_add_X0_isFull : GoodIn wsX0_add wsX0_isFull := goodIn_r _ [10, 1, 23, 24, 25, 26, 27, 28, 29, 30, 31] (by decide +kernel) (by decide +kernel)
set_option maxRecDepth 20000 in
theorem gX0_add_X0_isFull : GoodIn wsX0_add (wsV RX0 44 RX0 yX0_isFull wsX0_isFull) := goodIn_app (goodIn_of _ (by decide +kernel)) ggX0_add_X0_isFull
set_option maxRecDepth 20000 in
theorem ggX0_add_X0_clear : GoodIn wsX0_add wsX0_clear := goodIn_r _ [14, 15, 16, 17, 18, 19, 20, 21, 9, 22, 1, 23, 24, 25, 26, 27, 28, 29, 30, 31] (by decide +kernel) (by decide +kernel)
set_option maxRecDepth 20000 in
theorem gX0_add_X0_clear : GoodIn wsX0_add (wsV RX0 48 RX0 yX0_clear wsX0_clear) := goodIn_app (goodIn_of _ (by decide +kernel)) ggX0_add_X0_clear
theorem dX0_add_0 : decode cX0_add 0 = .ok (.aload_n 0, 1) := by decide +kernel
theorem dX0_add_1 : decode cX0_add 1 = .ok (.invokevirtual 44, 3) := by decide +kernel
theorem dX0_add_4 : decode cX0_add 4 = .ok (.ifCond .eq 6, 3) := by decide +kernel
theorem dX0_add_7 : decode cX0_add 7 = .ok (.bipush (-9), 2) := by decide +kernel
theorem dX0_add_9 : decode cX0_add 9 = .ok (.ireturn, 1) := by decide +kernel
theorem dX0_add_10 : decode cX0_add 10 = .ok (.aload_n 0, 1) := by decide +kernel
theorem dX0_add_11 : decode cX0_add 11 = .ok (.getfield 9, 3) := by decide +kernel
theorem dX0_add_14 : decode cX0_add 14 = .ok (.istore 4, 2) := by decide +kernel
theorem dX0_add_16 : decode cX0_add 16 = .ok (.aload_n 0, 1) := by decide +kernel
theorem dX0_add_17 : decode cX0_add 17 = .ok (.dup, 1) := by decide +kernel
theorem dX0_add_18 : decode cX0_add 18 = .ok (.getfield 9, 3) := by decide +kernel
theorem dX0_add_21 : decode cX0_add 21 = .ok (.iconst 1, 1) := by decide +kernel
theorem dX0_add_22 : decode cX0_add 22 = .ok (.iadd, 1) := by decide +kernel
theorem dX0_add_23 : decode cX0_add 23 = .ok (.putfield 9, 3) := by decide +kernel
theorem dX0_add_26 : decode cX0_add 26 = .ok (.aload_n 0, 1) := by decide +kernel
theorem dX0_add_27 : decode cX0_add 27 = .ok (.getfield 15, 3) := by decide +kernel
theorem dX0_add_30 : decode cX0_add 30 = .ok (.iload 4, 2) := by decide +kernel
theorem dX0_add_32 : decode cX0_add 32 = .ok (.iload_n 1, 1) := by decide +kernel
theorem dX0_add_33 : decode cX0_add 33 = .ok (.iastore, 1) := by decide +kernel
theorem dX0_add_34 : decode cX0_add 34 = .ok (.aload_n 0, 1) := by decide +kernel
theorem dX0_add_35 : decode cX0_add 35 = .ok (.getfield 19, 3) := by decide +kernel
theorem dX0_add_38 : decode cX0_add 38 = .ok (.iload 4, 2) := by decide +kernel
theorem dX0_add_40 : decode cX0_add 40 = .ok (.iload_n 2, 1) := by decide +kernel
theorem dX0_add_41 : decode cX0_add 41 = .ok (.iastore, 1) := by decide +kernel
theorem dX0_add_42 : decode cX0_add 42 = .ok (.aload_n 0, 1) := by decide +kernel
theorem dX0_add_43 : decode cX0_add 43 = .ok (.getfield 22, 3) := by decide +kernel
theorem dX0_add_46 : decode cX0_add 46 = .ok (.iload 4, 2) := by decide +kernel
theorem dX0_add_48 : decode cX0_add 48 = .ok (.iload_n 3, 1) := by decide +kernel
theorem dX0_add_49 : decode cX0_add 49 = .ok (.iastore, 1) := by decide +kernel
theorem dX0_add_50 : decode cX0_add 50 = .ok (.aload_n 0, 1) := by decide +kernel
theorem dX0_add_51 : decode cX0_add 51 = .ok (.getfield 25, 3) := by decide +kernel
theorem dX0_add_54 : decode cX0_add 54 = .ok (.iload 4, 2) := by decide +kernel
theorem dX0_add_56 : decode cX0_add 56 = .ok (.iconst 1, 1) := by decide +kernel
theorem dX0_add_57 : decode cX0_add 57 = .ok (.iastore, 1) := by decide +kernel
theorem dX0_add_58 : decode cX0_add 58 = .ok (.aload_n 0, 1) := by decide +kernel
theorem dX0_add_59 : decode cX0_add 59 = .ok (.iload 4, 2) := by decide +kernel
theorem dX0_add_61 : decode cX0_add 61 = .ok (.invokevirtual 48, 3) := by decide +kernel
theorem dX0_add_64 : decode cX0_add 64 = .ok (.iload 4, 2) := by decide +kernel
theorem dX0_add_66 : decode cX0_add 66 = .ok (.ireturn, 1) := by decide +kernel
set_option maxRecDepth 20000 in
theorem ggX0_clear_X0_has : GoodIn wsX0_clear wsX0_has := goodIn_r _ [9, 10, 11, 12, 13, 14, 15, 16, 17, 18, 19] (by decide +kernel) (by decide +kernel)
set_option maxRecDepth 20000 in
theorem gX0_clear_X0_has : GoodIn wsX0_clear (wsV RX0 52 RX0 yX0_has wsX0_has) := goodIn_app (goodIn_of _ (by decide +kernel)) ggX0_clear_X0_has
theorem dX0_clear_0 : decode cX0_clear 0 = .ok (.aload_n 0, 1) := by decide +kernel
theorem dX0_clear_1 : decode cX0_clear 1 = .ok (.iload_n 1, 1) := by decide +kernel
theorem dX0_clear_2 : decode cX0_clear 2 = .ok (.invokevirtual 52, 3) := by decide +kernel
theorem dX0_clear_5 : decode cX0_clear 5 = .ok (.ifCond .eq 32, 3) := by decide +kernel
theorem dX0_clear_8 : decode cX0_clear 8 = .ok (.aload_n 0, 1) := by decide +kernel
theorem dX0_clear_9 : decode cX0_clear 9 = .ok (.getfield 28, 3) := by decide +kernel
theorem dX0_clear_12 : decode cX0_clear 12 = .ok (.iload_n 1, 1) := by decide +kernel
theorem dX0_clear_13 : decode cX0_clear 13 = .ok (.iconst 0, 1) := by decide +kernel
theorem dX0_clear_14 : decode cX0_clear 14 = .ok (.iastore, 1) := by decide +kernel
theorem dX0_clear_15 : decode cX0_clear 15 = .ok (.aload_n 0, 1) := by decide +kernel
theorem dX0_clear_16 : decode cX0_clear 16 = .ok (.getfield 31, 3) := by decide +kernel
theorem dX0_clear_19 : decode cX0_clear 19 = .ok (.iload_n 1, 1) := by decide +kernel
theorem dX0_clear_20 : decode cX0_clear 20 = .ok (.iconst 0, 1) := by decide +kernel
theorem dX0_clear_21 : decode cX0_clear 21 = .ok (.iastore, 1) := by decide +kernel
theorem dX0_clear_22 : decode cX0_clear 22 = .ok (.aload_n 0, 1) := by decide +kernel
theorem dX0_clear_23 : decode cX0_clear 23 = .ok (.getfield 34, 3) := by decide +kernel
theorem dX0_clear_26 : decode cX0_clear 26 = .ok (.iload_n 1, 1) := by decide +kernel
theorem dX0_clear_27 : decode cX0_clear 27 = .ok (.iconst 0, 1) := by decide +kernel
theorem dX0_clear_28 : decode cX0_clear 28 = .ok (.iastore, 1) := by decide +kernel
theorem dX0_clear_29 : decode cX0_clear 29 = .ok (.aload_n 0, 1) := by decide +kernel
theorem dX0_clear_30 : decode cX0_clear 30 = .ok (.getfield 37, 3) := by decide +kernel
theorem dX0_clear_33 : decode cX0_clear 33 = .ok (.iload_n 1, 1) := by decide +kernel
theorem dX0_clear_34 : decode cX0_clear 34 = .ok (.bipush (-9), 2) := by decide +kernel
theorem dX0_clear_36 : decode cX0_clear 36 = .ok (.iastore, 1) := by decide +kernel
theorem dX0_clear_37 : decode cX0_clear 37 = .ok (.return_, 1) := by decide +kernel
set_option maxRecDepth 20000 in
theorem ggX0_isEmpty_X0_has : GoodIn wsX0_isEmpty wsX0_has := goodIn_r _ [6, 7, 8, 9, 10, 11, 12, 13, 14, 15, 16] (by decide +kernel) (by decide +kernel)
set_option maxRecDepth 20000 in
theorem gX0_isEmpty_X0_has : GoodIn wsX0_isEmpty (wsV RX0 52 RX0 yX0_has wsX0_has) := goodIn_app (goodIn_of _ (by decide +kernel)) ggX0_isEmpty_X0_has
theorem dX0_isEmpty_0 : decode cX0_isEmpty 0 = .ok (.aload_n 0, 1) := by decide +kernel
theorem dX0_isEmpty_1 : decode cX0_isEmpty 1 = .ok (.iload_n 1, 1) := by decide +kernel
theorem dX0_isEmpty_2 : decode cX0_isEmpty 2 = .ok (.invokevirtual 52, 3) := by decide +kernel
theorem dX0_isEmpty_5 : decode cX0_isEmpty 5 = .ok (.ifCond .eq 16, 3) := by decide +kernel
theorem dX0_isEmpty_8 : decode cX0_isEmpty 8 = .ok (.aload_n 0, 1) := by decide +kernel
theorem dX0_isEmpty_9 : decode cX0_isEmpty 9 = .ok (.getfield 28, 3) := by decide +kernel
theorem dX0_isEmpty_12 : decode cX0_isEmpty 12 = .ok (.iload_n 1, 1) := by decide +kernel
theorem dX0_isEmpty_13 : decode cX0_isEmpty 13 = .ok (.iaload, 1) := by decide +kernel
theorem dX0_isEmpty_14 : decode cX0_isEmpty 14 = .ok (.ifCond .ne 7, 3) := by decide +kernel
theorem dX0_isEmpty_17 : decode cX0_isEmpty 17 = .ok (.iconst 1, 1) := by decide +kernel
theorem dX0_isEmpty_18 : decode cX0_isEmpty 18 = .ok (.goto 4, 3) := by decide +kernel
theorem dX0_isEmpty_21 : decode cX0_isEmpty 21 = .ok (.iconst 0, 1) := by decide +kernel
theorem dX0_isEmpty_22 : decode cX0_isEmpty 22 = .ok (.ireturn, 1) := by decide +kernel
set_option maxRecDepth 20000 in
theorem ggX0_serves_X0_has : GoodIn wsX0_serves wsX0_has := goodIn_r _ [7, 8, 9, 10, 11, 12, 13, 14, 15, 16, 17] (by decide +kernel) (by decide +kernel)
set_option maxRecDepth 20000 in
theorem gX0_serves_X0_has : GoodIn wsX0_serves (wsV RX0 52 RX0 yX0_has wsX0_has) := goodIn_app (goodIn_of _ (by decide +kernel)) ggX0_serves_X0_has
theorem dX0_serves_0 : decode cX0_serves 0 = .ok (.aload_n 0, 1) := by decide +kernel
theorem dX0_serves_1 : decode cX0_serves 1 = .ok (.iload_n 1, 1) := by decide +kernel
theorem dX0_serves_2 : decode cX0_serves 2 = .ok (.invokevirtual 52, 3) := by decide +kernel
theorem dX0_serves_5 : decode cX0_serves 5 = .ok (.ifCond .eq 27, 3) := by decide +kernel
theorem dX0_serves_8 : decode cX0_serves 8 = .ok (.aload_n 0, 1) := by decide +kernel
theorem dX0_serves_9 : decode cX0_serves 9 = .ok (.getfield 25, 3) := by decide +kernel
theorem dX0_serves_12 : decode cX0_serves 12 = .ok (.iload_n 1, 1) := by decide +kernel
theorem dX0_serves_13 : decode cX0_serves 13 = .ok (.iaload, 1) := by decide +kernel
theorem dX0_serves_14 : decode cX0_serves 14 = .ok (.iconst 1, 1) := by decide +kernel
theorem dX0_serves_15 : decode cX0_serves 15 = .ok (.if_icmp .ne 17, 3) := by decide +kernel
theorem dX0_serves_18 : decode cX0_serves 18 = .ok (.aload_n 0, 1) := by decide +kernel
theorem dX0_serves_19 : decode cX0_serves 19 = .ok (.getfield 22, 3) := by decide +kernel
theorem dX0_serves_22 : decode cX0_serves 22 = .ok (.iload_n 1, 1) := by decide +kernel
theorem dX0_serves_23 : decode cX0_serves 23 = .ok (.iaload, 1) := by decide +kernel
theorem dX0_serves_24 : decode cX0_serves 24 = .ok (.iload_n 2, 1) := by decide +kernel
theorem dX0_serves_25 : decode cX0_serves 25 = .ok (.if_icmp .lt 7, 3) := by decide +kernel
theorem dX0_serves_28 : decode cX0_serves 28 = .ok (.iconst 1, 1) := by decide +kernel
theorem dX0_serves_29 : decode cX0_serves 29 = .ok (.goto 4, 3) := by decide +kernel
theorem dX0_serves_32 : decode cX0_serves 32 = .ok (.iconst 0, 1) := by decide +kernel
theorem dX0_serves_33 : decode cX0_serves 33 = .ok (.ireturn, 1) := by decide +kernel
theorem dX0_withPlate_0 : decode cX0_withPlate 0 = .ok (.iconst 0, 1) := by decide +kernel
theorem dX0_withPlate_1 : decode cX0_withPlate 1 = .ok (.istore_n 2, 1) := by decide +kernel
theorem dX0_withPlate_2 : decode cX0_withPlate 2 = .ok (.iload_n 2, 1) := by decide +kernel
theorem dX0_withPlate_3 : decode cX0_withPlate 3 = .ok (.aload_n 0, 1) := by decide +kernel
theorem dX0_withPlate_4 : decode cX0_withPlate 4 = .ok (.getfield 9, 3) := by decide +kernel
theorem dX0_withPlate_7 : decode cX0_withPlate 7 = .ok (.if_icmp .ge 21, 3) := by decide +kernel
theorem dX0_withPlate_10 : decode cX0_withPlate 10 = .ok (.aload_n 0, 1) := by decide +kernel
theorem dX0_withPlate_11 : decode cX0_withPlate 11 = .ok (.getfield 28, 3) := by decide +kernel
theorem dX0_withPlate_14 : decode cX0_withPlate 14 = .ok (.iload_n 2, 1) := by decide +kernel
theorem dX0_withPlate_15 : decode cX0_withPlate 15 = .ok (.iaload, 1) := by decide +kernel
theorem dX0_withPlate_16 : decode cX0_withPlate 16 = .ok (.iload_n 1, 1) := by decide +kernel
theorem dX0_withPlate_17 : decode cX0_withPlate 17 = .ok (.if_icmp .ne 5, 3) := by decide +kernel
theorem dX0_withPlate_20 : decode cX0_withPlate 20 = .ok (.iload_n 2, 1) := by decide +kernel
theorem dX0_withPlate_21 : decode cX0_withPlate 21 = .ok (.ireturn, 1) := by decide +kernel
theorem dX0_withPlate_22 : decode cX0_withPlate 22 = .ok (.iinc 2 1, 3) := by decide +kernel
theorem dX0_withPlate_25 : decode cX0_withPlate 25 = .ok (.goto (-23), 3) := by decide +kernel
theorem dX0_withPlate_28 : decode cX0_withPlate 28 = .ok (.bipush (-9), 2) := by decide +kernel
theorem dX0_withPlate_30 : decode cX0_withPlate 30 = .ok (.ireturn, 1) := by decide +kernel
theorem dX0_withTicket_0 : decode cX0_withTicket 0 = .ok (.iconst 0, 1) := by decide +kernel
theorem dX0_withTicket_1 : decode cX0_withTicket 1 = .ok (.istore_n 2, 1) := by decide +kernel
theorem dX0_withTicket_2 : decode cX0_withTicket 2 = .ok (.iload_n 2, 1) := by decide +kernel
theorem dX0_withTicket_3 : decode cX0_withTicket 3 = .ok (.aload_n 0, 1) := by decide +kernel
theorem dX0_withTicket_4 : decode cX0_withTicket 4 = .ok (.getfield 9, 3) := by decide +kernel
theorem dX0_withTicket_7 : decode cX0_withTicket 7 = .ok (.if_icmp .ge 21, 3) := by decide +kernel
theorem dX0_withTicket_10 : decode cX0_withTicket 10 = .ok (.aload_n 0, 1) := by decide +kernel
theorem dX0_withTicket_11 : decode cX0_withTicket 11 = .ok (.getfield 31, 3) := by decide +kernel
theorem dX0_withTicket_14 : decode cX0_withTicket 14 = .ok (.iload_n 2, 1) := by decide +kernel
theorem dX0_withTicket_15 : decode cX0_withTicket 15 = .ok (.iaload, 1) := by decide +kernel
theorem dX0_withTicket_16 : decode cX0_withTicket 16 = .ok (.iload_n 1, 1) := by decide +kernel
theorem dX0_withTicket_17 : decode cX0_withTicket 17 = .ok (.if_icmp .ne 5, 3) := by decide +kernel
theorem dX0_withTicket_20 : decode cX0_withTicket 20 = .ok (.iload_n 2, 1) := by decide +kernel
theorem dX0_withTicket_21 : decode cX0_withTicket 21 = .ok (.ireturn, 1) := by decide +kernel
theorem dX0_withTicket_22 : decode cX0_withTicket 22 = .ok (.iinc 2 1, 3) := by decide +kernel
theorem dX0_withTicket_25 : decode cX0_withTicket 25 = .ok (.goto (-23), 3) := by decide +kernel
theorem dX0_withTicket_28 : decode cX0_withTicket 28 = .ok (.bipush (-9), 2) := by decide +kernel
theorem dX0_withTicket_30 : decode cX0_withTicket 30 = .ok (.ireturn, 1) := by decide +kernel
set_option maxRecDepth 20000 in
theorem ggX0_cars_X0_isEmpty : GoodIn wsX0_cars wsX0_isEmpty := goodIn_r _ [6, 7, 8, 9, 10, 5, 11, 1, 12, 13, 14, 15, 16, 17, 18, 19, 20] (by decide +kernel) (by decide +kernel)
set_option maxRecDepth 20000 in
theorem gX0_cars_X0_isEmpty : GoodIn wsX0_cars (wsV RX0 56 RX0 yX0_isEmpty wsX0_isEmpty) := goodIn_app (goodIn_of _ (by decide +kernel)) ggX0_cars_X0_isEmpty
theorem dX0_cars_0 : decode cX0_cars 0 = .ok (.iconst 0, 1) := by decide +kernel
theorem dX0_cars_1 : decode cX0_cars 1 = .ok (.istore_n 1, 1) := by decide +kernel
theorem dX0_cars_2 : decode cX0_cars 2 = .ok (.iconst 0, 1) := by decide +kernel
theorem dX0_cars_3 : decode cX0_cars 3 = .ok (.istore_n 2, 1) := by decide +kernel
theorem dX0_cars_4 : decode cX0_cars 4 = .ok (.iload_n 2, 1) := by decide +kernel
theorem dX0_cars_5 : decode cX0_cars 5 = .ok (.aload_n 0, 1) := by decide +kernel
theorem dX0_cars_6 : decode cX0_cars 6 = .ok (.getfield 9, 3) := by decide +kernel
theorem dX0_cars_9 : decode cX0_cars 9 = .ok (.if_icmp .ge 20, 3) := by decide +kernel
theorem dX0_cars_12 : decode cX0_cars 12 = .ok (.aload_n 0, 1) := by decide +kernel
theorem dX0_cars_13 : decode cX0_cars 13 = .ok (.iload_n 2, 1) := by decide +kernel
theorem dX0_cars_14 : decode cX0_cars 14 = .ok (.invokevirtual 56, 3) := by decide +kernel
theorem dX0_cars_17 : decode cX0_cars 17 = .ok (.ifCond .ne 6, 3) := by decide +kernel
theorem dX0_cars_20 : decode cX0_cars 20 = .ok (.iinc 1 1, 3) := by decide +kernel
theorem dX0_cars_23 : decode cX0_cars 23 = .ok (.iinc 2 1, 3) := by decide +kernel
theorem dX0_cars_26 : decode cX0_cars 26 = .ok (.goto (-22), 3) := by decide +kernel
theorem dX0_cars_29 : decode cX0_cars 29 = .ok (.iload_n 1, 1) := by decide +kernel
theorem dX0_cars_30 : decode cX0_cars 30 = .ok (.ireturn, 1) := by decide +kernel
theorem dX2_init_0 : decode cX2_init 0 = .ok (.aload_n 0, 1) := by decide +kernel
theorem dX2_init_1 : decode cX2_init 1 = .ok (.invokespecial 3, 3) := by decide +kernel
theorem dX2_init_4 : decode cX2_init 4 = .ok (.aload_n 0, 1) := by decide +kernel
theorem dX2_init_5 : decode cX2_init 5 = .ok (.iconst 0, 1) := by decide +kernel
theorem dX2_init_6 : decode cX2_init 6 = .ok (.putfield 9, 3) := by decide +kernel
theorem dX2_init_9 : decode cX2_init 9 = .ok (.aload_n 0, 1) := by decide +kernel
theorem dX2_init_10 : decode cX2_init 10 = .ok (.bipush 16, 2) := by decide +kernel
theorem dX2_init_12 : decode cX2_init 12 = .ok (.newarray .int, 2) := by decide +kernel
theorem dX2_init_14 : decode cX2_init 14 = .ok (.putfield 15, 3) := by decide +kernel
theorem dX2_init_17 : decode cX2_init 17 = .ok (.aload_n 0, 1) := by decide +kernel
theorem dX2_init_18 : decode cX2_init 18 = .ok (.bipush 16, 2) := by decide +kernel
theorem dX2_init_20 : decode cX2_init 20 = .ok (.newarray .int, 2) := by decide +kernel
theorem dX2_init_22 : decode cX2_init 22 = .ok (.putfield 19, 3) := by decide +kernel
theorem dX2_init_25 : decode cX2_init 25 = .ok (.aload_n 0, 1) := by decide +kernel
theorem dX2_init_26 : decode cX2_init 26 = .ok (.bipush 16, 2) := by decide +kernel
theorem dX2_init_28 : decode cX2_init 28 = .ok (.newarray .int, 2) := by decide +kernel
theorem dX2_init_30 : decode cX2_init 30 = .ok (.putfield 22, 3) := by decide +kernel
theorem dX2_init_33 : decode cX2_init 33 = .ok (.aload_n 0, 1) := by decide +kernel
theorem dX2_init_34 : decode cX2_init 34 = .ok (.bipush 16, 2) := by decide +kernel
theorem dX2_init_36 : decode cX2_init 36 = .ok (.newarray .int, 2) := by decide +kernel
theorem dX2_init_38 : decode cX2_init 38 = .ok (.putfield 25, 3) := by decide +kernel
theorem dX2_init_41 : decode cX2_init 41 = .ok (.aload_n 0, 1) := by decide +kernel
theorem dX2_init_42 : decode cX2_init 42 = .ok (.bipush 16, 2) := by decide +kernel
theorem dX2_init_44 : decode cX2_init 44 = .ok (.newarray .int, 2) := by decide +kernel
theorem dX2_init_46 : decode cX2_init 46 = .ok (.putfield 28, 3) := by decide +kernel
theorem dX2_init_49 : decode cX2_init 49 = .ok (.aload_n 0, 1) := by decide +kernel
theorem dX2_init_50 : decode cX2_init 50 = .ok (.bipush 16, 2) := by decide +kernel
theorem dX2_init_52 : decode cX2_init 52 = .ok (.newarray .int, 2) := by decide +kernel
theorem dX2_init_54 : decode cX2_init 54 = .ok (.putfield 31, 3) := by decide +kernel
theorem dX2_init_57 : decode cX2_init 57 = .ok (.return_, 1) := by decide +kernel
set_option maxRecDepth 20000 in
theorem ggX2_copyFrom_X6_copyRow : GoodIn wsX2_copyFrom wsX6_copyRow := goodIn_r _ [10, 11, 12, 13, 14, 15, 16, 17, 18] (by decide +kernel) (by decide +kernel)
set_option maxRecDepth 20000 in
theorem gX2_copyFrom_X6_copyRow_n34 : GoodIn wsX2_copyFrom (wsX6_copyRow) := ggX2_copyFrom_X6_copyRow
theorem dX2_copyFrom_0 : decode cX2_copyFrom 0 = .ok (.aload_n 0, 1) := by decide +kernel
theorem dX2_copyFrom_1 : decode cX2_copyFrom 1 = .ok (.aload_n 1, 1) := by decide +kernel
theorem dX2_copyFrom_2 : decode cX2_copyFrom 2 = .ok (.getfield 9, 3) := by decide +kernel
theorem dX2_copyFrom_5 : decode cX2_copyFrom 5 = .ok (.putfield 9, 3) := by decide +kernel
theorem dX2_copyFrom_8 : decode cX2_copyFrom 8 = .ok (.aload_n 1, 1) := by decide +kernel
theorem dX2_copyFrom_9 : decode cX2_copyFrom 9 = .ok (.getfield 15, 3) := by decide +kernel
theorem dX2_copyFrom_12 : decode cX2_copyFrom 12 = .ok (.aload_n 0, 1) := by decide +kernel
theorem dX2_copyFrom_13 : decode cX2_copyFrom 13 = .ok (.getfield 15, 3) := by decide +kernel
theorem dX2_copyFrom_16 : decode cX2_copyFrom 16 = .ok (.invokestatic 34, 3) := by decide +kernel
theorem dX2_copyFrom_19 : decode cX2_copyFrom 19 = .ok (.aload_n 1, 1) := by decide +kernel
theorem dX2_copyFrom_20 : decode cX2_copyFrom 20 = .ok (.getfield 19, 3) := by decide +kernel
theorem dX2_copyFrom_23 : decode cX2_copyFrom 23 = .ok (.aload_n 0, 1) := by decide +kernel
theorem dX2_copyFrom_24 : decode cX2_copyFrom 24 = .ok (.getfield 19, 3) := by decide +kernel
theorem dX2_copyFrom_27 : decode cX2_copyFrom 27 = .ok (.invokestatic 34, 3) := by decide +kernel
theorem dX2_copyFrom_30 : decode cX2_copyFrom 30 = .ok (.aload_n 1, 1) := by decide +kernel
theorem dX2_copyFrom_31 : decode cX2_copyFrom 31 = .ok (.getfield 22, 3) := by decide +kernel
theorem dX2_copyFrom_34 : decode cX2_copyFrom 34 = .ok (.aload_n 0, 1) := by decide +kernel
theorem dX2_copyFrom_35 : decode cX2_copyFrom 35 = .ok (.getfield 22, 3) := by decide +kernel
theorem dX2_copyFrom_38 : decode cX2_copyFrom 38 = .ok (.invokestatic 34, 3) := by decide +kernel
theorem dX2_copyFrom_41 : decode cX2_copyFrom 41 = .ok (.aload_n 1, 1) := by decide +kernel
theorem dX2_copyFrom_42 : decode cX2_copyFrom 42 = .ok (.getfield 25, 3) := by decide +kernel
theorem dX2_copyFrom_45 : decode cX2_copyFrom 45 = .ok (.aload_n 0, 1) := by decide +kernel
theorem dX2_copyFrom_46 : decode cX2_copyFrom 46 = .ok (.getfield 25, 3) := by decide +kernel
theorem dX2_copyFrom_49 : decode cX2_copyFrom 49 = .ok (.invokestatic 34, 3) := by decide +kernel
theorem dX2_copyFrom_52 : decode cX2_copyFrom 52 = .ok (.aload_n 1, 1) := by decide +kernel
theorem dX2_copyFrom_53 : decode cX2_copyFrom 53 = .ok (.getfield 28, 3) := by decide +kernel
theorem dX2_copyFrom_56 : decode cX2_copyFrom 56 = .ok (.aload_n 0, 1) := by decide +kernel
theorem dX2_copyFrom_57 : decode cX2_copyFrom 57 = .ok (.getfield 28, 3) := by decide +kernel
theorem dX2_copyFrom_60 : decode cX2_copyFrom 60 = .ok (.invokestatic 34, 3) := by decide +kernel
theorem dX2_copyFrom_63 : decode cX2_copyFrom 63 = .ok (.aload_n 1, 1) := by decide +kernel
theorem dX2_copyFrom_64 : decode cX2_copyFrom 64 = .ok (.getfield 31, 3) := by decide +kernel
theorem dX2_copyFrom_67 : decode cX2_copyFrom 67 = .ok (.aload_n 0, 1) := by decide +kernel
theorem dX2_copyFrom_68 : decode cX2_copyFrom 68 = .ok (.getfield 31, 3) := by decide +kernel
theorem dX2_copyFrom_71 : decode cX2_copyFrom 71 = .ok (.invokestatic 34, 3) := by decide +kernel
theorem dX2_copyFrom_74 : decode cX2_copyFrom 74 = .ok (.return_, 1) := by decide +kernel
theorem dX2_has_0 : decode cX2_has 0 = .ok (.iload_n 1, 1) := by decide +kernel
theorem dX2_has_1 : decode cX2_has 1 = .ok (.ifCond .lt 15, 3) := by decide +kernel
theorem dX2_has_4 : decode cX2_has 4 = .ok (.iload_n 1, 1) := by decide +kernel
theorem dX2_has_5 : decode cX2_has 5 = .ok (.aload_n 0, 1) := by decide +kernel
theorem dX2_has_6 : decode cX2_has 6 = .ok (.getfield 9, 3) := by decide +kernel
theorem dX2_has_9 : decode cX2_has 9 = .ok (.if_icmp .ge 7, 3) := by decide +kernel
theorem dX2_has_12 : decode cX2_has 12 = .ok (.iconst 1, 1) := by decide +kernel
theorem dX2_has_13 : decode cX2_has 13 = .ok (.goto 4, 3) := by decide +kernel
theorem dX2_has_16 : decode cX2_has 16 = .ok (.iconst 0, 1) := by decide +kernel
theorem dX2_has_17 : decode cX2_has 17 = .ok (.ireturn, 1) := by decide +kernel
theorem dX2_isFull_0 : decode cX2_isFull 0 = .ok (.aload_n 0, 1) := by decide +kernel
theorem dX2_isFull_1 : decode cX2_isFull 1 = .ok (.getfield 9, 3) := by decide +kernel
theorem dX2_isFull_4 : decode cX2_isFull 4 = .ok (.bipush 16, 2) := by decide +kernel
theorem dX2_isFull_6 : decode cX2_isFull 6 = .ok (.if_icmp .lt 7, 3) := by decide +kernel
theorem dX2_isFull_9 : decode cX2_isFull 9 = .ok (.iconst 1, 1) := by decide +kernel
theorem dX2_isFull_10 : decode cX2_isFull 10 = .ok (.goto 4, 3) := by decide +kernel
theorem dX2_isFull_13 : decode cX2_isFull 13 = .ok (.iconst 0, 1) := by decide +kernel
theorem dX2_isFull_14 : decode cX2_isFull 14 = .ok (.ireturn, 1) := by decide +kernel
set_option maxRecDepth 20000 in
theorem ggX2_add_X2_isFull : GoodIn wsX2_add wsX2_isFull := goodIn_r _ [12, 1, 13, 14, 15, 16, 17, 18, 19] (by decide +kernel) (by decide +kernel)
set_option maxRecDepth 20000 in
theorem gX2_add_X2_isFull : GoodIn wsX2_add (wsV RX2 38 RX2 yX2_isFull wsX2_isFull) := goodIn_app (goodIn_of _ (by decide +kernel)) ggX2_add_X2_isFull
theorem dX2_add_0 : decode cX2_add 0 = .ok (.aload_n 0, 1) := by decide +kernel
theorem dX2_add_1 : decode cX2_add 1 = .ok (.invokevirtual 38, 3) := by decide +kernel
theorem dX2_add_4 : decode cX2_add 4 = .ok (.ifCond .eq 6, 3) := by decide +kernel
theorem dX2_add_7 : decode cX2_add 7 = .ok (.bipush (-9), 2) := by decide +kernel
theorem dX2_add_9 : decode cX2_add 9 = .ok (.ireturn, 1) := by decide +kernel
theorem dX2_add_10 : decode cX2_add 10 = .ok (.aload_n 0, 1) := by decide +kernel
theorem dX2_add_11 : decode cX2_add 11 = .ok (.getfield 9, 3) := by decide +kernel
theorem dX2_add_14 : decode cX2_add 14 = .ok (.istore 6, 2) := by decide +kernel
theorem dX2_add_16 : decode cX2_add 16 = .ok (.aload_n 0, 1) := by decide +kernel
theorem dX2_add_17 : decode cX2_add 17 = .ok (.dup, 1) := by decide +kernel
theorem dX2_add_18 : decode cX2_add 18 = .ok (.getfield 9, 3) := by decide +kernel
theorem dX2_add_21 : decode cX2_add 21 = .ok (.iconst 1, 1) := by decide +kernel
theorem dX2_add_22 : decode cX2_add 22 = .ok (.iadd, 1) := by decide +kernel
theorem dX2_add_23 : decode cX2_add 23 = .ok (.putfield 9, 3) := by decide +kernel
theorem dX2_add_26 : decode cX2_add 26 = .ok (.aload_n 0, 1) := by decide +kernel
theorem dX2_add_27 : decode cX2_add 27 = .ok (.getfield 15, 3) := by decide +kernel
theorem dX2_add_30 : decode cX2_add 30 = .ok (.iload 6, 2) := by decide +kernel
theorem dX2_add_32 : decode cX2_add 32 = .ok (.iload_n 1, 1) := by decide +kernel
theorem dX2_add_33 : decode cX2_add 33 = .ok (.iastore, 1) := by decide +kernel
theorem dX2_add_34 : decode cX2_add 34 = .ok (.aload_n 0, 1) := by decide +kernel
theorem dX2_add_35 : decode cX2_add 35 = .ok (.getfield 19, 3) := by decide +kernel
theorem dX2_add_38 : decode cX2_add 38 = .ok (.iload 6, 2) := by decide +kernel
theorem dX2_add_40 : decode cX2_add 40 = .ok (.iload_n 2, 1) := by decide +kernel
theorem dX2_add_41 : decode cX2_add 41 = .ok (.iastore, 1) := by decide +kernel
theorem dX2_add_42 : decode cX2_add 42 = .ok (.aload_n 0, 1) := by decide +kernel
theorem dX2_add_43 : decode cX2_add 43 = .ok (.getfield 22, 3) := by decide +kernel
theorem dX2_add_46 : decode cX2_add 46 = .ok (.iload 6, 2) := by decide +kernel
theorem dX2_add_48 : decode cX2_add 48 = .ok (.iload_n 3, 1) := by decide +kernel
theorem dX2_add_49 : decode cX2_add 49 = .ok (.iastore, 1) := by decide +kernel
theorem dX2_add_50 : decode cX2_add 50 = .ok (.aload_n 0, 1) := by decide +kernel
theorem dX2_add_51 : decode cX2_add 51 = .ok (.getfield 25, 3) := by decide +kernel
theorem dX2_add_54 : decode cX2_add 54 = .ok (.iload 6, 2) := by decide +kernel
theorem dX2_add_56 : decode cX2_add 56 = .ok (.iload 4, 2) := by decide +kernel
theorem dX2_add_58 : decode cX2_add 58 = .ok (.iastore, 1) := by decide +kernel
theorem dX2_add_59 : decode cX2_add 59 = .ok (.aload_n 0, 1) := by decide +kernel
theorem dX2_add_60 : decode cX2_add 60 = .ok (.getfield 28, 3) := by decide +kernel
theorem dX2_add_63 : decode cX2_add 63 = .ok (.iload 6, 2) := by decide +kernel
theorem dX2_add_65 : decode cX2_add 65 = .ok (.iload 5, 2) := by decide +kernel
theorem dX2_add_67 : decode cX2_add 67 = .ok (.iastore, 1) := by decide +kernel
theorem dX2_add_68 : decode cX2_add 68 = .ok (.aload_n 0, 1) := by decide +kernel
theorem dX2_add_69 : decode cX2_add 69 = .ok (.getfield 31, 3) := by decide +kernel
theorem dX2_add_72 : decode cX2_add 72 = .ok (.iload 6, 2) := by decide +kernel
theorem dX2_add_74 : decode cX2_add 74 = .ok (.iconst 0, 1) := by decide +kernel
theorem dX2_add_75 : decode cX2_add 75 = .ok (.iastore, 1) := by decide +kernel
theorem dX2_add_76 : decode cX2_add 76 = .ok (.iload 6, 2) := by decide +kernel
theorem dX2_add_78 : decode cX2_add 78 = .ok (.ireturn, 1) := by decide +kernel
set_option maxRecDepth 20000 in
theorem ggX2_isAlive_X2_has : GoodIn wsX2_isAlive wsX2_has := goodIn_r _ [6, 7, 8, 9, 10, 11, 12, 13, 14] (by decide +kernel) (by decide +kernel)
set_option maxRecDepth 20000 in
theorem gX2_isAlive_X2_has : GoodIn wsX2_isAlive (wsV RX2 42 RX2 yX2_has wsX2_has) := goodIn_app (goodIn_of _ (by decide +kernel)) ggX2_isAlive_X2_has
theorem dX2_isAlive_0 : decode cX2_isAlive 0 = .ok (.aload_n 0, 1) := by decide +kernel
theorem dX2_isAlive_1 : decode cX2_isAlive 1 = .ok (.iload_n 1, 1) := by decide +kernel
theorem dX2_isAlive_2 : decode cX2_isAlive 2 = .ok (.invokevirtual 42, 3) := by decide +kernel
theorem dX2_isAlive_5 : decode cX2_isAlive 5 = .ok (.ifCond .eq 26, 3) := by decide +kernel
theorem dX2_isAlive_8 : decode cX2_isAlive 8 = .ok (.aload_n 0, 1) := by decide +kernel
theorem dX2_isAlive_9 : decode cX2_isAlive 9 = .ok (.getfield 31, 3) := by decide +kernel
theorem dX2_isAlive_12 : decode cX2_isAlive 12 = .ok (.iload_n 1, 1) := by decide +kernel
theorem dX2_isAlive_13 : decode cX2_isAlive 13 = .ok (.iaload, 1) := by decide +kernel
theorem dX2_isAlive_14 : decode cX2_isAlive 14 = .ok (.ifCond .eq 13, 3) := by decide +kernel
theorem dX2_isAlive_17 : decode cX2_isAlive 17 = .ok (.aload_n 0, 1) := by decide +kernel
theorem dX2_isAlive_18 : decode cX2_isAlive 18 = .ok (.getfield 31, 3) := by decide +kernel
theorem dX2_isAlive_21 : decode cX2_isAlive 21 = .ok (.iload_n 1, 1) := by decide +kernel
theorem dX2_isAlive_22 : decode cX2_isAlive 22 = .ok (.iaload, 1) := by decide +kernel
theorem dX2_isAlive_23 : decode cX2_isAlive 23 = .ok (.iconst 1, 1) := by decide +kernel
theorem dX2_isAlive_24 : decode cX2_isAlive 24 = .ok (.if_icmp .ne 7, 3) := by decide +kernel
theorem dX2_isAlive_27 : decode cX2_isAlive 27 = .ok (.iconst 1, 1) := by decide +kernel
theorem dX2_isAlive_28 : decode cX2_isAlive 28 = .ok (.goto 4, 3) := by decide +kernel
theorem dX2_isAlive_31 : decode cX2_isAlive 31 = .ok (.iconst 0, 1) := by decide +kernel
theorem dX2_isAlive_32 : decode cX2_isAlive 32 = .ok (.ireturn, 1) := by decide +kernel
set_option maxRecDepth 20000 in
theorem ggX2_holdsBetween_X2_isAlive : GoodIn wsX2_holdsBetween wsX2_isAlive := goodIn_r _ [7, 8, 9, 10, 11, 6, 12, 13, 14, 15, 16, 17, 18, 19, 20] (by decide +kernel) (by decide +kernel)
set_option maxRecDepth 20000 in
theorem gX2_holdsBetween_X2_isAlive : GoodIn wsX2_holdsBetween (wsV RX2 46 RX2 yX2_isAlive wsX2_isAlive) := goodIn_app (goodIn_of _ (by decide +kernel)) ggX2_holdsBetween_X2_isAlive
theorem dX2_holdsBetween_0 : decode cX2_holdsBetween 0 = .ok (.aload_n 0, 1) := by decide +kernel
theorem dX2_holdsBetween_1 : decode cX2_holdsBetween 1 = .ok (.iload_n 1, 1) := by decide +kernel
theorem dX2_holdsBetween_2 : decode cX2_holdsBetween 2 = .ok (.invokevirtual 46, 3) := by decide +kernel
theorem dX2_holdsBetween_5 : decode cX2_holdsBetween 5 = .ok (.ifCond .eq 30, 3) := by decide +kernel
theorem dX2_holdsBetween_8 : decode cX2_holdsBetween 8 = .ok (.aload_n 0, 1) := by decide +kernel
theorem dX2_holdsBetween_9 : decode cX2_holdsBetween 9 = .ok (.getfield 22, 3) := by decide +kernel
theorem dX2_holdsBetween_12 : decode cX2_holdsBetween 12 = .ok (.iload_n 1, 1) := by decide +kernel
theorem dX2_holdsBetween_13 : decode cX2_holdsBetween 13 = .ok (.iaload, 1) := by decide +kernel
theorem dX2_holdsBetween_14 : decode cX2_holdsBetween 14 = .ok (.iload 4, 2) := by decide +kernel
theorem dX2_holdsBetween_16 : decode cX2_holdsBetween 16 = .ok (.isub, 1) := by decide +kernel
theorem dX2_holdsBetween_17 : decode cX2_holdsBetween 17 = .ok (.iload_n 3, 1) := by decide +kernel
theorem dX2_holdsBetween_18 : decode cX2_holdsBetween 18 = .ok (.if_icmp .ge 17, 3) := by decide +kernel
theorem dX2_holdsBetween_21 : decode cX2_holdsBetween 21 = .ok (.iload_n 2, 1) := by decide +kernel
theorem dX2_holdsBetween_22 : decode cX2_holdsBetween 22 = .ok (.aload_n 0, 1) := by decide +kernel
theorem dX2_holdsBetween_23 : decode cX2_holdsBetween 23 = .ok (.getfield 25, 3) := by decide +kernel
theorem dX2_holdsBetween_26 : decode cX2_holdsBetween 26 = .ok (.iload_n 1, 1) := by decide +kernel
theorem dX2_holdsBetween_27 : decode cX2_holdsBetween 27 = .ok (.iaload, 1) := by decide +kernel
theorem dX2_holdsBetween_28 : decode cX2_holdsBetween 28 = .ok (.if_icmp .ge 7, 3) := by decide +kernel
theorem dX2_holdsBetween_31 : decode cX2_holdsBetween 31 = .ok (.iconst 1, 1) := by decide +kernel
theorem dX2_holdsBetween_32 : decode cX2_holdsBetween 32 = .ok (.goto 4, 3) := by decide +kernel
theorem dX2_holdsBetween_35 : decode cX2_holdsBetween 35 = .ok (.iconst 0, 1) := by decide +kernel
theorem dX2_holdsBetween_36 : decode cX2_holdsBetween 36 = .ok (.ireturn, 1) := by decide +kernel
set_option maxRecDepth 20000 in
theorem ggX2_holderBetween_X2_holdsBetween : GoodIn wsX2_holderBetween wsX2_holdsBetween := goodIn_r _ [7, 8, 9, 10, 11, 12, 6, 13, 14, 15, 16, 17, 18, 1, 19, 20, 21, 22, 23, 24, 25] (by decide +kernel) (by decide +kernel)
set_option maxRecDepth 20000 in
theorem gX2_holderBetween_X2_holdsBetween : GoodIn wsX2_holderBetween (wsV RX2 49 RX2 yX2_holdsBetween wsX2_holdsBetween) := goodIn_app (goodIn_of _ (by decide +kernel)) ggX2_holderBetween_X2_holdsBetween
theorem dX2_holderBetween_0 : decode cX2_holderBetween 0 = .ok (.iconst 0, 1) := by decide +kernel
theorem dX2_holderBetween_1 : decode cX2_holderBetween 1 = .ok (.istore 5, 2) := by decide +kernel
theorem dX2_holderBetween_3 : decode cX2_holderBetween 3 = .ok (.iload 5, 2) := by decide +kernel
theorem dX2_holderBetween_5 : decode cX2_holderBetween 5 = .ok (.aload_n 0, 1) := by decide +kernel
theorem dX2_holderBetween_6 : decode cX2_holderBetween 6 = .ok (.getfield 9, 3) := by decide +kernel
theorem dX2_holderBetween_9 : decode cX2_holderBetween 9 = .ok (.if_icmp .ge 36, 3) := by decide +kernel
theorem dX2_holderBetween_12 : decode cX2_holderBetween 12 = .ok (.aload_n 0, 1) := by decide +kernel
theorem dX2_holderBetween_13 : decode cX2_holderBetween 13 = .ok (.getfield 19, 3) := by decide +kernel
theorem dX2_holderBetween_16 : decode cX2_holderBetween 16 = .ok (.iload 5, 2) := by decide +kernel
theorem dX2_holderBetween_18 : decode cX2_holderBetween 18 = .ok (.iaload, 1) := by decide +kernel
theorem dX2_holderBetween_19 : decode cX2_holderBetween 19 = .ok (.iload_n 1, 1) := by decide +kernel
theorem dX2_holderBetween_20 : decode cX2_holderBetween 20 = .ok (.if_icmp .ne 19, 3) := by decide +kernel
theorem dX2_holderBetween_23 : decode cX2_holderBetween 23 = .ok (.aload_n 0, 1) := by decide +kernel
theorem dX2_holderBetween_24 : decode cX2_holderBetween 24 = .ok (.iload 5, 2) := by decide +kernel
theorem dX2_holderBetween_26 : decode cX2_holderBetween 26 = .ok (.iload_n 2, 1) := by decide +kernel
theorem dX2_holderBetween_27 : decode cX2_holderBetween 27 = .ok (.iload_n 3, 1) := by decide +kernel
theorem dX2_holderBetween_28 : decode cX2_holderBetween 28 = .ok (.iload 4, 2) := by decide +kernel
theorem dX2_holderBetween_30 : decode cX2_holderBetween 30 = .ok (.invokevirtual 49, 3) := by decide +kernel
theorem dX2_holderBetween_33 : decode cX2_holderBetween 33 = .ok (.ifCond .eq 6, 3) := by decide +kernel
theorem dX2_holderBetween_36 : decode cX2_holderBetween 36 = .ok (.iload 5, 2) := by decide +kernel
theorem dX2_holderBetween_38 : decode cX2_holderBetween 38 = .ok (.ireturn, 1) := by decide +kernel
theorem dX2_holderBetween_39 : decode cX2_holderBetween 39 = .ok (.iinc 5 1, 3) := by decide +kernel
theorem dX2_holderBetween_42 : decode cX2_holderBetween 42 = .ok (.goto (-39), 3) := by decide +kernel
theorem dX2_holderBetween_45 : decode cX2_holderBetween 45 = .ok (.bipush (-9), 2) := by decide +kernel
theorem dX2_holderBetween_47 : decode cX2_holderBetween 47 = .ok (.ireturn, 1) := by decide +kernel
set_option maxRecDepth 20000 in
theorem ggX2_firstOpenOf_X2_holdsBetween : GoodIn wsX2_firstOpenOf wsX2_holdsBetween := goodIn_r _ [8, 9, 10, 11, 12, 13, 7, 14, 3, 15, 16, 17, 18, 1, 19, 20, 21, 22, 23, 24, 25] (by decide +kernel) (by decide +kernel)
set_option maxRecDepth 20000 in
theorem gX2_firstOpenOf_X2_holdsBetween : GoodIn wsX2_firstOpenOf (wsV RX2 49 RX2 yX2_holdsBetween wsX2_holdsBetween) := goodIn_app (goodIn_of _ (by decide +kernel)) ggX2_firstOpenOf_X2_holdsBetween
theorem dX2_firstOpenOf_0 : decode cX2_firstOpenOf 0 = .ok (.iconst 0, 1) := by decide +kernel
theorem dX2_firstOpenOf_1 : decode cX2_firstOpenOf 1 = .ok (.istore 4, 2) := by decide +kernel
theorem dX2_firstOpenOf_3 : decode cX2_firstOpenOf 3 = .ok (.iload 4, 2) := by decide +kernel
theorem dX2_firstOpenOf_5 : decode cX2_firstOpenOf 5 = .ok (.aload_n 0, 1) := by decide +kernel
theorem dX2_firstOpenOf_6 : decode cX2_firstOpenOf 6 = .ok (.getfield 9, 3) := by decide +kernel
theorem dX2_firstOpenOf_9 : decode cX2_firstOpenOf 9 = .ok (.if_icmp .ge 47, 3) := by decide +kernel
theorem dX2_firstOpenOf_12 : decode cX2_firstOpenOf 12 = .ok (.aload_n 0, 1) := by decide +kernel
theorem dX2_firstOpenOf_13 : decode cX2_firstOpenOf 13 = .ok (.getfield 15, 3) := by decide +kernel
theorem dX2_firstOpenOf_16 : decode cX2_firstOpenOf 16 = .ok (.iload 4, 2) := by decide +kernel
theorem dX2_firstOpenOf_18 : decode cX2_firstOpenOf 18 = .ok (.iaload, 1) := by decide +kernel
theorem dX2_firstOpenOf_19 : decode cX2_firstOpenOf 19 = .ok (.iload_n 1, 1) := by decide +kernel
theorem dX2_firstOpenOf_20 : decode cX2_firstOpenOf 20 = .ok (.if_icmp .ne 30, 3) := by decide +kernel
theorem dX2_firstOpenOf_23 : decode cX2_firstOpenOf 23 = .ok (.aload_n 0, 1) := by decide +kernel
theorem dX2_firstOpenOf_24 : decode cX2_firstOpenOf 24 = .ok (.getfield 31, 3) := by decide +kernel
theorem dX2_firstOpenOf_27 : decode cX2_firstOpenOf 27 = .ok (.iload 4, 2) := by decide +kernel
theorem dX2_firstOpenOf_29 : decode cX2_firstOpenOf 29 = .ok (.iaload, 1) := by decide +kernel
theorem dX2_firstOpenOf_30 : decode cX2_firstOpenOf 30 = .ok (.ifCond .ne 20, 3) := by decide +kernel
theorem dX2_firstOpenOf_33 : decode cX2_firstOpenOf 33 = .ok (.aload_n 0, 1) := by decide +kernel
theorem dX2_firstOpenOf_34 : decode cX2_firstOpenOf 34 = .ok (.iload 4, 2) := by decide +kernel
theorem dX2_firstOpenOf_36 : decode cX2_firstOpenOf 36 = .ok (.iload_n 2, 1) := by decide +kernel
theorem dX2_firstOpenOf_37 : decode cX2_firstOpenOf 37 = .ok (.iload_n 2, 1) := by decide +kernel
theorem dX2_firstOpenOf_38 : decode cX2_firstOpenOf 38 = .ok (.iconst 1, 1) := by decide +kernel
theorem dX2_firstOpenOf_39 : decode cX2_firstOpenOf 39 = .ok (.iadd, 1) := by decide +kernel
theorem dX2_firstOpenOf_40 : decode cX2_firstOpenOf 40 = .ok (.iload_n 3, 1) := by decide +kernel
theorem dX2_firstOpenOf_41 : decode cX2_firstOpenOf 41 = .ok (.invokevirtual 49, 3) := by decide +kernel
theorem dX2_firstOpenOf_44 : decode cX2_firstOpenOf 44 = .ok (.ifCond .eq 6, 3) := by decide +kernel
theorem dX2_firstOpenOf_47 : decode cX2_firstOpenOf 47 = .ok (.iload 4, 2) := by decide +kernel
theorem dX2_firstOpenOf_49 : decode cX2_firstOpenOf 49 = .ok (.ireturn, 1) := by decide +kernel
theorem dX2_firstOpenOf_50 : decode cX2_firstOpenOf 50 = .ok (.iinc 4 1, 3) := by decide +kernel
theorem dX2_firstOpenOf_53 : decode cX2_firstOpenOf 53 = .ok (.goto (-50), 3) := by decide +kernel
theorem dX2_firstOpenOf_56 : decode cX2_firstOpenOf 56 = .ok (.bipush (-9), 2) := by decide +kernel
theorem dX2_firstOpenOf_58 : decode cX2_firstOpenOf 58 = .ok (.ireturn, 1) := by decide +kernel
set_option maxRecDepth 20000 in
theorem ggX2_minutesUntilHeld_X2_isAlive : GoodIn wsX2_minutesUntilHeld wsX2_isAlive := goodIn_r _ [8, 9, 10, 11, 12, 7, 13, 1, 14, 15, 16, 17, 18, 19, 20] (by decide +kernel) (by decide +kernel)
set_option maxRecDepth 20000 in
theorem gX2_minutesUntilHeld_X2_isAlive : GoodIn wsX2_minutesUntilHeld (wsV RX2 46 RX2 yX2_isAlive wsX2_isAlive) := goodIn_app (goodIn_of _ (by decide +kernel)) ggX2_minutesUntilHeld_X2_isAlive
theorem dX2_minutesUntilHeld_0 : decode cX2_minutesUntilHeld 0 = .ok (.bipush (-9), 2) := by decide +kernel
theorem dX2_minutesUntilHeld_2 : decode cX2_minutesUntilHeld 2 = .ok (.istore 4, 2) := by decide +kernel
theorem dX2_minutesUntilHeld_4 : decode cX2_minutesUntilHeld 4 = .ok (.iconst 0, 1) := by decide +kernel
theorem dX2_minutesUntilHeld_5 : decode cX2_minutesUntilHeld 5 = .ok (.istore 5, 2) := by decide +kernel
theorem dX2_minutesUntilHeld_7 : decode cX2_minutesUntilHeld 7 = .ok (.iload 5, 2) := by decide +kernel
theorem dX2_minutesUntilHeld_9 : decode cX2_minutesUntilHeld 9 = .ok (.aload_n 0, 1) := by decide +kernel
theorem dX2_minutesUntilHeld_10 : decode cX2_minutesUntilHeld 10 = .ok (.getfield 9, 3) := by decide +kernel
theorem dX2_minutesUntilHeld_13 : decode cX2_minutesUntilHeld 13 = .ok (.if_icmp .ge 65, 3) := by decide +kernel
theorem dX2_minutesUntilHeld_16 : decode cX2_minutesUntilHeld 16 = .ok (.aload_n 0, 1) := by decide +kernel
theorem dX2_minutesUntilHeld_17 : decode cX2_minutesUntilHeld 17 = .ok (.getfield 22, 3) := by decide +kernel
theorem dX2_minutesUntilHeld_20 : decode cX2_minutesUntilHeld 20 = .ok (.iload 5, 2) := by decide +kernel
theorem dX2_minutesUntilHeld_22 : decode cX2_minutesUntilHeld 22 = .ok (.iaload, 1) := by decide +kernel
theorem dX2_minutesUntilHeld_23 : decode cX2_minutesUntilHeld 23 = .ok (.iload_n 3, 1) := by decide +kernel
theorem dX2_minutesUntilHeld_24 : decode cX2_minutesUntilHeld 24 = .ok (.isub, 1) := by decide +kernel
theorem dX2_minutesUntilHeld_25 : decode cX2_minutesUntilHeld 25 = .ok (.iload_n 2, 1) := by decide +kernel
theorem dX2_minutesUntilHeld_26 : decode cX2_minutesUntilHeld 26 = .ok (.isub, 1) := by decide +kernel
theorem dX2_minutesUntilHeld_27 : decode cX2_minutesUntilHeld 27 = .ok (.istore 6, 2) := by decide +kernel
theorem dX2_minutesUntilHeld_29 : decode cX2_minutesUntilHeld 29 = .ok (.aload_n 0, 1) := by decide +kernel
theorem dX2_minutesUntilHeld_30 : decode cX2_minutesUntilHeld 30 = .ok (.getfield 19, 3) := by decide +kernel
theorem dX2_minutesUntilHeld_33 : decode cX2_minutesUntilHeld 33 = .ok (.iload 5, 2) := by decide +kernel
theorem dX2_minutesUntilHeld_35 : decode cX2_minutesUntilHeld 35 = .ok (.iaload, 1) := by decide +kernel
theorem dX2_minutesUntilHeld_36 : decode cX2_minutesUntilHeld 36 = .ok (.iload_n 1, 1) := by decide +kernel
theorem dX2_minutesUntilHeld_37 : decode cX2_minutesUntilHeld 37 = .ok (.if_icmp .ne 35, 3) := by decide +kernel
theorem dX2_minutesUntilHeld_40 : decode cX2_minutesUntilHeld 40 = .ok (.aload_n 0, 1) := by decide +kernel
theorem dX2_minutesUntilHeld_41 : decode cX2_minutesUntilHeld 41 = .ok (.iload 5, 2) := by decide +kernel
theorem dX2_minutesUntilHeld_43 : decode cX2_minutesUntilHeld 43 = .ok (.invokevirtual 46, 3) := by decide +kernel
theorem dX2_minutesUntilHeld_46 : decode cX2_minutesUntilHeld 46 = .ok (.ifCond .eq 26, 3) := by decide +kernel
theorem dX2_minutesUntilHeld_49 : decode cX2_minutesUntilHeld 49 = .ok (.iload 6, 2) := by decide +kernel
theorem dX2_minutesUntilHeld_51 : decode cX2_minutesUntilHeld 51 = .ok (.ifCond .le 21, 3) := by decide +kernel
theorem dX2_minutesUntilHeld_54 : decode cX2_minutesUntilHeld 54 = .ok (.iload 4, 2) := by decide +kernel
theorem dX2_minutesUntilHeld_56 : decode cX2_minutesUntilHeld 56 = .ok (.bipush (-9), 2) := by decide +kernel
theorem dX2_minutesUntilHeld_58 : decode cX2_minutesUntilHeld 58 = .ok (.if_icmp .eq 10, 3) := by decide +kernel
theorem dX2_minutesUntilHeld_61 : decode cX2_minutesUntilHeld 61 = .ok (.iload 6, 2) := by decide +kernel
theorem dX2_minutesUntilHeld_63 : decode cX2_minutesUntilHeld 63 = .ok (.iload 4, 2) := by decide +kernel
theorem dX2_minutesUntilHeld_65 : decode cX2_minutesUntilHeld 65 = .ok (.if_icmp .ge 7, 3) := by decide +kernel
theorem dX2_minutesUntilHeld_68 : decode cX2_minutesUntilHeld 68 = .ok (.iload 6, 2) := by decide +kernel
theorem dX2_minutesUntilHeld_70 : decode cX2_minutesUntilHeld 70 = .ok (.istore 4, 2) := by decide +kernel
theorem dX2_minutesUntilHeld_72 : decode cX2_minutesUntilHeld 72 = .ok (.iinc 5 1, 3) := by decide +kernel
theorem dX2_minutesUntilHeld_75 : decode cX2_minutesUntilHeld 75 = .ok (.goto (-68), 3) := by decide +kernel
theorem dX2_minutesUntilHeld_78 : decode cX2_minutesUntilHeld 78 = .ok (.iload 4, 2) := by decide +kernel
theorem dX2_minutesUntilHeld_80 : decode cX2_minutesUntilHeld 80 = .ok (.ireturn, 1) := by decide +kernel
theorem dX2_expire_0 : decode cX2_expire 0 = .ok (.iconst 0, 1) := by decide +kernel
theorem dX2_expire_1 : decode cX2_expire 1 = .ok (.istore_n 2, 1) := by decide +kernel
theorem dX2_expire_2 : decode cX2_expire 2 = .ok (.iconst 0, 1) := by decide +kernel
theorem dX2_expire_3 : decode cX2_expire 3 = .ok (.istore_n 3, 1) := by decide +kernel
theorem dX2_expire_4 : decode cX2_expire 4 = .ok (.iload_n 3, 1) := by decide +kernel
theorem dX2_expire_5 : decode cX2_expire 5 = .ok (.aload_n 0, 1) := by decide +kernel
theorem dX2_expire_6 : decode cX2_expire 6 = .ok (.getfield 9, 3) := by decide +kernel
theorem dX2_expire_9 : decode cX2_expire 9 = .ok (.if_icmp .ge 38, 3) := by decide +kernel
theorem dX2_expire_12 : decode cX2_expire 12 = .ok (.aload_n 0, 1) := by decide +kernel
theorem dX2_expire_13 : decode cX2_expire 13 = .ok (.getfield 31, 3) := by decide +kernel
theorem dX2_expire_16 : decode cX2_expire 16 = .ok (.iload_n 3, 1) := by decide +kernel
theorem dX2_expire_17 : decode cX2_expire 17 = .ok (.iaload, 1) := by decide +kernel
theorem dX2_expire_18 : decode cX2_expire 18 = .ok (.ifCond .ne 23, 3) := by decide +kernel
theorem dX2_expire_21 : decode cX2_expire 21 = .ok (.aload_n 0, 1) := by decide +kernel
theorem dX2_expire_22 : decode cX2_expire 22 = .ok (.getfield 25, 3) := by decide +kernel
theorem dX2_expire_25 : decode cX2_expire 25 = .ok (.iload_n 3, 1) := by decide +kernel
theorem dX2_expire_26 : decode cX2_expire 26 = .ok (.iaload, 1) := by decide +kernel
theorem dX2_expire_27 : decode cX2_expire 27 = .ok (.iload_n 1, 1) := by decide +kernel
theorem dX2_expire_28 : decode cX2_expire 28 = .ok (.if_icmp .gt 13, 3) := by decide +kernel
theorem dX2_expire_31 : decode cX2_expire 31 = .ok (.aload_n 0, 1) := by decide +kernel
theorem dX2_expire_32 : decode cX2_expire 32 = .ok (.getfield 31, 3) := by decide +kernel
theorem dX2_expire_35 : decode cX2_expire 35 = .ok (.iload_n 3, 1) := by decide +kernel
theorem dX2_expire_36 : decode cX2_expire 36 = .ok (.iconst 4, 1) := by decide +kernel
theorem dX2_expire_37 : decode cX2_expire 37 = .ok (.iastore, 1) := by decide +kernel
theorem dX2_expire_38 : decode cX2_expire 38 = .ok (.iinc 2 1, 3) := by decide +kernel
theorem dX2_expire_41 : decode cX2_expire 41 = .ok (.iinc 3 1, 3) := by decide +kernel
theorem dX2_expire_44 : decode cX2_expire 44 = .ok (.goto (-40), 3) := by decide +kernel
theorem dX2_expire_47 : decode cX2_expire 47 = .ok (.iload_n 2, 1) := by decide +kernel
theorem dX2_expire_48 : decode cX2_expire 48 = .ok (.ireturn, 1) := by decide +kernel
