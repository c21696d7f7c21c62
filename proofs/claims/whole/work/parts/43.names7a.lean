set_option maxRecDepth 20000 in
theorem ggX7_init_X7_puts : GoodIn wsX7_init wsX7_puts := goodIn_r _ [14, 5, 15, 16, 17, 13, 18, 19, 20, 21, 22, 23, 24, 25, 26, 27, 28, 29, 30, 31, 32, 33] (by decide +kernel) (by decide +kernel)
set_option maxRecDepth 20000 in
theorem gX7_init_X7_puts : GoodIn wsX7_init (wsV RX7 23 RX7 yX7_puts wsX7_puts) := goodIn_app (goodIn_of _ (by decide +kernel)) ggX7_init_X7_puts
theorem dX7_init_0 : decode cX7_init 0 = .ok (.aload_n 0, 1) := by decide +kernel
theorem dX7_init_1 : decode cX7_init 1 = .ok (.invokespecial 1, 3) := by decide +kernel
theorem dX7_init_4 : decode cX7_init 4 = .ok (.aload_n 0, 1) := by decide +kernel
theorem dX7_init_5 : decode cX7_init 5 = .ok (.sipush 382, 3) := by decide +kernel
theorem dX7_init_8 : decode cX7_init 8 = .ok (.newarray .int, 2) := by decide +kernel
theorem dX7_init_10 : decode cX7_init 10 = .ok (.putfield 7, 3) := by decide +kernel
theorem dX7_init_13 : decode cX7_init 13 = .ok (.aload_n 0, 1) := by decide +kernel
theorem dX7_init_14 : decode cX7_init 14 = .ok (.sipush 2292, 3) := by decide +kernel
theorem dX7_init_17 : decode cX7_init 17 = .ok (.newarray .int, 2) := by decide +kernel
theorem dX7_init_19 : decode cX7_init 19 = .ok (.putfield 13, 3) := by decide +kernel
theorem dX7_init_22 : decode cX7_init 22 = .ok (.aload_n 0, 1) := by decide +kernel
theorem dX7_init_23 : decode cX7_init 23 = .ok (.sipush 382, 3) := by decide +kernel
theorem dX7_init_26 : decode cX7_init 26 = .ok (.newarray .int, 2) := by decide +kernel
theorem dX7_init_28 : decode cX7_init 28 = .ok (.putfield 16, 3) := by decide +kernel
theorem dX7_init_31 : decode cX7_init 31 = .ok (.aload_n 0, 1) := by decide +kernel
theorem dX7_init_32 : decode cX7_init 32 = .ok (.bipush 120, 2) := by decide +kernel
theorem dX7_init_34 : decode cX7_init 34 = .ok (.newarray .byte, 2) := by decide +kernel
theorem dX7_init_36 : decode cX7_init 36 = .ok (.putfield 19, 3) := by decide +kernel
theorem dX7_init_39 : decode cX7_init 39 = .ok (.aload_n 0, 1) := by decide +kernel
theorem dX7_init_40 : decode cX7_init 40 = .ok (.getfield 7, 3) := by decide +kernel
theorem dX7_init_43 : decode cX7_init 43 = .ok (.iconst 5, 1) := by decide +kernel
theorem dX7_init_44 : decode cX7_init 44 = .ok (.bipush 50, 2) := by decide +kernel
theorem dX7_init_46 : decode cX7_init 46 = .ok (.iastore, 1) := by decide +kernel
theorem dX7_init_47 : decode cX7_init 47 = .ok (.aload_n 0, 1) := by decide +kernel
theorem dX7_init_48 : decode cX7_init 48 = .ok (.getfield 7, 3) := by decide +kernel
theorem dX7_init_51 : decode cX7_init 51 = .ok (.bipush 6, 2) := by decide +kernel
theorem dX7_init_53 : decode cX7_init 53 = .ok (.bipush 15, 2) := by decide +kernel
theorem dX7_init_55 : decode cX7_init 55 = .ok (.iastore, 1) := by decide +kernel
theorem dX7_init_56 : decode cX7_init 56 = .ok (.aload_n 0, 1) := by decide +kernel
theorem dX7_init_57 : decode cX7_init 57 = .ok (.getfield 7, 3) := by decide +kernel
theorem dX7_init_60 : decode cX7_init 60 = .ok (.bipush 7, 2) := by decide +kernel
theorem dX7_init_62 : decode cX7_init 62 = .ok (.bipush 10, 2) := by decide +kernel
theorem dX7_init_64 : decode cX7_init 64 = .ok (.iastore, 1) := by decide +kernel
theorem dX7_init_65 : decode cX7_init 65 = .ok (.aload_n 0, 1) := by decide +kernel
theorem dX7_init_66 : decode cX7_init 66 = .ok (.getfield 7, 3) := by decide +kernel
theorem dX7_init_69 : decode cX7_init 69 = .ok (.bipush 8, 2) := by decide +kernel
theorem dX7_init_71 : decode cX7_init 71 = .ok (.sipush 2000, 3) := by decide +kernel
theorem dX7_init_74 : decode cX7_init 74 = .ok (.iastore, 1) := by decide +kernel
theorem dX7_init_75 : decode cX7_init 75 = .ok (.aload_n 0, 1) := by decide +kernel
theorem dX7_init_76 : decode cX7_init 76 = .ok (.getfield 7, 3) := by decide +kernel
theorem dX7_init_79 : decode cX7_init 79 = .ok (.bipush 9, 2) := by decide +kernel
theorem dX7_init_81 : decode cX7_init 81 = .ok (.sipush 2500, 3) := by decide +kernel
theorem dX7_init_84 : decode cX7_init 84 = .ok (.iastore, 1) := by decide +kernel
theorem dX7_init_85 : decode cX7_init 85 = .ok (.aload_n 0, 1) := by decide +kernel
theorem dX7_init_86 : decode cX7_init 86 = .ok (.iconst 0, 1) := by decide +kernel
theorem dX7_init_87 : decode cX7_init 87 = .ok (.iconst 0, 1) := by decide +kernel
theorem dX7_init_88 : decode cX7_init 88 = .ok (.bipush 60, 2) := by decide +kernel
theorem dX7_init_90 : decode cX7_init 90 = .ok (.sipush 200, 3) := by decide +kernel
theorem dX7_init_93 : decode cX7_init 93 = .ok (.invokevirtual 23, 3) := by decide +kernel
theorem dX7_init_96 : decode cX7_init 96 = .ok (.aload_n 0, 1) := by decide +kernel
theorem dX7_init_97 : decode cX7_init 97 = .ok (.iconst 1, 1) := by decide +kernel
theorem dX7_init_98 : decode cX7_init 98 = .ok (.iconst 0, 1) := by decide +kernel
theorem dX7_init_99 : decode cX7_init 99 = .ok (.bipush 15, 2) := by decide +kernel
theorem dX7_init_101 : decode cX7_init 101 = .ok (.sipush 300, 3) := by decide +kernel
theorem dX7_init_104 : decode cX7_init 104 = .ok (.invokevirtual 23, 3) := by decide +kernel
theorem dX7_init_107 : decode cX7_init 107 = .ok (.return_, 1) := by decide +kernel
theorem dX7_in_0 : decode cX7_in 0 = .ok (.iload_n 0, 1) := by decide +kernel
theorem dX7_in_1 : decode cX7_in 1 = .ok (.iload_n 1, 1) := by decide +kernel
theorem dX7_in_2 : decode cX7_in 2 = .ok (.if_icmp .lt 12, 3) := by decide +kernel
theorem dX7_in_5 : decode cX7_in 5 = .ok (.iload_n 0, 1) := by decide +kernel
theorem dX7_in_6 : decode cX7_in 6 = .ok (.iload_n 2, 1) := by decide +kernel
theorem dX7_in_7 : decode cX7_in 7 = .ok (.if_icmp .gt 7, 3) := by decide +kernel
theorem dX7_in_10 : decode cX7_in 10 = .ok (.iconst 1, 1) := by decide +kernel
theorem dX7_in_11 : decode cX7_in 11 = .ok (.goto 4, 3) := by decide +kernel
theorem dX7_in_14 : decode cX7_in 14 = .ok (.iconst 0, 1) := by decide +kernel
theorem dX7_in_15 : decode cX7_in 15 = .ok (.ireturn, 1) := by decide +kernel
theorem dX7_lesser_0 : decode cX7_lesser 0 = .ok (.iload_n 0, 1) := by decide +kernel
theorem dX7_lesser_1 : decode cX7_lesser 1 = .ok (.iload_n 1, 1) := by decide +kernel
theorem dX7_lesser_2 : decode cX7_lesser 2 = .ok (.if_icmp .ge 7, 3) := by decide +kernel
theorem dX7_lesser_5 : decode cX7_lesser 5 = .ok (.iload_n 0, 1) := by decide +kernel
theorem dX7_lesser_6 : decode cX7_lesser 6 = .ok (.goto 4, 3) := by decide +kernel
theorem dX7_lesser_9 : decode cX7_lesser 9 = .ok (.iload_n 1, 1) := by decide +kernel
theorem dX7_lesser_10 : decode cX7_lesser 10 = .ok (.ireturn, 1) := by decide +kernel
theorem dX7_notes_0 : decode cX7_notes 0 = .ok (.aload_n 0, 1) := by decide +kernel
theorem dX7_notes_1 : decode cX7_notes 1 = .ok (.getfield 27, 3) := by decide +kernel
theorem dX7_notes_4 : decode cX7_notes 4 = .ok (.bipush 6, 2) := by decide +kernel
theorem dX7_notes_6 : decode cX7_notes 6 = .ok (.if_icmp .ne 44, 3) := by decide +kernel
theorem dX7_notes_9 : decode cX7_notes 9 = .ok (.iconst 0, 1) := by decide +kernel
theorem dX7_notes_10 : decode cX7_notes 10 = .ok (.istore_n 1, 1) := by decide +kernel
theorem dX7_notes_11 : decode cX7_notes 11 = .ok (.iload_n 1, 1) := by decide +kernel
theorem dX7_notes_12 : decode cX7_notes 12 = .ok (.sipush 1910, 3) := by decide +kernel
theorem dX7_notes_15 : decode cX7_notes 15 = .ok (.if_icmp .ge 25, 3) := by decide +kernel
theorem dX7_notes_18 : decode cX7_notes 18 = .ok (.aload_n 0, 1) := by decide +kernel
theorem dX7_notes_19 : decode cX7_notes 19 = .ok (.getfield 13, 3) := by decide +kernel
theorem dX7_notes_22 : decode cX7_notes 22 = .ok (.iload_n 1, 1) := by decide +kernel
theorem dX7_notes_23 : decode cX7_notes 23 = .ok (.aload_n 0, 1) := by decide +kernel
theorem dX7_notes_24 : decode cX7_notes 24 = .ok (.getfield 13, 3) := by decide +kernel
theorem dX7_notes_27 : decode cX7_notes 27 = .ok (.iload_n 1, 1) := by decide +kernel
theorem dX7_notes_28 : decode cX7_notes 28 = .ok (.sipush 382, 3) := by decide +kernel
theorem dX7_notes_31 : decode cX7_notes 31 = .ok (.iadd, 1) := by decide +kernel
theorem dX7_notes_32 : decode cX7_notes 32 = .ok (.iaload, 1) := by decide +kernel
theorem dX7_notes_33 : decode cX7_notes 33 = .ok (.iastore, 1) := by decide +kernel
theorem dX7_notes_34 : decode cX7_notes 34 = .ok (.iinc 1 1, 3) := by decide +kernel
theorem dX7_notes_37 : decode cX7_notes 37 = .ok (.goto (-26), 3) := by decide +kernel
theorem dX7_notes_40 : decode cX7_notes 40 = .ok (.aload_n 0, 1) := by decide +kernel
theorem dX7_notes_41 : decode cX7_notes 41 = .ok (.dup, 1) := by decide +kernel
theorem dX7_notes_42 : decode cX7_notes 42 = .ok (.getfield 27, 3) := by decide +kernel
theorem dX7_notes_45 : decode cX7_notes 45 = .ok (.iconst 1, 1) := by decide +kernel
theorem dX7_notes_46 : decode cX7_notes 46 = .ok (.isub, 1) := by decide +kernel
theorem dX7_notes_47 : decode cX7_notes 47 = .ok (.putfield 27, 3) := by decide +kernel
theorem dX7_notes_50 : decode cX7_notes 50 = .ok (.iconst 0, 1) := by decide +kernel
theorem dX7_notes_51 : decode cX7_notes 51 = .ok (.istore_n 1, 1) := by decide +kernel
theorem dX7_notes_52 : decode cX7_notes 52 = .ok (.iload_n 1, 1) := by decide +kernel
theorem dX7_notes_53 : decode cX7_notes 53 = .ok (.sipush 382, 3) := by decide +kernel
theorem dX7_notes_56 : decode cX7_notes 56 = .ok (.if_icmp .ge 30, 3) := by decide +kernel
theorem dX7_notes_59 : decode cX7_notes 59 = .ok (.aload_n 0, 1) := by decide +kernel
theorem dX7_notes_60 : decode cX7_notes 60 = .ok (.getfield 13, 3) := by decide +kernel
theorem dX7_notes_63 : decode cX7_notes 63 = .ok (.sipush 382, 3) := by decide +kernel
theorem dX7_notes_66 : decode cX7_notes 66 = .ok (.aload_n 0, 1) := by decide +kernel
theorem dX7_notes_67 : decode cX7_notes 67 = .ok (.getfield 27, 3) := by decide +kernel
theorem dX7_notes_70 : decode cX7_notes 70 = .ok (.imul, 1) := by decide +kernel
theorem dX7_notes_71 : decode cX7_notes 71 = .ok (.iload_n 1, 1) := by decide +kernel
theorem dX7_notes_72 : decode cX7_notes 72 = .ok (.iadd, 1) := by decide +kernel
theorem dX7_notes_73 : decode cX7_notes 73 = .ok (.aload_n 0, 1) := by decide +kernel
theorem dX7_notes_74 : decode cX7_notes 74 = .ok (.getfield 7, 3) := by decide +kernel
theorem dX7_notes_77 : decode cX7_notes 77 = .ok (.iload_n 1, 1) := by decide +kernel
theorem dX7_notes_78 : decode cX7_notes 78 = .ok (.iaload, 1) := by decide +kernel
theorem dX7_notes_79 : decode cX7_notes 79 = .ok (.iastore, 1) := by decide +kernel
theorem dX7_notes_80 : decode cX7_notes 80 = .ok (.iinc 1 1, 3) := by decide +kernel
theorem dX7_notes_83 : decode cX7_notes 83 = .ok (.goto (-31), 3) := by decide +kernel
theorem dX7_notes_86 : decode cX7_notes 86 = .ok (.aload_n 0, 1) := by decide +kernel
theorem dX7_notes_87 : decode cX7_notes 87 = .ok (.dup, 1) := by decide +kernel
theorem dX7_notes_88 : decode cX7_notes 88 = .ok (.getfield 27, 3) := by decide +kernel
theorem dX7_notes_91 : decode cX7_notes 91 = .ok (.iconst 1, 1) := by decide +kernel
theorem dX7_notes_92 : decode cX7_notes 92 = .ok (.iadd, 1) := by decide +kernel
theorem dX7_notes_93 : decode cX7_notes 93 = .ok (.putfield 27, 3) := by decide +kernel
theorem dX7_notes_96 : decode cX7_notes 96 = .ok (.return_, 1) := by decide +kernel
theorem dX7_undo_0 : decode cX7_undo 0 = .ok (.aload_n 0, 1) := by decide +kernel
theorem dX7_undo_1 : decode cX7_undo 1 = .ok (.getfield 27, 3) := by decide +kernel
theorem dX7_undo_4 : decode cX7_undo 4 = .ok (.ifCond .ne 6, 3) := by decide +kernel
theorem dX7_undo_7 : decode cX7_undo 7 = .ok (.bipush (-2), 2) := by decide +kernel
theorem dX7_undo_9 : decode cX7_undo 9 = .ok (.ireturn, 1) := by decide +kernel
theorem dX7_undo_10 : decode cX7_undo 10 = .ok (.aload_n 0, 1) := by decide +kernel
theorem dX7_undo_11 : decode cX7_undo 11 = .ok (.dup, 1) := by decide +kernel
theorem dX7_undo_12 : decode cX7_undo 12 = .ok (.getfield 27, 3) := by decide +kernel
theorem dX7_undo_15 : decode cX7_undo 15 = .ok (.iconst 1, 1) := by decide +kernel
theorem dX7_undo_16 : decode cX7_undo 16 = .ok (.isub, 1) := by decide +kernel
theorem dX7_undo_17 : decode cX7_undo 17 = .ok (.putfield 27, 3) := by decide +kernel
theorem dX7_undo_20 : decode cX7_undo 20 = .ok (.iconst 0, 1) := by decide +kernel
theorem dX7_undo_21 : decode cX7_undo 21 = .ok (.istore_n 1, 1) := by decide +kernel
theorem dX7_undo_22 : decode cX7_undo 22 = .ok (.iload_n 1, 1) := by decide +kernel
theorem dX7_undo_23 : decode cX7_undo 23 = .ok (.sipush 382, 3) := by decide +kernel
theorem dX7_undo_26 : decode cX7_undo 26 = .ok (.if_icmp .ge 30, 3) := by decide +kernel
theorem dX7_undo_29 : decode cX7_undo 29 = .ok (.aload_n 0, 1) := by decide +kernel
theorem dX7_undo_30 : decode cX7_undo 30 = .ok (.getfield 7, 3) := by decide +kernel
theorem dX7_undo_33 : decode cX7_undo 33 = .ok (.iload_n 1, 1) := by decide +kernel
theorem dX7_undo_34 : decode cX7_undo 34 = .ok (.aload_n 0, 1) := by decide +kernel
theorem dX7_undo_35 : decode cX7_undo 35 = .ok (.getfield 13, 3) := by decide +kernel
theorem dX7_undo_38 : decode cX7_undo 38 = .ok (.sipush 382, 3) := by decide +kernel
theorem dX7_undo_41 : decode cX7_undo 41 = .ok (.aload_n 0, 1) := by decide +kernel
theorem dX7_undo_42 : decode cX7_undo 42 = .ok (.getfield 27, 3) := by decide +kernel
theorem dX7_undo_45 : decode cX7_undo 45 = .ok (.imul, 1) := by decide +kernel
theorem dX7_undo_46 : decode cX7_undo 46 = .ok (.iload_n 1, 1) := by decide +kernel
theorem dX7_undo_47 : decode cX7_undo 47 = .ok (.iadd, 1) := by decide +kernel
theorem dX7_undo_48 : decode cX7_undo 48 = .ok (.iaload, 1) := by decide +kernel
theorem dX7_undo_49 : decode cX7_undo 49 = .ok (.iastore, 1) := by decide +kernel
theorem dX7_undo_50 : decode cX7_undo 50 = .ok (.iinc 1 1, 3) := by decide +kernel
theorem dX7_undo_53 : decode cX7_undo 53 = .ok (.goto (-31), 3) := by decide +kernel
theorem dX7_undo_56 : decode cX7_undo 56 = .ok (.aload_n 0, 1) := by decide +kernel
theorem dX7_undo_57 : decode cX7_undo 57 = .ok (.getfield 27, 3) := by decide +kernel
theorem dX7_undo_60 : decode cX7_undo 60 = .ok (.ireturn, 1) := by decide +kernel
theorem dX7_exchanges_0 : decode cX7_exchanges 0 = .ok (.iconst 0, 1) := by decide +kernel
theorem dX7_exchanges_1 : decode cX7_exchanges 1 = .ok (.istore_n 1, 1) := by decide +kernel
theorem dX7_exchanges_2 : decode cX7_exchanges 2 = .ok (.iload_n 1, 1) := by decide +kernel
theorem dX7_exchanges_3 : decode cX7_exchanges 3 = .ok (.sipush 382, 3) := by decide +kernel
theorem dX7_exchanges_6 : decode cX7_exchanges 6 = .ok (.if_icmp .ge 35, 3) := by decide +kernel
theorem dX7_exchanges_9 : decode cX7_exchanges 9 = .ok (.aload_n 0, 1) := by decide +kernel
theorem dX7_exchanges_10 : decode cX7_exchanges 10 = .ok (.getfield 7, 3) := by decide +kernel
theorem dX7_exchanges_13 : decode cX7_exchanges 13 = .ok (.iload_n 1, 1) := by decide +kernel
theorem dX7_exchanges_14 : decode cX7_exchanges 14 = .ok (.iaload, 1) := by decide +kernel
theorem dX7_exchanges_15 : decode cX7_exchanges 15 = .ok (.istore_n 2, 1) := by decide +kernel
theorem dX7_exchanges_16 : decode cX7_exchanges 16 = .ok (.aload_n 0, 1) := by decide +kernel
theorem dX7_exchanges_17 : decode cX7_exchanges 17 = .ok (.getfield 7, 3) := by decide +kernel
theorem dX7_exchanges_20 : decode cX7_exchanges 20 = .ok (.iload_n 1, 1) := by decide +kernel
theorem dX7_exchanges_21 : decode cX7_exchanges 21 = .ok (.aload_n 0, 1) := by decide +kernel
theorem dX7_exchanges_22 : decode cX7_exchanges 22 = .ok (.getfield 16, 3) := by decide +kernel
theorem dX7_exchanges_25 : decode cX7_exchanges 25 = .ok (.iload_n 1, 1) := by decide +kernel
theorem dX7_exchanges_26 : decode cX7_exchanges 26 = .ok (.iaload, 1) := by decide +kernel
theorem dX7_exchanges_27 : decode cX7_exchanges 27 = .ok (.iastore, 1) := by decide +kernel
theorem dX7_exchanges_28 : decode cX7_exchanges 28 = .ok (.aload_n 0, 1) := by decide +kernel
theorem dX7_exchanges_29 : decode cX7_exchanges 29 = .ok (.getfield 16, 3) := by decide +kernel
theorem dX7_exchanges_32 : decode cX7_exchanges 32 = .ok (.iload_n 1, 1) := by decide +kernel
theorem dX7_exchanges_33 : decode cX7_exchanges 33 = .ok (.iload_n 2, 1) := by decide +kernel
theorem dX7_exchanges_34 : decode cX7_exchanges 34 = .ok (.iastore, 1) := by decide +kernel
theorem dX7_exchanges_35 : decode cX7_exchanges 35 = .ok (.iinc 1 1, 3) := by decide +kernel
theorem dX7_exchanges_38 : decode cX7_exchanges 38 = .ok (.goto (-36), 3) := by decide +kernel
theorem dX7_exchanges_41 : decode cX7_exchanges 41 = .ok (.return_, 1) := by decide +kernel
theorem dX7_of_0 : decode cX7_of 0 = .ok (.aload_n 0, 1) := by decide +kernel
theorem dX7_of_1 : decode cX7_of 1 = .ok (.getfield 7, 3) := by decide +kernel
theorem dX7_of_4 : decode cX7_of 4 = .ok (.sipush 142, 3) := by decide +kernel
theorem dX7_of_7 : decode cX7_of 7 = .ok (.bipush 8, 2) := by decide +kernel
theorem dX7_of_9 : decode cX7_of 9 = .ok (.iload_n 1, 1) := by decide +kernel
theorem dX7_of_10 : decode cX7_of 10 = .ok (.imul, 1) := by decide +kernel
theorem dX7_of_11 : decode cX7_of 11 = .ok (.iadd, 1) := by decide +kernel
theorem dX7_of_12 : decode cX7_of 12 = .ok (.iload_n 2, 1) := by decide +kernel
theorem dX7_of_13 : decode cX7_of 13 = .ok (.iadd, 1) := by decide +kernel
theorem dX7_of_14 : decode cX7_of 14 = .ok (.iaload, 1) := by decide +kernel
theorem dX7_of_15 : decode cX7_of 15 = .ok (.ireturn, 1) := by decide +kernel
theorem dX7_sets_0 : decode cX7_sets 0 = .ok (.aload_n 0, 1) := by decide +kernel
theorem dX7_sets_1 : decode cX7_sets 1 = .ok (.getfield 7, 3) := by decide +kernel
theorem dX7_sets_4 : decode cX7_sets 4 = .ok (.sipush 142, 3) := by decide +kernel
theorem dX7_sets_7 : decode cX7_sets 7 = .ok (.bipush 8, 2) := by decide +kernel
theorem dX7_sets_9 : decode cX7_sets 9 = .ok (.iload_n 1, 1) := by decide +kernel
theorem dX7_sets_10 : decode cX7_sets 10 = .ok (.imul, 1) := by decide +kernel
theorem dX7_sets_11 : decode cX7_sets 11 = .ok (.iadd, 1) := by decide +kernel
theorem dX7_sets_12 : decode cX7_sets 12 = .ok (.iload_n 2, 1) := by decide +kernel
theorem dX7_sets_13 : decode cX7_sets 13 = .ok (.iadd, 1) := by decide +kernel
theorem dX7_sets_14 : decode cX7_sets 14 = .ok (.iload_n 3, 1) := by decide +kernel
theorem dX7_sets_15 : decode cX7_sets 15 = .ok (.iastore, 1) := by decide +kernel
theorem dX7_sets_16 : decode cX7_sets 16 = .ok (.return_, 1) := by decide +kernel
set_option maxRecDepth 20000 in
theorem ggX7_isBay_X7_in : GoodIn wsX7_isBay wsX7_in := goodIn_r _ [5] (by decide +kernel) (by decide +kernel)
set_option maxRecDepth 20000 in
theorem gX7_isBay_X7_in : GoodIn wsX7_isBay (va_wsS RX7 31 yX7_in wsX7_in) := goodIn_app (goodIn_of _ (by decide +kernel)) ggX7_isBay_X7_in
theorem dX7_isBay_0 : decode cX7_isBay 0 = .ok (.iload_n 1, 1) := by decide +kernel
theorem dX7_isBay_1 : decode cX7_isBay 1 = .ok (.iconst 0, 1) := by decide +kernel
theorem dX7_isBay_2 : decode cX7_isBay 2 = .ok (.aload_n 0, 1) := by decide +kernel
theorem dX7_isBay_3 : decode cX7_isBay 3 = .ok (.getfield 7, 3) := by decide +kernel
theorem dX7_isBay_6 : decode cX7_isBay 6 = .ok (.iconst 1, 1) := by decide +kernel
theorem dX7_isBay_7 : decode cX7_isBay 7 = .ok (.iaload, 1) := by decide +kernel
theorem dX7_isBay_8 : decode cX7_isBay 8 = .ok (.iconst 1, 1) := by decide +kernel
theorem dX7_isBay_9 : decode cX7_isBay 9 = .ok (.isub, 1) := by decide +kernel
theorem dX7_isBay_10 : decode cX7_isBay 10 = .ok (.invokestatic 31, 3) := by decide +kernel
theorem dX7_isBay_13 : decode cX7_isBay 13 = .ok (.ireturn, 1) := by decide +kernel
set_option maxRecDepth 20000 in
theorem ggX7_isTaken_X7_of : GoodIn wsX7_isTaken wsX7_of := goodIn_r _ [6, 1, 7, 8, 9, 10, 11, 12, 13, 14, 15, 16, 17] (by decide +kernel) (by decide +kernel)
set_option maxRecDepth 20000 in
theorem gX7_isTaken_X7_of : GoodIn wsX7_isTaken (wsV RX7 35 RX7 yX7_of wsX7_of) := goodIn_app (goodIn_of _ (by decide +kernel)) ggX7_isTaken_X7_of
theorem dX7_isTaken_0 : decode cX7_isTaken 0 = .ok (.iconst 0, 1) := by decide +kernel
theorem dX7_isTaken_1 : decode cX7_isTaken 1 = .ok (.istore_n 3, 1) := by decide +kernel
theorem dX7_isTaken_2 : decode cX7_isTaken 2 = .ok (.iconst 0, 1) := by decide +kernel
theorem dX7_isTaken_3 : decode cX7_isTaken 3 = .ok (.istore 4, 2) := by decide +kernel
theorem dX7_isTaken_5 : decode cX7_isTaken 5 = .ok (.iload 4, 2) := by decide +kernel
theorem dX7_isTaken_7 : decode cX7_isTaken 7 = .ok (.aload_n 0, 1) := by decide +kernel
theorem dX7_isTaken_8 : decode cX7_isTaken 8 = .ok (.getfield 7, 3) := by decide +kernel
theorem dX7_isTaken_11 : decode cX7_isTaken 11 = .ok (.iconst 1, 1) := by decide +kernel
theorem dX7_isTaken_12 : decode cX7_isTaken 12 = .ok (.iaload, 1) := by decide +kernel
theorem dX7_isTaken_13 : decode cX7_isTaken 13 = .ok (.if_icmp .ge 41, 3) := by decide +kernel
theorem dX7_isTaken_16 : decode cX7_isTaken 16 = .ok (.iload_n 3, 1) := by decide +kernel
theorem dX7_isTaken_17 : decode cX7_isTaken 17 = .ok (.ifCond .ne 25, 3) := by decide +kernel
theorem dX7_isTaken_20 : decode cX7_isTaken 20 = .ok (.aload_n 0, 1) := by decide +kernel
theorem dX7_isTaken_21 : decode cX7_isTaken 21 = .ok (.iload 4, 2) := by decide +kernel
theorem dX7_isTaken_23 : decode cX7_isTaken 23 = .ok (.iconst 0, 1) := by decide +kernel
theorem dX7_isTaken_24 : decode cX7_isTaken 24 = .ok (.invokevirtual 35, 3) := by decide +kernel
theorem dX7_isTaken_27 : decode cX7_isTaken 27 = .ok (.iload_n 1, 1) := by decide +kernel
theorem dX7_isTaken_28 : decode cX7_isTaken 28 = .ok (.if_icmp .ne 18, 3) := by decide +kernel
theorem dX7_isTaken_31 : decode cX7_isTaken 31 = .ok (.aload_n 0, 1) := by decide +kernel
theorem dX7_isTaken_32 : decode cX7_isTaken 32 = .ok (.iload 4, 2) := by decide +kernel
theorem dX7_isTaken_34 : decode cX7_isTaken 34 = .ok (.iconst 1, 1) := by decide +kernel
theorem dX7_isTaken_35 : decode cX7_isTaken 35 = .ok (.invokevirtual 35, 3) := by decide +kernel
theorem dX7_isTaken_38 : decode cX7_isTaken 38 = .ok (.iload_n 2, 1) := by decide +kernel
theorem dX7_isTaken_39 : decode cX7_isTaken 39 = .ok (.if_icmp .ne 7, 3) := by decide +kernel
theorem dX7_isTaken_42 : decode cX7_isTaken 42 = .ok (.iconst 1, 1) := by decide +kernel
theorem dX7_isTaken_43 : decode cX7_isTaken 43 = .ok (.goto 4, 3) := by decide +kernel
theorem dX7_isTaken_46 : decode cX7_isTaken 46 = .ok (.iconst 0, 1) := by decide +kernel
theorem dX7_isTaken_47 : decode cX7_isTaken 47 = .ok (.istore_n 3, 1) := by decide +kernel
theorem dX7_isTaken_48 : decode cX7_isTaken 48 = .ok (.iinc 4 1, 3) := by decide +kernel
theorem dX7_isTaken_51 : decode cX7_isTaken 51 = .ok (.goto (-46), 3) := by decide +kernel
theorem dX7_isTaken_54 : decode cX7_isTaken 54 = .ok (.iload_n 3, 1) := by decide +kernel
theorem dX7_isTaken_55 : decode cX7_isTaken 55 = .ok (.ireturn, 1) := by decide +kernel
set_option maxRecDepth 20000 in
theorem ggX7_makes_X7_sets : GoodIn wsX7_makes wsX7_sets := goodIn_r _ [6, 1, 7, 8, 9, 10, 11, 12, 13, 14, 15, 16, 17] (by decide +kernel) (by decide +kernel)
set_option maxRecDepth 20000 in
theorem gX7_makes_X7_sets : GoodIn wsX7_makes (wsV RX7 39 RX7 yX7_sets wsX7_sets) := goodIn_app (goodIn_of _ (by decide +kernel)) ggX7_makes_X7_sets
theorem dX7_makes_0 : decode cX7_makes 0 = .ok (.aload_n 0, 1) := by decide +kernel
theorem dX7_makes_1 : decode cX7_makes 1 = .ok (.getfield 7, 3) := by decide +kernel
theorem dX7_makes_4 : decode cX7_makes 4 = .ok (.iconst 1, 1) := by decide +kernel
theorem dX7_makes_5 : decode cX7_makes 5 = .ok (.iaload, 1) := by decide +kernel
theorem dX7_makes_6 : decode cX7_makes 6 = .ok (.istore 4, 2) := by decide +kernel
theorem dX7_makes_8 : decode cX7_makes 8 = .ok (.aload_n 0, 1) := by decide +kernel
theorem dX7_makes_9 : decode cX7_makes 9 = .ok (.getfield 7, 3) := by decide +kernel
theorem dX7_makes_12 : decode cX7_makes 12 = .ok (.iconst 1, 1) := by decide +kernel
theorem dX7_makes_13 : decode cX7_makes 13 = .ok (.dup2, 1) := by decide +kernel
theorem dX7_makes_14 : decode cX7_makes 14 = .ok (.iaload, 1) := by decide +kernel
theorem dX7_makes_15 : decode cX7_makes 15 = .ok (.iconst 1, 1) := by decide +kernel
theorem dX7_makes_16 : decode cX7_makes 16 = .ok (.iadd, 1) := by decide +kernel
theorem dX7_makes_17 : decode cX7_makes 17 = .ok (.iastore, 1) := by decide +kernel
theorem dX7_makes_18 : decode cX7_makes 18 = .ok (.aload_n 0, 1) := by decide +kernel
theorem dX7_makes_19 : decode cX7_makes 19 = .ok (.iload 4, 2) := by decide +kernel
theorem dX7_makes_21 : decode cX7_makes 21 = .ok (.iconst 0, 1) := by decide +kernel
theorem dX7_makes_22 : decode cX7_makes 22 = .ok (.iload_n 1, 1) := by decide +kernel
theorem dX7_makes_23 : decode cX7_makes 23 = .ok (.invokevirtual 39, 3) := by decide +kernel
theorem dX7_makes_26 : decode cX7_makes 26 = .ok (.aload_n 0, 1) := by decide +kernel
theorem dX7_makes_27 : decode cX7_makes 27 = .ok (.iload 4, 2) := by decide +kernel
theorem dX7_makes_29 : decode cX7_makes 29 = .ok (.iconst 1, 1) := by decide +kernel
theorem dX7_makes_30 : decode cX7_makes 30 = .ok (.iload_n 2, 1) := by decide +kernel
theorem dX7_makes_31 : decode cX7_makes 31 = .ok (.invokevirtual 39, 3) := by decide +kernel
theorem dX7_makes_34 : decode cX7_makes 34 = .ok (.aload_n 0, 1) := by decide +kernel
theorem dX7_makes_35 : decode cX7_makes 35 = .ok (.iload 4, 2) := by decide +kernel
theorem dX7_makes_37 : decode cX7_makes 37 = .ok (.iconst 2, 1) := by decide +kernel
theorem dX7_makes_38 : decode cX7_makes 38 = .ok (.iload_n 3, 1) := by decide +kernel
theorem dX7_makes_39 : decode cX7_makes 39 = .ok (.invokevirtual 39, 3) := by decide +kernel
theorem dX7_makes_42 : decode cX7_makes 42 = .ok (.aload_n 0, 1) := by decide +kernel
theorem dX7_makes_43 : decode cX7_makes 43 = .ok (.iload 4, 2) := by decide +kernel
theorem dX7_makes_45 : decode cX7_makes 45 = .ok (.iconst 3, 1) := by decide +kernel
theorem dX7_makes_46 : decode cX7_makes 46 = .ok (.iconst 1, 1) := by decide +kernel
theorem dX7_makes_47 : decode cX7_makes 47 = .ok (.invokevirtual 39, 3) := by decide +kernel
theorem dX7_makes_50 : decode cX7_makes 50 = .ok (.aload_n 0, 1) := by decide +kernel
theorem dX7_makes_51 : decode cX7_makes 51 = .ok (.iload 4, 2) := by decide +kernel
theorem dX7_makes_53 : decode cX7_makes 53 = .ok (.iconst 4, 1) := by decide +kernel
theorem dX7_makes_54 : decode cX7_makes 54 = .ok (.iconst 0, 1) := by decide +kernel
theorem dX7_makes_55 : decode cX7_makes 55 = .ok (.invokevirtual 39, 3) := by decide +kernel
theorem dX7_makes_58 : decode cX7_makes 58 = .ok (.aload_n 0, 1) := by decide +kernel
theorem dX7_makes_59 : decode cX7_makes 59 = .ok (.iload 4, 2) := by decide +kernel
theorem dX7_makes_61 : decode cX7_makes 61 = .ok (.iconst 5, 1) := by decide +kernel
theorem dX7_makes_62 : decode cX7_makes 62 = .ok (.iconst 0, 1) := by decide +kernel
theorem dX7_makes_63 : decode cX7_makes 63 = .ok (.invokevirtual 39, 3) := by decide +kernel
theorem dX7_makes_66 : decode cX7_makes 66 = .ok (.aload_n 0, 1) := by decide +kernel
theorem dX7_makes_67 : decode cX7_makes 67 = .ok (.iload 4, 2) := by decide +kernel
theorem dX7_makes_69 : decode cX7_makes 69 = .ok (.bipush 6, 2) := by decide +kernel
theorem dX7_makes_71 : decode cX7_makes 71 = .ok (.bipush (-9), 2) := by decide +kernel
theorem dX7_makes_73 : decode cX7_makes 73 = .ok (.invokevirtual 39, 3) := by decide +kernel
theorem dX7_makes_76 : decode cX7_makes 76 = .ok (.aload_n 0, 1) := by decide +kernel
theorem dX7_makes_77 : decode cX7_makes 77 = .ok (.iload 4, 2) := by decide +kernel
theorem dX7_makes_79 : decode cX7_makes 79 = .ok (.bipush 7, 2) := by decide +kernel
theorem dX7_makes_81 : decode cX7_makes 81 = .ok (.iconst 0, 1) := by decide +kernel
theorem dX7_makes_82 : decode cX7_makes 82 = .ok (.invokevirtual 39, 3) := by decide +kernel
theorem dX7_makes_85 : decode cX7_makes 85 = .ok (.iload 4, 2) := by decide +kernel
theorem dX7_makes_87 : decode cX7_makes 87 = .ok (.ireturn, 1) := by decide +kernel
set_option maxRecDepth 20000 in
theorem ggX7_way_X7_of : GoodIn wsX7_way wsX7_of := goodIn_r _ [6, 1, 7, 8, 9, 10, 11, 12, 13, 14, 15, 16, 17] (by decide +kernel) (by decide +kernel)
set_option maxRecDepth 20000 in
theorem gX7_way_X7_of : GoodIn wsX7_way (wsV RX7 35 RX7 yX7_of wsX7_of) := goodIn_app (goodIn_of _ (by decide +kernel)) ggX7_way_X7_of
theorem dX7_way_0 : decode cX7_way 0 = .ok (.aload_n 0, 1) := by decide +kernel
theorem dX7_way_1 : decode cX7_way 1 = .ok (.iload_n 1, 1) := by decide +kernel
theorem dX7_way_2 : decode cX7_way 2 = .ok (.iconst 0, 1) := by decide +kernel
theorem dX7_way_3 : decode cX7_way 3 = .ok (.invokevirtual 35, 3) := by decide +kernel
theorem dX7_way_6 : decode cX7_way 6 = .ok (.aload_n 0, 1) := by decide +kernel
theorem dX7_way_7 : decode cX7_way 7 = .ok (.getfield 7, 3) := by decide +kernel
theorem dX7_way_10 : decode cX7_way 10 = .ok (.iconst 5, 1) := by decide +kernel
theorem dX7_way_11 : decode cX7_way 11 = .ok (.iaload, 1) := by decide +kernel
theorem dX7_way_12 : decode cX7_way 12 = .ok (.imul, 1) := by decide +kernel
theorem dX7_way_13 : decode cX7_way 13 = .ok (.aload_n 0, 1) := by decide +kernel
theorem dX7_way_14 : decode cX7_way 14 = .ok (.iload_n 1, 1) := by decide +kernel
theorem dX7_way_15 : decode cX7_way 15 = .ok (.iconst 1, 1) := by decide +kernel
theorem dX7_way_16 : decode cX7_way 16 = .ok (.invokevirtual 35, 3) := by decide +kernel
theorem dX7_way_19 : decode cX7_way 19 = .ok (.iadd, 1) := by decide +kernel
theorem dX7_way_20 : decode cX7_way 20 = .ok (.ireturn, 1) := by decide +kernel
set_option maxRecDepth 20000 in
theorem ggX7_isBefore_X7_way : GoodIn wsX7_isBefore wsX7_way := goodIn_r _ [5, 6, 7, 8, 9, 4, 10, 11, 12, 13, 14, 15, 16, 17, 18, 19, 20, 21] (by decide +kernel) (by decide +kernel)
set_option maxRecDepth 20000 in
theorem gX7_isBefore_X7_way : GoodIn wsX7_isBefore (wsV RX7 43 RX7 yX7_way wsX7_way) := goodIn_app (goodIn_of _ (by decide +kernel)) ggX7_isBefore_X7_way
set_option maxRecDepth 20000 in
theorem ggX7_isBefore_X7_of : GoodIn wsX7_isBefore wsX7_of := goodIn_r _ [10, 6, 11, 12, 13, 14, 15, 16, 17, 18, 19, 20, 21] (by decide +kernel) (by decide +kernel)
set_option maxRecDepth 20000 in
theorem gX7_isBefore_X7_of : GoodIn wsX7_isBefore (wsV RX7 35 RX7 yX7_of wsX7_of) := goodIn_app (goodIn_of _ (by decide +kernel)) ggX7_isBefore_X7_of
theorem dX7_isBefore_0 : decode cX7_isBefore 0 = .ok (.aload_n 0, 1) := by decide +kernel
theorem dX7_isBefore_1 : decode cX7_isBefore 1 = .ok (.iload_n 1, 1) := by decide +kernel
theorem dX7_isBefore_2 : decode cX7_isBefore 2 = .ok (.invokevirtual 43, 3) := by decide +kernel
theorem dX7_isBefore_5 : decode cX7_isBefore 5 = .ok (.aload_n 0, 1) := by decide +kernel
theorem dX7_isBefore_6 : decode cX7_isBefore 6 = .ok (.iload_n 2, 1) := by decide +kernel
theorem dX7_isBefore_7 : decode cX7_isBefore 7 = .ok (.invokevirtual 43, 3) := by decide +kernel
theorem dX7_isBefore_10 : decode cX7_isBefore 10 = .ok (.if_icmp .eq 22, 3) := by decide +kernel
theorem dX7_isBefore_13 : decode cX7_isBefore 13 = .ok (.aload_n 0, 1) := by decide +kernel
theorem dX7_isBefore_14 : decode cX7_isBefore 14 = .ok (.iload_n 1, 1) := by decide +kernel
theorem dX7_isBefore_15 : decode cX7_isBefore 15 = .ok (.invokevirtual 43, 3) := by decide +kernel
theorem dX7_isBefore_18 : decode cX7_isBefore 18 = .ok (.aload_n 0, 1) := by decide +kernel
theorem dX7_isBefore_19 : decode cX7_isBefore 19 = .ok (.iload_n 2, 1) := by decide +kernel
theorem dX7_isBefore_20 : decode cX7_isBefore 20 = .ok (.invokevirtual 43, 3) := by decide +kernel
theorem dX7_isBefore_23 : decode cX7_isBefore 23 = .ok (.if_icmp .ge 7, 3) := by decide +kernel
theorem dX7_isBefore_26 : decode cX7_isBefore 26 = .ok (.iconst 1, 1) := by decide +kernel
theorem dX7_isBefore_27 : decode cX7_isBefore 27 = .ok (.goto 4, 3) := by decide +kernel
theorem dX7_isBefore_30 : decode cX7_isBefore 30 = .ok (.iconst 0, 1) := by decide +kernel
theorem dX7_isBefore_31 : decode cX7_isBefore 31 = .ok (.ireturn, 1) := by decide +kernel
theorem dX7_isBefore_32 : decode cX7_isBefore 32 = .ok (.aload_n 0, 1) := by decide +kernel
theorem dX7_isBefore_33 : decode cX7_isBefore 33 = .ok (.iload_n 1, 1) := by decide +kernel
theorem dX7_isBefore_34 : decode cX7_isBefore 34 = .ok (.iconst 2, 1) := by decide +kernel
theorem dX7_isBefore_35 : decode cX7_isBefore 35 = .ok (.invokevirtual 35, 3) := by decide +kernel
theorem dX7_isBefore_38 : decode cX7_isBefore 38 = .ok (.aload_n 0, 1) := by decide +kernel
theorem dX7_isBefore_39 : decode cX7_isBefore 39 = .ok (.iload_n 2, 1) := by decide +kernel
theorem dX7_isBefore_40 : decode cX7_isBefore 40 = .ok (.iconst 2, 1) := by decide +kernel
theorem dX7_isBefore_41 : decode cX7_isBefore 41 = .ok (.invokevirtual 35, 3) := by decide +kernel
theorem dX7_isBefore_44 : decode cX7_isBefore 44 = .ok (.if_icmp .ne 16, 3) := by decide +kernel
theorem dX7_isBefore_47 : decode cX7_isBefore 47 = .ok (.iload_n 1, 1) := by decide +kernel
theorem dX7_isBefore_48 : decode cX7_isBefore 48 = .ok (.iload_n 2, 1) := by decide +kernel
theorem dX7_isBefore_49 : decode cX7_isBefore 49 = .ok (.if_icmp .ge 7, 3) := by decide +kernel
theorem dX7_isBefore_52 : decode cX7_isBefore 52 = .ok (.iconst 1, 1) := by decide +kernel
theorem dX7_isBefore_53 : decode cX7_isBefore 53 = .ok (.goto 27, 3) := by decide +kernel
theorem dX7_isBefore_56 : decode cX7_isBefore 56 = .ok (.iconst 0, 1) := by decide +kernel
theorem dX7_isBefore_57 : decode cX7_isBefore 57 = .ok (.goto 23, 3) := by decide +kernel
theorem dX7_isBefore_60 : decode cX7_isBefore 60 = .ok (.aload_n 0, 1) := by decide +kernel
theorem dX7_isBefore_61 : decode cX7_isBefore 61 = .ok (.iload_n 1, 1) := by decide +kernel
theorem dX7_isBefore_62 : decode cX7_isBefore 62 = .ok (.iconst 2, 1) := by decide +kernel
theorem dX7_isBefore_63 : decode cX7_isBefore 63 = .ok (.invokevirtual 35, 3) := by decide +kernel
theorem dX7_isBefore_66 : decode cX7_isBefore 66 = .ok (.aload_n 0, 1) := by decide +kernel
theorem dX7_isBefore_67 : decode cX7_isBefore 67 = .ok (.iload_n 2, 1) := by decide +kernel
theorem dX7_isBefore_68 : decode cX7_isBefore 68 = .ok (.iconst 2, 1) := by decide +kernel
theorem dX7_isBefore_69 : decode cX7_isBefore 69 = .ok (.invokevirtual 35, 3) := by decide +kernel
theorem dX7_isBefore_72 : decode cX7_isBefore 72 = .ok (.if_icmp .ge 7, 3) := by decide +kernel
theorem dX7_isBefore_75 : decode cX7_isBefore 75 = .ok (.iconst 1, 1) := by decide +kernel
theorem dX7_isBefore_76 : decode cX7_isBefore 76 = .ok (.goto 4, 3) := by decide +kernel
theorem dX7_isBefore_79 : decode cX7_isBefore 79 = .ok (.iconst 0, 1) := by decide +kernel
theorem dX7_isBefore_80 : decode cX7_isBefore 80 = .ok (.ireturn, 1) := by decide +kernel
set_option maxRecDepth 20000 in
theorem ggX7_isFit_X7_of : GoodIn wsX7_isFit wsX7_of := goodIn_r _ [5, 6, 7, 8, 9, 10, 11, 12, 13, 14, 15, 16, 17] (by decide +kernel) (by decide +kernel)
set_option maxRecDepth 20000 in
theorem gX7_isFit_X7_of : GoodIn wsX7_isFit (wsV RX7 35 RX7 yX7_of wsX7_of) := goodIn_app (goodIn_of _ (by decide +kernel)) ggX7_isFit_X7_of
theorem dX7_isFit_0 : decode cX7_isFit 0 = .ok (.aload_n 0, 1) := by decide +kernel
theorem dX7_isFit_1 : decode cX7_isFit 1 = .ok (.iload_n 1, 1) := by decide +kernel
theorem dX7_isFit_2 : decode cX7_isFit 2 = .ok (.iconst 3, 1) := by decide +kernel
theorem dX7_isFit_3 : decode cX7_isFit 3 = .ok (.invokevirtual 35, 3) := by decide +kernel
theorem dX7_isFit_6 : decode cX7_isFit 6 = .ok (.iconst 1, 1) := by decide +kernel
theorem dX7_isFit_7 : decode cX7_isFit 7 = .ok (.if_icmp .ne 17, 3) := by decide +kernel
theorem dX7_isFit_10 : decode cX7_isFit 10 = .ok (.aload_n 0, 1) := by decide +kernel
theorem dX7_isFit_11 : decode cX7_isFit 11 = .ok (.iload_n 1, 1) := by decide +kernel
theorem dX7_isFit_12 : decode cX7_isFit 12 = .ok (.iconst 2, 1) := by decide +kernel
theorem dX7_isFit_13 : decode cX7_isFit 13 = .ok (.invokevirtual 35, 3) := by decide +kernel
theorem dX7_isFit_16 : decode cX7_isFit 16 = .ok (.iload_n 2, 1) := by decide +kernel
theorem dX7_isFit_17 : decode cX7_isFit 17 = .ok (.if_icmp .lt 7, 3) := by decide +kernel
theorem dX7_isFit_20 : decode cX7_isFit 20 = .ok (.iconst 1, 1) := by decide +kernel
theorem dX7_isFit_21 : decode cX7_isFit 21 = .ok (.goto 4, 3) := by decide +kernel
theorem dX7_isFit_24 : decode cX7_isFit 24 = .ok (.iconst 0, 1) := by decide +kernel
theorem dX7_isFit_25 : decode cX7_isFit 25 = .ok (.ireturn, 1) := by decide +kernel
set_option maxRecDepth 20000 in
theorem ggX7_addBay_X7_in : GoodIn wsX7_addBay wsX7_in := goodIn_r _ [5] (by decide +kernel) (by decide +kernel)
set_option maxRecDepth 20000 in
theorem gX7_addBay_X7_in : GoodIn wsX7_addBay (va_wsS RX7 31 yX7_in wsX7_in) := goodIn_app (goodIn_of _ (by decide +kernel)) ggX7_addBay_X7_in
set_option maxRecDepth 20000 in
theorem ggX7_addBay_X7_isTaken : GoodIn wsX7_addBay wsX7_isTaken := goodIn_r _ [9, 1, 10, 11, 12, 4, 13, 28, 29, 30, 31, 32, 33, 34, 35, 36, 37, 38] (by decide +kernel) (by decide +kernel)
set_option maxRecDepth 20000 in
theorem gX7_addBay_X7_isTaken : GoodIn wsX7_addBay (wsV RX7 47 RX7 yX7_isTaken wsX7_isTaken) := goodIn_app (goodIn_of _ (by decide +kernel)) ggX7_addBay_X7_isTaken
set_option maxRecDepth 20000 in
theorem ggX7_addBay_X7_notes : GoodIn wsX7_addBay wsX7_notes := goodIn_r _ [17, 18, 19, 1, 28, 29, 30, 31, 32, 33, 34, 35, 36, 37, 38] (by decide +kernel) (by decide +kernel)
set_option maxRecDepth 20000 in
theorem gX7_addBay_X7_notes : GoodIn wsX7_addBay (wsV RX7 51 RX7 yX7_notes wsX7_notes) := goodIn_app (goodIn_of _ (by decide +kernel)) ggX7_addBay_X7_notes
set_option maxRecDepth 20000 in
theorem ggX7_addBay_X7_makes : GoodIn wsX7_addBay wsX7_makes := goodIn_r _ [23, 1, 24, 25, 26, 4, 27, 28, 29, 30, 31, 32, 33, 34, 35, 36, 37, 38] (by decide +kernel) (by decide +kernel)
set_option maxRecDepth 20000 in
theorem gX7_addBay_X7_makes : GoodIn wsX7_addBay (wsV RX7 54 RX7 yX7_makes wsX7_makes) := goodIn_app (goodIn_of _ (by decide +kernel)) ggX7_addBay_X7_makes
theorem dX7_addBay_0 : decode cX7_addBay 0 = .ok (.iload_n 1, 1) := by decide +kernel
theorem dX7_addBay_1 : decode cX7_addBay 1 = .ok (.iconst 0, 1) := by decide +kernel
theorem dX7_addBay_2 : decode cX7_addBay 2 = .ok (.iconst 4, 1) := by decide +kernel
theorem dX7_addBay_3 : decode cX7_addBay 3 = .ok (.invokestatic 31, 3) := by decide +kernel
theorem dX7_addBay_6 : decode cX7_addBay 6 = .ok (.ifCond .eq 22, 3) := by decide +kernel
theorem dX7_addBay_9 : decode cX7_addBay 9 = .ok (.iload_n 2, 1) := by decide +kernel
theorem dX7_addBay_10 : decode cX7_addBay 10 = .ok (.iconst 0, 1) := by decide +kernel
theorem dX7_addBay_11 : decode cX7_addBay 11 = .ok (.bipush 99, 2) := by decide +kernel
theorem dX7_addBay_13 : decode cX7_addBay 13 = .ok (.invokestatic 31, 3) := by decide +kernel
theorem dX7_addBay_16 : decode cX7_addBay 16 = .ok (.ifCond .eq 12, 3) := by decide +kernel
theorem dX7_addBay_19 : decode cX7_addBay 19 = .ok (.iload_n 3, 1) := by decide +kernel
theorem dX7_addBay_20 : decode cX7_addBay 20 = .ok (.iconst 0, 1) := by decide +kernel
theorem dX7_addBay_21 : decode cX7_addBay 21 = .ok (.iconst 2, 1) := by decide +kernel
theorem dX7_addBay_22 : decode cX7_addBay 22 = .ok (.invokestatic 31, 3) := by decide +kernel
theorem dX7_addBay_25 : decode cX7_addBay 25 = .ok (.ifCond .ne 5, 3) := by decide +kernel
theorem dX7_addBay_28 : decode cX7_addBay 28 = .ok (.iconst (-1), 1) := by decide +kernel
theorem dX7_addBay_29 : decode cX7_addBay 29 = .ok (.ireturn, 1) := by decide +kernel
theorem dX7_addBay_30 : decode cX7_addBay 30 = .ok (.aload_n 0, 1) := by decide +kernel
theorem dX7_addBay_31 : decode cX7_addBay 31 = .ok (.iload_n 1, 1) := by decide +kernel
theorem dX7_addBay_32 : decode cX7_addBay 32 = .ok (.iload_n 2, 1) := by decide +kernel
theorem dX7_addBay_33 : decode cX7_addBay 33 = .ok (.invokevirtual 47, 3) := by decide +kernel
theorem dX7_addBay_36 : decode cX7_addBay 36 = .ok (.ifCond .eq 6, 3) := by decide +kernel
theorem dX7_addBay_39 : decode cX7_addBay 39 = .ok (.bipush (-2), 2) := by decide +kernel
theorem dX7_addBay_41 : decode cX7_addBay 41 = .ok (.ireturn, 1) := by decide +kernel
theorem dX7_addBay_42 : decode cX7_addBay 42 = .ok (.aload_n 0, 1) := by decide +kernel
theorem dX7_addBay_43 : decode cX7_addBay 43 = .ok (.getfield 7, 3) := by decide +kernel
theorem dX7_addBay_46 : decode cX7_addBay 46 = .ok (.iconst 1, 1) := by decide +kernel
theorem dX7_addBay_47 : decode cX7_addBay 47 = .ok (.iaload, 1) := by decide +kernel
theorem dX7_addBay_48 : decode cX7_addBay 48 = .ok (.bipush 30, 2) := by decide +kernel
theorem dX7_addBay_50 : decode cX7_addBay 50 = .ok (.if_icmp .ne 6, 3) := by decide +kernel
theorem dX7_addBay_53 : decode cX7_addBay 53 = .ok (.bipush (-3), 2) := by decide +kernel
theorem dX7_addBay_55 : decode cX7_addBay 55 = .ok (.ireturn, 1) := by decide +kernel
theorem dX7_addBay_56 : decode cX7_addBay 56 = .ok (.aload_n 0, 1) := by decide +kernel
theorem dX7_addBay_57 : decode cX7_addBay 57 = .ok (.invokevirtual 51, 3) := by decide +kernel
theorem dX7_addBay_60 : decode cX7_addBay 60 = .ok (.aload_n 0, 1) := by decide +kernel
theorem dX7_addBay_61 : decode cX7_addBay 61 = .ok (.iload_n 1, 1) := by decide +kernel
theorem dX7_addBay_62 : decode cX7_addBay 62 = .ok (.iload_n 2, 1) := by decide +kernel
theorem dX7_addBay_63 : decode cX7_addBay 63 = .ok (.iload_n 3, 1) := by decide +kernel
theorem dX7_addBay_64 : decode cX7_addBay 64 = .ok (.invokevirtual 54, 3) := by decide +kernel
theorem dX7_addBay_67 : decode cX7_addBay 67 = .ok (.ireturn, 1) := by decide +kernel
set_option maxRecDepth 20000 in
theorem ggX7_setBay_X7_isBay : GoodIn wsX7_setBay wsX7_isBay := goodIn_r _ [5, 6, 7, 8, 4, 9, 24, 25, 26, 27, 28, 29, 30, 31, 32, 33, 34] (by decide +kernel) (by decide +kernel)
set_option maxRecDepth 20000 in
theorem gX7_setBay_X7_isBay : GoodIn wsX7_setBay (wsV RX7 58 RX7 yX7_isBay wsX7_isBay) := goodIn_app (goodIn_of _ (by decide +kernel)) ggX7_setBay_X7_isBay
set_option maxRecDepth 20000 in
theorem ggX7_setBay_X7_in : GoodIn wsX7_setBay wsX7_in := goodIn_r _ [9] (by decide +kernel) (by decide +kernel)
set_option maxRecDepth 20000 in
theorem gX7_setBay_X7_in : GoodIn wsX7_setBay (va_wsS RX7 31 yX7_in wsX7_in) := goodIn_app (goodIn_of _ (by decide +kernel)) ggX7_setBay_X7_in
set_option maxRecDepth 20000 in
theorem ggX7_setBay_X7_notes : GoodIn wsX7_setBay wsX7_notes := goodIn_r _ [13, 14, 15, 6, 24, 25, 26, 27, 28, 29, 30, 31, 32, 33, 34] (by decide +kernel) (by decide +kernel)
set_option maxRecDepth 20000 in
theorem gX7_setBay_X7_notes : GoodIn wsX7_setBay (wsV RX7 51 RX7 yX7_notes wsX7_notes) := goodIn_app (goodIn_of _ (by decide +kernel)) ggX7_setBay_X7_notes
set_option maxRecDepth 20000 in
theorem ggX7_setBay_X7_of : GoodIn wsX7_setBay wsX7_of := goodIn_r _ [19, 6, 24, 25, 26, 27, 28, 29, 30, 31, 32, 33, 34] (by decide +kernel) (by decide +kernel)
set_option maxRecDepth 20000 in
theorem gX7_setBay_X7_of : GoodIn wsX7_setBay (wsV RX7 35 RX7 yX7_of wsX7_of) := goodIn_app (goodIn_of _ (by decide +kernel)) ggX7_setBay_X7_of
set_option maxRecDepth 20000 in
theorem ggX7_setBay_X7_sets : GoodIn wsX7_setBay wsX7_sets := goodIn_r _ [23, 6, 24, 25, 26, 27, 28, 29, 30, 31, 32, 33, 34] (by decide +kernel) (by decide +kernel)
set_option maxRecDepth 20000 in
theorem gX7_setBay_X7_sets : GoodIn wsX7_setBay (wsV RX7 39 RX7 yX7_sets wsX7_sets) := goodIn_app (goodIn_of _ (by decide +kernel)) ggX7_setBay_X7_sets
theorem dX7_setBay_0 : decode cX7_setBay 0 = .ok (.aload_n 0, 1) := by decide +kernel
theorem dX7_setBay_1 : decode cX7_setBay 1 = .ok (.iload_n 1, 1) := by decide +kernel
theorem dX7_setBay_2 : decode cX7_setBay 2 = .ok (.invokevirtual 58, 3) := by decide +kernel
theorem dX7_setBay_5 : decode cX7_setBay 5 = .ok (.ifCond .eq 12, 3) := by decide +kernel
theorem dX7_setBay_8 : decode cX7_setBay 8 = .ok (.iload_n 2, 1) := by decide +kernel
theorem dX7_setBay_9 : decode cX7_setBay 9 = .ok (.iconst 0, 1) := by decide +kernel
theorem dX7_setBay_10 : decode cX7_setBay 10 = .ok (.iconst 1, 1) := by decide +kernel
theorem dX7_setBay_11 : decode cX7_setBay 11 = .ok (.invokestatic 31, 3) := by decide +kernel
theorem dX7_setBay_14 : decode cX7_setBay 14 = .ok (.ifCond .ne 5, 3) := by decide +kernel
theorem dX7_setBay_17 : decode cX7_setBay 17 = .ok (.iconst (-1), 1) := by decide +kernel
theorem dX7_setBay_18 : decode cX7_setBay 18 = .ok (.ireturn, 1) := by decide +kernel
theorem dX7_setBay_19 : decode cX7_setBay 19 = .ok (.aload_n 0, 1) := by decide +kernel
theorem dX7_setBay_20 : decode cX7_setBay 20 = .ok (.invokevirtual 51, 3) := by decide +kernel
theorem dX7_setBay_23 : decode cX7_setBay 23 = .ok (.aload_n 0, 1) := by decide +kernel
theorem dX7_setBay_24 : decode cX7_setBay 24 = .ok (.iload_n 1, 1) := by decide +kernel
theorem dX7_setBay_25 : decode cX7_setBay 25 = .ok (.iconst 3, 1) := by decide +kernel
theorem dX7_setBay_26 : decode cX7_setBay 26 = .ok (.invokevirtual 35, 3) := by decide +kernel
theorem dX7_setBay_29 : decode cX7_setBay 29 = .ok (.istore_n 3, 1) := by decide +kernel
theorem dX7_setBay_30 : decode cX7_setBay 30 = .ok (.aload_n 0, 1) := by decide +kernel
theorem dX7_setBay_31 : decode cX7_setBay 31 = .ok (.iload_n 1, 1) := by decide +kernel
theorem dX7_setBay_32 : decode cX7_setBay 32 = .ok (.iconst 3, 1) := by decide +kernel
theorem dX7_setBay_33 : decode cX7_setBay 33 = .ok (.iload_n 2, 1) := by decide +kernel
theorem dX7_setBay_34 : decode cX7_setBay 34 = .ok (.invokevirtual 39, 3) := by decide +kernel
theorem dX7_setBay_37 : decode cX7_setBay 37 = .ok (.iload_n 3, 1) := by decide +kernel
theorem dX7_setBay_38 : decode cX7_setBay 38 = .ok (.ireturn, 1) := by decide +kernel
theorem dX7_place_0 : decode cX7_place 0 = .ok (.bipush 14, 2) := by decide +kernel
theorem dX7_place_2 : decode cX7_place 2 = .ok (.bipush 16, 2) := by decide +kernel
theorem dX7_place_4 : decode cX7_place 4 = .ok (.iload_n 1, 1) := by decide +kernel
theorem dX7_place_5 : decode cX7_place 5 = .ok (.imul, 1) := by decide +kernel
theorem dX7_place_6 : decode cX7_place 6 = .ok (.iadd, 1) := by decide +kernel
theorem dX7_place_7 : decode cX7_place 7 = .ok (.istore_n 3, 1) := by decide +kernel
theorem dX7_place_8 : decode cX7_place 8 = .ok (.iconst 0, 1) := by decide +kernel
theorem dX7_place_9 : decode cX7_place 9 = .ok (.istore 4, 2) := by decide +kernel
theorem dX7_place_11 : decode cX7_place 11 = .ok (.iload 4, 2) := by decide +kernel
theorem dX7_place_13 : decode cX7_place 13 = .ok (.aload_n 0, 1) := by decide +kernel
theorem dX7_place_14 : decode cX7_place 14 = .ok (.getfield 7, 3) := by decide +kernel
theorem dX7_place_17 : decode cX7_place 17 = .ok (.iload_n 3, 1) := by decide +kernel
theorem dX7_place_18 : decode cX7_place 18 = .ok (.iaload, 1) := by decide +kernel
theorem dX7_place_19 : decode cX7_place 19 = .ok (.if_icmp .ge 26, 3) := by decide +kernel
theorem dX7_place_22 : decode cX7_place 22 = .ok (.aload_n 0, 1) := by decide +kernel
theorem dX7_place_23 : decode cX7_place 23 = .ok (.getfield 7, 3) := by decide +kernel
theorem dX7_place_26 : decode cX7_place 26 = .ok (.iload_n 3, 1) := by decide +kernel
theorem dX7_place_27 : decode cX7_place 27 = .ok (.iconst 1, 1) := by decide +kernel
theorem dX7_place_28 : decode cX7_place 28 = .ok (.iadd, 1) := by decide +kernel
theorem dX7_place_29 : decode cX7_place 29 = .ok (.iconst 3, 1) := by decide +kernel
theorem dX7_place_30 : decode cX7_place 30 = .ok (.iload 4, 2) := by decide +kernel
theorem dX7_place_32 : decode cX7_place 32 = .ok (.imul, 1) := by decide +kernel
theorem dX7_place_33 : decode cX7_place 33 = .ok (.iadd, 1) := by decide +kernel
theorem dX7_place_34 : decode cX7_place 34 = .ok (.iaload, 1) := by decide +kernel
theorem dX7_place_35 : decode cX7_place 35 = .ok (.iload_n 2, 1) := by decide +kernel
theorem dX7_place_36 : decode cX7_place 36 = .ok (.if_icmp .ge 9, 3) := by decide +kernel
theorem dX7_place_39 : decode cX7_place 39 = .ok (.iinc 4 1, 3) := by decide +kernel
theorem dX7_place_42 : decode cX7_place 42 = .ok (.goto (-31), 3) := by decide +kernel
theorem dX7_place_45 : decode cX7_place 45 = .ok (.iload 4, 2) := by decide +kernel
theorem dX7_place_47 : decode cX7_place 47 = .ok (.ireturn, 1) := by decide +kernel
set_option maxRecDepth 20000 in
theorem ggX7_hasStep_X7_place : GoodIn wsX7_hasStep wsX7_place := goodIn_r _ [6, 1, 7, 8, 9, 10, 11, 12, 13, 14, 15, 16, 17] (by decide +kernel) (by decide +kernel)
set_option maxRecDepth 20000 in
theorem gX7_hasStep_X7_place : GoodIn wsX7_hasStep (wsV RX7 62 RX7 yX7_place wsX7_place) := goodIn_app (goodIn_of _ (by decide +kernel)) ggX7_hasStep_X7_place
theorem dX7_hasStep_0 : decode cX7_hasStep 0 = .ok (.bipush 14, 2) := by decide +kernel
theorem dX7_hasStep_2 : decode cX7_hasStep 2 = .ok (.bipush 16, 2) := by decide +kernel
theorem dX7_hasStep_4 : decode cX7_hasStep 4 = .ok (.iload_n 1, 1) := by decide +kernel
theorem dX7_hasStep_5 : decode cX7_hasStep 5 = .ok (.imul, 1) := by decide +kernel
theorem dX7_hasStep_6 : decode cX7_hasStep 6 = .ok (.iadd, 1) := by decide +kernel
theorem dX7_hasStep_7 : decode cX7_hasStep 7 = .ok (.istore_n 3, 1) := by decide +kernel
theorem dX7_hasStep_8 : decode cX7_hasStep 8 = .ok (.aload_n 0, 1) := by decide +kernel
theorem dX7_hasStep_9 : decode cX7_hasStep 9 = .ok (.iload_n 1, 1) := by decide +kernel
theorem dX7_hasStep_10 : decode cX7_hasStep 10 = .ok (.iload_n 2, 1) := by decide +kernel
theorem dX7_hasStep_11 : decode cX7_hasStep 11 = .ok (.invokevirtual 62, 3) := by decide +kernel
theorem dX7_hasStep_14 : decode cX7_hasStep 14 = .ok (.istore 4, 2) := by decide +kernel
theorem dX7_hasStep_16 : decode cX7_hasStep 16 = .ok (.iload 4, 2) := by decide +kernel
theorem dX7_hasStep_18 : decode cX7_hasStep 18 = .ok (.aload_n 0, 1) := by decide +kernel
theorem dX7_hasStep_19 : decode cX7_hasStep 19 = .ok (.getfield 7, 3) := by decide +kernel
theorem dX7_hasStep_22 : decode cX7_hasStep 22 = .ok (.iload_n 3, 1) := by decide +kernel
theorem dX7_hasStep_23 : decode cX7_hasStep 23 = .ok (.iaload, 1) := by decide +kernel
theorem dX7_hasStep_24 : decode cX7_hasStep 24 = .ok (.if_icmp .ge 24, 3) := by decide +kernel
theorem dX7_hasStep_27 : decode cX7_hasStep 27 = .ok (.aload_n 0, 1) := by decide +kernel
theorem dX7_hasStep_28 : decode cX7_hasStep 28 = .ok (.getfield 7, 3) := by decide +kernel
theorem dX7_hasStep_31 : decode cX7_hasStep 31 = .ok (.iload_n 3, 1) := by decide +kernel
theorem dX7_hasStep_32 : decode cX7_hasStep 32 = .ok (.iconst 1, 1) := by decide +kernel
theorem dX7_hasStep_33 : decode cX7_hasStep 33 = .ok (.iadd, 1) := by decide +kernel
theorem dX7_hasStep_34 : decode cX7_hasStep 34 = .ok (.iconst 3, 1) := by decide +kernel
theorem dX7_hasStep_35 : decode cX7_hasStep 35 = .ok (.iload 4, 2) := by decide +kernel
theorem dX7_hasStep_37 : decode cX7_hasStep 37 = .ok (.imul, 1) := by decide +kernel
theorem dX7_hasStep_38 : decode cX7_hasStep 38 = .ok (.iadd, 1) := by decide +kernel
theorem dX7_hasStep_39 : decode cX7_hasStep 39 = .ok (.iaload, 1) := by decide +kernel
theorem dX7_hasStep_40 : decode cX7_hasStep 40 = .ok (.iload_n 2, 1) := by decide +kernel
theorem dX7_hasStep_41 : decode cX7_hasStep 41 = .ok (.if_icmp .ne 7, 3) := by decide +kernel
theorem dX7_hasStep_44 : decode cX7_hasStep 44 = .ok (.iconst 1, 1) := by decide +kernel
theorem dX7_hasStep_45 : decode cX7_hasStep 45 = .ok (.goto 4, 3) := by decide +kernel
theorem dX7_hasStep_48 : decode cX7_hasStep 48 = .ok (.iconst 0, 1) := by decide +kernel
theorem dX7_hasStep_49 : decode cX7_hasStep 49 = .ok (.ireturn, 1) := by decide +kernel
set_option maxRecDepth 20000 in
theorem ggX7_puts_X7_place : GoodIn wsX7_puts wsX7_place := goodIn_r _ [6, 1, 11, 12, 13, 14, 15, 16, 17, 18, 19, 20, 21] (by decide +kernel) (by decide +kernel)
set_option maxRecDepth 20000 in
theorem gX7_puts_X7_place : GoodIn wsX7_puts (wsV RX7 62 RX7 yX7_place wsX7_place) := goodIn_app (goodIn_of _ (by decide +kernel)) ggX7_puts_X7_place
set_option maxRecDepth 20000 in
theorem ggX7_puts_X7_hasStep : GoodIn wsX7_puts wsX7_hasStep := goodIn_r _ [10, 1, 2, 3, 4, 5, 6, 11, 12, 13, 14, 15, 16, 17, 18, 19, 20, 21] (by decide +kernel) (by decide +kernel)
set_option maxRecDepth 20000 in
theorem gX7_puts_X7_hasStep : GoodIn wsX7_puts (wsV RX7 65 RX7 yX7_hasStep wsX7_hasStep) := goodIn_app (goodIn_of _ (by decide +kernel)) ggX7_puts_X7_hasStep
theorem dX7_puts_0 : decode cX7_puts 0 = .ok (.bipush 14, 2) := by decide +kernel
theorem dX7_puts_2 : decode cX7_puts 2 = .ok (.bipush 16, 2) := by decide +kernel
theorem dX7_puts_4 : decode cX7_puts 4 = .ok (.iload_n 1, 1) := by decide +kernel
theorem dX7_puts_5 : decode cX7_puts 5 = .ok (.imul, 1) := by decide +kernel
theorem dX7_puts_6 : decode cX7_puts 6 = .ok (.iadd, 1) := by decide +kernel
theorem dX7_puts_7 : decode cX7_puts 7 = .ok (.istore 5, 2) := by decide +kernel
theorem dX7_puts_9 : decode cX7_puts 9 = .ok (.aload_n 0, 1) := by decide +kernel
theorem dX7_puts_10 : decode cX7_puts 10 = .ok (.iload_n 1, 1) := by decide +kernel
theorem dX7_puts_11 : decode cX7_puts 11 = .ok (.iload_n 2, 1) := by decide +kernel
theorem dX7_puts_12 : decode cX7_puts 12 = .ok (.invokevirtual 62, 3) := by decide +kernel
theorem dX7_puts_15 : decode cX7_puts 15 = .ok (.istore 6, 2) := by decide +kernel
theorem dX7_puts_17 : decode cX7_puts 17 = .ok (.aload_n 0, 1) := by decide +kernel
theorem dX7_puts_18 : decode cX7_puts 18 = .ok (.iload_n 1, 1) := by decide +kernel
theorem dX7_puts_19 : decode cX7_puts 19 = .ok (.iload_n 2, 1) := by decide +kernel
theorem dX7_puts_20 : decode cX7_puts 20 = .ok (.invokevirtual 65, 3) := by decide +kernel
theorem dX7_puts_23 : decode cX7_puts 23 = .ok (.ifCond .ne 62, 3) := by decide +kernel
theorem dX7_puts_26 : decode cX7_puts 26 = .ok (.iload 5, 2) := by decide +kernel
theorem dX7_puts_28 : decode cX7_puts 28 = .ok (.iconst 3, 1) := by decide +kernel
theorem dX7_puts_29 : decode cX7_puts 29 = .ok (.aload_n 0, 1) := by decide +kernel
theorem dX7_puts_30 : decode cX7_puts 30 = .ok (.getfield 7, 3) := by decide +kernel
theorem dX7_puts_33 : decode cX7_puts 33 = .ok (.iload 5, 2) := by decide +kernel
theorem dX7_puts_35 : decode cX7_puts 35 = .ok (.iaload, 1) := by decide +kernel
theorem dX7_puts_36 : decode cX7_puts 36 = .ok (.imul, 1) := by decide +kernel
theorem dX7_puts_37 : decode cX7_puts 37 = .ok (.iadd, 1) := by decide +kernel
theorem dX7_puts_38 : decode cX7_puts 38 = .ok (.istore 7, 2) := by decide +kernel
theorem dX7_puts_40 : decode cX7_puts 40 = .ok (.iload 7, 2) := by decide +kernel
theorem dX7_puts_42 : decode cX7_puts 42 = .ok (.iload 5, 2) := by decide +kernel
theorem dX7_puts_44 : decode cX7_puts 44 = .ok (.iconst 3, 1) := by decide +kernel
theorem dX7_puts_45 : decode cX7_puts 45 = .ok (.iload 6, 2) := by decide +kernel
theorem dX7_puts_47 : decode cX7_puts 47 = .ok (.imul, 1) := by decide +kernel
theorem dX7_puts_48 : decode cX7_puts 48 = .ok (.iadd, 1) := by decide +kernel
theorem dX7_puts_49 : decode cX7_puts 49 = .ok (.if_icmp .le 25, 3) := by decide +kernel
theorem dX7_puts_52 : decode cX7_puts 52 = .ok (.aload_n 0, 1) := by decide +kernel
theorem dX7_puts_53 : decode cX7_puts 53 = .ok (.getfield 7, 3) := by decide +kernel
theorem dX7_puts_56 : decode cX7_puts 56 = .ok (.iload 7, 2) := by decide +kernel
theorem dX7_puts_58 : decode cX7_puts 58 = .ok (.iconst 3, 1) := by decide +kernel
theorem dX7_puts_59 : decode cX7_puts 59 = .ok (.iadd, 1) := by decide +kernel
theorem dX7_puts_60 : decode cX7_puts 60 = .ok (.aload_n 0, 1) := by decide +kernel
theorem dX7_puts_61 : decode cX7_puts 61 = .ok (.getfield 7, 3) := by decide +kernel
theorem dX7_puts_64 : decode cX7_puts 64 = .ok (.iload 7, 2) := by decide +kernel
theorem dX7_puts_66 : decode cX7_puts 66 = .ok (.iaload, 1) := by decide +kernel
theorem dX7_puts_67 : decode cX7_puts 67 = .ok (.iastore, 1) := by decide +kernel
theorem dX7_puts_68 : decode cX7_puts 68 = .ok (.iinc 7 (-1), 3) := by decide +kernel
theorem dX7_puts_71 : decode cX7_puts 71 = .ok (.goto (-31), 3) := by decide +kernel
theorem dX7_puts_74 : decode cX7_puts 74 = .ok (.aload_n 0, 1) := by decide +kernel
theorem dX7_puts_75 : decode cX7_puts 75 = .ok (.getfield 7, 3) := by decide +kernel
theorem dX7_puts_78 : decode cX7_puts 78 = .ok (.iload 5, 2) := by decide +kernel
theorem dX7_puts_80 : decode cX7_puts 80 = .ok (.dup2, 1) := by decide +kernel
theorem dX7_puts_81 : decode cX7_puts 81 = .ok (.iaload, 1) := by decide +kernel
theorem dX7_puts_82 : decode cX7_puts 82 = .ok (.iconst 1, 1) := by decide +kernel
theorem dX7_puts_83 : decode cX7_puts 83 = .ok (.iadd, 1) := by decide +kernel
theorem dX7_puts_84 : decode cX7_puts 84 = .ok (.iastore, 1) := by decide +kernel
theorem dX7_puts_85 : decode cX7_puts 85 = .ok (.aload_n 0, 1) := by decide +kernel
theorem dX7_puts_86 : decode cX7_puts 86 = .ok (.getfield 7, 3) := by decide +kernel
theorem dX7_puts_89 : decode cX7_puts 89 = .ok (.iload 5, 2) := by decide +kernel
theorem dX7_puts_91 : decode cX7_puts 91 = .ok (.iconst 1, 1) := by decide +kernel
theorem dX7_puts_92 : decode cX7_puts 92 = .ok (.iadd, 1) := by decide +kernel
theorem dX7_puts_93 : decode cX7_puts 93 = .ok (.iconst 3, 1) := by decide +kernel
theorem dX7_puts_94 : decode cX7_puts 94 = .ok (.iload 6, 2) := by decide +kernel
theorem dX7_puts_96 : decode cX7_puts 96 = .ok (.imul, 1) := by decide +kernel
theorem dX7_puts_97 : decode cX7_puts 97 = .ok (.iadd, 1) := by decide +kernel
theorem dX7_puts_98 : decode cX7_puts 98 = .ok (.iload_n 2, 1) := by decide +kernel
theorem dX7_puts_99 : decode cX7_puts 99 = .ok (.iastore, 1) := by decide +kernel
theorem dX7_puts_100 : decode cX7_puts 100 = .ok (.aload_n 0, 1) := by decide +kernel
theorem dX7_puts_101 : decode cX7_puts 101 = .ok (.getfield 7, 3) := by decide +kernel
theorem dX7_puts_104 : decode cX7_puts 104 = .ok (.iload 5, 2) := by decide +kernel
theorem dX7_puts_106 : decode cX7_puts 106 = .ok (.iconst 2, 1) := by decide +kernel
theorem dX7_puts_107 : decode cX7_puts 107 = .ok (.iadd, 1) := by decide +kernel
theorem dX7_puts_108 : decode cX7_puts 108 = .ok (.iconst 3, 1) := by decide +kernel
theorem dX7_puts_109 : decode cX7_puts 109 = .ok (.iload 6, 2) := by decide +kernel
theorem dX7_puts_111 : decode cX7_puts 111 = .ok (.imul, 1) := by decide +kernel
theorem dX7_puts_112 : decode cX7_puts 112 = .ok (.iadd, 1) := by decide +kernel
theorem dX7_puts_113 : decode cX7_puts 113 = .ok (.iload_n 3, 1) := by decide +kernel
theorem dX7_puts_114 : decode cX7_puts 114 = .ok (.iastore, 1) := by decide +kernel
theorem dX7_puts_115 : decode cX7_puts 115 = .ok (.aload_n 0, 1) := by decide +kernel
theorem dX7_puts_116 : decode cX7_puts 116 = .ok (.getfield 7, 3) := by decide +kernel
theorem dX7_puts_119 : decode cX7_puts 119 = .ok (.iload 5, 2) := by decide +kernel
theorem dX7_puts_121 : decode cX7_puts 121 = .ok (.iconst 3, 1) := by decide +kernel
theorem dX7_puts_122 : decode cX7_puts 122 = .ok (.iadd, 1) := by decide +kernel
theorem dX7_puts_123 : decode cX7_puts 123 = .ok (.iconst 3, 1) := by decide +kernel
theorem dX7_puts_124 : decode cX7_puts 124 = .ok (.iload 6, 2) := by decide +kernel
theorem dX7_puts_126 : decode cX7_puts 126 = .ok (.imul, 1) := by decide +kernel
theorem dX7_puts_127 : decode cX7_puts 127 = .ok (.iadd, 1) := by decide +kernel
theorem dX7_puts_128 : decode cX7_puts 128 = .ok (.iload 4, 2) := by decide +kernel
theorem dX7_puts_130 : decode cX7_puts 130 = .ok (.iastore, 1) := by decide +kernel
theorem dX7_puts_131 : decode cX7_puts 131 = .ok (.return_, 1) := by decide +kernel
set_option maxRecDepth 20000 in
theorem ggX7_drops_X7_place : GoodIn wsX7_drops wsX7_place := goodIn_r _ [6, 1, 7, 8, 9, 10, 11, 12, 13, 14, 15, 16, 17] (by decide +kernel) (by decide +kernel)
set_option maxRecDepth 20000 in
theorem gX7_drops_X7_place : GoodIn wsX7_drops (wsV RX7 62 RX7 yX7_place wsX7_place) := goodIn_app (goodIn_of _ (by decide +kernel)) ggX7_drops_X7_place
theorem dX7_drops_0 : decode cX7_drops 0 = .ok (.bipush 14, 2) := by decide +kernel
theorem dX7_drops_2 : decode cX7_drops 2 = .ok (.bipush 16, 2) := by decide +kernel
theorem dX7_drops_4 : decode cX7_drops 4 = .ok (.iload_n 1, 1) := by decide +kernel
theorem dX7_drops_5 : decode cX7_drops 5 = .ok (.imul, 1) := by decide +kernel
theorem dX7_drops_6 : decode cX7_drops 6 = .ok (.iadd, 1) := by decide +kernel
theorem dX7_drops_7 : decode cX7_drops 7 = .ok (.istore_n 3, 1) := by decide +kernel
theorem dX7_drops_8 : decode cX7_drops 8 = .ok (.aload_n 0, 1) := by decide +kernel
theorem dX7_drops_9 : decode cX7_drops 9 = .ok (.iload_n 1, 1) := by decide +kernel
theorem dX7_drops_10 : decode cX7_drops 10 = .ok (.iload_n 2, 1) := by decide +kernel
theorem dX7_drops_11 : decode cX7_drops 11 = .ok (.invokevirtual 62, 3) := by decide +kernel
theorem dX7_drops_14 : decode cX7_drops 14 = .ok (.istore 4, 2) := by decide +kernel
theorem dX7_drops_16 : decode cX7_drops 16 = .ok (.aload_n 0, 1) := by decide +kernel
theorem dX7_drops_17 : decode cX7_drops 17 = .ok (.getfield 7, 3) := by decide +kernel
theorem dX7_drops_20 : decode cX7_drops 20 = .ok (.iload_n 3, 1) := by decide +kernel
theorem dX7_drops_21 : decode cX7_drops 21 = .ok (.dup2, 1) := by decide +kernel
theorem dX7_drops_22 : decode cX7_drops 22 = .ok (.iaload, 1) := by decide +kernel
theorem dX7_drops_23 : decode cX7_drops 23 = .ok (.iconst 1, 1) := by decide +kernel
theorem dX7_drops_24 : decode cX7_drops 24 = .ok (.isub, 1) := by decide +kernel
theorem dX7_drops_25 : decode cX7_drops 25 = .ok (.iastore, 1) := by decide +kernel
theorem dX7_drops_26 : decode cX7_drops 26 = .ok (.iload_n 3, 1) := by decide +kernel
theorem dX7_drops_27 : decode cX7_drops 27 = .ok (.iconst 1, 1) := by decide +kernel
theorem dX7_drops_28 : decode cX7_drops 28 = .ok (.iadd, 1) := by decide +kernel
theorem dX7_drops_29 : decode cX7_drops 29 = .ok (.iconst 3, 1) := by decide +kernel
theorem dX7_drops_30 : decode cX7_drops 30 = .ok (.iload 4, 2) := by decide +kernel
theorem dX7_drops_32 : decode cX7_drops 32 = .ok (.imul, 1) := by decide +kernel
theorem dX7_drops_33 : decode cX7_drops 33 = .ok (.iadd, 1) := by decide +kernel
theorem dX7_drops_34 : decode cX7_drops 34 = .ok (.istore 5, 2) := by decide +kernel
theorem dX7_drops_36 : decode cX7_drops 36 = .ok (.iload 5, 2) := by decide +kernel
theorem dX7_drops_38 : decode cX7_drops 38 = .ok (.iload_n 3, 1) := by decide +kernel
theorem dX7_drops_39 : decode cX7_drops 39 = .ok (.iconst 3, 1) := by decide +kernel
theorem dX7_drops_40 : decode cX7_drops 40 = .ok (.aload_n 0, 1) := by decide +kernel
theorem dX7_drops_41 : decode cX7_drops 41 = .ok (.getfield 7, 3) := by decide +kernel
theorem dX7_drops_44 : decode cX7_drops 44 = .ok (.iload_n 3, 1) := by decide +kernel
theorem dX7_drops_45 : decode cX7_drops 45 = .ok (.iaload, 1) := by decide +kernel
theorem dX7_drops_46 : decode cX7_drops 46 = .ok (.imul, 1) := by decide +kernel
theorem dX7_drops_47 : decode cX7_drops 47 = .ok (.iadd, 1) := by decide +kernel
theorem dX7_drops_48 : decode cX7_drops 48 = .ok (.if_icmp .gt 25, 3) := by decide +kernel
theorem dX7_drops_51 : decode cX7_drops 51 = .ok (.aload_n 0, 1) := by decide +kernel
theorem dX7_drops_52 : decode cX7_drops 52 = .ok (.getfield 7, 3) := by decide +kernel
theorem dX7_drops_55 : decode cX7_drops 55 = .ok (.iload 5, 2) := by decide +kernel
theorem dX7_drops_57 : decode cX7_drops 57 = .ok (.aload_n 0, 1) := by decide +kernel
theorem dX7_drops_58 : decode cX7_drops 58 = .ok (.getfield 7, 3) := by decide +kernel
theorem dX7_drops_61 : decode cX7_drops 61 = .ok (.iload 5, 2) := by decide +kernel
theorem dX7_drops_63 : decode cX7_drops 63 = .ok (.iconst 3, 1) := by decide +kernel
theorem dX7_drops_64 : decode cX7_drops 64 = .ok (.iadd, 1) := by decide +kernel
theorem dX7_drops_65 : decode cX7_drops 65 = .ok (.iaload, 1) := by decide +kernel
theorem dX7_drops_66 : decode cX7_drops 66 = .ok (.iastore, 1) := by decide +kernel
theorem dX7_drops_67 : decode cX7_drops 67 = .ok (.iinc 5 1, 3) := by decide +kernel
theorem dX7_drops_70 : decode cX7_drops 70 = .ok (.goto (-34), 3) := by decide +kernel
theorem dX7_drops_73 : decode cX7_drops 73 = .ok (.return_, 1) := by decide +kernel
set_option maxRecDepth 20000 in
theorem ggX7_setStep_X7_in : GoodIn wsX7_setStep wsX7_in := goodIn_r _ [5] (by decide +kernel) (by decide +kernel)
set_option maxRecDepth 20000 in
theorem gX7_setStep_X7_in : GoodIn wsX7_setStep (va_wsS RX7 31 yX7_in wsX7_in) := goodIn_app (goodIn_of _ (by decide +kernel)) ggX7_setStep_X7_in
set_option maxRecDepth 20000 in
theorem ggX7_setStep_X7_hasStep : GoodIn wsX7_setStep wsX7_hasStep := goodIn_r _ [9, 1, 10, 11, 12, 4, 13, 28, 29, 30, 31, 32, 33, 34, 35, 36, 37, 38] (by decide +kernel) (by decide +kernel)
set_option maxRecDepth 20000 in
theorem gX7_setStep_X7_hasStep : GoodIn wsX7_setStep (wsV RX7 65 RX7 yX7_hasStep wsX7_hasStep) := goodIn_app (goodIn_of _ (by decide +kernel)) ggX7_setStep_X7_hasStep
set_option maxRecDepth 20000 in
theorem ggX7_setStep_X7_notes : GoodIn wsX7_setStep wsX7_notes := goodIn_r _ [17, 18, 19, 1, 28, 29, 30, 31, 32, 33, 34, 35, 36, 37, 38] (by decide +kernel) (by decide +kernel)
set_option maxRecDepth 20000 in
theorem gX7_setStep_X7_notes : GoodIn wsX7_setStep (wsV RX7 51 RX7 yX7_notes wsX7_notes) := goodIn_app (goodIn_of _ (by decide +kernel)) ggX7_setStep_X7_notes
set_option maxRecDepth 20000 in
theorem ggX7_setStep_X7_drops : GoodIn wsX7_setStep wsX7_drops := goodIn_r _ [23, 1, 10, 11, 12, 4, 13, 28, 29, 30, 31, 32, 33, 34, 35, 36, 37, 38] (by decide +kernel) (by decide +kernel)
set_option maxRecDepth 20000 in
theorem gX7_setStep_X7_drops : GoodIn wsX7_setStep (wsV RX7 68 RX7 yX7_drops wsX7_drops) := goodIn_app (goodIn_of _ (by decide +kernel)) ggX7_setStep_X7_drops
set_option maxRecDepth 20000 in
theorem ggX7_setStep_X7_puts : GoodIn wsX7_setStep wsX7_puts := goodIn_r _ [27, 1, 10, 11, 12, 4, 13, 6, 7, 8, 9, 28, 29, 30, 31, 32, 33, 34, 35, 36, 37, 38] (by decide +kernel) (by decide +kernel)
set_option maxRecDepth 20000 in
theorem gX7_setStep_X7_puts : GoodIn wsX7_setStep (wsV RX7 23 RX7 yX7_puts wsX7_puts) := goodIn_app (goodIn_of _ (by decide +kernel)) ggX7_setStep_X7_puts
theorem dX7_setStep_0 : decode cX7_setStep 0 = .ok (.iload_n 1, 1) := by decide +kernel
theorem dX7_setStep_1 : decode cX7_setStep 1 = .ok (.iconst 0, 1) := by decide +kernel
theorem dX7_setStep_2 : decode cX7_setStep 2 = .ok (.iconst 1, 1) := by decide +kernel
theorem dX7_setStep_3 : decode cX7_setStep 3 = .ok (.invokestatic 31, 3) := by decide +kernel
theorem dX7_setStep_6 : decode cX7_setStep 6 = .ok (.ifCond .eq 37, 3) := by decide +kernel
theorem dX7_setStep_9 : decode cX7_setStep 9 = .ok (.iload_n 2, 1) := by decide +kernel
theorem dX7_setStep_10 : decode cX7_setStep 10 = .ok (.iconst 0, 1) := by decide +kernel
theorem dX7_setStep_11 : decode cX7_setStep 11 = .ok (.sipush 1440, 3) := by decide +kernel
theorem dX7_setStep_14 : decode cX7_setStep 14 = .ok (.invokestatic 31, 3) := by decide +kernel
theorem dX7_setStep_17 : decode cX7_setStep 17 = .ok (.ifCond .eq 26, 3) := by decide +kernel
theorem dX7_setStep_20 : decode cX7_setStep 20 = .ok (.iload_n 3, 1) := by decide +kernel
theorem dX7_setStep_21 : decode cX7_setStep 21 = .ok (.iconst 0, 1) := by decide +kernel
theorem dX7_setStep_22 : decode cX7_setStep 22 = .ok (.sipush 240, 3) := by decide +kernel
theorem dX7_setStep_25 : decode cX7_setStep 25 = .ok (.invokestatic 31, 3) := by decide +kernel
theorem dX7_setStep_28 : decode cX7_setStep 28 = .ok (.ifCond .eq 15, 3) := by decide +kernel
theorem dX7_setStep_31 : decode cX7_setStep 31 = .ok (.iload 4, 2) := by decide +kernel
theorem dX7_setStep_33 : decode cX7_setStep 33 = .ok (.iconst 0, 1) := by decide +kernel
theorem dX7_setStep_34 : decode cX7_setStep 34 = .ok (.sipush 5000, 3) := by decide +kernel
theorem dX7_setStep_37 : decode cX7_setStep 37 = .ok (.invokestatic 31, 3) := by decide +kernel
theorem dX7_setStep_40 : decode cX7_setStep 40 = .ok (.ifCond .ne 5, 3) := by decide +kernel
theorem dX7_setStep_43 : decode cX7_setStep 43 = .ok (.iconst (-1), 1) := by decide +kernel
theorem dX7_setStep_44 : decode cX7_setStep 44 = .ok (.ireturn, 1) := by decide +kernel
theorem dX7_setStep_45 : decode cX7_setStep 45 = .ok (.aload_n 0, 1) := by decide +kernel
theorem dX7_setStep_46 : decode cX7_setStep 46 = .ok (.iload_n 1, 1) := by decide +kernel
theorem dX7_setStep_47 : decode cX7_setStep 47 = .ok (.iload_n 2, 1) := by decide +kernel
theorem dX7_setStep_48 : decode cX7_setStep 48 = .ok (.invokevirtual 65, 3) := by decide +kernel
theorem dX7_setStep_51 : decode cX7_setStep 51 = .ok (.istore 5, 2) := by decide +kernel
theorem dX7_setStep_53 : decode cX7_setStep 53 = .ok (.iload_n 3, 1) := by decide +kernel
theorem dX7_setStep_54 : decode cX7_setStep 54 = .ok (.ifCond .ne 11, 3) := by decide +kernel
theorem dX7_setStep_57 : decode cX7_setStep 57 = .ok (.iload 5, 2) := by decide +kernel
theorem dX7_setStep_59 : decode cX7_setStep 59 = .ok (.ifCond .ne 6, 3) := by decide +kernel
theorem dX7_setStep_62 : decode cX7_setStep 62 = .ok (.bipush (-2), 2) := by decide +kernel
theorem dX7_setStep_64 : decode cX7_setStep 64 = .ok (.ireturn, 1) := by decide +kernel
theorem dX7_setStep_65 : decode cX7_setStep 65 = .ok (.iload 5, 2) := by decide +kernel
theorem dX7_setStep_67 : decode cX7_setStep 67 = .ok (.ifCond .ne 22, 3) := by decide +kernel
theorem dX7_setStep_70 : decode cX7_setStep 70 = .ok (.aload_n 0, 1) := by decide +kernel
theorem dX7_setStep_71 : decode cX7_setStep 71 = .ok (.getfield 7, 3) := by decide +kernel
theorem dX7_setStep_74 : decode cX7_setStep 74 = .ok (.bipush 14, 2) := by decide +kernel
theorem dX7_setStep_76 : decode cX7_setStep 76 = .ok (.bipush 16, 2) := by decide +kernel
theorem dX7_setStep_78 : decode cX7_setStep 78 = .ok (.iload_n 1, 1) := by decide +kernel
theorem dX7_setStep_79 : decode cX7_setStep 79 = .ok (.imul, 1) := by decide +kernel
theorem dX7_setStep_80 : decode cX7_setStep 80 = .ok (.iadd, 1) := by decide +kernel
theorem dX7_setStep_81 : decode cX7_setStep 81 = .ok (.iaload, 1) := by decide +kernel
theorem dX7_setStep_82 : decode cX7_setStep 82 = .ok (.iconst 5, 1) := by decide +kernel
theorem dX7_setStep_83 : decode cX7_setStep 83 = .ok (.if_icmp .ne 6, 3) := by decide +kernel
theorem dX7_setStep_86 : decode cX7_setStep 86 = .ok (.bipush (-3), 2) := by decide +kernel
theorem dX7_setStep_88 : decode cX7_setStep 88 = .ok (.ireturn, 1) := by decide +kernel
theorem dX7_setStep_89 : decode cX7_setStep 89 = .ok (.aload_n 0, 1) := by decide +kernel
theorem dX7_setStep_90 : decode cX7_setStep 90 = .ok (.invokevirtual 51, 3) := by decide +kernel
theorem dX7_setStep_93 : decode cX7_setStep 93 = .ok (.iload_n 3, 1) := by decide +kernel
theorem dX7_setStep_94 : decode cX7_setStep 94 = .ok (.ifCond .ne 12, 3) := by decide +kernel
theorem dX7_setStep_97 : decode cX7_setStep 97 = .ok (.aload_n 0, 1) := by decide +kernel
theorem dX7_setStep_98 : decode cX7_setStep 98 = .ok (.iload_n 1, 1) := by decide +kernel
theorem dX7_setStep_99 : decode cX7_setStep 99 = .ok (.iload_n 2, 1) := by decide +kernel
theorem dX7_setStep_100 : decode cX7_setStep 100 = .ok (.invokevirtual 68, 3) := by decide +kernel
theorem dX7_setStep_103 : decode cX7_setStep 103 = .ok (.goto 12, 3) := by decide +kernel
theorem dX7_setStep_106 : decode cX7_setStep 106 = .ok (.aload_n 0, 1) := by decide +kernel
theorem dX7_setStep_107 : decode cX7_setStep 107 = .ok (.iload_n 1, 1) := by decide +kernel
theorem dX7_setStep_108 : decode cX7_setStep 108 = .ok (.iload_n 2, 1) := by decide +kernel
theorem dX7_setStep_109 : decode cX7_setStep 109 = .ok (.iload_n 3, 1) := by decide +kernel
theorem dX7_setStep_110 : decode cX7_setStep 110 = .ok (.iload 4, 2) := by decide +kernel
theorem dX7_setStep_112 : decode cX7_setStep 112 = .ok (.invokevirtual 23, 3) := by decide +kernel
theorem dX7_setStep_115 : decode cX7_setStep 115 = .ok (.aload_n 0, 1) := by decide +kernel
theorem dX7_setStep_116 : decode cX7_setStep 116 = .ok (.getfield 7, 3) := by decide +kernel
theorem dX7_setStep_119 : decode cX7_setStep 119 = .ok (.bipush 14, 2) := by decide +kernel
theorem dX7_setStep_121 : decode cX7_setStep 121 = .ok (.bipush 16, 2) := by decide +kernel
theorem dX7_setStep_123 : decode cX7_setStep 123 = .ok (.iload_n 1, 1) := by decide +kernel
theorem dX7_setStep_124 : decode cX7_setStep 124 = .ok (.imul, 1) := by decide +kernel
theorem dX7_setStep_125 : decode cX7_setStep 125 = .ok (.iadd, 1) := by decide +kernel
theorem dX7_setStep_126 : decode cX7_setStep 126 = .ok (.iaload, 1) := by decide +kernel
theorem dX7_setStep_127 : decode cX7_setStep 127 = .ok (.ireturn, 1) := by decide +kernel
set_option maxRecDepth 20000 in
theorem ggX7_sum_X7_lesser : GoodIn wsX7_sum wsX7_lesser := goodIn_r _ [5] (by decide +kernel) (by decide +kernel)
set_option maxRecDepth 20000 in
theorem gX7_sum_X7_lesser : GoodIn wsX7_sum (va_wsS RX7 72 yX7_lesser wsX7_lesser) := goodIn_app (goodIn_of _ (by decide +kernel)) ggX7_sum_X7_lesser
theorem dX7_sum_0 : decode cX7_sum 0 = .ok (.bipush 14, 2) := by decide +kernel
theorem dX7_sum_2 : decode cX7_sum 2 = .ok (.bipush 16, 2) := by decide +kernel
theorem dX7_sum_4 : decode cX7_sum 4 = .ok (.iload_n 1, 1) := by decide +kernel
theorem dX7_sum_5 : decode cX7_sum 5 = .ok (.imul, 1) := by decide +kernel
theorem dX7_sum_6 : decode cX7_sum 6 = .ok (.iadd, 1) := by decide +kernel
theorem dX7_sum_7 : decode cX7_sum 7 = .ok (.istore_n 3, 1) := by decide +kernel
theorem dX7_sum_8 : decode cX7_sum 8 = .ok (.iconst 0, 1) := by decide +kernel
theorem dX7_sum_9 : decode cX7_sum 9 = .ok (.istore 4, 2) := by decide +kernel
theorem dX7_sum_11 : decode cX7_sum 11 = .ok (.iconst 0, 1) := by decide +kernel
theorem dX7_sum_12 : decode cX7_sum 12 = .ok (.istore 5, 2) := by decide +kernel
theorem dX7_sum_14 : decode cX7_sum 14 = .ok (.iload 5, 2) := by decide +kernel
theorem dX7_sum_16 : decode cX7_sum 16 = .ok (.aload_n 0, 1) := by decide +kernel
theorem dX7_sum_17 : decode cX7_sum 17 = .ok (.getfield 7, 3) := by decide +kernel
theorem dX7_sum_20 : decode cX7_sum 20 = .ok (.iload_n 3, 1) := by decide +kernel
theorem dX7_sum_21 : decode cX7_sum 21 = .ok (.iaload, 1) := by decide +kernel
theorem dX7_sum_22 : decode cX7_sum 22 = .ok (.if_icmp .ge 117, 3) := by decide +kernel
theorem dX7_sum_25 : decode cX7_sum 25 = .ok (.aload_n 0, 1) := by decide +kernel
theorem dX7_sum_26 : decode cX7_sum 26 = .ok (.getfield 7, 3) := by decide +kernel
theorem dX7_sum_29 : decode cX7_sum 29 = .ok (.iload_n 3, 1) := by decide +kernel
theorem dX7_sum_30 : decode cX7_sum 30 = .ok (.iconst 1, 1) := by decide +kernel
theorem dX7_sum_31 : decode cX7_sum 31 = .ok (.iadd, 1) := by decide +kernel
theorem dX7_sum_32 : decode cX7_sum 32 = .ok (.iconst 3, 1) := by decide +kernel
theorem dX7_sum_33 : decode cX7_sum 33 = .ok (.iload 5, 2) := by decide +kernel
theorem dX7_sum_35 : decode cX7_sum 35 = .ok (.imul, 1) := by decide +kernel
theorem dX7_sum_36 : decode cX7_sum 36 = .ok (.iadd, 1) := by decide +kernel
theorem dX7_sum_37 : decode cX7_sum 37 = .ok (.iaload, 1) := by decide +kernel
theorem dX7_sum_38 : decode cX7_sum 38 = .ok (.istore 6, 2) := by decide +kernel
theorem dX7_sum_40 : decode cX7_sum 40 = .ok (.iload 5, 2) := by decide +kernel
theorem dX7_sum_42 : decode cX7_sum 42 = .ok (.iconst 1, 1) := by decide +kernel
theorem dX7_sum_43 : decode cX7_sum 43 = .ok (.iadd, 1) := by decide +kernel
theorem dX7_sum_44 : decode cX7_sum 44 = .ok (.aload_n 0, 1) := by decide +kernel
theorem dX7_sum_45 : decode cX7_sum 45 = .ok (.getfield 7, 3) := by decide +kernel
theorem dX7_sum_48 : decode cX7_sum 48 = .ok (.iload_n 3, 1) := by decide +kernel
theorem dX7_sum_49 : decode cX7_sum 49 = .ok (.iaload, 1) := by decide +kernel
theorem dX7_sum_50 : decode cX7_sum 50 = .ok (.if_icmp .ge 23, 3) := by decide +kernel
theorem dX7_sum_53 : decode cX7_sum 53 = .ok (.iload_n 2, 1) := by decide +kernel
theorem dX7_sum_54 : decode cX7_sum 54 = .ok (.aload_n 0, 1) := by decide +kernel
theorem dX7_sum_55 : decode cX7_sum 55 = .ok (.getfield 7, 3) := by decide +kernel
theorem dX7_sum_58 : decode cX7_sum 58 = .ok (.iload_n 3, 1) := by decide +kernel
theorem dX7_sum_59 : decode cX7_sum 59 = .ok (.iconst 4, 1) := by decide +kernel
theorem dX7_sum_60 : decode cX7_sum 60 = .ok (.iadd, 1) := by decide +kernel
theorem dX7_sum_61 : decode cX7_sum 61 = .ok (.iconst 3, 1) := by decide +kernel
theorem dX7_sum_62 : decode cX7_sum 62 = .ok (.iload 5, 2) := by decide +kernel
theorem dX7_sum_64 : decode cX7_sum 64 = .ok (.imul, 1) := by decide +kernel
theorem dX7_sum_65 : decode cX7_sum 65 = .ok (.iadd, 1) := by decide +kernel
theorem dX7_sum_66 : decode cX7_sum 66 = .ok (.iaload, 1) := by decide +kernel
theorem dX7_sum_67 : decode cX7_sum 67 = .ok (.invokestatic 72, 3) := by decide +kernel
theorem dX7_sum_70 : decode cX7_sum 70 = .ok (.goto 4, 3) := by decide +kernel
theorem dX7_sum_73 : decode cX7_sum 73 = .ok (.iload_n 2, 1) := by decide +kernel
theorem dX7_sum_74 : decode cX7_sum 74 = .ok (.istore 7, 2) := by decide +kernel
theorem dX7_sum_76 : decode cX7_sum 76 = .ok (.aload_n 0, 1) := by decide +kernel
theorem dX7_sum_77 : decode cX7_sum 77 = .ok (.getfield 7, 3) := by decide +kernel
theorem dX7_sum_80 : decode cX7_sum 80 = .ok (.iload_n 3, 1) := by decide +kernel
theorem dX7_sum_81 : decode cX7_sum 81 = .ok (.iconst 2, 1) := by decide +kernel
theorem dX7_sum_82 : decode cX7_sum 82 = .ok (.iadd, 1) := by decide +kernel
theorem dX7_sum_83 : decode cX7_sum 83 = .ok (.iconst 3, 1) := by decide +kernel
theorem dX7_sum_84 : decode cX7_sum 84 = .ok (.iload 5, 2) := by decide +kernel
theorem dX7_sum_86 : decode cX7_sum 86 = .ok (.imul, 1) := by decide +kernel
theorem dX7_sum_87 : decode cX7_sum 87 = .ok (.iadd, 1) := by decide +kernel
theorem dX7_sum_88 : decode cX7_sum 88 = .ok (.iaload, 1) := by decide +kernel
theorem dX7_sum_89 : decode cX7_sum 89 = .ok (.istore 8, 2) := by decide +kernel
theorem dX7_sum_91 : decode cX7_sum 91 = .ok (.iload 4, 2) := by decide +kernel
theorem dX7_sum_93 : decode cX7_sum 93 = .ok (.iload 6, 2) := by decide +kernel
theorem dX7_sum_95 : decode cX7_sum 95 = .ok (.iload_n 2, 1) := by decide +kernel
theorem dX7_sum_96 : decode cX7_sum 96 = .ok (.if_icmp .ge 33, 3) := by decide +kernel
theorem dX7_sum_99 : decode cX7_sum 99 = .ok (.aload_n 0, 1) := by decide +kernel
theorem dX7_sum_100 : decode cX7_sum 100 = .ok (.getfield 7, 3) := by decide +kernel
theorem dX7_sum_103 : decode cX7_sum 103 = .ok (.iload_n 3, 1) := by decide +kernel
theorem dX7_sum_104 : decode cX7_sum 104 = .ok (.iconst 3, 1) := by decide +kernel
theorem dX7_sum_105 : decode cX7_sum 105 = .ok (.iadd, 1) := by decide +kernel
theorem dX7_sum_106 : decode cX7_sum 106 = .ok (.iconst 3, 1) := by decide +kernel
theorem dX7_sum_107 : decode cX7_sum 107 = .ok (.iload 5, 2) := by decide +kernel
theorem dX7_sum_109 : decode cX7_sum 109 = .ok (.imul, 1) := by decide +kernel
theorem dX7_sum_110 : decode cX7_sum 110 = .ok (.iadd, 1) := by decide +kernel
theorem dX7_sum_111 : decode cX7_sum 111 = .ok (.iaload, 1) := by decide +kernel
theorem dX7_sum_112 : decode cX7_sum 112 = .ok (.iload 7, 2) := by decide +kernel
theorem dX7_sum_114 : decode cX7_sum 114 = .ok (.iload 6, 2) := by decide +kernel
theorem dX7_sum_116 : decode cX7_sum 116 = .ok (.isub, 1) := by decide +kernel
theorem dX7_sum_117 : decode cX7_sum 117 = .ok (.iload 8, 2) := by decide +kernel
theorem dX7_sum_119 : decode cX7_sum 119 = .ok (.iadd, 1) := by decide +kernel
theorem dX7_sum_120 : decode cX7_sum 120 = .ok (.iconst 1, 1) := by decide +kernel
theorem dX7_sum_121 : decode cX7_sum 121 = .ok (.isub, 1) := by decide +kernel
theorem dX7_sum_122 : decode cX7_sum 122 = .ok (.iload 8, 2) := by decide +kernel
theorem dX7_sum_124 : decode cX7_sum 124 = .ok (.idiv, 1) := by decide +kernel
theorem dX7_sum_125 : decode cX7_sum 125 = .ok (.imul, 1) := by decide +kernel
theorem dX7_sum_126 : decode cX7_sum 126 = .ok (.goto 4, 3) := by decide +kernel
theorem dX7_sum_129 : decode cX7_sum 129 = .ok (.iconst 0, 1) := by decide +kernel
theorem dX7_sum_130 : decode cX7_sum 130 = .ok (.iadd, 1) := by decide +kernel
theorem dX7_sum_131 : decode cX7_sum 131 = .ok (.istore 4, 2) := by decide +kernel
theorem dX7_sum_133 : decode cX7_sum 133 = .ok (.iinc 5 1, 3) := by decide +kernel
theorem dX7_sum_136 : decode cX7_sum 136 = .ok (.goto (-122), 3) := by decide +kernel
theorem dX7_sum_139 : decode cX7_sum 139 = .ok (.iload 4, 2) := by decide +kernel
theorem dX7_sum_141 : decode cX7_sum 141 = .ok (.ireturn, 1) := by decide +kernel
set_option maxRecDepth 20000 in
theorem ggX7_normal_X7_sum : GoodIn wsX7_normal wsX7_sum := goodIn_r _ [6, 1, 7, 8, 5, 9, 10, 11, 12, 13, 14, 15, 16, 17, 18, 19, 20] (by decide +kernel) (by decide +kernel)
set_option maxRecDepth 20000 in
theorem gX7_normal_X7_sum : GoodIn wsX7_normal (wsV RX7 75 RX7 yX7_sum wsX7_sum) := goodIn_app (goodIn_of _ (by decide +kernel)) ggX7_normal_X7_sum
set_option maxRecDepth 20000 in
theorem ggX7_normal_X7_lesser : GoodIn wsX7_normal wsX7_lesser := goodIn_r _ [9] (by decide +kernel) (by decide +kernel)
set_option maxRecDepth 20000 in
theorem gX7_normal_X7_lesser : GoodIn wsX7_normal (va_wsS RX7 72 yX7_lesser wsX7_lesser) := goodIn_app (goodIn_of _ (by decide +kernel)) ggX7_normal_X7_lesser
theorem dX7_normal_0 : decode cX7_normal 0 = .ok (.iload_n 1, 1) := by decide +kernel
theorem dX7_normal_1 : decode cX7_normal 1 = .ok (.aload_n 0, 1) := by decide +kernel
theorem dX7_normal_2 : decode cX7_normal 2 = .ok (.getfield 7, 3) := by decide +kernel
theorem dX7_normal_5 : decode cX7_normal 5 = .ok (.bipush 7, 2) := by decide +kernel
theorem dX7_normal_7 : decode cX7_normal 7 = .ok (.iaload, 1) := by decide +kernel
theorem dX7_normal_8 : decode cX7_normal 8 = .ok (.if_icmp .gt 7, 3) := by decide +kernel
theorem dX7_normal_11 : decode cX7_normal 11 = .ok (.iconst 0, 1) := by decide +kernel
theorem dX7_normal_12 : decode cX7_normal 12 = .ok (.goto 31, 3) := by decide +kernel
theorem dX7_normal_15 : decode cX7_normal 15 = .ok (.aload_n 0, 1) := by decide +kernel
theorem dX7_normal_16 : decode cX7_normal 16 = .ok (.iconst 0, 1) := by decide +kernel
theorem dX7_normal_17 : decode cX7_normal 17 = .ok (.iload_n 1, 1) := by decide +kernel
theorem dX7_normal_18 : decode cX7_normal 18 = .ok (.invokevirtual 75, 3) := by decide +kernel
theorem dX7_normal_21 : decode cX7_normal 21 = .ok (.aload_n 0, 1) := by decide +kernel
theorem dX7_normal_22 : decode cX7_normal 22 = .ok (.getfield 7, 3) := by decide +kernel
theorem dX7_normal_25 : decode cX7_normal 25 = .ok (.bipush 8, 2) := by decide +kernel
theorem dX7_normal_27 : decode cX7_normal 27 = .ok (.iaload, 1) := by decide +kernel
theorem dX7_normal_28 : decode cX7_normal 28 = .ok (.iload_n 1, 1) := by decide +kernel
theorem dX7_normal_29 : decode cX7_normal 29 = .ok (.sipush 1440, 3) := by decide +kernel
theorem dX7_normal_32 : decode cX7_normal 32 = .ok (.iadd, 1) := by decide +kernel
theorem dX7_normal_33 : decode cX7_normal 33 = .ok (.iconst 1, 1) := by decide +kernel
theorem dX7_normal_34 : decode cX7_normal 34 = .ok (.isub, 1) := by decide +kernel
theorem dX7_normal_35 : decode cX7_normal 35 = .ok (.sipush 1440, 3) := by decide +kernel
theorem dX7_normal_38 : decode cX7_normal 38 = .ok (.idiv, 1) := by decide +kernel
theorem dX7_normal_39 : decode cX7_normal 39 = .ok (.imul, 1) := by decide +kernel
theorem dX7_normal_40 : decode cX7_normal 40 = .ok (.invokestatic 72, 3) := by decide +kernel
theorem dX7_normal_43 : decode cX7_normal 43 = .ok (.ireturn, 1) := by decide +kernel
theorem dX7_most_0 : decode cX7_most 0 = .ok (.iload_n 0, 1) := by decide +kernel
theorem dX7_most_1 : decode cX7_most 1 = .ok (.ifCond .ne 9, 3) := by decide +kernel
theorem dX7_most_4 : decode cX7_most 4 = .ok (.sipush 200, 3) := by decide +kernel
theorem dX7_most_7 : decode cX7_most 7 = .ok (.goto 25, 3) := by decide +kernel
theorem dX7_most_10 : decode cX7_most 10 = .ok (.iload_n 0, 1) := by decide +kernel
theorem dX7_most_11 : decode cX7_most 11 = .ok (.iconst 1, 1) := by decide +kernel
theorem dX7_most_12 : decode cX7_most 12 = .ok (.if_icmp .ne 8, 3) := by decide +kernel
theorem dX7_most_15 : decode cX7_most 15 = .ok (.bipush 120, 2) := by decide +kernel
theorem dX7_most_17 : decode cX7_most 17 = .ok (.goto 15, 3) := by decide +kernel
theorem dX7_most_20 : decode cX7_most 20 = .ok (.iload_n 0, 1) := by decide +kernel
theorem dX7_most_21 : decode cX7_most 21 = .ok (.iconst 2, 1) := by decide +kernel
theorem dX7_most_22 : decode cX7_most 22 = .ok (.if_icmp .ne 8, 3) := by decide +kernel
theorem dX7_most_25 : decode cX7_most 25 = .ok (.bipush 60, 2) := by decide +kernel
theorem dX7_most_27 : decode cX7_most 27 = .ok (.goto 5, 3) := by decide +kernel
theorem dX7_most_30 : decode cX7_most 30 = .ok (.ldc 78, 2) := by decide +kernel
theorem dX7_most_32 : decode cX7_most 32 = .ok (.ireturn, 1) := by decide +kernel
set_option maxRecDepth 20000 in
theorem ggX7_setNumber_X7_in : GoodIn wsX7_setNumber wsX7_in := goodIn_r _ [5] (by decide +kernel) (by decide +kernel)
set_option maxRecDepth 20000 in
theorem gX7_setNumber_X7_in : GoodIn wsX7_setNumber (va_wsS RX7 31 yX7_in wsX7_in) := goodIn_app (goodIn_of _ (by decide +kernel)) ggX7_setNumber_X7_in
set_option maxRecDepth 20000 in
theorem ggX7_setNumber_X7_most : GoodIn wsX7_setNumber wsX7_most := goodIn_r _ [8, 9] (by decide +kernel) (by decide +kernel)
set_option maxRecDepth 20000 in
theorem gX7_setNumber_X7_most : GoodIn wsX7_setNumber (va_wsS RX7 79 yX7_most wsX7_most) := goodIn_app (goodIn_of _ (by decide +kernel)) ggX7_setNumber_X7_most
set_option maxRecDepth 20000 in
theorem ggX7_setNumber_X7_notes : GoodIn wsX7_setNumber wsX7_notes := goodIn_r _ [13, 14, 15, 1, 16, 17, 18, 19, 20, 21, 22, 23, 24, 25, 26] (by decide +kernel) (by decide +kernel)
set_option maxRecDepth 20000 in
theorem gX7_setNumber_X7_notes : GoodIn wsX7_setNumber (wsV RX7 51 RX7 yX7_notes wsX7_notes) := goodIn_app (goodIn_of _ (by decide +kernel)) ggX7_setNumber_X7_notes
theorem dX7_setNumber_0 : decode cX7_setNumber 0 = .ok (.iload_n 1, 1) := by decide +kernel
theorem dX7_setNumber_1 : decode cX7_setNumber 1 = .ok (.iconst 0, 1) := by decide +kernel
theorem dX7_setNumber_2 : decode cX7_setNumber 2 = .ok (.iconst 4, 1) := by decide +kernel
theorem dX7_setNumber_3 : decode cX7_setNumber 3 = .ok (.invokestatic 31, 3) := by decide +kernel
theorem dX7_setNumber_6 : decode cX7_setNumber 6 = .ok (.ifCond .eq 23, 3) := by decide +kernel
theorem dX7_setNumber_9 : decode cX7_setNumber 9 = .ok (.iload_n 2, 1) := by decide +kernel
theorem dX7_setNumber_10 : decode cX7_setNumber 10 = .ok (.iload_n 1, 1) := by decide +kernel
theorem dX7_setNumber_11 : decode cX7_setNumber 11 = .ok (.ifCond .ne 7, 3) := by decide +kernel
theorem dX7_setNumber_14 : decode cX7_setNumber 14 = .ok (.iconst 1, 1) := by decide +kernel
theorem dX7_setNumber_15 : decode cX7_setNumber 15 = .ok (.goto 4, 3) := by decide +kernel
theorem dX7_setNumber_18 : decode cX7_setNumber 18 = .ok (.iconst 0, 1) := by decide +kernel
theorem dX7_setNumber_19 : decode cX7_setNumber 19 = .ok (.iload_n 1, 1) := by decide +kernel
theorem dX7_setNumber_20 : decode cX7_setNumber 20 = .ok (.invokestatic 79, 3) := by decide +kernel
theorem dX7_setNumber_23 : decode cX7_setNumber 23 = .ok (.invokestatic 31, 3) := by decide +kernel
theorem dX7_setNumber_26 : decode cX7_setNumber 26 = .ok (.ifCond .ne 5, 3) := by decide +kernel
theorem dX7_setNumber_29 : decode cX7_setNumber 29 = .ok (.iconst (-1), 1) := by decide +kernel
theorem dX7_setNumber_30 : decode cX7_setNumber 30 = .ok (.ireturn, 1) := by decide +kernel
theorem dX7_setNumber_31 : decode cX7_setNumber 31 = .ok (.aload_n 0, 1) := by decide +kernel
theorem dX7_setNumber_32 : decode cX7_setNumber 32 = .ok (.invokevirtual 51, 3) := by decide +kernel
theorem dX7_setNumber_35 : decode cX7_setNumber 35 = .ok (.aload_n 0, 1) := by decide +kernel
theorem dX7_setNumber_36 : decode cX7_setNumber 36 = .ok (.getfield 7, 3) := by decide +kernel
theorem dX7_setNumber_39 : decode cX7_setNumber 39 = .ok (.iconst 5, 1) := by decide +kernel
theorem dX7_setNumber_40 : decode cX7_setNumber 40 = .ok (.iload_n 1, 1) := by decide +kernel
theorem dX7_setNumber_41 : decode cX7_setNumber 41 = .ok (.iadd, 1) := by decide +kernel
theorem dX7_setNumber_42 : decode cX7_setNumber 42 = .ok (.iaload, 1) := by decide +kernel
theorem dX7_setNumber_43 : decode cX7_setNumber 43 = .ok (.istore_n 3, 1) := by decide +kernel
theorem dX7_setNumber_44 : decode cX7_setNumber 44 = .ok (.aload_n 0, 1) := by decide +kernel
theorem dX7_setNumber_45 : decode cX7_setNumber 45 = .ok (.getfield 7, 3) := by decide +kernel
theorem dX7_setNumber_48 : decode cX7_setNumber 48 = .ok (.iconst 5, 1) := by decide +kernel
theorem dX7_setNumber_49 : decode cX7_setNumber 49 = .ok (.iload_n 1, 1) := by decide +kernel
theorem dX7_setNumber_50 : decode cX7_setNumber 50 = .ok (.iadd, 1) := by decide +kernel
theorem dX7_setNumber_51 : decode cX7_setNumber 51 = .ok (.iload_n 2, 1) := by decide +kernel
theorem dX7_setNumber_52 : decode cX7_setNumber 52 = .ok (.iastore, 1) := by decide +kernel
theorem dX7_setNumber_53 : decode cX7_setNumber 53 = .ok (.iload_n 3, 1) := by decide +kernel
theorem dX7_setNumber_54 : decode cX7_setNumber 54 = .ok (.ireturn, 1) := by decide +kernel
set_option maxRecDepth 20000 in
theorem ggX7_appendCharacter_X7_in : GoodIn wsX7_appendCharacter wsX7_in := goodIn_r _ [6] (by decide +kernel) (by decide +kernel)
set_option maxRecDepth 20000 in
theorem gX7_appendCharacter_X7_in : GoodIn wsX7_appendCharacter (va_wsS RX7 31 yX7_in wsX7_in) := goodIn_app (goodIn_of _ (by decide +kernel)) ggX7_appendCharacter_X7_in
theorem dX7_appendCharacter_0 : decode cX7_appendCharacter 0 = .ok (.iload_n 1, 1) := by decide +kernel
theorem dX7_appendCharacter_1 : decode cX7_appendCharacter 1 = .ok (.iconst 0, 1) := by decide +kernel
theorem dX7_appendCharacter_2 : decode cX7_appendCharacter 2 = .ok (.sipush 255, 3) := by decide +kernel
theorem dX7_appendCharacter_5 : decode cX7_appendCharacter 5 = .ok (.invokestatic 31, 3) := by decide +kernel
theorem dX7_appendCharacter_8 : decode cX7_appendCharacter 8 = .ok (.ifCond .ne 5, 3) := by decide +kernel
theorem dX7_appendCharacter_11 : decode cX7_appendCharacter 11 = .ok (.iconst (-1), 1) := by decide +kernel
theorem dX7_appendCharacter_12 : decode cX7_appendCharacter 12 = .ok (.ireturn, 1) := by decide +kernel
theorem dX7_appendCharacter_13 : decode cX7_appendCharacter 13 = .ok (.aload_n 0, 1) := by decide +kernel
theorem dX7_appendCharacter_14 : decode cX7_appendCharacter 14 = .ok (.getfield 82, 3) := by decide +kernel
theorem dX7_appendCharacter_17 : decode cX7_appendCharacter 17 = .ok (.bipush 120, 2) := by decide +kernel
theorem dX7_appendCharacter_19 : decode cX7_appendCharacter 19 = .ok (.if_icmp .ne 6, 3) := by decide +kernel
theorem dX7_appendCharacter_22 : decode cX7_appendCharacter 22 = .ok (.bipush (-3), 2) := by decide +kernel
theorem dX7_appendCharacter_24 : decode cX7_appendCharacter 24 = .ok (.ireturn, 1) := by decide +kernel
theorem dX7_appendCharacter_25 : decode cX7_appendCharacter 25 = .ok (.aload_n 0, 1) := by decide +kernel
theorem dX7_appendCharacter_26 : decode cX7_appendCharacter 26 = .ok (.getfield 19, 3) := by decide +kernel
theorem dX7_appendCharacter_29 : decode cX7_appendCharacter 29 = .ok (.aload_n 0, 1) := by decide +kernel
theorem dX7_appendCharacter_30 : decode cX7_appendCharacter 30 = .ok (.getfield 82, 3) := by decide +kernel
theorem dX7_appendCharacter_33 : decode cX7_appendCharacter 33 = .ok (.iload_n 1, 1) := by decide +kernel
theorem dX7_appendCharacter_34 : decode cX7_appendCharacter 34 = .ok (.i2b, 1) := by decide +kernel
theorem dX7_appendCharacter_35 : decode cX7_appendCharacter 35 = .ok (.bastore, 1) := by decide +kernel
theorem dX7_appendCharacter_36 : decode cX7_appendCharacter 36 = .ok (.aload_n 0, 1) := by decide +kernel
theorem dX7_appendCharacter_37 : decode cX7_appendCharacter 37 = .ok (.dup, 1) := by decide +kernel
theorem dX7_appendCharacter_38 : decode cX7_appendCharacter 38 = .ok (.getfield 82, 3) := by decide +kernel
theorem dX7_appendCharacter_41 : decode cX7_appendCharacter 41 = .ok (.iconst 1, 1) := by decide +kernel
theorem dX7_appendCharacter_42 : decode cX7_appendCharacter 42 = .ok (.iadd, 1) := by decide +kernel
theorem dX7_appendCharacter_43 : decode cX7_appendCharacter 43 = .ok (.putfield 82, 3) := by decide +kernel
theorem dX7_appendCharacter_46 : decode cX7_appendCharacter 46 = .ok (.aload_n 0, 1) := by decide +kernel
theorem dX7_appendCharacter_47 : decode cX7_appendCharacter 47 = .ok (.getfield 82, 3) := by decide +kernel
theorem dX7_appendCharacter_50 : decode cX7_appendCharacter 50 = .ok (.ireturn, 1) := by decide +kernel
theorem dX7_clearText_0 : decode cX7_clearText 0 = .ok (.aload_n 0, 1) := by decide +kernel
theorem dX7_clearText_1 : decode cX7_clearText 1 = .ok (.getfield 82, 3) := by decide +kernel
theorem dX7_clearText_4 : decode cX7_clearText 4 = .ok (.istore_n 1, 1) := by decide +kernel
theorem dX7_clearText_5 : decode cX7_clearText 5 = .ok (.aload_n 0, 1) := by decide +kernel
theorem dX7_clearText_6 : decode cX7_clearText 6 = .ok (.iconst 0, 1) := by decide +kernel
theorem dX7_clearText_7 : decode cX7_clearText 7 = .ok (.putfield 82, 3) := by decide +kernel
theorem dX7_clearText_10 : decode cX7_clearText 10 = .ok (.iload_n 1, 1) := by decide +kernel
theorem dX7_clearText_11 : decode cX7_clearText 11 = .ok (.ireturn, 1) := by decide +kernel
set_option maxRecDepth 20000 in
theorem ggX7_goes_X7_in : GoodIn wsX7_goes wsX7_in := goodIn_r _ [13] (by decide +kernel) (by decide +kernel)
set_option maxRecDepth 20000 in
theorem gX7_goes_X7_in : GoodIn wsX7_goes (va_wsS RX7 31 yX7_in wsX7_in) := goodIn_app (goodIn_of _ (by decide +kernel)) ggX7_goes_X7_in
set_option maxRecDepth 20000 in
theorem ggX7_goes_X7_lesser : GoodIn wsX7_goes wsX7_lesser := goodIn_r _ [16] (by decide +kernel) (by decide +kernel)
set_option maxRecDepth 20000 in
theorem gX7_goes_X7_lesser : GoodIn wsX7_goes (va_wsS RX7 72 yX7_lesser wsX7_lesser) := goodIn_app (goodIn_of _ (by decide +kernel)) ggX7_goes_X7_lesser
theorem dX7_goes_0 : decode cX7_goes 0 = .ok (.aload_n 0, 1) := by decide +kernel
theorem dX7_goes_1 : decode cX7_goes 1 = .ok (.getfield 85, 3) := by decide +kernel
theorem dX7_goes_4 : decode cX7_goes 4 = .ok (.aload_n 0, 1) := by decide +kernel
theorem dX7_goes_5 : decode cX7_goes 5 = .ok (.getfield 82, 3) := by decide +kernel
theorem dX7_goes_8 : decode cX7_goes 8 = .ok (.if_icmp .ge 30, 3) := by decide +kernel
theorem dX7_goes_11 : decode cX7_goes 11 = .ok (.aload_n 0, 1) := by decide +kernel
theorem dX7_goes_12 : decode cX7_goes 12 = .ok (.getfield 19, 3) := by decide +kernel
theorem dX7_goes_15 : decode cX7_goes 15 = .ok (.aload_n 0, 1) := by decide +kernel
theorem dX7_goes_16 : decode cX7_goes 16 = .ok (.getfield 85, 3) := by decide +kernel
theorem dX7_goes_19 : decode cX7_goes 19 = .ok (.baload, 1) := by decide +kernel
theorem dX7_goes_20 : decode cX7_goes 20 = .ok (.bipush 32, 2) := by decide +kernel
theorem dX7_goes_22 : decode cX7_goes 22 = .ok (.if_icmp .ne 16, 3) := by decide +kernel
theorem dX7_goes_25 : decode cX7_goes 25 = .ok (.aload_n 0, 1) := by decide +kernel
theorem dX7_goes_26 : decode cX7_goes 26 = .ok (.dup, 1) := by decide +kernel
theorem dX7_goes_27 : decode cX7_goes 27 = .ok (.getfield 85, 3) := by decide +kernel
theorem dX7_goes_30 : decode cX7_goes 30 = .ok (.iconst 1, 1) := by decide +kernel
theorem dX7_goes_31 : decode cX7_goes 31 = .ok (.iadd, 1) := by decide +kernel
theorem dX7_goes_32 : decode cX7_goes 32 = .ok (.putfield 85, 3) := by decide +kernel
theorem dX7_goes_35 : decode cX7_goes 35 = .ok (.goto (-35), 3) := by decide +kernel
theorem dX7_goes_38 : decode cX7_goes 38 = .ok (.aload_n 0, 1) := by decide +kernel
theorem dX7_goes_39 : decode cX7_goes 39 = .ok (.aload_n 0, 1) := by decide +kernel
theorem dX7_goes_40 : decode cX7_goes 40 = .ok (.getfield 85, 3) := by decide +kernel
theorem dX7_goes_43 : decode cX7_goes 43 = .ok (.putfield 88, 3) := by decide +kernel
theorem dX7_goes_46 : decode cX7_goes 46 = .ok (.aload_n 0, 1) := by decide +kernel
theorem dX7_goes_47 : decode cX7_goes 47 = .ok (.lconst 0, 1) := by decide +kernel
theorem dX7_goes_48 : decode cX7_goes 48 = .ok (.putfield 91, 3) := by decide +kernel
theorem dX7_goes_51 : decode cX7_goes 51 = .ok (.aload_n 0, 1) := by decide +kernel
theorem dX7_goes_52 : decode cX7_goes 52 = .ok (.bipush (-9), 2) := by decide +kernel
theorem dX7_goes_54 : decode cX7_goes 54 = .ok (.putfield 95, 3) := by decide +kernel
theorem dX7_goes_57 : decode cX7_goes 57 = .ok (.aload_n 0, 1) := by decide +kernel
theorem dX7_goes_58 : decode cX7_goes 58 = .ok (.getfield 85, 3) := by decide +kernel
theorem dX7_goes_61 : decode cX7_goes 61 = .ok (.aload_n 0, 1) := by decide +kernel
theorem dX7_goes_62 : decode cX7_goes 62 = .ok (.getfield 82, 3) := by decide +kernel
theorem dX7_goes_65 : decode cX7_goes 65 = .ok (.if_icmp .ne 4, 3) := by decide +kernel
theorem dX7_goes_68 : decode cX7_goes 68 = .ok (.return_, 1) := by decide +kernel
theorem dX7_goes_69 : decode cX7_goes 69 = .ok (.aload_n 0, 1) := by decide +kernel
theorem dX7_goes_70 : decode cX7_goes 70 = .ok (.getfield 19, 3) := by decide +kernel
theorem dX7_goes_73 : decode cX7_goes 73 = .ok (.aload_n 0, 1) := by decide +kernel
theorem dX7_goes_74 : decode cX7_goes 74 = .ok (.getfield 85, 3) := by decide +kernel
theorem dX7_goes_77 : decode cX7_goes 77 = .ok (.baload, 1) := by decide +kernel
theorem dX7_goes_78 : decode cX7_goes 78 = .ok (.bipush 97, 2) := by decide +kernel
theorem dX7_goes_80 : decode cX7_goes 80 = .ok (.bipush 122, 2) := by decide +kernel
theorem dX7_goes_82 : decode cX7_goes 82 = .ok (.invokestatic 31, 3) := by decide +kernel
theorem dX7_goes_85 : decode cX7_goes 85 = .ok (.istore_n 1, 1) := by decide +kernel
theorem dX7_goes_86 : decode cX7_goes 86 = .ok (.aload_n 0, 1) := by decide +kernel
theorem dX7_goes_87 : decode cX7_goes 87 = .ok (.getfield 19, 3) := by decide +kernel
theorem dX7_goes_90 : decode cX7_goes 90 = .ok (.aload_n 0, 1) := by decide +kernel
theorem dX7_goes_91 : decode cX7_goes 91 = .ok (.getfield 85, 3) := by decide +kernel
theorem dX7_goes_94 : decode cX7_goes 94 = .ok (.baload, 1) := by decide +kernel
theorem dX7_goes_95 : decode cX7_goes 95 = .ok (.bipush 48, 2) := by decide +kernel
theorem dX7_goes_97 : decode cX7_goes 97 = .ok (.bipush 57, 2) := by decide +kernel
theorem dX7_goes_99 : decode cX7_goes 99 = .ok (.invokestatic 31, 3) := by decide +kernel
theorem dX7_goes_102 : decode cX7_goes 102 = .ok (.istore_n 2, 1) := by decide +kernel
theorem dX7_goes_103 : decode cX7_goes 103 = .ok (.aload_n 0, 1) := by decide +kernel
theorem dX7_goes_104 : decode cX7_goes 104 = .ok (.dup, 1) := by decide +kernel
theorem dX7_goes_105 : decode cX7_goes 105 = .ok (.getfield 85, 3) := by decide +kernel
theorem dX7_goes_108 : decode cX7_goes 108 = .ok (.iconst 1, 1) := by decide +kernel
theorem dX7_goes_109 : decode cX7_goes 109 = .ok (.iadd, 1) := by decide +kernel
theorem dX7_goes_110 : decode cX7_goes 110 = .ok (.putfield 85, 3) := by decide +kernel
theorem dX7_goes_113 : decode cX7_goes 113 = .ok (.aload_n 0, 1) := by decide +kernel
theorem dX7_goes_114 : decode cX7_goes 114 = .ok (.getfield 85, 3) := by decide +kernel
theorem dX7_goes_117 : decode cX7_goes 117 = .ok (.aload_n 0, 1) := by decide +kernel
theorem dX7_goes_118 : decode cX7_goes 118 = .ok (.getfield 82, 3) := by decide +kernel
theorem dX7_goes_121 : decode cX7_goes 121 = .ok (.if_icmp .ge 62, 3) := by decide +kernel
theorem dX7_goes_124 : decode cX7_goes 124 = .ok (.iload_n 1, 1) := by decide +kernel
theorem dX7_goes_125 : decode cX7_goes 125 = .ok (.ifCond .eq 22, 3) := by decide +kernel
theorem dX7_goes_128 : decode cX7_goes 128 = .ok (.aload_n 0, 1) := by decide +kernel
theorem dX7_goes_129 : decode cX7_goes 129 = .ok (.getfield 19, 3) := by decide +kernel
theorem dX7_goes_132 : decode cX7_goes 132 = .ok (.aload_n 0, 1) := by decide +kernel
theorem dX7_goes_133 : decode cX7_goes 133 = .ok (.getfield 85, 3) := by decide +kernel
theorem dX7_goes_136 : decode cX7_goes 136 = .ok (.baload, 1) := by decide +kernel
theorem dX7_goes_137 : decode cX7_goes 137 = .ok (.bipush 97, 2) := by decide +kernel
theorem dX7_goes_139 : decode cX7_goes 139 = .ok (.bipush 122, 2) := by decide +kernel
theorem dX7_goes_141 : decode cX7_goes 141 = .ok (.invokestatic 31, 3) := by decide +kernel
theorem dX7_goes_144 : decode cX7_goes 144 = .ok (.ifCond .ne 26, 3) := by decide +kernel
theorem dX7_goes_147 : decode cX7_goes 147 = .ok (.iload_n 2, 1) := by decide +kernel
theorem dX7_goes_148 : decode cX7_goes 148 = .ok (.ifCond .eq 35, 3) := by decide +kernel
theorem dX7_goes_151 : decode cX7_goes 151 = .ok (.aload_n 0, 1) := by decide +kernel
theorem dX7_goes_152 : decode cX7_goes 152 = .ok (.getfield 19, 3) := by decide +kernel
theorem dX7_goes_155 : decode cX7_goes 155 = .ok (.aload_n 0, 1) := by decide +kernel
theorem dX7_goes_156 : decode cX7_goes 156 = .ok (.getfield 85, 3) := by decide +kernel
theorem dX7_goes_159 : decode cX7_goes 159 = .ok (.baload, 1) := by decide +kernel
theorem dX7_goes_160 : decode cX7_goes 160 = .ok (.bipush 48, 2) := by decide +kernel
theorem dX7_goes_162 : decode cX7_goes 162 = .ok (.bipush 57, 2) := by decide +kernel
theorem dX7_goes_164 : decode cX7_goes 164 = .ok (.invokestatic 31, 3) := by decide +kernel
theorem dX7_goes_167 : decode cX7_goes 167 = .ok (.ifCond .eq 16, 3) := by decide +kernel
theorem dX7_goes_170 : decode cX7_goes 170 = .ok (.aload_n 0, 1) := by decide +kernel
theorem dX7_goes_171 : decode cX7_goes 171 = .ok (.dup, 1) := by decide +kernel
theorem dX7_goes_172 : decode cX7_goes 172 = .ok (.getfield 85, 3) := by decide +kernel
theorem dX7_goes_175 : decode cX7_goes 175 = .ok (.iconst 1, 1) := by decide +kernel
theorem dX7_goes_176 : decode cX7_goes 176 = .ok (.iadd, 1) := by decide +kernel
theorem dX7_goes_177 : decode cX7_goes 177 = .ok (.putfield 85, 3) := by decide +kernel
theorem dX7_goes_180 : decode cX7_goes 180 = .ok (.goto (-67), 3) := by decide +kernel
theorem dX7_goes_183 : decode cX7_goes 183 = .ok (.aload_n 0, 1) := by decide +kernel
theorem dX7_goes_184 : decode cX7_goes 184 = .ok (.iload_n 2, 1) := by decide +kernel
theorem dX7_goes_185 : decode cX7_goes 185 = .ok (.ifCond .eq 7, 3) := by decide +kernel
theorem dX7_goes_188 : decode cX7_goes 188 = .ok (.iconst 0, 1) := by decide +kernel
theorem dX7_goes_189 : decode cX7_goes 189 = .ok (.goto 5, 3) := by decide +kernel
theorem dX7_goes_192 : decode cX7_goes 192 = .ok (.bipush (-9), 2) := by decide +kernel
theorem dX7_goes_194 : decode cX7_goes 194 = .ok (.putfield 95, 3) := by decide +kernel
theorem dX7_goes_197 : decode cX7_goes 197 = .ok (.aload_n 0, 1) := by decide +kernel
theorem dX7_goes_198 : decode cX7_goes 198 = .ok (.getfield 88, 3) := by decide +kernel
theorem dX7_goes_201 : decode cX7_goes 201 = .ok (.istore_n 3, 1) := by decide +kernel
theorem dX7_goes_202 : decode cX7_goes 202 = .ok (.iload_n 3, 1) := by decide +kernel
theorem dX7_goes_203 : decode cX7_goes 203 = .ok (.aload_n 0, 1) := by decide +kernel
theorem dX7_goes_204 : decode cX7_goes 204 = .ok (.getfield 85, 3) := by decide +kernel
theorem dX7_goes_207 : decode cX7_goes 207 = .ok (.if_icmp .ge 92, 3) := by decide +kernel
theorem dX7_goes_210 : decode cX7_goes 210 = .ok (.aload_n 0, 1) := by decide +kernel
theorem dX7_goes_211 : decode cX7_goes 211 = .ok (.iload_n 1, 1) := by decide +kernel
theorem dX7_goes_212 : decode cX7_goes 212 = .ok (.ifCond .eq 40, 3) := by decide +kernel
theorem dX7_goes_215 : decode cX7_goes 215 = .ok (.aload_n 0, 1) := by decide +kernel
theorem dX7_goes_216 : decode cX7_goes 216 = .ok (.getfield 85, 3) := by decide +kernel
theorem dX7_goes_219 : decode cX7_goes 219 = .ok (.aload_n 0, 1) := by decide +kernel
theorem dX7_goes_220 : decode cX7_goes 220 = .ok (.getfield 88, 3) := by decide +kernel
theorem dX7_goes_223 : decode cX7_goes 223 = .ok (.isub, 1) := by decide +kernel
theorem dX7_goes_224 : decode cX7_goes 224 = .ok (.bipush 8, 2) := by decide +kernel
theorem dX7_goes_226 : decode cX7_goes 226 = .ok (.if_icmp .ge 26, 3) := by decide +kernel
theorem dX7_goes_229 : decode cX7_goes 229 = .ok (.ldc2_w 98, 3) := by decide +kernel
theorem dX7_goes_232 : decode cX7_goes 232 = .ok (.aload_n 0, 1) := by decide +kernel
theorem dX7_goes_233 : decode cX7_goes 233 = .ok (.getfield 91, 3) := by decide +kernel
theorem dX7_goes_236 : decode cX7_goes 236 = .ok (.lmul, 1) := by decide +kernel
theorem dX7_goes_237 : decode cX7_goes 237 = .ok (.aload_n 0, 1) := by decide +kernel
theorem dX7_goes_238 : decode cX7_goes 238 = .ok (.getfield 19, 3) := by decide +kernel
theorem dX7_goes_241 : decode cX7_goes 241 = .ok (.iload_n 3, 1) := by decide +kernel
theorem dX7_goes_242 : decode cX7_goes 242 = .ok (.baload, 1) := by decide +kernel
theorem dX7_goes_243 : decode cX7_goes 243 = .ok (.i2l, 1) := by decide +kernel
theorem dX7_goes_244 : decode cX7_goes 244 = .ok (.ladd, 1) := by decide +kernel
theorem dX7_goes_245 : decode cX7_goes 245 = .ok (.ldc2_w 100, 3) := by decide +kernel
theorem dX7_goes_248 : decode cX7_goes 248 = .ok (.lsub, 1) := by decide +kernel
theorem dX7_goes_249 : decode cX7_goes 249 = .ok (.goto 4, 3) := by decide +kernel
theorem dX7_goes_252 : decode cX7_goes 252 = .ok (.lconst 0, 1) := by decide +kernel
theorem dX7_goes_253 : decode cX7_goes 253 = .ok (.putfield 91, 3) := by decide +kernel
theorem dX7_goes_256 : decode cX7_goes 256 = .ok (.aload_n 0, 1) := by decide +kernel
theorem dX7_goes_257 : decode cX7_goes 257 = .ok (.iload_n 2, 1) := by decide +kernel
theorem dX7_goes_258 : decode cX7_goes 258 = .ok (.ifCond .eq 28, 3) := by decide +kernel
theorem dX7_goes_261 : decode cX7_goes 261 = .ok (.ldc 78, 2) := by decide +kernel
theorem dX7_goes_263 : decode cX7_goes 263 = .ok (.bipush 10, 2) := by decide +kernel
theorem dX7_goes_265 : decode cX7_goes 265 = .ok (.aload_n 0, 1) := by decide +kernel
theorem dX7_goes_266 : decode cX7_goes 266 = .ok (.getfield 95, 3) := by decide +kernel
theorem dX7_goes_269 : decode cX7_goes 269 = .ok (.imul, 1) := by decide +kernel
theorem dX7_goes_270 : decode cX7_goes 270 = .ok (.aload_n 0, 1) := by decide +kernel
theorem dX7_goes_271 : decode cX7_goes 271 = .ok (.getfield 19, 3) := by decide +kernel
theorem dX7_goes_274 : decode cX7_goes 274 = .ok (.iload_n 3, 1) := by decide +kernel
theorem dX7_goes_275 : decode cX7_goes 275 = .ok (.baload, 1) := by decide +kernel
theorem dX7_goes_276 : decode cX7_goes 276 = .ok (.iadd, 1) := by decide +kernel
theorem dX7_goes_277 : decode cX7_goes 277 = .ok (.bipush 48, 2) := by decide +kernel
theorem dX7_goes_279 : decode cX7_goes 279 = .ok (.isub, 1) := by decide +kernel
theorem dX7_goes_280 : decode cX7_goes 280 = .ok (.invokestatic 72, 3) := by decide +kernel
theorem dX7_goes_283 : decode cX7_goes 283 = .ok (.goto 7, 3) := by decide +kernel
theorem dX7_goes_286 : decode cX7_goes 286 = .ok (.aload_n 0, 1) := by decide +kernel
theorem dX7_goes_287 : decode cX7_goes 287 = .ok (.getfield 95, 3) := by decide +kernel
theorem dX7_goes_290 : decode cX7_goes 290 = .ok (.putfield 95, 3) := by decide +kernel
theorem dX7_goes_293 : decode cX7_goes 293 = .ok (.iinc 3 1, 3) := by decide +kernel
theorem dX7_goes_296 : decode cX7_goes 296 = .ok (.goto (-94), 3) := by decide +kernel
theorem dX7_goes_299 : decode cX7_goes 299 = .ok (.aload_n 0, 1) := by decide +kernel
theorem dX7_goes_300 : decode cX7_goes 300 = .ok (.iload_n 2, 1) := by decide +kernel
theorem dX7_goes_301 : decode cX7_goes 301 = .ok (.ifCond .eq 35, 3) := by decide +kernel
theorem dX7_goes_304 : decode cX7_goes 304 = .ok (.aload_n 0, 1) := by decide +kernel
theorem dX7_goes_305 : decode cX7_goes 305 = .ok (.getfield 19, 3) := by decide +kernel
theorem dX7_goes_308 : decode cX7_goes 308 = .ok (.aload_n 0, 1) := by decide +kernel
theorem dX7_goes_309 : decode cX7_goes 309 = .ok (.getfield 88, 3) := by decide +kernel
theorem dX7_goes_312 : decode cX7_goes 312 = .ok (.baload, 1) := by decide +kernel
theorem dX7_goes_313 : decode cX7_goes 313 = .ok (.bipush 48, 2) := by decide +kernel
theorem dX7_goes_315 : decode cX7_goes 315 = .ok (.if_icmp .ne 21, 3) := by decide +kernel
theorem dX7_goes_318 : decode cX7_goes 318 = .ok (.aload_n 0, 1) := by decide +kernel
theorem dX7_goes_319 : decode cX7_goes 319 = .ok (.getfield 85, 3) := by decide +kernel
theorem dX7_goes_322 : decode cX7_goes 322 = .ok (.aload_n 0, 1) := by decide +kernel
theorem dX7_goes_323 : decode cX7_goes 323 = .ok (.getfield 88, 3) := by decide +kernel
theorem dX7_goes_326 : decode cX7_goes 326 = .ok (.iconst 1, 1) := by decide +kernel
theorem dX7_goes_327 : decode cX7_goes 327 = .ok (.iadd, 1) := by decide +kernel
theorem dX7_goes_328 : decode cX7_goes 328 = .ok (.if_icmp .le 8, 3) := by decide +kernel
theorem dX7_goes_331 : decode cX7_goes 331 = .ok (.bipush (-9), 2) := by decide +kernel
theorem dX7_goes_333 : decode cX7_goes 333 = .ok (.goto 7, 3) := by decide +kernel
theorem dX7_goes_336 : decode cX7_goes 336 = .ok (.aload_n 0, 1) := by decide +kernel
theorem dX7_goes_337 : decode cX7_goes 337 = .ok (.getfield 95, 3) := by decide +kernel
theorem dX7_goes_340 : decode cX7_goes 340 = .ok (.putfield 95, 3) := by decide +kernel
theorem dX7_goes_343 : decode cX7_goes 343 = .ok (.return_, 1) := by decide +kernel
set_option maxRecDepth 20000 in
theorem ggX7_takes_X7_goes : GoodIn wsX7_takes wsX7_goes := goodIn_r _ [6, 7, 8, 9, 10, 11, 12, 13, 14, 15, 16, 17, 5, 18, 19, 20, 21, 22, 23, 24, 25, 26, 27, 28, 29, 30, 31, 32] (by decide +kernel) (by decide +kernel)
set_option maxRecDepth 20000 in
theorem gX7_takes_X7_goes : GoodIn wsX7_takes (wsV RX7 106 RX7 yX7_goes wsX7_goes) := goodIn_app (goodIn_of _ (by decide +kernel)) ggX7_takes_X7_goes
theorem dX7_takes_0 : decode cX7_takes 0 = .ok (.aload_n 0, 1) := by decide +kernel
theorem dX7_takes_1 : decode cX7_takes 1 = .ok (.aload_n 0, 1) := by decide +kernel
theorem dX7_takes_2 : decode cX7_takes 2 = .ok (.getfield 102, 3) := by decide +kernel
theorem dX7_takes_5 : decode cX7_takes 5 = .ok (.ifCond .ne 7, 3) := by decide +kernel
theorem dX7_takes_8 : decode cX7_takes 8 = .ok (.iload_n 1, 1) := by decide +kernel
theorem dX7_takes_9 : decode cX7_takes 9 = .ok (.ifCond .ne 7, 3) := by decide +kernel
theorem dX7_takes_12 : decode cX7_takes 12 = .ok (.iconst 1, 1) := by decide +kernel
theorem dX7_takes_13 : decode cX7_takes 13 = .ok (.goto 4, 3) := by decide +kernel
theorem dX7_takes_16 : decode cX7_takes 16 = .ok (.iconst 0, 1) := by decide +kernel
theorem dX7_takes_17 : decode cX7_takes 17 = .ok (.putfield 102, 3) := by decide +kernel
theorem dX7_takes_20 : decode cX7_takes 20 = .ok (.aload_n 0, 1) := by decide +kernel
theorem dX7_takes_21 : decode cX7_takes 21 = .ok (.getfield 102, 3) := by decide +kernel
theorem dX7_takes_24 : decode cX7_takes 24 = .ok (.ifCond .ne 7, 3) := by decide +kernel
theorem dX7_takes_27 : decode cX7_takes 27 = .ok (.aload_n 0, 1) := by decide +kernel
theorem dX7_takes_28 : decode cX7_takes 28 = .ok (.invokevirtual 106, 3) := by decide +kernel
theorem dX7_takes_31 : decode cX7_takes 31 = .ok (.return_, 1) := by decide +kernel
set_option maxRecDepth 20000 in
theorem ggX7_takesNumber_X7_in : GoodIn wsX7_takesNumber wsX7_in := goodIn_r _ [5] (by decide +kernel) (by decide +kernel)
set_option maxRecDepth 20000 in
theorem gX7_takesNumber_X7_in : GoodIn wsX7_takesNumber (va_wsS RX7 31 yX7_in wsX7_in) := goodIn_app (goodIn_of _ (by decide +kernel)) ggX7_takesNumber_X7_in
set_option maxRecDepth 20000 in
theorem ggX7_takesNumber_X7_takes : GoodIn wsX7_takesNumber wsX7_takes := goodIn_r _ [9, 10, 11, 12, 13, 4, 14, 15, 16, 17, 18, 19, 1, 20, 21, 22, 2, 3, 5, 23, 24, 25, 26, 27, 28, 29, 30, 31, 32, 33, 34, 35, 36] (by decide +kernel) (by decide +kernel)
set_option maxRecDepth 20000 in
theorem gX7_takesNumber_X7_takes : GoodIn wsX7_takesNumber (wsV RX7 109 RX7 yX7_takes wsX7_takes) := goodIn_app (goodIn_of _ (by decide +kernel)) ggX7_takesNumber_X7_takes
theorem dX7_takesNumber_0 : decode cX7_takesNumber 0 = .ok (.aload_n 0, 1) := by decide +kernel
theorem dX7_takesNumber_1 : decode cX7_takesNumber 1 = .ok (.getfield 95, 3) := by decide +kernel
theorem dX7_takesNumber_4 : decode cX7_takesNumber 4 = .ok (.istore_n 3, 1) := by decide +kernel
theorem dX7_takesNumber_5 : decode cX7_takesNumber 5 = .ok (.aload_n 0, 1) := by decide +kernel
theorem dX7_takesNumber_6 : decode cX7_takesNumber 6 = .ok (.iload_n 3, 1) := by decide +kernel
theorem dX7_takesNumber_7 : decode cX7_takesNumber 7 = .ok (.iload_n 1, 1) := by decide +kernel
theorem dX7_takesNumber_8 : decode cX7_takesNumber 8 = .ok (.iload_n 2, 1) := by decide +kernel
theorem dX7_takesNumber_9 : decode cX7_takesNumber 9 = .ok (.invokestatic 31, 3) := by decide +kernel
theorem dX7_takesNumber_12 : decode cX7_takesNumber 12 = .ok (.invokevirtual 109, 3) := by decide +kernel
theorem dX7_takesNumber_15 : decode cX7_takesNumber 15 = .ok (.iload_n 3, 1) := by decide +kernel
theorem dX7_takesNumber_16 : decode cX7_takesNumber 16 = .ok (.ireturn, 1) := by decide +kernel
set_option maxRecDepth 20000 in
theorem ggX7_readsBay_X7_takes : GoodIn wsX7_readsBay wsX7_takes := goodIn_r _ [12, 7, 13, 14, 15, 11, 16, 17, 18, 19, 20, 2, 6, 21, 22, 23, 24, 25, 26, 27, 28, 29, 50, 51, 52, 53, 54, 55, 56, 57, 58, 59, 60] (by decide +kernel) (by decide +kernel)
set_option maxRecDepth 20000 in
theorem gX7_readsBay_X7_takes : GoodIn wsX7_readsBay (wsV RX7 109 RX7 yX7_takes wsX7_takes) := goodIn_app (goodIn_of _ (by decide +kernel)) ggX7_readsBay_X7_takes
set_option maxRecDepth 20000 in
theorem ggX7_readsBay_X7_takesNumber : GoodIn wsX7_readsBay wsX7_takesNumber := goodIn_r _ [33, 6, 24, 25, 11, 26, 8, 9, 10, 12, 7, 13, 14, 15, 16, 17, 18, 19, 20, 2, 21, 22, 23, 27, 28, 29, 50, 51, 52, 53, 54, 55, 56, 57, 58, 59, 60] (by decide +kernel) (by decide +kernel)
set_option maxRecDepth 20000 in
theorem gX7_readsBay_X7_takesNumber : GoodIn wsX7_readsBay (wsV RX7 119 RX7 yX7_takesNumber wsX7_takesNumber) := goodIn_app (goodIn_of _ (by decide +kernel)) ggX7_readsBay_X7_takesNumber
set_option maxRecDepth 20000 in
theorem ggX7_readsBay_X7_in : GoodIn wsX7_readsBay wsX7_in := goodIn_r _ [26] (by decide +kernel) (by decide +kernel)
set_option maxRecDepth 20000 in
theorem gX7_readsBay_X7_in : GoodIn wsX7_readsBay (va_wsS RX7 31 yX7_in wsX7_in) := goodIn_app (goodIn_of _ (by decide +kernel)) ggX7_readsBay_X7_in
set_option maxRecDepth 20000 in
theorem ggX7_readsBay_X7_isTaken : GoodIn wsX7_readsBay wsX7_isTaken := goodIn_r _ [37, 1, 38, 39, 40, 11, 41, 50, 51, 52, 53, 54, 55, 56, 57, 58, 59, 60] (by decide +kernel) (by decide +kernel)
set_option maxRecDepth 20000 in
theorem gX7_readsBay_X7_isTaken : GoodIn wsX7_readsBay (wsV RX7 47 RX7 yX7_isTaken wsX7_isTaken) := goodIn_app (goodIn_of _ (by decide +kernel)) ggX7_readsBay_X7_isTaken
set_option maxRecDepth 20000 in
theorem ggX7_readsBay_X7_makes : GoodIn wsX7_readsBay wsX7_makes := goodIn_r _ [45, 1, 46, 47, 48, 11, 49, 50, 51, 52, 53, 54, 55, 56, 57, 58, 59, 60] (by decide +kernel) (by decide +kernel)
set_option maxRecDepth 20000 in
theorem gX7_readsBay_X7_makes : GoodIn wsX7_readsBay (wsV RX7 54 RX7 yX7_makes wsX7_makes) := goodIn_app (goodIn_of _ (by decide +kernel)) ggX7_readsBay_X7_makes
set_option maxRecDepth 20000 in
theorem ggX7_readsBay_X7_of : GoodIn wsX7_readsBay wsX7_of := goodIn_r _ [41, 1, 50, 51, 52, 53, 54, 55, 56, 57, 58, 59, 60] (by decide +kernel) (by decide +kernel)
set_option maxRecDepth 20000 in
theorem gX7_readsBay_X7_of : GoodIn wsX7_readsBay (wsV RX7 35 RX7 yX7_of wsX7_of) := goodIn_app (goodIn_of _ (by decide +kernel)) ggX7_readsBay_X7_of
theorem dX7_readsBay_0 : decode cX7_readsBay 0 = .ok (.aload_n 0, 1) := by decide +kernel
theorem dX7_readsBay_1 : decode cX7_readsBay 1 = .ok (.aload_n 0, 1) := by decide +kernel
theorem dX7_readsBay_2 : decode cX7_readsBay 2 = .ok (.getfield 7, 3) := by decide +kernel
theorem dX7_readsBay_5 : decode cX7_readsBay 5 = .ok (.iconst 1, 1) := by decide +kernel
theorem dX7_readsBay_6 : decode cX7_readsBay 6 = .ok (.iaload, 1) := by decide +kernel
theorem dX7_readsBay_7 : decode cX7_readsBay 7 = .ok (.bipush 30, 2) := by decide +kernel
theorem dX7_readsBay_9 : decode cX7_readsBay 9 = .ok (.if_icmp .ge 7, 3) := by decide +kernel
theorem dX7_readsBay_12 : decode cX7_readsBay 12 = .ok (.iconst 1, 1) := by decide +kernel
theorem dX7_readsBay_13 : decode cX7_readsBay 13 = .ok (.goto 4, 3) := by decide +kernel
theorem dX7_readsBay_16 : decode cX7_readsBay 16 = .ok (.iconst 0, 1) := by decide +kernel
theorem dX7_readsBay_17 : decode cX7_readsBay 17 = .ok (.invokevirtual 109, 3) := by decide +kernel
theorem dX7_readsBay_20 : decode cX7_readsBay 20 = .ok (.aload_n 0, 1) := by decide +kernel
theorem dX7_readsBay_21 : decode cX7_readsBay 21 = .ok (.getfield 91, 3) := by decide +kernel
theorem dX7_readsBay_24 : decode cX7_readsBay 24 = .ok (.ldc2_w 113, 3) := by decide +kernel
theorem dX7_readsBay_27 : decode cX7_readsBay 27 = .ok (.lcmp, 1) := by decide +kernel
theorem dX7_readsBay_28 : decode cX7_readsBay 28 = .ok (.ifCond .ne 7, 3) := by decide +kernel
theorem dX7_readsBay_31 : decode cX7_readsBay 31 = .ok (.iconst 0, 1) := by decide +kernel
theorem dX7_readsBay_32 : decode cX7_readsBay 32 = .ok (.goto 35, 3) := by decide +kernel
theorem dX7_readsBay_35 : decode cX7_readsBay 35 = .ok (.aload_n 0, 1) := by decide +kernel
theorem dX7_readsBay_36 : decode cX7_readsBay 36 = .ok (.getfield 91, 3) := by decide +kernel
theorem dX7_readsBay_39 : decode cX7_readsBay 39 = .ok (.ldc2_w 115, 3) := by decide +kernel
theorem dX7_readsBay_42 : decode cX7_readsBay 42 = .ok (.lcmp, 1) := by decide +kernel
theorem dX7_readsBay_43 : decode cX7_readsBay 43 = .ok (.ifCond .ne 7, 3) := by decide +kernel
theorem dX7_readsBay_46 : decode cX7_readsBay 46 = .ok (.iconst 1, 1) := by decide +kernel
theorem dX7_readsBay_47 : decode cX7_readsBay 47 = .ok (.goto 20, 3) := by decide +kernel
theorem dX7_readsBay_50 : decode cX7_readsBay 50 = .ok (.aload_n 0, 1) := by decide +kernel
theorem dX7_readsBay_51 : decode cX7_readsBay 51 = .ok (.getfield 91, 3) := by decide +kernel
theorem dX7_readsBay_54 : decode cX7_readsBay 54 = .ok (.ldc2_w 117, 3) := by decide +kernel
theorem dX7_readsBay_57 : decode cX7_readsBay 57 = .ok (.lcmp, 1) := by decide +kernel
theorem dX7_readsBay_58 : decode cX7_readsBay 58 = .ok (.ifCond .ne 7, 3) := by decide +kernel
theorem dX7_readsBay_61 : decode cX7_readsBay 61 = .ok (.iconst 2, 1) := by decide +kernel
theorem dX7_readsBay_62 : decode cX7_readsBay 62 = .ok (.goto 5, 3) := by decide +kernel
theorem dX7_readsBay_65 : decode cX7_readsBay 65 = .ok (.bipush (-9), 2) := by decide +kernel
theorem dX7_readsBay_67 : decode cX7_readsBay 67 = .ok (.istore_n 1, 1) := by decide +kernel
theorem dX7_readsBay_68 : decode cX7_readsBay 68 = .ok (.aload_n 0, 1) := by decide +kernel
theorem dX7_readsBay_69 : decode cX7_readsBay 69 = .ok (.iload_n 1, 1) := by decide +kernel
theorem dX7_readsBay_70 : decode cX7_readsBay 70 = .ok (.bipush (-9), 2) := by decide +kernel
theorem dX7_readsBay_72 : decode cX7_readsBay 72 = .ok (.if_icmp .eq 7, 3) := by decide +kernel
theorem dX7_readsBay_75 : decode cX7_readsBay 75 = .ok (.iconst 1, 1) := by decide +kernel
theorem dX7_readsBay_76 : decode cX7_readsBay 76 = .ok (.goto 4, 3) := by decide +kernel
theorem dX7_readsBay_79 : decode cX7_readsBay 79 = .ok (.iconst 0, 1) := by decide +kernel
theorem dX7_readsBay_80 : decode cX7_readsBay 80 = .ok (.invokevirtual 109, 3) := by decide +kernel
theorem dX7_readsBay_83 : decode cX7_readsBay 83 = .ok (.aload_n 0, 1) := by decide +kernel
theorem dX7_readsBay_84 : decode cX7_readsBay 84 = .ok (.iconst 0, 1) := by decide +kernel
theorem dX7_readsBay_85 : decode cX7_readsBay 85 = .ok (.iconst 4, 1) := by decide +kernel
theorem dX7_readsBay_86 : decode cX7_readsBay 86 = .ok (.invokevirtual 119, 3) := by decide +kernel
theorem dX7_readsBay_89 : decode cX7_readsBay 89 = .ok (.istore_n 2, 1) := by decide +kernel
theorem dX7_readsBay_90 : decode cX7_readsBay 90 = .ok (.aload_n 0, 1) := by decide +kernel
theorem dX7_readsBay_91 : decode cX7_readsBay 91 = .ok (.getfield 95, 3) := by decide +kernel
theorem dX7_readsBay_94 : decode cX7_readsBay 94 = .ok (.istore_n 3, 1) := by decide +kernel
theorem dX7_readsBay_95 : decode cX7_readsBay 95 = .ok (.aload_n 0, 1) := by decide +kernel
theorem dX7_readsBay_96 : decode cX7_readsBay 96 = .ok (.iload_n 3, 1) := by decide +kernel
theorem dX7_readsBay_97 : decode cX7_readsBay 97 = .ok (.iconst 0, 1) := by decide +kernel
theorem dX7_readsBay_98 : decode cX7_readsBay 98 = .ok (.bipush 99, 2) := by decide +kernel
theorem dX7_readsBay_100 : decode cX7_readsBay 100 = .ok (.invokestatic 31, 3) := by decide +kernel
theorem dX7_readsBay_103 : decode cX7_readsBay 103 = .ok (.ifCond .eq 16, 3) := by decide +kernel
theorem dX7_readsBay_106 : decode cX7_readsBay 106 = .ok (.aload_n 0, 1) := by decide +kernel
theorem dX7_readsBay_107 : decode cX7_readsBay 107 = .ok (.iload_n 2, 1) := by decide +kernel
theorem dX7_readsBay_108 : decode cX7_readsBay 108 = .ok (.iload_n 3, 1) := by decide +kernel
theorem dX7_readsBay_109 : decode cX7_readsBay 109 = .ok (.invokevirtual 47, 3) := by decide +kernel
theorem dX7_readsBay_112 : decode cX7_readsBay 112 = .ok (.ifCond .ne 7, 3) := by decide +kernel
theorem dX7_readsBay_115 : decode cX7_readsBay 115 = .ok (.iconst 1, 1) := by decide +kernel
theorem dX7_readsBay_116 : decode cX7_readsBay 116 = .ok (.goto 4, 3) := by decide +kernel
theorem dX7_readsBay_119 : decode cX7_readsBay 119 = .ok (.iconst 0, 1) := by decide +kernel
theorem dX7_readsBay_120 : decode cX7_readsBay 120 = .ok (.invokevirtual 109, 3) := by decide +kernel
theorem dX7_readsBay_123 : decode cX7_readsBay 123 = .ok (.aload_n 0, 1) := by decide +kernel
theorem dX7_readsBay_124 : decode cX7_readsBay 124 = .ok (.getfield 102, 3) := by decide +kernel
theorem dX7_readsBay_127 : decode cX7_readsBay 127 = .ok (.ifCond .ne 16, 3) := by decide +kernel
theorem dX7_readsBay_130 : decode cX7_readsBay 130 = .ok (.aload_n 0, 1) := by decide +kernel
theorem dX7_readsBay_131 : decode cX7_readsBay 131 = .ok (.aload_n 0, 1) := by decide +kernel
theorem dX7_readsBay_132 : decode cX7_readsBay 132 = .ok (.iload_n 2, 1) := by decide +kernel
theorem dX7_readsBay_133 : decode cX7_readsBay 133 = .ok (.iload_n 3, 1) := by decide +kernel
theorem dX7_readsBay_134 : decode cX7_readsBay 134 = .ok (.iload_n 1, 1) := by decide +kernel
theorem dX7_readsBay_135 : decode cX7_readsBay 135 = .ok (.invokevirtual 54, 3) := by decide +kernel
theorem dX7_readsBay_138 : decode cX7_readsBay 138 = .ok (.iconst 2, 1) := by decide +kernel
theorem dX7_readsBay_139 : decode cX7_readsBay 139 = .ok (.invokevirtual 35, 3) := by decide +kernel
theorem dX7_readsBay_142 : decode cX7_readsBay 142 = .ok (.istore_n 1, 1) := by decide +kernel
theorem dX7_readsBay_143 : decode cX7_readsBay 143 = .ok (.return_, 1) := by decide +kernel
set_option maxRecDepth 20000 in
theorem ggX7_readsStep_X7_goes : GoodIn wsX7_readsStep wsX7_goes := goodIn_r _ [11, 12, 13, 14, 15, 1, 4, 16, 17, 18, 19, 20, 10, 21, 22, 23, 24, 45, 46, 47, 48, 49, 50, 51, 52, 53, 54, 55] (by decide +kernel) (by decide +kernel)
set_option maxRecDepth 20000 in
theorem gX7_readsStep_X7_goes : GoodIn wsX7_readsStep (wsV RX7 106 RX7 yX7_goes wsX7_goes) := goodIn_app (goodIn_of _ (by decide +kernel)) ggX7_readsStep_X7_goes
set_option maxRecDepth 20000 in
theorem ggX7_readsStep_X7_takes : GoodIn wsX7_readsStep wsX7_takes := goodIn_r _ [28, 5, 7, 8, 9, 10, 11, 12, 13, 14, 15, 1, 4, 16, 17, 18, 19, 20, 21, 22, 23, 24, 45, 46, 47, 48, 49, 50, 51, 52, 53, 54, 55] (by decide +kernel) (by decide +kernel)
set_option maxRecDepth 20000 in
theorem gX7_readsStep_X7_takes : GoodIn wsX7_readsStep (wsV RX7 109 RX7 yX7_takes wsX7_takes) := goodIn_app (goodIn_of _ (by decide +kernel)) ggX7_readsStep_X7_takes
set_option maxRecDepth 20000 in
theorem ggX7_readsStep_X7_in : GoodIn wsX7_readsStep wsX7_in := goodIn_r _ [21] (by decide +kernel) (by decide +kernel)
set_option maxRecDepth 20000 in
theorem gX7_readsStep_X7_in : GoodIn wsX7_readsStep (va_wsS RX7 31 yX7_in wsX7_in) := goodIn_app (goodIn_of _ (by decide +kernel)) ggX7_readsStep_X7_in
set_option maxRecDepth 20000 in
theorem ggX7_readsStep_X7_hasStep : GoodIn wsX7_readsStep wsX7_hasStep := goodIn_r _ [32, 6, 33, 34, 35, 10, 36, 45, 46, 47, 48, 49, 50, 51, 52, 53, 54, 55] (by decide +kernel) (by decide +kernel)
set_option maxRecDepth 20000 in
theorem gX7_readsStep_X7_hasStep : GoodIn wsX7_readsStep (wsV RX7 65 RX7 yX7_hasStep wsX7_hasStep) := goodIn_app (goodIn_of _ (by decide +kernel)) ggX7_readsStep_X7_hasStep
set_option maxRecDepth 20000 in
theorem ggX7_readsStep_X7_takesNumber : GoodIn wsX7_readsStep wsX7_takesNumber := goodIn_r _ [40, 4, 19, 20, 10, 21, 25, 26, 27, 28, 5, 7, 8, 9, 11, 12, 13, 14, 15, 1, 16, 17, 18, 22, 23, 24, 45, 46, 47, 48, 49, 50, 51, 52, 53, 54, 55] (by decide +kernel) (by decide +kernel)
set_option maxRecDepth 20000 in
theorem gX7_readsStep_X7_takesNumber : GoodIn wsX7_readsStep (wsV RX7 119 RX7 yX7_takesNumber wsX7_takesNumber) := goodIn_app (goodIn_of _ (by decide +kernel)) ggX7_readsStep_X7_takesNumber
set_option maxRecDepth 20000 in
theorem ggX7_readsStep_X7_puts : GoodIn wsX7_readsStep wsX7_puts := goodIn_r _ [44, 6, 33, 34, 35, 10, 36, 29, 30, 31, 32, 45, 46, 47, 48, 49, 50, 51, 52, 53, 54, 55] (by decide +kernel) (by decide +kernel)
set_option maxRecDepth 20000 in
theorem gX7_readsStep_X7_puts : GoodIn wsX7_readsStep (wsV RX7 23 RX7 yX7_puts wsX7_puts) := goodIn_app (goodIn_of _ (by decide +kernel)) ggX7_readsStep_X7_puts
theorem dX7_readsStep_0 : decode cX7_readsStep 0 = .ok (.aload_n 0, 1) := by decide +kernel
theorem dX7_readsStep_1 : decode cX7_readsStep 1 = .ok (.invokevirtual 106, 3) := by decide +kernel
theorem dX7_readsStep_4 : decode cX7_readsStep 4 = .ok (.aload_n 0, 1) := by decide +kernel
theorem dX7_readsStep_5 : decode cX7_readsStep 5 = .ok (.getfield 91, 3) := by decide +kernel
theorem dX7_readsStep_8 : decode cX7_readsStep 8 = .ok (.ldc2_w 122, 3) := by decide +kernel
theorem dX7_readsStep_11 : decode cX7_readsStep 11 = .ok (.lcmp, 1) := by decide +kernel
theorem dX7_readsStep_12 : decode cX7_readsStep 12 = .ok (.ifCond .ne 7, 3) := by decide +kernel
theorem dX7_readsStep_15 : decode cX7_readsStep 15 = .ok (.iconst 0, 1) := by decide +kernel
theorem dX7_readsStep_16 : decode cX7_readsStep 16 = .ok (.goto 20, 3) := by decide +kernel
theorem dX7_readsStep_19 : decode cX7_readsStep 19 = .ok (.aload_n 0, 1) := by decide +kernel
theorem dX7_readsStep_20 : decode cX7_readsStep 20 = .ok (.getfield 91, 3) := by decide +kernel
theorem dX7_readsStep_23 : decode cX7_readsStep 23 = .ok (.ldc2_w 124, 3) := by decide +kernel
theorem dX7_readsStep_26 : decode cX7_readsStep 26 = .ok (.lcmp, 1) := by decide +kernel
theorem dX7_readsStep_27 : decode cX7_readsStep 27 = .ok (.ifCond .ne 7, 3) := by decide +kernel
theorem dX7_readsStep_30 : decode cX7_readsStep 30 = .ok (.iconst 1, 1) := by decide +kernel
theorem dX7_readsStep_31 : decode cX7_readsStep 31 = .ok (.goto 5, 3) := by decide +kernel
theorem dX7_readsStep_34 : decode cX7_readsStep 34 = .ok (.bipush (-9), 2) := by decide +kernel
theorem dX7_readsStep_36 : decode cX7_readsStep 36 = .ok (.istore_n 1, 1) := by decide +kernel
theorem dX7_readsStep_37 : decode cX7_readsStep 37 = .ok (.aload_n 0, 1) := by decide +kernel
theorem dX7_readsStep_38 : decode cX7_readsStep 38 = .ok (.iload_n 1, 1) := by decide +kernel
theorem dX7_readsStep_39 : decode cX7_readsStep 39 = .ok (.bipush (-9), 2) := by decide +kernel
theorem dX7_readsStep_41 : decode cX7_readsStep 41 = .ok (.if_icmp .eq 7, 3) := by decide +kernel
theorem dX7_readsStep_44 : decode cX7_readsStep 44 = .ok (.iconst 1, 1) := by decide +kernel
theorem dX7_readsStep_45 : decode cX7_readsStep 45 = .ok (.goto 4, 3) := by decide +kernel
theorem dX7_readsStep_48 : decode cX7_readsStep 48 = .ok (.iconst 0, 1) := by decide +kernel
theorem dX7_readsStep_49 : decode cX7_readsStep 49 = .ok (.invokevirtual 109, 3) := by decide +kernel
theorem dX7_readsStep_52 : decode cX7_readsStep 52 = .ok (.aload_n 0, 1) := by decide +kernel
theorem dX7_readsStep_53 : decode cX7_readsStep 53 = .ok (.getfield 95, 3) := by decide +kernel
theorem dX7_readsStep_56 : decode cX7_readsStep 56 = .ok (.istore_n 2, 1) := by decide +kernel
theorem dX7_readsStep_57 : decode cX7_readsStep 57 = .ok (.aload_n 0, 1) := by decide +kernel
theorem dX7_readsStep_58 : decode cX7_readsStep 58 = .ok (.iload_n 2, 1) := by decide +kernel
theorem dX7_readsStep_59 : decode cX7_readsStep 59 = .ok (.iconst 0, 1) := by decide +kernel
theorem dX7_readsStep_60 : decode cX7_readsStep 60 = .ok (.sipush 1440, 3) := by decide +kernel
theorem dX7_readsStep_63 : decode cX7_readsStep 63 = .ok (.invokestatic 31, 3) := by decide +kernel
theorem dX7_readsStep_66 : decode cX7_readsStep 66 = .ok (.ifCond .eq 39, 3) := by decide +kernel
theorem dX7_readsStep_69 : decode cX7_readsStep 69 = .ok (.aload_n 0, 1) := by decide +kernel
theorem dX7_readsStep_70 : decode cX7_readsStep 70 = .ok (.getfield 102, 3) := by decide +kernel
theorem dX7_readsStep_73 : decode cX7_readsStep 73 = .ok (.ifCond .ne 32, 3) := by decide +kernel
theorem dX7_readsStep_76 : decode cX7_readsStep 76 = .ok (.aload_n 0, 1) := by decide +kernel
theorem dX7_readsStep_77 : decode cX7_readsStep 77 = .ok (.iload_n 1, 1) := by decide +kernel
theorem dX7_readsStep_78 : decode cX7_readsStep 78 = .ok (.iload_n 2, 1) := by decide +kernel
theorem dX7_readsStep_79 : decode cX7_readsStep 79 = .ok (.invokevirtual 65, 3) := by decide +kernel
theorem dX7_readsStep_82 : decode cX7_readsStep 82 = .ok (.ifCond .ne 19, 3) := by decide +kernel
theorem dX7_readsStep_85 : decode cX7_readsStep 85 = .ok (.aload_n 0, 1) := by decide +kernel
theorem dX7_readsStep_86 : decode cX7_readsStep 86 = .ok (.getfield 7, 3) := by decide +kernel
theorem dX7_readsStep_89 : decode cX7_readsStep 89 = .ok (.bipush 14, 2) := by decide +kernel
theorem dX7_readsStep_91 : decode cX7_readsStep 91 = .ok (.bipush 16, 2) := by decide +kernel
theorem dX7_readsStep_93 : decode cX7_readsStep 93 = .ok (.iload_n 1, 1) := by decide +kernel
theorem dX7_readsStep_94 : decode cX7_readsStep 94 = .ok (.imul, 1) := by decide +kernel
theorem dX7_readsStep_95 : decode cX7_readsStep 95 = .ok (.iadd, 1) := by decide +kernel
theorem dX7_readsStep_96 : decode cX7_readsStep 96 = .ok (.iaload, 1) := by decide +kernel
theorem dX7_readsStep_97 : decode cX7_readsStep 97 = .ok (.iconst 5, 1) := by decide +kernel
theorem dX7_readsStep_98 : decode cX7_readsStep 98 = .ok (.if_icmp .ge 7, 3) := by decide +kernel
theorem dX7_readsStep_101 : decode cX7_readsStep 101 = .ok (.iconst 1, 1) := by decide +kernel
theorem dX7_readsStep_102 : decode cX7_readsStep 102 = .ok (.goto 4, 3) := by decide +kernel
theorem dX7_readsStep_105 : decode cX7_readsStep 105 = .ok (.iconst 0, 1) := by decide +kernel
theorem dX7_readsStep_106 : decode cX7_readsStep 106 = .ok (.invokevirtual 109, 3) := by decide +kernel
theorem dX7_readsStep_109 : decode cX7_readsStep 109 = .ok (.aload_n 0, 1) := by decide +kernel
theorem dX7_readsStep_110 : decode cX7_readsStep 110 = .ok (.iconst 1, 1) := by decide +kernel
theorem dX7_readsStep_111 : decode cX7_readsStep 111 = .ok (.sipush 240, 3) := by decide +kernel
theorem dX7_readsStep_114 : decode cX7_readsStep 114 = .ok (.invokevirtual 119, 3) := by decide +kernel
theorem dX7_readsStep_117 : decode cX7_readsStep 117 = .ok (.istore_n 3, 1) := by decide +kernel
theorem dX7_readsStep_118 : decode cX7_readsStep 118 = .ok (.aload_n 0, 1) := by decide +kernel
theorem dX7_readsStep_119 : decode cX7_readsStep 119 = .ok (.iconst 0, 1) := by decide +kernel
theorem dX7_readsStep_120 : decode cX7_readsStep 120 = .ok (.sipush 5000, 3) := by decide +kernel
theorem dX7_readsStep_123 : decode cX7_readsStep 123 = .ok (.invokevirtual 119, 3) := by decide +kernel
theorem dX7_readsStep_126 : decode cX7_readsStep 126 = .ok (.istore 4, 2) := by decide +kernel
theorem dX7_readsStep_128 : decode cX7_readsStep 128 = .ok (.aload_n 0, 1) := by decide +kernel
theorem dX7_readsStep_129 : decode cX7_readsStep 129 = .ok (.getfield 102, 3) := by decide +kernel
theorem dX7_readsStep_132 : decode cX7_readsStep 132 = .ok (.ifCond .ne 12, 3) := by decide +kernel
theorem dX7_readsStep_135 : decode cX7_readsStep 135 = .ok (.aload_n 0, 1) := by decide +kernel
theorem dX7_readsStep_136 : decode cX7_readsStep 136 = .ok (.iload_n 1, 1) := by decide +kernel
theorem dX7_readsStep_137 : decode cX7_readsStep 137 = .ok (.iload_n 2, 1) := by decide +kernel
theorem dX7_readsStep_138 : decode cX7_readsStep 138 = .ok (.iload_n 3, 1) := by decide +kernel
theorem dX7_readsStep_139 : decode cX7_readsStep 139 = .ok (.iload 4, 2) := by decide +kernel
theorem dX7_readsStep_141 : decode cX7_readsStep 141 = .ok (.invokevirtual 23, 3) := by decide +kernel
theorem dX7_readsStep_144 : decode cX7_readsStep 144 = .ok (.return_, 1) := by decide +kernel
set_option maxRecDepth 20000 in
theorem ggX7_readsNumber_X7_goes : GoodIn wsX7_readsNumber wsX7_goes := goodIn_r _ [7, 8, 9, 10, 11, 12, 13, 14, 15, 16, 17, 18, 6, 19, 20, 21, 22, 34, 35, 36, 37, 38, 39, 40, 41, 42, 43, 44] (by decide +kernel) (by decide +kernel)
set_option maxRecDepth 20000 in
theorem gX7_readsNumber_X7_goes : GoodIn wsX7_readsNumber (wsV RX7 106 RX7 yX7_goes wsX7_goes) := goodIn_app (goodIn_of _ (by decide +kernel)) ggX7_readsNumber_X7_goes
set_option maxRecDepth 20000 in
theorem ggX7_readsNumber_X7_most : GoodIn wsX7_readsNumber wsX7_most := goodIn_r _ [25, 16] (by decide +kernel) (by decide +kernel)
set_option maxRecDepth 20000 in
theorem gX7_readsNumber_X7_most : GoodIn wsX7_readsNumber (va_wsS RX7 79 yX7_most wsX7_most) := goodIn_app (goodIn_of _ (by decide +kernel)) ggX7_readsNumber_X7_most
set_option maxRecDepth 20000 in
theorem ggX7_readsNumber_X7_takesNumber : GoodIn wsX7_readsNumber wsX7_takesNumber := goodIn_r _ [29, 13, 17, 18, 6, 19, 30, 31, 32, 33, 2, 3, 4, 5, 7, 8, 9, 10, 11, 12, 14, 15, 16, 20, 21, 22, 34, 35, 36, 37, 38, 39, 40, 41, 42, 43, 44] (by decide +kernel) (by decide +kernel)
set_option maxRecDepth 20000 in
theorem gX7_readsNumber_X7_takesNumber : GoodIn wsX7_readsNumber (wsV RX7 119 RX7 yX7_takesNumber wsX7_takesNumber) := goodIn_app (goodIn_of _ (by decide +kernel)) ggX7_readsNumber_X7_takesNumber
theorem dX7_readsNumber_0 : decode cX7_readsNumber 0 = .ok (.aload_n 0, 1) := by decide +kernel
theorem dX7_readsNumber_1 : decode cX7_readsNumber 1 = .ok (.invokevirtual 106, 3) := by decide +kernel
theorem dX7_readsNumber_4 : decode cX7_readsNumber 4 = .ok (.aload_n 0, 1) := by decide +kernel
theorem dX7_readsNumber_5 : decode cX7_readsNumber 5 = .ok (.iload_n 2, 1) := by decide +kernel
theorem dX7_readsNumber_6 : decode cX7_readsNumber 6 = .ok (.iload_n 1, 1) := by decide +kernel
theorem dX7_readsNumber_7 : decode cX7_readsNumber 7 = .ok (.invokestatic 79, 3) := by decide +kernel
theorem dX7_readsNumber_10 : decode cX7_readsNumber 10 = .ok (.invokevirtual 119, 3) := by decide +kernel
theorem dX7_readsNumber_13 : decode cX7_readsNumber 13 = .ok (.istore_n 3, 1) := by decide +kernel
theorem dX7_readsNumber_14 : decode cX7_readsNumber 14 = .ok (.aload_n 0, 1) := by decide +kernel
theorem dX7_readsNumber_15 : decode cX7_readsNumber 15 = .ok (.getfield 7, 3) := by decide +kernel
theorem dX7_readsNumber_18 : decode cX7_readsNumber 18 = .ok (.iconst 5, 1) := by decide +kernel
theorem dX7_readsNumber_19 : decode cX7_readsNumber 19 = .ok (.iload_n 1, 1) := by decide +kernel
theorem dX7_readsNumber_20 : decode cX7_readsNumber 20 = .ok (.iadd, 1) := by decide +kernel
theorem dX7_readsNumber_21 : decode cX7_readsNumber 21 = .ok (.aload_n 0, 1) := by decide +kernel
theorem dX7_readsNumber_22 : decode cX7_readsNumber 22 = .ok (.getfield 102, 3) := by decide +kernel
theorem dX7_readsNumber_25 : decode cX7_readsNumber 25 = .ok (.ifCond .eq 14, 3) := by decide +kernel
theorem dX7_readsNumber_28 : decode cX7_readsNumber 28 = .ok (.aload_n 0, 1) := by decide +kernel
theorem dX7_readsNumber_29 : decode cX7_readsNumber 29 = .ok (.getfield 7, 3) := by decide +kernel
theorem dX7_readsNumber_32 : decode cX7_readsNumber 32 = .ok (.iconst 5, 1) := by decide +kernel
theorem dX7_readsNumber_33 : decode cX7_readsNumber 33 = .ok (.iload_n 1, 1) := by decide +kernel
theorem dX7_readsNumber_34 : decode cX7_readsNumber 34 = .ok (.iadd, 1) := by decide +kernel
theorem dX7_readsNumber_35 : decode cX7_readsNumber 35 = .ok (.iaload, 1) := by decide +kernel
theorem dX7_readsNumber_36 : decode cX7_readsNumber 36 = .ok (.goto 4, 3) := by decide +kernel
theorem dX7_readsNumber_39 : decode cX7_readsNumber 39 = .ok (.iload_n 3, 1) := by decide +kernel
theorem dX7_readsNumber_40 : decode cX7_readsNumber 40 = .ok (.iastore, 1) := by decide +kernel
theorem dX7_readsNumber_41 : decode cX7_readsNumber 41 = .ok (.return_, 1) := by decide +kernel
set_option maxRecDepth 20000 in
theorem ggX7_reads_X7_goes : GoodIn wsX7_reads wsX7_goes := goodIn_r _ [15, 1, 4, 10, 3, 5, 16, 17, 18, 19, 20, 21, 14, 22, 23, 24, 25, 83, 84, 85, 86, 87, 88, 89, 90, 91, 92, 93] (by decide +kernel) (by decide +kernel)
set_option maxRecDepth 20000 in
theorem gX7_reads_X7_goes : GoodIn wsX7_reads (wsV RX7 106 RX7 yX7_goes wsX7_goes) := goodIn_app (goodIn_of _ (by decide +kernel)) ggX7_reads_X7_goes
set_option maxRecDepth 20000 in
theorem ggX7_reads_X7_readsBay : GoodIn wsX7_reads wsX7_readsBay := goodIn_r _ [29, 30, 5, 31, 32, 33, 16, 2, 34, 35, 36, 14, 37, 11, 12, 13, 15, 1, 4, 10, 3, 17, 18, 19, 20, 21, 22, 23, 24, 25, 38, 39, 40, 41, 42, 43, 44, 45, 46, 47, 48, 49, 50, 51, 52, 53, 54, 55, 56, 57, 83, 84, 85, 86, 87, 88, 89, 90, 91, 92, 93] (by decide +kernel) (by decide +kernel)
set_option maxRecDepth 20000 in
theorem gX7_reads_X7_readsBay : GoodIn wsX7_reads (wsV RX7 128 RX7 yX7_readsBay wsX7_readsBay) := goodIn_app (goodIn_of _ (by decide +kernel)) ggX7_reads_X7_readsBay
set_option maxRecDepth 20000 in
theorem ggX7_reads_X7_readsStep : GoodIn wsX7_reads wsX7_readsStep := goodIn_r _ [61, 5, 62, 63, 16, 2, 30, 11, 12, 13, 14, 15, 1, 4, 10, 3, 17, 18, 19, 20, 21, 22, 23, 24, 25, 34, 35, 36, 37, 64, 65, 66, 67, 68, 69, 70, 71, 38, 39, 40, 41, 72, 73, 74, 75, 83, 84, 85, 86, 87, 88, 89, 90, 91, 92, 93] (by decide +kernel) (by decide +kernel)
set_option maxRecDepth 20000 in
theorem gX7_reads_X7_readsStep : GoodIn wsX7_reads (wsV RX7 133 RX7 yX7_readsStep wsX7_readsStep) := goodIn_app (goodIn_of _ (by decide +kernel)) ggX7_reads_X7_readsStep
set_option maxRecDepth 20000 in
theorem ggX7_reads_X7_readsNumber : GoodIn wsX7_reads wsX7_readsNumber := goodIn_r _ [79, 30, 2, 11, 12, 13, 14, 15, 1, 4, 10, 3, 5, 16, 17, 18, 19, 20, 21, 22, 23, 24, 25, 80, 81, 82, 38, 39, 40, 41, 34, 35, 36, 37, 83, 84, 85, 86, 87, 88, 89, 90, 91, 92, 93] (by decide +kernel) (by decide +kernel)
set_option maxRecDepth 20000 in
theorem gX7_reads_X7_readsNumber : GoodIn wsX7_reads (wsV RX7 138 RX7 yX7_readsNumber wsX7_readsNumber) := goodIn_app (goodIn_of _ (by decide +kernel)) ggX7_reads_X7_readsNumber
set_option maxRecDepth 20000 in
theorem ggX7_reads_X7_takes : GoodIn wsX7_reads wsX7_takes := goodIn_r _ [37, 2, 11, 12, 13, 14, 15, 1, 4, 10, 3, 5, 16, 17, 18, 19, 20, 21, 22, 23, 24, 25, 83, 84, 85, 86, 87, 88, 89, 90, 91, 92, 93] (by decide +kernel) (by decide +kernel)
set_option maxRecDepth 20000 in
theorem gX7_reads_X7_takes : GoodIn wsX7_reads (wsV RX7 109 RX7 yX7_takes wsX7_takes) := goodIn_app (goodIn_of _ (by decide +kernel)) ggX7_reads_X7_takes
theorem dX7_reads_0 : decode cX7_reads 0 = .ok (.aload_n 0, 1) := by decide +kernel
theorem dX7_reads_1 : decode cX7_reads 1 = .ok (.iconst 0, 1) := by decide +kernel
theorem dX7_reads_2 : decode cX7_reads 2 = .ok (.putfield 85, 3) := by decide +kernel
theorem dX7_reads_5 : decode cX7_reads 5 = .ok (.aload_n 0, 1) := by decide +kernel
theorem dX7_reads_6 : decode cX7_reads 6 = .ok (.iconst 0, 1) := by decide +kernel
theorem dX7_reads_7 : decode cX7_reads 7 = .ok (.putfield 102, 3) := by decide +kernel
theorem dX7_reads_10 : decode cX7_reads 10 = .ok (.iconst 0, 1) := by decide +kernel
theorem dX7_reads_11 : decode cX7_reads 11 = .ok (.istore_n 1, 1) := by decide +kernel
theorem dX7_reads_12 : decode cX7_reads 12 = .ok (.aload_n 0, 1) := by decide +kernel
theorem dX7_reads_13 : decode cX7_reads 13 = .ok (.invokevirtual 106, 3) := by decide +kernel
theorem dX7_reads_16 : decode cX7_reads 16 = .ok (.aload_n 0, 1) := by decide +kernel
theorem dX7_reads_17 : decode cX7_reads 17 = .ok (.getfield 102, 3) := by decide +kernel
theorem dX7_reads_20 : decode cX7_reads 20 = .ok (.ifCond .ne 137, 3) := by decide +kernel
theorem dX7_reads_23 : decode cX7_reads 23 = .ok (.aload_n 0, 1) := by decide +kernel
theorem dX7_reads_24 : decode cX7_reads 24 = .ok (.getfield 88, 3) := by decide +kernel
theorem dX7_reads_27 : decode cX7_reads 27 = .ok (.aload_n 0, 1) := by decide +kernel
theorem dX7_reads_28 : decode cX7_reads 28 = .ok (.getfield 82, 3) := by decide +kernel
theorem dX7_reads_31 : decode cX7_reads 31 = .ok (.if_icmp .ge 126, 3) := by decide +kernel
theorem dX7_reads_34 : decode cX7_reads 34 = .ok (.aload_n 0, 1) := by decide +kernel
theorem dX7_reads_35 : decode cX7_reads 35 = .ok (.getfield 91, 3) := by decide +kernel
theorem dX7_reads_38 : decode cX7_reads 38 = .ok (.ldc2_w 126, 3) := by decide +kernel
theorem dX7_reads_41 : decode cX7_reads 41 = .ok (.lcmp, 1) := by decide +kernel
theorem dX7_reads_42 : decode cX7_reads 42 = .ok (.ifCond .ne 10, 3) := by decide +kernel
theorem dX7_reads_45 : decode cX7_reads 45 = .ok (.aload_n 0, 1) := by decide +kernel
theorem dX7_reads_46 : decode cX7_reads 46 = .ok (.invokevirtual 128, 3) := by decide +kernel
theorem dX7_reads_49 : decode cX7_reads 49 = .ok (.goto 66, 3) := by decide +kernel
theorem dX7_reads_52 : decode cX7_reads 52 = .ok (.aload_n 0, 1) := by decide +kernel
theorem dX7_reads_53 : decode cX7_reads 53 = .ok (.getfield 91, 3) := by decide +kernel
theorem dX7_reads_56 : decode cX7_reads 56 = .ok (.ldc2_w 131, 3) := by decide +kernel
theorem dX7_reads_59 : decode cX7_reads 59 = .ok (.lcmp, 1) := by decide +kernel
theorem dX7_reads_60 : decode cX7_reads 60 = .ok (.ifCond .ne 10, 3) := by decide +kernel
theorem dX7_reads_63 : decode cX7_reads 63 = .ok (.aload_n 0, 1) := by decide +kernel
theorem dX7_reads_64 : decode cX7_reads 64 = .ok (.invokevirtual 133, 3) := by decide +kernel
theorem dX7_reads_67 : decode cX7_reads 67 = .ok (.goto 48, 3) := by decide +kernel
theorem dX7_reads_70 : decode cX7_reads 70 = .ok (.aload_n 0, 1) := by decide +kernel
theorem dX7_reads_71 : decode cX7_reads 71 = .ok (.getfield 91, 3) := by decide +kernel
theorem dX7_reads_74 : decode cX7_reads 74 = .ok (.ldc2_w 136, 3) := by decide +kernel
theorem dX7_reads_77 : decode cX7_reads 77 = .ok (.lcmp, 1) := by decide +kernel
theorem dX7_reads_78 : decode cX7_reads 78 = .ok (.ifCond .ne 12, 3) := by decide +kernel
theorem dX7_reads_81 : decode cX7_reads 81 = .ok (.aload_n 0, 1) := by decide +kernel
theorem dX7_reads_82 : decode cX7_reads 82 = .ok (.iconst 2, 1) := by decide +kernel
theorem dX7_reads_83 : decode cX7_reads 83 = .ok (.iconst 0, 1) := by decide +kernel
theorem dX7_reads_84 : decode cX7_reads 84 = .ok (.invokevirtual 138, 3) := by decide +kernel
theorem dX7_reads_87 : decode cX7_reads 87 = .ok (.goto 28, 3) := by decide +kernel
theorem dX7_reads_90 : decode cX7_reads 90 = .ok (.aload_n 0, 1) := by decide +kernel
theorem dX7_reads_91 : decode cX7_reads 91 = .ok (.getfield 91, 3) := by decide +kernel
theorem dX7_reads_94 : decode cX7_reads 94 = .ok (.ldc2_w 141, 3) := by decide +kernel
theorem dX7_reads_97 : decode cX7_reads 97 = .ok (.lcmp, 1) := by decide +kernel
theorem dX7_reads_98 : decode cX7_reads 98 = .ok (.ifCond .ne 12, 3) := by decide +kernel
theorem dX7_reads_101 : decode cX7_reads 101 = .ok (.aload_n 0, 1) := by decide +kernel
theorem dX7_reads_102 : decode cX7_reads 102 = .ok (.iconst 0, 1) := by decide +kernel
theorem dX7_reads_103 : decode cX7_reads 103 = .ok (.iconst 1, 1) := by decide +kernel
theorem dX7_reads_104 : decode cX7_reads 104 = .ok (.invokevirtual 138, 3) := by decide +kernel
theorem dX7_reads_107 : decode cX7_reads 107 = .ok (.goto 8, 3) := by decide +kernel
theorem dX7_reads_110 : decode cX7_reads 110 = .ok (.aload_n 0, 1) := by decide +kernel
theorem dX7_reads_111 : decode cX7_reads 111 = .ok (.iconst 0, 1) := by decide +kernel
theorem dX7_reads_112 : decode cX7_reads 112 = .ok (.invokevirtual 109, 3) := by decide +kernel
theorem dX7_reads_115 : decode cX7_reads 115 = .ok (.aload_n 0, 1) := by decide +kernel
theorem dX7_reads_116 : decode cX7_reads 116 = .ok (.aload_n 0, 1) := by decide +kernel
theorem dX7_reads_117 : decode cX7_reads 117 = .ok (.getfield 85, 3) := by decide +kernel
theorem dX7_reads_120 : decode cX7_reads 120 = .ok (.aload_n 0, 1) := by decide +kernel
theorem dX7_reads_121 : decode cX7_reads 121 = .ok (.getfield 88, 3) := by decide +kernel
theorem dX7_reads_124 : decode cX7_reads 124 = .ok (.iconst 1, 1) := by decide +kernel
theorem dX7_reads_125 : decode cX7_reads 125 = .ok (.iadd, 1) := by decide +kernel
theorem dX7_reads_126 : decode cX7_reads 126 = .ok (.if_icmp .ne 21, 3) := by decide +kernel
theorem dX7_reads_129 : decode cX7_reads 129 = .ok (.aload_n 0, 1) := by decide +kernel
theorem dX7_reads_130 : decode cX7_reads 130 = .ok (.getfield 19, 3) := by decide +kernel
theorem dX7_reads_133 : decode cX7_reads 133 = .ok (.aload_n 0, 1) := by decide +kernel
theorem dX7_reads_134 : decode cX7_reads 134 = .ok (.getfield 88, 3) := by decide +kernel
theorem dX7_reads_137 : decode cX7_reads 137 = .ok (.baload, 1) := by decide +kernel
theorem dX7_reads_138 : decode cX7_reads 138 = .ok (.bipush 59, 2) := by decide +kernel
theorem dX7_reads_140 : decode cX7_reads 140 = .ok (.if_icmp .ne 7, 3) := by decide +kernel
theorem dX7_reads_143 : decode cX7_reads 143 = .ok (.iconst 1, 1) := by decide +kernel
theorem dX7_reads_144 : decode cX7_reads 144 = .ok (.goto 4, 3) := by decide +kernel
theorem dX7_reads_147 : decode cX7_reads 147 = .ok (.iconst 0, 1) := by decide +kernel
theorem dX7_reads_148 : decode cX7_reads 148 = .ok (.invokevirtual 109, 3) := by decide +kernel
theorem dX7_reads_151 : decode cX7_reads 151 = .ok (.iinc 1 1, 3) := by decide +kernel
theorem dX7_reads_154 : decode cX7_reads 154 = .ok (.goto (-138), 3) := by decide +kernel
theorem dX7_reads_157 : decode cX7_reads 157 = .ok (.iload_n 1, 1) := by decide +kernel
theorem dX7_reads_158 : decode cX7_reads 158 = .ok (.ireturn, 1) := by decide +kernel
set_option maxRecDepth 20000 in
theorem ggX7_load_X7_reads : GoodIn wsX7_load wsX7_reads := goodIn_r _ [10, 11, 3, 4, 5, 12, 13, 14, 15, 16, 17, 18, 19, 20, 9, 21, 22, 23, 24, 25, 26, 27, 28, 29, 30, 31, 32, 33, 34, 35, 2, 36, 37, 38, 39, 40, 41, 42, 43, 44, 45, 46, 47, 48, 49, 50, 51, 52, 53, 54, 55, 56, 57, 58, 59, 60, 61, 62, 63, 64, 65, 66, 67, 68, 69, 70, 71, 72, 73, 74, 75, 76, 77, 78, 79, 80, 81, 82, 83, 84, 85, 86, 87, 98, 99, 100, 101, 102, 103, 104, 105, 106, 107, 108] (by decide +kernel) (by decide +kernel)
set_option maxRecDepth 20000 in
theorem gX7_load_X7_reads : GoodIn wsX7_load (wsV RX7 143 RX7 yX7_reads wsX7_reads) := goodIn_app (goodIn_of _ (by decide +kernel)) ggX7_load_X7_reads
set_option maxRecDepth 20000 in
theorem ggX7_load_X7_exchanges : GoodIn wsX7_load wsX7_exchanges := goodIn_r _ [91, 2, 1, 98, 99, 100, 101, 102, 103, 104, 105, 106, 107, 108] (by decide +kernel) (by decide +kernel)
set_option maxRecDepth 20000 in
theorem gX7_load_X7_exchanges : GoodIn wsX7_load (wsV RX7 147 RX7 yX7_exchanges wsX7_exchanges) := goodIn_app (goodIn_of _ (by decide +kernel)) ggX7_load_X7_exchanges
set_option maxRecDepth 20000 in
theorem ggX7_load_X7_notes : GoodIn wsX7_load wsX7_notes := goodIn_r _ [95, 96, 97, 2, 98, 99, 100, 101, 102, 103, 104, 105, 106, 107, 108] (by decide +kernel) (by decide +kernel)
set_option maxRecDepth 20000 in
theorem gX7_load_X7_notes : GoodIn wsX7_load (wsV RX7 51 RX7 yX7_notes wsX7_notes) := goodIn_app (goodIn_of _ (by decide +kernel)) ggX7_load_X7_notes
theorem dX7_load_0 : decode cX7_load 0 = .ok (.iconst 0, 1) := by decide +kernel
theorem dX7_load_1 : decode cX7_load 1 = .ok (.istore_n 1, 1) := by decide +kernel
theorem dX7_load_2 : decode cX7_load 2 = .ok (.iload_n 1, 1) := by decide +kernel
theorem dX7_load_3 : decode cX7_load 3 = .ok (.sipush 382, 3) := by decide +kernel
theorem dX7_load_6 : decode cX7_load 6 = .ok (.if_icmp .ge 21, 3) := by decide +kernel
theorem dX7_load_9 : decode cX7_load 9 = .ok (.aload_n 0, 1) := by decide +kernel
theorem dX7_load_10 : decode cX7_load 10 = .ok (.getfield 16, 3) := by decide +kernel
theorem dX7_load_13 : decode cX7_load 13 = .ok (.iload_n 1, 1) := by decide +kernel
theorem dX7_load_14 : decode cX7_load 14 = .ok (.aload_n 0, 1) := by decide +kernel
theorem dX7_load_15 : decode cX7_load 15 = .ok (.getfield 7, 3) := by decide +kernel
theorem dX7_load_18 : decode cX7_load 18 = .ok (.iload_n 1, 1) := by decide +kernel
theorem dX7_load_19 : decode cX7_load 19 = .ok (.iaload, 1) := by decide +kernel
theorem dX7_load_20 : decode cX7_load 20 = .ok (.iastore, 1) := by decide +kernel
theorem dX7_load_21 : decode cX7_load 21 = .ok (.iinc 1 1, 3) := by decide +kernel
theorem dX7_load_24 : decode cX7_load 24 = .ok (.goto (-22), 3) := by decide +kernel
theorem dX7_load_27 : decode cX7_load 27 = .ok (.aload_n 0, 1) := by decide +kernel
theorem dX7_load_28 : decode cX7_load 28 = .ok (.invokevirtual 143, 3) := by decide +kernel
theorem dX7_load_31 : decode cX7_load 31 = .ok (.istore_n 1, 1) := by decide +kernel
theorem dX7_load_32 : decode cX7_load 32 = .ok (.aload_n 0, 1) := by decide +kernel
theorem dX7_load_33 : decode cX7_load 33 = .ok (.invokevirtual 147, 3) := by decide +kernel
theorem dX7_load_36 : decode cX7_load 36 = .ok (.aload_n 0, 1) := by decide +kernel
theorem dX7_load_37 : decode cX7_load 37 = .ok (.getfield 102, 3) := by decide +kernel
theorem dX7_load_40 : decode cX7_load 40 = .ok (.ifCond .eq 11, 3) := by decide +kernel
theorem dX7_load_43 : decode cX7_load 43 = .ok (.bipush (-10), 2) := by decide +kernel
theorem dX7_load_45 : decode cX7_load 45 = .ok (.aload_n 0, 1) := by decide +kernel
theorem dX7_load_46 : decode cX7_load 46 = .ok (.getfield 88, 3) := by decide +kernel
theorem dX7_load_49 : decode cX7_load 49 = .ok (.isub, 1) := by decide +kernel
theorem dX7_load_50 : decode cX7_load 50 = .ok (.ireturn, 1) := by decide +kernel
