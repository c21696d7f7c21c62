theorem dX7_load_51 : decode cX7_load 51 = .ok (.aload_n 0, 1) := by decide +kernel
theorem dX7_load_52 : decode cX7_load 52 = .ok (.invokevirtual 51, 3) := by decide +kernel
theorem dX7_load_55 : decode cX7_load 55 = .ok (.aload_n 0, 1) := by decide +kernel
theorem dX7_load_56 : decode cX7_load 56 = .ok (.invokevirtual 147, 3) := by decide +kernel
theorem dX7_load_59 : decode cX7_load 59 = .ok (.aload_n 0, 1) := by decide +kernel
theorem dX7_load_60 : decode cX7_load 60 = .ok (.iconst 0, 1) := by decide +kernel
theorem dX7_load_61 : decode cX7_load 61 = .ok (.putfield 82, 3) := by decide +kernel
theorem dX7_load_64 : decode cX7_load 64 = .ok (.iload_n 1, 1) := by decide +kernel
theorem dX7_load_65 : decode cX7_load 65 = .ok (.ireturn, 1) := by decide +kernel
theorem dX7_about_0 : decode cX7_about 0 = .ok (.aload_n 0, 1) := by decide +kernel
theorem dX7_about_1 : decode cX7_about 1 = .ok (.getfield 7, 3) := by decide +kernel
theorem dX7_about_4 : decode cX7_about 4 = .ok (.bipush 46, 2) := by decide +kernel
theorem dX7_about_6 : decode cX7_about 6 = .ok (.bipush 6, 2) := by decide +kernel
theorem dX7_about_8 : decode cX7_about 8 = .ok (.iload_n 1, 1) := by decide +kernel
theorem dX7_about_9 : decode cX7_about 9 = .ok (.imul, 1) := by decide +kernel
theorem dX7_about_10 : decode cX7_about 10 = .ok (.iadd, 1) := by decide +kernel
theorem dX7_about_11 : decode cX7_about 11 = .ok (.iload_n 2, 1) := by decide +kernel
theorem dX7_about_12 : decode cX7_about 12 = .ok (.iadd, 1) := by decide +kernel
theorem dX7_about_13 : decode cX7_about 13 = .ok (.iaload, 1) := by decide +kernel
theorem dX7_about_14 : decode cX7_about 14 = .ok (.ireturn, 1) := by decide +kernel
theorem dX7_marks_0 : decode cX7_marks 0 = .ok (.aload_n 0, 1) := by decide +kernel
theorem dX7_marks_1 : decode cX7_marks 1 = .ok (.getfield 7, 3) := by decide +kernel
theorem dX7_marks_4 : decode cX7_marks 4 = .ok (.bipush 46, 2) := by decide +kernel
theorem dX7_marks_6 : decode cX7_marks 6 = .ok (.bipush 6, 2) := by decide +kernel
theorem dX7_marks_8 : decode cX7_marks 8 = .ok (.iload_n 1, 1) := by decide +kernel
theorem dX7_marks_9 : decode cX7_marks 9 = .ok (.imul, 1) := by decide +kernel
theorem dX7_marks_10 : decode cX7_marks 10 = .ok (.iadd, 1) := by decide +kernel
theorem dX7_marks_11 : decode cX7_marks 11 = .ok (.iconst 5, 1) := by decide +kernel
theorem dX7_marks_12 : decode cX7_marks 12 = .ok (.iadd, 1) := by decide +kernel
theorem dX7_marks_13 : decode cX7_marks 13 = .ok (.iload_n 2, 1) := by decide +kernel
theorem dX7_marks_14 : decode cX7_marks 14 = .ok (.iastore, 1) := by decide +kernel
theorem dX7_marks_15 : decode cX7_marks 15 = .ok (.return_, 1) := by decide +kernel
set_option maxRecDepth 20000 in
theorem ggX7_isReservation_X7_in : GoodIn wsX7_isReservation wsX7_in := goodIn_r _ [5] (by decide +kernel) (by decide +kernel)
set_option maxRecDepth 20000 in
theorem gX7_isReservation_X7_in : GoodIn wsX7_isReservation (va_wsS RX7 31 yX7_in wsX7_in) := goodIn_app (goodIn_of _ (by decide +kernel)) ggX7_isReservation_X7_in
theorem dX7_isReservation_0 : decode cX7_isReservation 0 = .ok (.iload_n 1, 1) := by decide +kernel
theorem dX7_isReservation_1 : decode cX7_isReservation 1 = .ok (.iconst 0, 1) := by decide +kernel
theorem dX7_isReservation_2 : decode cX7_isReservation 2 = .ok (.aload_n 0, 1) := by decide +kernel
theorem dX7_isReservation_3 : decode cX7_isReservation 3 = .ok (.getfield 7, 3) := by decide +kernel
theorem dX7_isReservation_6 : decode cX7_isReservation 6 = .ok (.iconst 2, 1) := by decide +kernel
theorem dX7_isReservation_7 : decode cX7_isReservation 7 = .ok (.iaload, 1) := by decide +kernel
theorem dX7_isReservation_8 : decode cX7_isReservation 8 = .ok (.iconst 1, 1) := by decide +kernel
theorem dX7_isReservation_9 : decode cX7_isReservation 9 = .ok (.isub, 1) := by decide +kernel
theorem dX7_isReservation_10 : decode cX7_isReservation 10 = .ok (.invokestatic 31, 3) := by decide +kernel
theorem dX7_isReservation_13 : decode cX7_isReservation 13 = .ok (.ireturn, 1) := by decide +kernel
set_option maxRecDepth 20000 in
theorem ggX7_isAlive_X7_about : GoodIn wsX7_isAlive wsX7_about := goodIn_r _ [5, 6, 7, 8, 9, 10, 11, 12, 13, 14, 15, 16, 17] (by decide +kernel) (by decide +kernel)
set_option maxRecDepth 20000 in
theorem gX7_isAlive_X7_about : GoodIn wsX7_isAlive (wsV RX7 150 RX7 yX7_about wsX7_about) := goodIn_app (goodIn_of _ (by decide +kernel)) ggX7_isAlive_X7_about
theorem dX7_isAlive_0 : decode cX7_isAlive 0 = .ok (.aload_n 0, 1) := by decide +kernel
theorem dX7_isAlive_1 : decode cX7_isAlive 1 = .ok (.iload_n 1, 1) := by decide +kernel
theorem dX7_isAlive_2 : decode cX7_isAlive 2 = .ok (.iconst 5, 1) := by decide +kernel
theorem dX7_isAlive_3 : decode cX7_isAlive 3 = .ok (.invokevirtual 150, 3) := by decide +kernel
theorem dX7_isAlive_6 : decode cX7_isAlive 6 = .ok (.iconst 2, 1) := by decide +kernel
theorem dX7_isAlive_7 : decode cX7_isAlive 7 = .ok (.if_icmp .ge 7, 3) := by decide +kernel
theorem dX7_isAlive_10 : decode cX7_isAlive 10 = .ok (.iconst 1, 1) := by decide +kernel
theorem dX7_isAlive_11 : decode cX7_isAlive 11 = .ok (.goto 4, 3) := by decide +kernel
theorem dX7_isAlive_14 : decode cX7_isAlive 14 = .ok (.iconst 0, 1) := by decide +kernel
theorem dX7_isAlive_15 : decode cX7_isAlive 15 = .ok (.ireturn, 1) := by decide +kernel
theorem dX7_holdsFrom_0 : decode cX7_holdsFrom 0 = .ok (.iload_n 1, 1) := by decide +kernel
theorem dX7_holdsFrom_1 : decode cX7_holdsFrom 1 = .ok (.aload_n 0, 1) := by decide +kernel
theorem dX7_holdsFrom_2 : decode cX7_holdsFrom 2 = .ok (.getfield 7, 3) := by decide +kernel
theorem dX7_holdsFrom_5 : decode cX7_holdsFrom 5 = .ok (.bipush 6, 2) := by decide +kernel
theorem dX7_holdsFrom_7 : decode cX7_holdsFrom 7 = .ok (.iaload, 1) := by decide +kernel
theorem dX7_holdsFrom_8 : decode cX7_holdsFrom 8 = .ok (.isub, 1) := by decide +kernel
theorem dX7_holdsFrom_9 : decode cX7_holdsFrom 9 = .ok (.ireturn, 1) := by decide +kernel
set_option maxRecDepth 20000 in
theorem ggX7_holdsNow_X7_isAlive : GoodIn wsX7_holdsNow wsX7_isAlive := goodIn_r _ [6, 7, 8, 9, 5, 10, 1, 15, 16, 17, 18, 19, 20, 21, 22, 23, 24, 25] (by decide +kernel) (by decide +kernel)
set_option maxRecDepth 20000 in
theorem gX7_holdsNow_X7_isAlive : GoodIn wsX7_holdsNow (wsV RX7 153 RX7 yX7_isAlive wsX7_isAlive) := goodIn_app (goodIn_of _ (by decide +kernel)) ggX7_holdsNow_X7_isAlive
set_option maxRecDepth 20000 in
theorem ggX7_holdsNow_X7_about : GoodIn wsX7_holdsNow wsX7_about := goodIn_r _ [10, 1, 15, 16, 17, 18, 19, 20, 21, 22, 23, 24, 25] (by decide +kernel) (by decide +kernel)
set_option maxRecDepth 20000 in
theorem gX7_holdsNow_X7_about : GoodIn wsX7_holdsNow (wsV RX7 150 RX7 yX7_about wsX7_about) := goodIn_app (goodIn_of _ (by decide +kernel)) ggX7_holdsNow_X7_about
set_option maxRecDepth 20000 in
theorem ggX7_holdsNow_X7_holdsFrom : GoodIn wsX7_holdsNow wsX7_holdsFrom := goodIn_r _ [14, 1, 15, 16, 17, 18, 19, 20, 21, 22, 23, 24, 25] (by decide +kernel) (by decide +kernel)
set_option maxRecDepth 20000 in
theorem gX7_holdsNow_X7_holdsFrom : GoodIn wsX7_holdsNow (wsV RX7 156 RX7 yX7_holdsFrom wsX7_holdsFrom) := goodIn_app (goodIn_of _ (by decide +kernel)) ggX7_holdsNow_X7_holdsFrom
theorem dX7_holdsNow_0 : decode cX7_holdsNow 0 = .ok (.aload_n 0, 1) := by decide +kernel
theorem dX7_holdsNow_1 : decode cX7_holdsNow 1 = .ok (.iload_n 1, 1) := by decide +kernel
theorem dX7_holdsNow_2 : decode cX7_holdsNow 2 = .ok (.invokevirtual 153, 3) := by decide +kernel
theorem dX7_holdsNow_5 : decode cX7_holdsNow 5 = .ok (.ifCond .eq 41, 3) := by decide +kernel
theorem dX7_holdsNow_8 : decode cX7_holdsNow 8 = .ok (.aload_n 0, 1) := by decide +kernel
theorem dX7_holdsNow_9 : decode cX7_holdsNow 9 = .ok (.aload_n 0, 1) := by decide +kernel
theorem dX7_holdsNow_10 : decode cX7_holdsNow 10 = .ok (.iload_n 1, 1) := by decide +kernel
theorem dX7_holdsNow_11 : decode cX7_holdsNow 11 = .ok (.iconst 2, 1) := by decide +kernel
theorem dX7_holdsNow_12 : decode cX7_holdsNow 12 = .ok (.invokevirtual 150, 3) := by decide +kernel
theorem dX7_holdsNow_15 : decode cX7_holdsNow 15 = .ok (.invokevirtual 156, 3) := by decide +kernel
theorem dX7_holdsNow_18 : decode cX7_holdsNow 18 = .ok (.aload_n 0, 1) := by decide +kernel
theorem dX7_holdsNow_19 : decode cX7_holdsNow 19 = .ok (.getfield 7, 3) := by decide +kernel
theorem dX7_holdsNow_22 : decode cX7_holdsNow 22 = .ok (.iconst 0, 1) := by decide +kernel
theorem dX7_holdsNow_23 : decode cX7_holdsNow 23 = .ok (.iaload, 1) := by decide +kernel
theorem dX7_holdsNow_24 : decode cX7_holdsNow 24 = .ok (.if_icmp .gt 22, 3) := by decide +kernel
theorem dX7_holdsNow_27 : decode cX7_holdsNow 27 = .ok (.aload_n 0, 1) := by decide +kernel
theorem dX7_holdsNow_28 : decode cX7_holdsNow 28 = .ok (.getfield 7, 3) := by decide +kernel
theorem dX7_holdsNow_31 : decode cX7_holdsNow 31 = .ok (.iconst 0, 1) := by decide +kernel
theorem dX7_holdsNow_32 : decode cX7_holdsNow 32 = .ok (.iaload, 1) := by decide +kernel
theorem dX7_holdsNow_33 : decode cX7_holdsNow 33 = .ok (.aload_n 0, 1) := by decide +kernel
theorem dX7_holdsNow_34 : decode cX7_holdsNow 34 = .ok (.iload_n 1, 1) := by decide +kernel
theorem dX7_holdsNow_35 : decode cX7_holdsNow 35 = .ok (.iconst 3, 1) := by decide +kernel
theorem dX7_holdsNow_36 : decode cX7_holdsNow 36 = .ok (.invokevirtual 150, 3) := by decide +kernel
theorem dX7_holdsNow_39 : decode cX7_holdsNow 39 = .ok (.if_icmp .ge 7, 3) := by decide +kernel
theorem dX7_holdsNow_42 : decode cX7_holdsNow 42 = .ok (.iconst 1, 1) := by decide +kernel
theorem dX7_holdsNow_43 : decode cX7_holdsNow 43 = .ok (.goto 4, 3) := by decide +kernel
theorem dX7_holdsNow_46 : decode cX7_holdsNow 46 = .ok (.iconst 0, 1) := by decide +kernel
theorem dX7_holdsNow_47 : decode cX7_holdsNow 47 = .ok (.ireturn, 1) := by decide +kernel
set_option maxRecDepth 20000 in
theorem ggX7_holder_X7_about : GoodIn wsX7_holder wsX7_about := goodIn_r _ [6, 1, 19, 20, 21, 22, 23, 24, 25, 26, 27, 28, 29] (by decide +kernel) (by decide +kernel)
set_option maxRecDepth 20000 in
theorem gX7_holder_X7_about : GoodIn wsX7_holder (wsV RX7 150 RX7 yX7_about wsX7_about) := goodIn_app (goodIn_of _ (by decide +kernel)) ggX7_holder_X7_about
set_option maxRecDepth 20000 in
theorem ggX7_holder_X7_holdsNow : GoodIn wsX7_holder wsX7_holdsNow := goodIn_r _ [10, 1, 11, 12, 13, 5, 14, 2, 3, 4, 6, 15, 16, 17, 18, 19, 20, 21, 22, 23, 24, 25, 26, 27, 28, 29] (by decide +kernel) (by decide +kernel)
set_option maxRecDepth 20000 in
theorem gX7_holder_X7_holdsNow : GoodIn wsX7_holder (wsV RX7 159 RX7 yX7_holdsNow wsX7_holdsNow) := goodIn_app (goodIn_of _ (by decide +kernel)) ggX7_holder_X7_holdsNow
theorem dX7_holder_0 : decode cX7_holder 0 = .ok (.iconst 0, 1) := by decide +kernel
theorem dX7_holder_1 : decode cX7_holder 1 = .ok (.istore_n 2, 1) := by decide +kernel
theorem dX7_holder_2 : decode cX7_holder 2 = .ok (.iload_n 2, 1) := by decide +kernel
theorem dX7_holder_3 : decode cX7_holder 3 = .ok (.aload_n 0, 1) := by decide +kernel
theorem dX7_holder_4 : decode cX7_holder 4 = .ok (.getfield 7, 3) := by decide +kernel
theorem dX7_holder_7 : decode cX7_holder 7 = .ok (.iconst 2, 1) := by decide +kernel
theorem dX7_holder_8 : decode cX7_holder 8 = .ok (.iaload, 1) := by decide +kernel
theorem dX7_holder_9 : decode cX7_holder 9 = .ok (.if_icmp .ge 29, 3) := by decide +kernel
theorem dX7_holder_12 : decode cX7_holder 12 = .ok (.aload_n 0, 1) := by decide +kernel
theorem dX7_holder_13 : decode cX7_holder 13 = .ok (.iload_n 2, 1) := by decide +kernel
theorem dX7_holder_14 : decode cX7_holder 14 = .ok (.iconst 1, 1) := by decide +kernel
theorem dX7_holder_15 : decode cX7_holder 15 = .ok (.invokevirtual 150, 3) := by decide +kernel
theorem dX7_holder_18 : decode cX7_holder 18 = .ok (.iload_n 1, 1) := by decide +kernel
theorem dX7_holder_19 : decode cX7_holder 19 = .ok (.if_icmp .ne 13, 3) := by decide +kernel
theorem dX7_holder_22 : decode cX7_holder 22 = .ok (.aload_n 0, 1) := by decide +kernel
theorem dX7_holder_23 : decode cX7_holder 23 = .ok (.iload_n 2, 1) := by decide +kernel
theorem dX7_holder_24 : decode cX7_holder 24 = .ok (.invokevirtual 159, 3) := by decide +kernel
theorem dX7_holder_27 : decode cX7_holder 27 = .ok (.ifCond .eq 5, 3) := by decide +kernel
theorem dX7_holder_30 : decode cX7_holder 30 = .ok (.iload_n 2, 1) := by decide +kernel
theorem dX7_holder_31 : decode cX7_holder 31 = .ok (.ireturn, 1) := by decide +kernel
theorem dX7_holder_32 : decode cX7_holder 32 = .ok (.iinc 2 1, 3) := by decide +kernel
theorem dX7_holder_35 : decode cX7_holder 35 = .ok (.goto (-33), 3) := by decide +kernel
theorem dX7_holder_38 : decode cX7_holder 38 = .ok (.bipush (-9), 2) := by decide +kernel
theorem dX7_holder_40 : decode cX7_holder 40 = .ok (.ireturn, 1) := by decide +kernel
set_option maxRecDepth 20000 in
theorem ggX7_isHeld_X7_about : GoodIn wsX7_isHeld wsX7_about := goodIn_r _ [6, 1, 15, 16, 17, 18, 19, 20, 21, 22, 23, 24, 25] (by decide +kernel) (by decide +kernel)
set_option maxRecDepth 20000 in
theorem gX7_isHeld_X7_about : GoodIn wsX7_isHeld (wsV RX7 150 RX7 yX7_about wsX7_about) := goodIn_app (goodIn_of _ (by decide +kernel)) ggX7_isHeld_X7_about
set_option maxRecDepth 20000 in
theorem ggX7_isHeld_X7_isAlive : GoodIn wsX7_isHeld wsX7_isAlive := goodIn_r _ [10, 2, 3, 4, 5, 6, 1, 15, 16, 17, 18, 19, 20, 21, 22, 23, 24, 25] (by decide +kernel) (by decide +kernel)
set_option maxRecDepth 20000 in
theorem gX7_isHeld_X7_isAlive : GoodIn wsX7_isHeld (wsV RX7 153 RX7 yX7_isAlive wsX7_isAlive) := goodIn_app (goodIn_of _ (by decide +kernel)) ggX7_isHeld_X7_isAlive
set_option maxRecDepth 20000 in
theorem ggX7_isHeld_X7_holdsFrom : GoodIn wsX7_isHeld wsX7_holdsFrom := goodIn_r _ [14, 1, 15, 16, 17, 18, 19, 20, 21, 22, 23, 24, 25] (by decide +kernel) (by decide +kernel)
set_option maxRecDepth 20000 in
theorem gX7_isHeld_X7_holdsFrom : GoodIn wsX7_isHeld (wsV RX7 156 RX7 yX7_holdsFrom wsX7_holdsFrom) := goodIn_app (goodIn_of _ (by decide +kernel)) ggX7_isHeld_X7_holdsFrom
theorem dX7_isHeld_0 : decode cX7_isHeld 0 = .ok (.iconst 0, 1) := by decide +kernel
theorem dX7_isHeld_1 : decode cX7_isHeld 1 = .ok (.istore 4, 2) := by decide +kernel
theorem dX7_isHeld_3 : decode cX7_isHeld 3 = .ok (.iconst 0, 1) := by decide +kernel
theorem dX7_isHeld_4 : decode cX7_isHeld 4 = .ok (.istore 5, 2) := by decide +kernel
theorem dX7_isHeld_6 : decode cX7_isHeld 6 = .ok (.iload 5, 2) := by decide +kernel
theorem dX7_isHeld_8 : decode cX7_isHeld 8 = .ok (.aload_n 0, 1) := by decide +kernel
theorem dX7_isHeld_9 : decode cX7_isHeld 9 = .ok (.getfield 7, 3) := by decide +kernel
theorem dX7_isHeld_12 : decode cX7_isHeld 12 = .ok (.iconst 2, 1) := by decide +kernel
theorem dX7_isHeld_13 : decode cX7_isHeld 13 = .ok (.iaload, 1) := by decide +kernel
theorem dX7_isHeld_14 : decode cX7_isHeld 14 = .ok (.if_icmp .ge 67, 3) := by decide +kernel
theorem dX7_isHeld_17 : decode cX7_isHeld 17 = .ok (.iload 4, 2) := by decide +kernel
theorem dX7_isHeld_19 : decode cX7_isHeld 19 = .ok (.ifCond .ne 49, 3) := by decide +kernel
theorem dX7_isHeld_22 : decode cX7_isHeld 22 = .ok (.aload_n 0, 1) := by decide +kernel
theorem dX7_isHeld_23 : decode cX7_isHeld 23 = .ok (.iload 5, 2) := by decide +kernel
theorem dX7_isHeld_25 : decode cX7_isHeld 25 = .ok (.iconst 1, 1) := by decide +kernel
theorem dX7_isHeld_26 : decode cX7_isHeld 26 = .ok (.invokevirtual 150, 3) := by decide +kernel
theorem dX7_isHeld_29 : decode cX7_isHeld 29 = .ok (.iload_n 1, 1) := by decide +kernel
theorem dX7_isHeld_30 : decode cX7_isHeld 30 = .ok (.if_icmp .ne 42, 3) := by decide +kernel
theorem dX7_isHeld_33 : decode cX7_isHeld 33 = .ok (.aload_n 0, 1) := by decide +kernel
theorem dX7_isHeld_34 : decode cX7_isHeld 34 = .ok (.iload 5, 2) := by decide +kernel
theorem dX7_isHeld_36 : decode cX7_isHeld 36 = .ok (.invokevirtual 153, 3) := by decide +kernel
theorem dX7_isHeld_39 : decode cX7_isHeld 39 = .ok (.ifCond .eq 33, 3) := by decide +kernel
theorem dX7_isHeld_42 : decode cX7_isHeld 42 = .ok (.aload_n 0, 1) := by decide +kernel
theorem dX7_isHeld_43 : decode cX7_isHeld 43 = .ok (.aload_n 0, 1) := by decide +kernel
theorem dX7_isHeld_44 : decode cX7_isHeld 44 = .ok (.iload 5, 2) := by decide +kernel
theorem dX7_isHeld_46 : decode cX7_isHeld 46 = .ok (.iconst 2, 1) := by decide +kernel
theorem dX7_isHeld_47 : decode cX7_isHeld 47 = .ok (.invokevirtual 150, 3) := by decide +kernel
theorem dX7_isHeld_50 : decode cX7_isHeld 50 = .ok (.invokevirtual 156, 3) := by decide +kernel
theorem dX7_isHeld_53 : decode cX7_isHeld 53 = .ok (.iload_n 3, 1) := by decide +kernel
theorem dX7_isHeld_54 : decode cX7_isHeld 54 = .ok (.if_icmp .ge 18, 3) := by decide +kernel
theorem dX7_isHeld_57 : decode cX7_isHeld 57 = .ok (.iload_n 2, 1) := by decide +kernel
theorem dX7_isHeld_58 : decode cX7_isHeld 58 = .ok (.aload_n 0, 1) := by decide +kernel
theorem dX7_isHeld_59 : decode cX7_isHeld 59 = .ok (.iload 5, 2) := by decide +kernel
theorem dX7_isHeld_61 : decode cX7_isHeld 61 = .ok (.iconst 3, 1) := by decide +kernel
theorem dX7_isHeld_62 : decode cX7_isHeld 62 = .ok (.invokevirtual 150, 3) := by decide +kernel
theorem dX7_isHeld_65 : decode cX7_isHeld 65 = .ok (.if_icmp .ge 7, 3) := by decide +kernel
theorem dX7_isHeld_68 : decode cX7_isHeld 68 = .ok (.iconst 1, 1) := by decide +kernel
theorem dX7_isHeld_69 : decode cX7_isHeld 69 = .ok (.goto 4, 3) := by decide +kernel
theorem dX7_isHeld_72 : decode cX7_isHeld 72 = .ok (.iconst 0, 1) := by decide +kernel
theorem dX7_isHeld_73 : decode cX7_isHeld 73 = .ok (.istore 4, 2) := by decide +kernel
theorem dX7_isHeld_75 : decode cX7_isHeld 75 = .ok (.iinc 5 1, 3) := by decide +kernel
theorem dX7_isHeld_78 : decode cX7_isHeld 78 = .ok (.goto (-72), 3) := by decide +kernel
theorem dX7_isHeld_81 : decode cX7_isHeld 81 = .ok (.iload 4, 2) := by decide +kernel
theorem dX7_isHeld_83 : decode cX7_isHeld 83 = .ok (.ireturn, 1) := by decide +kernel
set_option maxRecDepth 20000 in
theorem ggX7_bayFor_X7_isFit : GoodIn wsX7_bayFor wsX7_isFit := goodIn_r _ [6, 7, 8, 9, 5, 10, 1, 35, 36, 37, 38, 39, 40, 41, 42, 43, 44, 45] (by decide +kernel) (by decide +kernel)
set_option maxRecDepth 20000 in
theorem gX7_bayFor_X7_isFit : GoodIn wsX7_bayFor (wsV RX7 162 RX7 yX7_isFit wsX7_isFit) := goodIn_app (goodIn_of _ (by decide +kernel)) ggX7_bayFor_X7_isFit
set_option maxRecDepth 20000 in
theorem ggX7_bayFor_X7_holdsFrom : GoodIn wsX7_bayFor wsX7_holdsFrom := goodIn_r _ [14, 1, 35, 36, 37, 38, 39, 40, 41, 42, 43, 44, 45] (by decide +kernel) (by decide +kernel)
set_option maxRecDepth 20000 in
theorem gX7_bayFor_X7_holdsFrom : GoodIn wsX7_bayFor (wsV RX7 156 RX7 yX7_holdsFrom wsX7_holdsFrom) := goodIn_app (goodIn_of _ (by decide +kernel)) ggX7_bayFor_X7_holdsFrom
set_option maxRecDepth 20000 in
theorem ggX7_bayFor_X7_isHeld : GoodIn wsX7_bayFor wsX7_isHeld := goodIn_r _ [18, 1, 19, 20, 21, 5, 22, 23, 24, 25, 26, 11, 12, 13, 14, 35, 36, 37, 38, 39, 40, 41, 42, 43, 44, 45] (by decide +kernel) (by decide +kernel)
set_option maxRecDepth 20000 in
theorem gX7_bayFor_X7_isHeld : GoodIn wsX7_bayFor (wsV RX7 165 RX7 yX7_isHeld wsX7_isHeld) := goodIn_app (goodIn_of _ (by decide +kernel)) ggX7_bayFor_X7_isHeld
set_option maxRecDepth 20000 in
theorem ggX7_bayFor_X7_of : GoodIn wsX7_bayFor wsX7_of := goodIn_r _ [10, 1, 35, 36, 37, 38, 39, 40, 41, 42, 43, 44, 45] (by decide +kernel) (by decide +kernel)
set_option maxRecDepth 20000 in
theorem gX7_bayFor_X7_of : GoodIn wsX7_bayFor (wsV RX7 35 RX7 yX7_of wsX7_of) := goodIn_app (goodIn_of _ (by decide +kernel)) ggX7_bayFor_X7_of
set_option maxRecDepth 20000 in
theorem ggX7_bayFor_X7_isBefore : GoodIn wsX7_bayFor wsX7_isBefore := goodIn_r _ [30, 31, 32, 33, 5, 34, 1, 7, 8, 9, 10, 35, 36, 37, 38, 39, 40, 41, 42, 43, 44, 45] (by decide +kernel) (by decide +kernel)
set_option maxRecDepth 20000 in
theorem gX7_bayFor_X7_isBefore : GoodIn wsX7_bayFor (wsV RX7 168 RX7 yX7_isBefore wsX7_isBefore) := goodIn_app (goodIn_of _ (by decide +kernel)) ggX7_bayFor_X7_isBefore
theorem dX7_bayFor_0 : decode cX7_bayFor 0 = .ok (.bipush (-9), 2) := by decide +kernel
theorem dX7_bayFor_2 : decode cX7_bayFor 2 = .ok (.istore 4, 2) := by decide +kernel
theorem dX7_bayFor_4 : decode cX7_bayFor 4 = .ok (.iconst 0, 1) := by decide +kernel
theorem dX7_bayFor_5 : decode cX7_bayFor 5 = .ok (.istore 5, 2) := by decide +kernel
theorem dX7_bayFor_7 : decode cX7_bayFor 7 = .ok (.iload 5, 2) := by decide +kernel
theorem dX7_bayFor_9 : decode cX7_bayFor 9 = .ok (.aload_n 0, 1) := by decide +kernel
theorem dX7_bayFor_10 : decode cX7_bayFor 10 = .ok (.getfield 7, 3) := by decide +kernel
theorem dX7_bayFor_13 : decode cX7_bayFor 13 = .ok (.iconst 1, 1) := by decide +kernel
theorem dX7_bayFor_14 : decode cX7_bayFor 14 = .ok (.iaload, 1) := by decide +kernel
theorem dX7_bayFor_15 : decode cX7_bayFor 15 = .ok (.if_icmp .ge 97, 3) := by decide +kernel
theorem dX7_bayFor_18 : decode cX7_bayFor 18 = .ok (.aload_n 0, 1) := by decide +kernel
theorem dX7_bayFor_19 : decode cX7_bayFor 19 = .ok (.iload 5, 2) := by decide +kernel
theorem dX7_bayFor_21 : decode cX7_bayFor 21 = .ok (.iload_n 1, 1) := by decide +kernel
theorem dX7_bayFor_22 : decode cX7_bayFor 22 = .ok (.invokevirtual 162, 3) := by decide +kernel
theorem dX7_bayFor_25 : decode cX7_bayFor 25 = .ok (.ifCond .eq 46, 3) := by decide +kernel
theorem dX7_bayFor_28 : decode cX7_bayFor 28 = .ok (.aload_n 0, 1) := by decide +kernel
theorem dX7_bayFor_29 : decode cX7_bayFor 29 = .ok (.iload 5, 2) := by decide +kernel
theorem dX7_bayFor_31 : decode cX7_bayFor 31 = .ok (.aload_n 0, 1) := by decide +kernel
theorem dX7_bayFor_32 : decode cX7_bayFor 32 = .ok (.iload_n 2, 1) := by decide +kernel
theorem dX7_bayFor_33 : decode cX7_bayFor 33 = .ok (.invokevirtual 156, 3) := by decide +kernel
theorem dX7_bayFor_36 : decode cX7_bayFor 36 = .ok (.iload_n 3, 1) := by decide +kernel
theorem dX7_bayFor_37 : decode cX7_bayFor 37 = .ok (.invokevirtual 165, 3) := by decide +kernel
theorem dX7_bayFor_40 : decode cX7_bayFor 40 = .ok (.ifCond .ne 31, 3) := by decide +kernel
theorem dX7_bayFor_43 : decode cX7_bayFor 43 = .ok (.aload_n 0, 1) := by decide +kernel
theorem dX7_bayFor_44 : decode cX7_bayFor 44 = .ok (.iload_n 2, 1) := by decide +kernel
theorem dX7_bayFor_45 : decode cX7_bayFor 45 = .ok (.invokevirtual 156, 3) := by decide +kernel
theorem dX7_bayFor_48 : decode cX7_bayFor 48 = .ok (.aload_n 0, 1) := by decide +kernel
theorem dX7_bayFor_49 : decode cX7_bayFor 49 = .ok (.getfield 7, 3) := by decide +kernel
theorem dX7_bayFor_52 : decode cX7_bayFor 52 = .ok (.iconst 0, 1) := by decide +kernel
theorem dX7_bayFor_53 : decode cX7_bayFor 53 = .ok (.iaload, 1) := by decide +kernel
theorem dX7_bayFor_54 : decode cX7_bayFor 54 = .ok (.if_icmp .gt 13, 3) := by decide +kernel
theorem dX7_bayFor_57 : decode cX7_bayFor 57 = .ok (.aload_n 0, 1) := by decide +kernel
theorem dX7_bayFor_58 : decode cX7_bayFor 58 = .ok (.iload 5, 2) := by decide +kernel
theorem dX7_bayFor_60 : decode cX7_bayFor 60 = .ok (.iconst 4, 1) := by decide +kernel
theorem dX7_bayFor_61 : decode cX7_bayFor 61 = .ok (.invokevirtual 35, 3) := by decide +kernel
theorem dX7_bayFor_64 : decode cX7_bayFor 64 = .ok (.ifCond .ne 7, 3) := by decide +kernel
theorem dX7_bayFor_67 : decode cX7_bayFor 67 = .ok (.iconst 1, 1) := by decide +kernel
theorem dX7_bayFor_68 : decode cX7_bayFor 68 = .ok (.goto 4, 3) := by decide +kernel
theorem dX7_bayFor_71 : decode cX7_bayFor 71 = .ok (.iconst 0, 1) := by decide +kernel
theorem dX7_bayFor_72 : decode cX7_bayFor 72 = .ok (.istore 6, 2) := by decide +kernel
theorem dX7_bayFor_74 : decode cX7_bayFor 74 = .ok (.iload 6, 2) := by decide +kernel
theorem dX7_bayFor_76 : decode cX7_bayFor 76 = .ok (.ifCond .eq 26, 3) := by decide +kernel
theorem dX7_bayFor_79 : decode cX7_bayFor 79 = .ok (.iload 4, 2) := by decide +kernel
theorem dX7_bayFor_81 : decode cX7_bayFor 81 = .ok (.bipush (-9), 2) := by decide +kernel
theorem dX7_bayFor_83 : decode cX7_bayFor 83 = .ok (.if_icmp .eq 14, 3) := by decide +kernel
theorem dX7_bayFor_86 : decode cX7_bayFor 86 = .ok (.aload_n 0, 1) := by decide +kernel
theorem dX7_bayFor_87 : decode cX7_bayFor 87 = .ok (.iload 5, 2) := by decide +kernel
theorem dX7_bayFor_89 : decode cX7_bayFor 89 = .ok (.iload 4, 2) := by decide +kernel
theorem dX7_bayFor_91 : decode cX7_bayFor 91 = .ok (.invokevirtual 168, 3) := by decide +kernel
theorem dX7_bayFor_94 : decode cX7_bayFor 94 = .ok (.ifCond .eq 8, 3) := by decide +kernel
theorem dX7_bayFor_97 : decode cX7_bayFor 97 = .ok (.iload 5, 2) := by decide +kernel
theorem dX7_bayFor_99 : decode cX7_bayFor 99 = .ok (.goto 5, 3) := by decide +kernel
theorem dX7_bayFor_102 : decode cX7_bayFor 102 = .ok (.iload 4, 2) := by decide +kernel
theorem dX7_bayFor_104 : decode cX7_bayFor 104 = .ok (.istore 4, 2) := by decide +kernel
theorem dX7_bayFor_106 : decode cX7_bayFor 106 = .ok (.iinc 5 1, 3) := by decide +kernel
theorem dX7_bayFor_109 : decode cX7_bayFor 109 = .ok (.goto (-102), 3) := by decide +kernel
theorem dX7_bayFor_112 : decode cX7_bayFor 112 = .ok (.iload 4, 2) := by decide +kernel
theorem dX7_bayFor_114 : decode cX7_bayFor 114 = .ok (.ireturn, 1) := by decide +kernel
set_option maxRecDepth 20000 in
theorem ggX7_reserve_X7_in : GoodIn wsX7_reserve wsX7_in := goodIn_r _ [5] (by decide +kernel) (by decide +kernel)
set_option maxRecDepth 20000 in
theorem gX7_reserve_X7_in : GoodIn wsX7_reserve (va_wsS RX7 31 yX7_in wsX7_in) := goodIn_app (goodIn_of _ (by decide +kernel)) ggX7_reserve_X7_in
set_option maxRecDepth 20000 in
theorem ggX7_reserve_X7_bayFor : GoodIn wsX7_reserve wsX7_bayFor := goodIn_r _ [9, 1, 10, 11, 12, 4, 13, 14, 15, 16, 17, 18, 19, 20, 21, 22, 23, 24, 25, 26, 27, 28, 29, 30, 31, 32, 33, 34, 35, 36, 37, 38, 39, 40, 41, 59, 60, 61, 62, 63, 64, 65, 66, 67, 68, 69] (by decide +kernel) (by decide +kernel)
set_option maxRecDepth 20000 in
theorem gX7_reserve_X7_bayFor : GoodIn wsX7_reserve (wsV RX7 171 RX7 yX7_bayFor wsX7_bayFor) := goodIn_app (goodIn_of _ (by decide +kernel)) ggX7_reserve_X7_bayFor
set_option maxRecDepth 20000 in
theorem ggX7_reserve_X7_notes : GoodIn wsX7_reserve wsX7_notes := goodIn_r _ [45, 46, 47, 1, 59, 60, 61, 62, 63, 64, 65, 66, 67, 68, 69] (by decide +kernel) (by decide +kernel)
set_option maxRecDepth 20000 in
theorem gX7_reserve_X7_notes : GoodIn wsX7_reserve (wsV RX7 51 RX7 yX7_notes wsX7_notes) := goodIn_app (goodIn_of _ (by decide +kernel)) ggX7_reserve_X7_notes
set_option maxRecDepth 20000 in
theorem ggX7_reserve_X7_normal : GoodIn wsX7_reserve wsX7_normal := goodIn_r _ [51, 1, 52, 53, 54, 4, 55, 56, 57, 58, 59, 60, 61, 62, 63, 64, 65, 66, 67, 68, 69] (by decide +kernel) (by decide +kernel)
set_option maxRecDepth 20000 in
theorem gX7_reserve_X7_normal : GoodIn wsX7_reserve (wsV RX7 174 RX7 yX7_normal wsX7_normal) := goodIn_app (goodIn_of _ (by decide +kernel)) ggX7_reserve_X7_normal
theorem dX7_reserve_0 : decode cX7_reserve 0 = .ok (.iload_n 1, 1) := by decide +kernel
theorem dX7_reserve_1 : decode cX7_reserve 1 = .ok (.iconst 1, 1) := by decide +kernel
theorem dX7_reserve_2 : decode cX7_reserve 2 = .ok (.sipush 999, 3) := by decide +kernel
theorem dX7_reserve_5 : decode cX7_reserve 5 = .ok (.invokestatic 31, 3) := by decide +kernel
theorem dX7_reserve_8 : decode cX7_reserve 8 = .ok (.ifCond .eq 44, 3) := by decide +kernel
theorem dX7_reserve_11 : decode cX7_reserve 11 = .ok (.iload_n 2, 1) := by decide +kernel
theorem dX7_reserve_12 : decode cX7_reserve 12 = .ok (.iconst 0, 1) := by decide +kernel
theorem dX7_reserve_13 : decode cX7_reserve 13 = .ok (.iconst 2, 1) := by decide +kernel
theorem dX7_reserve_14 : decode cX7_reserve 14 = .ok (.invokestatic 31, 3) := by decide +kernel
theorem dX7_reserve_17 : decode cX7_reserve 17 = .ok (.ifCond .eq 35, 3) := by decide +kernel
theorem dX7_reserve_20 : decode cX7_reserve 20 = .ok (.iload_n 3, 1) := by decide +kernel
theorem dX7_reserve_21 : decode cX7_reserve 21 = .ok (.aload_n 0, 1) := by decide +kernel
theorem dX7_reserve_22 : decode cX7_reserve 22 = .ok (.getfield 7, 3) := by decide +kernel
theorem dX7_reserve_25 : decode cX7_reserve 25 = .ok (.iconst 0, 1) := by decide +kernel
theorem dX7_reserve_26 : decode cX7_reserve 26 = .ok (.iaload, 1) := by decide +kernel
theorem dX7_reserve_27 : decode cX7_reserve 27 = .ok (.sipush 20000, 3) := by decide +kernel
theorem dX7_reserve_30 : decode cX7_reserve 30 = .ok (.invokestatic 31, 3) := by decide +kernel
theorem dX7_reserve_33 : decode cX7_reserve 33 = .ok (.ifCond .eq 19, 3) := by decide +kernel
theorem dX7_reserve_36 : decode cX7_reserve 36 = .ok (.iload 4, 2) := by decide +kernel
theorem dX7_reserve_38 : decode cX7_reserve 38 = .ok (.iload_n 3, 1) := by decide +kernel
theorem dX7_reserve_39 : decode cX7_reserve 39 = .ok (.if_icmp .le 13, 3) := by decide +kernel
theorem dX7_reserve_42 : decode cX7_reserve 42 = .ok (.iload 4, 2) := by decide +kernel
theorem dX7_reserve_44 : decode cX7_reserve 44 = .ok (.iload_n 3, 1) := by decide +kernel
theorem dX7_reserve_45 : decode cX7_reserve 45 = .ok (.sipush 1440, 3) := by decide +kernel
theorem dX7_reserve_48 : decode cX7_reserve 48 = .ok (.iadd, 1) := by decide +kernel
theorem dX7_reserve_49 : decode cX7_reserve 49 = .ok (.if_icmp .le 5, 3) := by decide +kernel
theorem dX7_reserve_52 : decode cX7_reserve 52 = .ok (.iconst (-1), 1) := by decide +kernel
theorem dX7_reserve_53 : decode cX7_reserve 53 = .ok (.ireturn, 1) := by decide +kernel
theorem dX7_reserve_54 : decode cX7_reserve 54 = .ok (.aload_n 0, 1) := by decide +kernel
theorem dX7_reserve_55 : decode cX7_reserve 55 = .ok (.iload_n 2, 1) := by decide +kernel
theorem dX7_reserve_56 : decode cX7_reserve 56 = .ok (.iload_n 3, 1) := by decide +kernel
theorem dX7_reserve_57 : decode cX7_reserve 57 = .ok (.iload 4, 2) := by decide +kernel
theorem dX7_reserve_59 : decode cX7_reserve 59 = .ok (.invokevirtual 171, 3) := by decide +kernel
theorem dX7_reserve_62 : decode cX7_reserve 62 = .ok (.istore 5, 2) := by decide +kernel
theorem dX7_reserve_64 : decode cX7_reserve 64 = .ok (.aload_n 0, 1) := by decide +kernel
theorem dX7_reserve_65 : decode cX7_reserve 65 = .ok (.getfield 7, 3) := by decide +kernel
theorem dX7_reserve_68 : decode cX7_reserve 68 = .ok (.iconst 2, 1) := by decide +kernel
theorem dX7_reserve_69 : decode cX7_reserve 69 = .ok (.iaload, 1) := by decide +kernel
theorem dX7_reserve_70 : decode cX7_reserve 70 = .ok (.bipush 16, 2) := by decide +kernel
theorem dX7_reserve_72 : decode cX7_reserve 72 = .ok (.if_icmp .eq 10, 3) := by decide +kernel
theorem dX7_reserve_75 : decode cX7_reserve 75 = .ok (.iload 5, 2) := by decide +kernel
theorem dX7_reserve_77 : decode cX7_reserve 77 = .ok (.bipush (-9), 2) := by decide +kernel
theorem dX7_reserve_79 : decode cX7_reserve 79 = .ok (.if_icmp .ne 6, 3) := by decide +kernel
theorem dX7_reserve_82 : decode cX7_reserve 82 = .ok (.bipush (-3), 2) := by decide +kernel
theorem dX7_reserve_84 : decode cX7_reserve 84 = .ok (.ireturn, 1) := by decide +kernel
theorem dX7_reserve_85 : decode cX7_reserve 85 = .ok (.aload_n 0, 1) := by decide +kernel
theorem dX7_reserve_86 : decode cX7_reserve 86 = .ok (.invokevirtual 51, 3) := by decide +kernel
theorem dX7_reserve_89 : decode cX7_reserve 89 = .ok (.bipush 46, 2) := by decide +kernel
theorem dX7_reserve_91 : decode cX7_reserve 91 = .ok (.bipush 6, 2) := by decide +kernel
theorem dX7_reserve_93 : decode cX7_reserve 93 = .ok (.aload_n 0, 1) := by decide +kernel
theorem dX7_reserve_94 : decode cX7_reserve 94 = .ok (.getfield 7, 3) := by decide +kernel
theorem dX7_reserve_97 : decode cX7_reserve 97 = .ok (.iconst 2, 1) := by decide +kernel
theorem dX7_reserve_98 : decode cX7_reserve 98 = .ok (.iaload, 1) := by decide +kernel
theorem dX7_reserve_99 : decode cX7_reserve 99 = .ok (.imul, 1) := by decide +kernel
theorem dX7_reserve_100 : decode cX7_reserve 100 = .ok (.iadd, 1) := by decide +kernel
theorem dX7_reserve_101 : decode cX7_reserve 101 = .ok (.istore 6, 2) := by decide +kernel
theorem dX7_reserve_103 : decode cX7_reserve 103 = .ok (.aload_n 0, 1) := by decide +kernel
theorem dX7_reserve_104 : decode cX7_reserve 104 = .ok (.getfield 7, 3) := by decide +kernel
theorem dX7_reserve_107 : decode cX7_reserve 107 = .ok (.iconst 2, 1) := by decide +kernel
theorem dX7_reserve_108 : decode cX7_reserve 108 = .ok (.dup2, 1) := by decide +kernel
theorem dX7_reserve_109 : decode cX7_reserve 109 = .ok (.iaload, 1) := by decide +kernel
theorem dX7_reserve_110 : decode cX7_reserve 110 = .ok (.iconst 1, 1) := by decide +kernel
theorem dX7_reserve_111 : decode cX7_reserve 111 = .ok (.iadd, 1) := by decide +kernel
theorem dX7_reserve_112 : decode cX7_reserve 112 = .ok (.iastore, 1) := by decide +kernel
theorem dX7_reserve_113 : decode cX7_reserve 113 = .ok (.aload_n 0, 1) := by decide +kernel
theorem dX7_reserve_114 : decode cX7_reserve 114 = .ok (.getfield 7, 3) := by decide +kernel
theorem dX7_reserve_117 : decode cX7_reserve 117 = .ok (.iload 6, 2) := by decide +kernel
theorem dX7_reserve_119 : decode cX7_reserve 119 = .ok (.iconst 0, 1) := by decide +kernel
theorem dX7_reserve_120 : decode cX7_reserve 120 = .ok (.iadd, 1) := by decide +kernel
theorem dX7_reserve_121 : decode cX7_reserve 121 = .ok (.iload_n 1, 1) := by decide +kernel
theorem dX7_reserve_122 : decode cX7_reserve 122 = .ok (.iastore, 1) := by decide +kernel
theorem dX7_reserve_123 : decode cX7_reserve 123 = .ok (.aload_n 0, 1) := by decide +kernel
theorem dX7_reserve_124 : decode cX7_reserve 124 = .ok (.getfield 7, 3) := by decide +kernel
theorem dX7_reserve_127 : decode cX7_reserve 127 = .ok (.iload 6, 2) := by decide +kernel
theorem dX7_reserve_129 : decode cX7_reserve 129 = .ok (.iconst 1, 1) := by decide +kernel
theorem dX7_reserve_130 : decode cX7_reserve 130 = .ok (.iadd, 1) := by decide +kernel
theorem dX7_reserve_131 : decode cX7_reserve 131 = .ok (.iload 5, 2) := by decide +kernel
theorem dX7_reserve_133 : decode cX7_reserve 133 = .ok (.iastore, 1) := by decide +kernel
theorem dX7_reserve_134 : decode cX7_reserve 134 = .ok (.aload_n 0, 1) := by decide +kernel
theorem dX7_reserve_135 : decode cX7_reserve 135 = .ok (.getfield 7, 3) := by decide +kernel
theorem dX7_reserve_138 : decode cX7_reserve 138 = .ok (.iload 6, 2) := by decide +kernel
theorem dX7_reserve_140 : decode cX7_reserve 140 = .ok (.iconst 2, 1) := by decide +kernel
theorem dX7_reserve_141 : decode cX7_reserve 141 = .ok (.iadd, 1) := by decide +kernel
theorem dX7_reserve_142 : decode cX7_reserve 142 = .ok (.iload_n 3, 1) := by decide +kernel
theorem dX7_reserve_143 : decode cX7_reserve 143 = .ok (.iastore, 1) := by decide +kernel
theorem dX7_reserve_144 : decode cX7_reserve 144 = .ok (.aload_n 0, 1) := by decide +kernel
theorem dX7_reserve_145 : decode cX7_reserve 145 = .ok (.getfield 7, 3) := by decide +kernel
theorem dX7_reserve_148 : decode cX7_reserve 148 = .ok (.iload 6, 2) := by decide +kernel
theorem dX7_reserve_150 : decode cX7_reserve 150 = .ok (.iconst 3, 1) := by decide +kernel
theorem dX7_reserve_151 : decode cX7_reserve 151 = .ok (.iadd, 1) := by decide +kernel
theorem dX7_reserve_152 : decode cX7_reserve 152 = .ok (.iload 4, 2) := by decide +kernel
theorem dX7_reserve_154 : decode cX7_reserve 154 = .ok (.iastore, 1) := by decide +kernel
theorem dX7_reserve_155 : decode cX7_reserve 155 = .ok (.aload_n 0, 1) := by decide +kernel
theorem dX7_reserve_156 : decode cX7_reserve 156 = .ok (.getfield 7, 3) := by decide +kernel
theorem dX7_reserve_159 : decode cX7_reserve 159 = .ok (.iload 6, 2) := by decide +kernel
theorem dX7_reserve_161 : decode cX7_reserve 161 = .ok (.iconst 4, 1) := by decide +kernel
theorem dX7_reserve_162 : decode cX7_reserve 162 = .ok (.iadd, 1) := by decide +kernel
theorem dX7_reserve_163 : decode cX7_reserve 163 = .ok (.aload_n 0, 1) := by decide +kernel
theorem dX7_reserve_164 : decode cX7_reserve 164 = .ok (.iload 4, 2) := by decide +kernel
theorem dX7_reserve_166 : decode cX7_reserve 166 = .ok (.iload_n 3, 1) := by decide +kernel
theorem dX7_reserve_167 : decode cX7_reserve 167 = .ok (.isub, 1) := by decide +kernel
theorem dX7_reserve_168 : decode cX7_reserve 168 = .ok (.invokevirtual 174, 3) := by decide +kernel
theorem dX7_reserve_171 : decode cX7_reserve 171 = .ok (.iastore, 1) := by decide +kernel
theorem dX7_reserve_172 : decode cX7_reserve 172 = .ok (.aload_n 0, 1) := by decide +kernel
theorem dX7_reserve_173 : decode cX7_reserve 173 = .ok (.getfield 7, 3) := by decide +kernel
theorem dX7_reserve_176 : decode cX7_reserve 176 = .ok (.iload 6, 2) := by decide +kernel
theorem dX7_reserve_178 : decode cX7_reserve 178 = .ok (.iconst 5, 1) := by decide +kernel
theorem dX7_reserve_179 : decode cX7_reserve 179 = .ok (.iadd, 1) := by decide +kernel
theorem dX7_reserve_180 : decode cX7_reserve 180 = .ok (.iconst 0, 1) := by decide +kernel
theorem dX7_reserve_181 : decode cX7_reserve 181 = .ok (.iastore, 1) := by decide +kernel
theorem dX7_reserve_182 : decode cX7_reserve 182 = .ok (.aload_n 0, 1) := by decide +kernel
theorem dX7_reserve_183 : decode cX7_reserve 183 = .ok (.getfield 7, 3) := by decide +kernel
theorem dX7_reserve_186 : decode cX7_reserve 186 = .ok (.bipush 11, 2) := by decide +kernel
theorem dX7_reserve_188 : decode cX7_reserve 188 = .ok (.dup2, 1) := by decide +kernel
theorem dX7_reserve_189 : decode cX7_reserve 189 = .ok (.iaload, 1) := by decide +kernel
theorem dX7_reserve_190 : decode cX7_reserve 190 = .ok (.aload_n 0, 1) := by decide +kernel
theorem dX7_reserve_191 : decode cX7_reserve 191 = .ok (.getfield 7, 3) := by decide +kernel
theorem dX7_reserve_194 : decode cX7_reserve 194 = .ok (.iload 6, 2) := by decide +kernel
theorem dX7_reserve_196 : decode cX7_reserve 196 = .ok (.iconst 4, 1) := by decide +kernel
theorem dX7_reserve_197 : decode cX7_reserve 197 = .ok (.iadd, 1) := by decide +kernel
theorem dX7_reserve_198 : decode cX7_reserve 198 = .ok (.iaload, 1) := by decide +kernel
theorem dX7_reserve_199 : decode cX7_reserve 199 = .ok (.iadd, 1) := by decide +kernel
theorem dX7_reserve_200 : decode cX7_reserve 200 = .ok (.iastore, 1) := by decide +kernel
theorem dX7_reserve_201 : decode cX7_reserve 201 = .ok (.aload_n 0, 1) := by decide +kernel
theorem dX7_reserve_202 : decode cX7_reserve 202 = .ok (.getfield 7, 3) := by decide +kernel
theorem dX7_reserve_205 : decode cX7_reserve 205 = .ok (.iconst 2, 1) := by decide +kernel
theorem dX7_reserve_206 : decode cX7_reserve 206 = .ok (.iaload, 1) := by decide +kernel
theorem dX7_reserve_207 : decode cX7_reserve 207 = .ok (.iconst 1, 1) := by decide +kernel
theorem dX7_reserve_208 : decode cX7_reserve 208 = .ok (.isub, 1) := by decide +kernel
theorem dX7_reserve_209 : decode cX7_reserve 209 = .ok (.ireturn, 1) := by decide +kernel
set_option maxRecDepth 20000 in
theorem ggX7_cancel_X7_isReservation : GoodIn wsX7_cancel wsX7_isReservation := goodIn_r _ [6, 1, 7, 8, 5, 9, 24, 25, 26, 27, 28, 29, 30, 31, 32, 33, 34] (by decide +kernel) (by decide +kernel)
set_option maxRecDepth 20000 in
theorem gX7_cancel_X7_isReservation : GoodIn wsX7_cancel (wsV RX7 177 RX7 yX7_isReservation wsX7_isReservation) := goodIn_app (goodIn_of _ (by decide +kernel)) ggX7_cancel_X7_isReservation
set_option maxRecDepth 20000 in
theorem ggX7_cancel_X7_about : GoodIn wsX7_cancel wsX7_about := goodIn_r _ [13, 1, 24, 25, 26, 27, 28, 29, 30, 31, 32, 33, 34] (by decide +kernel) (by decide +kernel)
set_option maxRecDepth 20000 in
theorem gX7_cancel_X7_about : GoodIn wsX7_cancel (wsV RX7 150 RX7 yX7_about wsX7_about) := goodIn_app (goodIn_of _ (by decide +kernel)) ggX7_cancel_X7_about
set_option maxRecDepth 20000 in
theorem ggX7_cancel_X7_notes : GoodIn wsX7_cancel wsX7_notes := goodIn_r _ [17, 18, 19, 1, 24, 25, 26, 27, 28, 29, 30, 31, 32, 33, 34] (by decide +kernel) (by decide +kernel)
set_option maxRecDepth 20000 in
theorem gX7_cancel_X7_notes : GoodIn wsX7_cancel (wsV RX7 51 RX7 yX7_notes wsX7_notes) := goodIn_app (goodIn_of _ (by decide +kernel)) ggX7_cancel_X7_notes
set_option maxRecDepth 20000 in
theorem ggX7_cancel_X7_marks : GoodIn wsX7_cancel wsX7_marks := goodIn_r _ [23, 1, 24, 25, 26, 27, 28, 29, 30, 31, 32, 33, 34] (by decide +kernel) (by decide +kernel)
set_option maxRecDepth 20000 in
theorem gX7_cancel_X7_marks : GoodIn wsX7_cancel (wsV RX7 180 RX7 yX7_marks wsX7_marks) := goodIn_app (goodIn_of _ (by decide +kernel)) ggX7_cancel_X7_marks
theorem dX7_cancel_0 : decode cX7_cancel 0 = .ok (.aload_n 0, 1) := by decide +kernel
theorem dX7_cancel_1 : decode cX7_cancel 1 = .ok (.iload_n 1, 1) := by decide +kernel
theorem dX7_cancel_2 : decode cX7_cancel 2 = .ok (.invokevirtual 177, 3) := by decide +kernel
theorem dX7_cancel_5 : decode cX7_cancel 5 = .ok (.ifCond .ne 5, 3) := by decide +kernel
theorem dX7_cancel_8 : decode cX7_cancel 8 = .ok (.iconst (-1), 1) := by decide +kernel
theorem dX7_cancel_9 : decode cX7_cancel 9 = .ok (.ireturn, 1) := by decide +kernel
theorem dX7_cancel_10 : decode cX7_cancel 10 = .ok (.aload_n 0, 1) := by decide +kernel
theorem dX7_cancel_11 : decode cX7_cancel 11 = .ok (.iload_n 1, 1) := by decide +kernel
theorem dX7_cancel_12 : decode cX7_cancel 12 = .ok (.iconst 5, 1) := by decide +kernel
theorem dX7_cancel_13 : decode cX7_cancel 13 = .ok (.invokevirtual 150, 3) := by decide +kernel
theorem dX7_cancel_16 : decode cX7_cancel 16 = .ok (.ifCond .eq 6, 3) := by decide +kernel
theorem dX7_cancel_19 : decode cX7_cancel 19 = .ok (.bipush (-2), 2) := by decide +kernel
theorem dX7_cancel_21 : decode cX7_cancel 21 = .ok (.ireturn, 1) := by decide +kernel
theorem dX7_cancel_22 : decode cX7_cancel 22 = .ok (.aload_n 0, 1) := by decide +kernel
theorem dX7_cancel_23 : decode cX7_cancel 23 = .ok (.invokevirtual 51, 3) := by decide +kernel
theorem dX7_cancel_26 : decode cX7_cancel 26 = .ok (.aload_n 0, 1) := by decide +kernel
theorem dX7_cancel_27 : decode cX7_cancel 27 = .ok (.iload_n 1, 1) := by decide +kernel
theorem dX7_cancel_28 : decode cX7_cancel 28 = .ok (.iconst 2, 1) := by decide +kernel
theorem dX7_cancel_29 : decode cX7_cancel 29 = .ok (.invokevirtual 150, 3) := by decide +kernel
theorem dX7_cancel_32 : decode cX7_cancel 32 = .ok (.aload_n 0, 1) := by decide +kernel
theorem dX7_cancel_33 : decode cX7_cancel 33 = .ok (.getfield 7, 3) := by decide +kernel
theorem dX7_cancel_36 : decode cX7_cancel 36 = .ok (.iconst 0, 1) := by decide +kernel
theorem dX7_cancel_37 : decode cX7_cancel 37 = .ok (.iaload, 1) := by decide +kernel
theorem dX7_cancel_38 : decode cX7_cancel 38 = .ok (.if_icmp .le 14, 3) := by decide +kernel
theorem dX7_cancel_41 : decode cX7_cancel 41 = .ok (.aload_n 0, 1) := by decide +kernel
theorem dX7_cancel_42 : decode cX7_cancel 42 = .ok (.iload_n 1, 1) := by decide +kernel
theorem dX7_cancel_43 : decode cX7_cancel 43 = .ok (.iconst 4, 1) := by decide +kernel
theorem dX7_cancel_44 : decode cX7_cancel 44 = .ok (.invokevirtual 150, 3) := by decide +kernel
theorem dX7_cancel_47 : decode cX7_cancel 47 = .ok (.iconst 2, 1) := by decide +kernel
theorem dX7_cancel_48 : decode cX7_cancel 48 = .ok (.idiv, 1) := by decide +kernel
theorem dX7_cancel_49 : decode cX7_cancel 49 = .ok (.goto 4, 3) := by decide +kernel
theorem dX7_cancel_52 : decode cX7_cancel 52 = .ok (.iconst 0, 1) := by decide +kernel
theorem dX7_cancel_53 : decode cX7_cancel 53 = .ok (.istore_n 2, 1) := by decide +kernel
theorem dX7_cancel_54 : decode cX7_cancel 54 = .ok (.aload_n 0, 1) := by decide +kernel
theorem dX7_cancel_55 : decode cX7_cancel 55 = .ok (.iload_n 1, 1) := by decide +kernel
theorem dX7_cancel_56 : decode cX7_cancel 56 = .ok (.iconst 3, 1) := by decide +kernel
theorem dX7_cancel_57 : decode cX7_cancel 57 = .ok (.invokevirtual 180, 3) := by decide +kernel
theorem dX7_cancel_60 : decode cX7_cancel 60 = .ok (.aload_n 0, 1) := by decide +kernel
theorem dX7_cancel_61 : decode cX7_cancel 61 = .ok (.getfield 7, 3) := by decide +kernel
theorem dX7_cancel_64 : decode cX7_cancel 64 = .ok (.bipush 11, 2) := by decide +kernel
theorem dX7_cancel_66 : decode cX7_cancel 66 = .ok (.dup2, 1) := by decide +kernel
theorem dX7_cancel_67 : decode cX7_cancel 67 = .ok (.iaload, 1) := by decide +kernel
theorem dX7_cancel_68 : decode cX7_cancel 68 = .ok (.iload_n 2, 1) := by decide +kernel
theorem dX7_cancel_69 : decode cX7_cancel 69 = .ok (.isub, 1) := by decide +kernel
theorem dX7_cancel_70 : decode cX7_cancel 70 = .ok (.iastore, 1) := by decide +kernel
theorem dX7_cancel_71 : decode cX7_cancel 71 = .ok (.iload_n 2, 1) := by decide +kernel
theorem dX7_cancel_72 : decode cX7_cancel 72 = .ok (.ireturn, 1) := by decide +kernel
set_option maxRecDepth 20000 in
theorem ggX7_bayOf_X7_of : GoodIn wsX7_bayOf wsX7_of := goodIn_r _ [6, 1, 7, 8, 9, 10, 11, 12, 13, 14, 15, 16, 17] (by decide +kernel) (by decide +kernel)
set_option maxRecDepth 20000 in
theorem gX7_bayOf_X7_of : GoodIn wsX7_bayOf (wsV RX7 35 RX7 yX7_of wsX7_of) := goodIn_app (goodIn_of _ (by decide +kernel)) ggX7_bayOf_X7_of
theorem dX7_bayOf_0 : decode cX7_bayOf 0 = .ok (.iconst 0, 1) := by decide +kernel
theorem dX7_bayOf_1 : decode cX7_bayOf 1 = .ok (.istore_n 2, 1) := by decide +kernel
theorem dX7_bayOf_2 : decode cX7_bayOf 2 = .ok (.iload_n 2, 1) := by decide +kernel
theorem dX7_bayOf_3 : decode cX7_bayOf 3 = .ok (.aload_n 0, 1) := by decide +kernel
theorem dX7_bayOf_4 : decode cX7_bayOf 4 = .ok (.getfield 7, 3) := by decide +kernel
theorem dX7_bayOf_7 : decode cX7_bayOf 7 = .ok (.iconst 1, 1) := by decide +kernel
theorem dX7_bayOf_8 : decode cX7_bayOf 8 = .ok (.iaload, 1) := by decide +kernel
theorem dX7_bayOf_9 : decode cX7_bayOf 9 = .ok (.if_icmp .ge 21, 3) := by decide +kernel
theorem dX7_bayOf_12 : decode cX7_bayOf 12 = .ok (.aload_n 0, 1) := by decide +kernel
theorem dX7_bayOf_13 : decode cX7_bayOf 13 = .ok (.iload_n 2, 1) := by decide +kernel
theorem dX7_bayOf_14 : decode cX7_bayOf 14 = .ok (.iconst 4, 1) := by decide +kernel
theorem dX7_bayOf_15 : decode cX7_bayOf 15 = .ok (.invokevirtual 35, 3) := by decide +kernel
theorem dX7_bayOf_18 : decode cX7_bayOf 18 = .ok (.iload_n 1, 1) := by decide +kernel
theorem dX7_bayOf_19 : decode cX7_bayOf 19 = .ok (.if_icmp .ne 5, 3) := by decide +kernel
theorem dX7_bayOf_22 : decode cX7_bayOf 22 = .ok (.iload_n 2, 1) := by decide +kernel
theorem dX7_bayOf_23 : decode cX7_bayOf 23 = .ok (.ireturn, 1) := by decide +kernel
theorem dX7_bayOf_24 : decode cX7_bayOf 24 = .ok (.iinc 2 1, 3) := by decide +kernel
theorem dX7_bayOf_27 : decode cX7_bayOf 27 = .ok (.goto (-25), 3) := by decide +kernel
theorem dX7_bayOf_30 : decode cX7_bayOf 30 = .ok (.bipush (-9), 2) := by decide +kernel
theorem dX7_bayOf_32 : decode cX7_bayOf 32 = .ok (.ireturn, 1) := by decide +kernel
set_option maxRecDepth 20000 in
theorem ggX7_isFree_X7_of : GoodIn wsX7_isFree wsX7_of := goodIn_r _ [5, 6, 27, 28, 29, 30, 31, 32, 33, 34, 35, 36, 37] (by decide +kernel) (by decide +kernel)
set_option maxRecDepth 20000 in
theorem gX7_isFree_X7_of : GoodIn wsX7_isFree (wsV RX7 35 RX7 yX7_of wsX7_of) := goodIn_app (goodIn_of _ (by decide +kernel)) ggX7_isFree_X7_of
set_option maxRecDepth 20000 in
theorem ggX7_isFree_X7_holder : GoodIn wsX7_isFree wsX7_holder := goodIn_r _ [10, 6, 11, 12, 13, 4, 14, 15, 16, 17, 18, 19, 20, 21, 22, 23, 24, 25, 26, 27, 28, 29, 30, 31, 32, 33, 34, 35, 36, 37] (by decide +kernel) (by decide +kernel)
set_option maxRecDepth 20000 in
theorem gX7_isFree_X7_holder : GoodIn wsX7_isFree (wsV RX7 183 RX7 yX7_holder wsX7_holder) := goodIn_app (goodIn_of _ (by decide +kernel)) ggX7_isFree_X7_holder
theorem dX7_isFree_0 : decode cX7_isFree 0 = .ok (.aload_n 0, 1) := by decide +kernel
theorem dX7_isFree_1 : decode cX7_isFree 1 = .ok (.iload_n 1, 1) := by decide +kernel
theorem dX7_isFree_2 : decode cX7_isFree 2 = .ok (.iconst 3, 1) := by decide +kernel
theorem dX7_isFree_3 : decode cX7_isFree 3 = .ok (.invokevirtual 35, 3) := by decide +kernel
theorem dX7_isFree_6 : decode cX7_isFree 6 = .ok (.iconst 1, 1) := by decide +kernel
theorem dX7_isFree_7 : decode cX7_isFree 7 = .ok (.if_icmp .ne 26, 3) := by decide +kernel
theorem dX7_isFree_10 : decode cX7_isFree 10 = .ok (.aload_n 0, 1) := by decide +kernel
theorem dX7_isFree_11 : decode cX7_isFree 11 = .ok (.iload_n 1, 1) := by decide +kernel
theorem dX7_isFree_12 : decode cX7_isFree 12 = .ok (.iconst 4, 1) := by decide +kernel
theorem dX7_isFree_13 : decode cX7_isFree 13 = .ok (.invokevirtual 35, 3) := by decide +kernel
theorem dX7_isFree_16 : decode cX7_isFree 16 = .ok (.ifCond .ne 17, 3) := by decide +kernel
theorem dX7_isFree_19 : decode cX7_isFree 19 = .ok (.aload_n 0, 1) := by decide +kernel
theorem dX7_isFree_20 : decode cX7_isFree 20 = .ok (.iload_n 1, 1) := by decide +kernel
theorem dX7_isFree_21 : decode cX7_isFree 21 = .ok (.invokevirtual 183, 3) := by decide +kernel
theorem dX7_isFree_24 : decode cX7_isFree 24 = .ok (.bipush (-9), 2) := by decide +kernel
theorem dX7_isFree_26 : decode cX7_isFree 26 = .ok (.if_icmp .ne 7, 3) := by decide +kernel
theorem dX7_isFree_29 : decode cX7_isFree 29 = .ok (.iconst 1, 1) := by decide +kernel
theorem dX7_isFree_30 : decode cX7_isFree 30 = .ok (.goto 4, 3) := by decide +kernel
theorem dX7_isFree_33 : decode cX7_isFree 33 = .ok (.iconst 0, 1) := by decide +kernel
theorem dX7_isFree_34 : decode cX7_isFree 34 = .ok (.ireturn, 1) := by decide +kernel
set_option maxRecDepth 20000 in
theorem ggX7_guided_X7_isFree : GoodIn wsX7_guided wsX7_isFree := goodIn_r _ [6, 7, 8, 9, 5, 10, 1, 11, 12, 13, 14, 15, 16, 17, 18, 19, 20, 21, 22, 23, 24, 25, 26, 27, 28, 29, 30, 43, 44, 45, 46, 47, 48, 49, 50, 51, 52, 53] (by decide +kernel) (by decide +kernel)
set_option maxRecDepth 20000 in
theorem gX7_guided_X7_isFree : GoodIn wsX7_guided (wsV RX7 186 RX7 yX7_isFree wsX7_isFree) := goodIn_app (goodIn_of _ (by decide +kernel)) ggX7_guided_X7_isFree
set_option maxRecDepth 20000 in
theorem ggX7_guided_X7_isFit : GoodIn wsX7_guided wsX7_isFit := goodIn_r _ [34, 7, 8, 9, 5, 10, 1, 43, 44, 45, 46, 47, 48, 49, 50, 51, 52, 53] (by decide +kernel) (by decide +kernel)
set_option maxRecDepth 20000 in
theorem gX7_guided_X7_isFit : GoodIn wsX7_guided (wsV RX7 162 RX7 yX7_isFit wsX7_isFit) := goodIn_app (goodIn_of _ (by decide +kernel)) ggX7_guided_X7_isFit
set_option maxRecDepth 20000 in
theorem ggX7_guided_X7_isBefore : GoodIn wsX7_guided wsX7_isBefore := goodIn_r _ [38, 39, 40, 41, 5, 42, 1, 7, 8, 9, 10, 43, 44, 45, 46, 47, 48, 49, 50, 51, 52, 53] (by decide +kernel) (by decide +kernel)
set_option maxRecDepth 20000 in
theorem gX7_guided_X7_isBefore : GoodIn wsX7_guided (wsV RX7 168 RX7 yX7_isBefore wsX7_isBefore) := goodIn_app (goodIn_of _ (by decide +kernel)) ggX7_guided_X7_isBefore
theorem dX7_guided_0 : decode cX7_guided 0 = .ok (.bipush (-9), 2) := by decide +kernel
theorem dX7_guided_2 : decode cX7_guided 2 = .ok (.istore_n 2, 1) := by decide +kernel
theorem dX7_guided_3 : decode cX7_guided 3 = .ok (.iconst 0, 1) := by decide +kernel
theorem dX7_guided_4 : decode cX7_guided 4 = .ok (.istore_n 3, 1) := by decide +kernel
theorem dX7_guided_5 : decode cX7_guided 5 = .ok (.iload_n 3, 1) := by decide +kernel
theorem dX7_guided_6 : decode cX7_guided 6 = .ok (.aload_n 0, 1) := by decide +kernel
theorem dX7_guided_7 : decode cX7_guided 7 = .ok (.getfield 7, 3) := by decide +kernel
theorem dX7_guided_10 : decode cX7_guided 10 = .ok (.iconst 1, 1) := by decide +kernel
theorem dX7_guided_11 : decode cX7_guided 11 = .ok (.iaload, 1) := by decide +kernel
theorem dX7_guided_12 : decode cX7_guided 12 = .ok (.if_icmp .ge 47, 3) := by decide +kernel
theorem dX7_guided_15 : decode cX7_guided 15 = .ok (.aload_n 0, 1) := by decide +kernel
theorem dX7_guided_16 : decode cX7_guided 16 = .ok (.iload_n 3, 1) := by decide +kernel
theorem dX7_guided_17 : decode cX7_guided 17 = .ok (.invokevirtual 186, 3) := by decide +kernel
theorem dX7_guided_20 : decode cX7_guided 20 = .ok (.ifCond .eq 31, 3) := by decide +kernel
theorem dX7_guided_23 : decode cX7_guided 23 = .ok (.aload_n 0, 1) := by decide +kernel
theorem dX7_guided_24 : decode cX7_guided 24 = .ok (.iload_n 3, 1) := by decide +kernel
theorem dX7_guided_25 : decode cX7_guided 25 = .ok (.iload_n 1, 1) := by decide +kernel
theorem dX7_guided_26 : decode cX7_guided 26 = .ok (.invokevirtual 162, 3) := by decide +kernel
theorem dX7_guided_29 : decode cX7_guided 29 = .ok (.ifCond .eq 22, 3) := by decide +kernel
theorem dX7_guided_32 : decode cX7_guided 32 = .ok (.iload_n 2, 1) := by decide +kernel
theorem dX7_guided_33 : decode cX7_guided 33 = .ok (.bipush (-9), 2) := by decide +kernel
theorem dX7_guided_35 : decode cX7_guided 35 = .ok (.if_icmp .eq 12, 3) := by decide +kernel
theorem dX7_guided_38 : decode cX7_guided 38 = .ok (.aload_n 0, 1) := by decide +kernel
theorem dX7_guided_39 : decode cX7_guided 39 = .ok (.iload_n 3, 1) := by decide +kernel
theorem dX7_guided_40 : decode cX7_guided 40 = .ok (.iload_n 2, 1) := by decide +kernel
theorem dX7_guided_41 : decode cX7_guided 41 = .ok (.invokevirtual 168, 3) := by decide +kernel
theorem dX7_guided_44 : decode cX7_guided 44 = .ok (.ifCond .eq 7, 3) := by decide +kernel
theorem dX7_guided_47 : decode cX7_guided 47 = .ok (.iload_n 3, 1) := by decide +kernel
theorem dX7_guided_48 : decode cX7_guided 48 = .ok (.goto 4, 3) := by decide +kernel
theorem dX7_guided_51 : decode cX7_guided 51 = .ok (.iload_n 2, 1) := by decide +kernel
theorem dX7_guided_52 : decode cX7_guided 52 = .ok (.istore_n 2, 1) := by decide +kernel
theorem dX7_guided_53 : decode cX7_guided 53 = .ok (.iinc 3 1, 3) := by decide +kernel
theorem dX7_guided_56 : decode cX7_guided 56 = .ok (.goto (-51), 3) := by decide +kernel
theorem dX7_guided_59 : decode cX7_guided 59 = .ok (.iload_n 2, 1) := by decide +kernel
theorem dX7_guided_60 : decode cX7_guided 60 = .ok (.ireturn, 1) := by decide +kernel
set_option maxRecDepth 20000 in
theorem ggX7_usable_X7_about : GoodIn wsX7_usable wsX7_about := goodIn_r _ [6, 1, 27, 28, 29, 30, 31, 32, 33, 34, 35, 36, 37] (by decide +kernel) (by decide +kernel)
set_option maxRecDepth 20000 in
theorem gX7_usable_X7_about : GoodIn wsX7_usable (wsV RX7 150 RX7 yX7_about wsX7_about) := goodIn_app (goodIn_of _ (by decide +kernel)) ggX7_usable_X7_about
set_option maxRecDepth 20000 in
theorem ggX7_usable_X7_holdsNow : GoodIn wsX7_usable wsX7_holdsNow := goodIn_r _ [10, 1, 11, 12, 13, 5, 14, 2, 3, 4, 6, 15, 16, 17, 18, 27, 28, 29, 30, 31, 32, 33, 34, 35, 36, 37] (by decide +kernel) (by decide +kernel)
set_option maxRecDepth 20000 in
theorem gX7_usable_X7_holdsNow : GoodIn wsX7_usable (wsV RX7 159 RX7 yX7_holdsNow wsX7_holdsNow) := goodIn_app (goodIn_of _ (by decide +kernel)) ggX7_usable_X7_holdsNow
set_option maxRecDepth 20000 in
theorem ggX7_usable_X7_isFit : GoodIn wsX7_usable wsX7_isFit := goodIn_r _ [22, 23, 24, 25, 5, 26, 1, 27, 28, 29, 30, 31, 32, 33, 34, 35, 36, 37] (by decide +kernel) (by decide +kernel)
set_option maxRecDepth 20000 in
theorem gX7_usable_X7_isFit : GoodIn wsX7_usable (wsV RX7 162 RX7 yX7_isFit wsX7_isFit) := goodIn_app (goodIn_of _ (by decide +kernel)) ggX7_usable_X7_isFit
set_option maxRecDepth 20000 in
theorem ggX7_usable_X7_of : GoodIn wsX7_usable wsX7_of := goodIn_r _ [26, 1, 27, 28, 29, 30, 31, 32, 33, 34, 35, 36, 37] (by decide +kernel) (by decide +kernel)
set_option maxRecDepth 20000 in
theorem gX7_usable_X7_of : GoodIn wsX7_usable (wsV RX7 35 RX7 yX7_of wsX7_of) := goodIn_app (goodIn_of _ (by decide +kernel)) ggX7_usable_X7_of
theorem dX7_usable_0 : decode cX7_usable 0 = .ok (.iconst 0, 1) := by decide +kernel
theorem dX7_usable_1 : decode cX7_usable 1 = .ok (.istore_n 3, 1) := by decide +kernel
theorem dX7_usable_2 : decode cX7_usable 2 = .ok (.iload_n 3, 1) := by decide +kernel
theorem dX7_usable_3 : decode cX7_usable 3 = .ok (.aload_n 0, 1) := by decide +kernel
theorem dX7_usable_4 : decode cX7_usable 4 = .ok (.getfield 7, 3) := by decide +kernel
theorem dX7_usable_7 : decode cX7_usable 7 = .ok (.iconst 2, 1) := by decide +kernel
theorem dX7_usable_8 : decode cX7_usable 8 = .ok (.iaload, 1) := by decide +kernel
theorem dX7_usable_9 : decode cX7_usable 9 = .ok (.if_icmp .ge 71, 3) := by decide +kernel
theorem dX7_usable_12 : decode cX7_usable 12 = .ok (.aload_n 0, 1) := by decide +kernel
theorem dX7_usable_13 : decode cX7_usable 13 = .ok (.iload_n 3, 1) := by decide +kernel
theorem dX7_usable_14 : decode cX7_usable 14 = .ok (.iconst 0, 1) := by decide +kernel
theorem dX7_usable_15 : decode cX7_usable 15 = .ok (.invokevirtual 150, 3) := by decide +kernel
theorem dX7_usable_18 : decode cX7_usable 18 = .ok (.iload_n 1, 1) := by decide +kernel
theorem dX7_usable_19 : decode cX7_usable 19 = .ok (.if_icmp .ne 55, 3) := by decide +kernel
theorem dX7_usable_22 : decode cX7_usable 22 = .ok (.aload_n 0, 1) := by decide +kernel
theorem dX7_usable_23 : decode cX7_usable 23 = .ok (.iload_n 3, 1) := by decide +kernel
theorem dX7_usable_24 : decode cX7_usable 24 = .ok (.iconst 5, 1) := by decide +kernel
theorem dX7_usable_25 : decode cX7_usable 25 = .ok (.invokevirtual 150, 3) := by decide +kernel
theorem dX7_usable_28 : decode cX7_usable 28 = .ok (.ifCond .ne 46, 3) := by decide +kernel
theorem dX7_usable_31 : decode cX7_usable 31 = .ok (.aload_n 0, 1) := by decide +kernel
theorem dX7_usable_32 : decode cX7_usable 32 = .ok (.iload_n 3, 1) := by decide +kernel
theorem dX7_usable_33 : decode cX7_usable 33 = .ok (.invokevirtual 159, 3) := by decide +kernel
theorem dX7_usable_36 : decode cX7_usable 36 = .ok (.ifCond .eq 38, 3) := by decide +kernel
theorem dX7_usable_39 : decode cX7_usable 39 = .ok (.aload_n 0, 1) := by decide +kernel
theorem dX7_usable_40 : decode cX7_usable 40 = .ok (.iload_n 3, 1) := by decide +kernel
theorem dX7_usable_41 : decode cX7_usable 41 = .ok (.iconst 1, 1) := by decide +kernel
theorem dX7_usable_42 : decode cX7_usable 42 = .ok (.invokevirtual 150, 3) := by decide +kernel
theorem dX7_usable_45 : decode cX7_usable 45 = .ok (.istore 4, 2) := by decide +kernel
theorem dX7_usable_47 : decode cX7_usable 47 = .ok (.aload_n 0, 1) := by decide +kernel
theorem dX7_usable_48 : decode cX7_usable 48 = .ok (.iload 4, 2) := by decide +kernel
theorem dX7_usable_50 : decode cX7_usable 50 = .ok (.iload_n 2, 1) := by decide +kernel
theorem dX7_usable_51 : decode cX7_usable 51 = .ok (.invokevirtual 162, 3) := by decide +kernel
theorem dX7_usable_54 : decode cX7_usable 54 = .ok (.ifCond .eq 17, 3) := by decide +kernel
theorem dX7_usable_57 : decode cX7_usable 57 = .ok (.aload_n 0, 1) := by decide +kernel
theorem dX7_usable_58 : decode cX7_usable 58 = .ok (.iload 4, 2) := by decide +kernel
theorem dX7_usable_60 : decode cX7_usable 60 = .ok (.iconst 4, 1) := by decide +kernel
theorem dX7_usable_61 : decode cX7_usable 61 = .ok (.invokevirtual 35, 3) := by decide +kernel
theorem dX7_usable_64 : decode cX7_usable 64 = .ok (.ifCond .ne 7, 3) := by decide +kernel
theorem dX7_usable_67 : decode cX7_usable 67 = .ok (.iload_n 3, 1) := by decide +kernel
theorem dX7_usable_68 : decode cX7_usable 68 = .ok (.goto 5, 3) := by decide +kernel
theorem dX7_usable_71 : decode cX7_usable 71 = .ok (.bipush (-9), 2) := by decide +kernel
theorem dX7_usable_73 : decode cX7_usable 73 = .ok (.ireturn, 1) := by decide +kernel
theorem dX7_usable_74 : decode cX7_usable 74 = .ok (.iinc 3 1, 3) := by decide +kernel
theorem dX7_usable_77 : decode cX7_usable 77 = .ok (.goto (-75), 3) := by decide +kernel
theorem dX7_usable_80 : decode cX7_usable 80 = .ok (.bipush (-9), 2) := by decide +kernel
theorem dX7_usable_82 : decode cX7_usable 82 = .ok (.ireturn, 1) := by decide +kernel
set_option maxRecDepth 20000 in
theorem ggX7_enter_X7_in : GoodIn wsX7_enter wsX7_in := goodIn_r _ [5] (by decide +kernel) (by decide +kernel)
set_option maxRecDepth 20000 in
theorem gX7_enter_X7_in : GoodIn wsX7_enter (va_wsS RX7 31 yX7_in wsX7_in) := goodIn_app (goodIn_of _ (by decide +kernel)) ggX7_enter_X7_in
set_option maxRecDepth 20000 in
theorem ggX7_enter_X7_bayOf : GoodIn wsX7_enter wsX7_bayOf := goodIn_r _ [9, 1, 10, 11, 12, 4, 13, 72, 73, 74, 75, 76, 77, 78, 79, 80, 81, 82] (by decide +kernel) (by decide +kernel)
set_option maxRecDepth 20000 in
theorem gX7_enter_X7_bayOf : GoodIn wsX7_enter (wsV RX7 189 RX7 yX7_bayOf wsX7_bayOf) := goodIn_app (goodIn_of _ (by decide +kernel)) ggX7_enter_X7_bayOf
set_option maxRecDepth 20000 in
theorem ggX7_enter_X7_usable : GoodIn wsX7_enter wsX7_usable := goodIn_r _ [17, 1, 18, 19, 20, 4, 21, 22, 23, 24, 25, 26, 27, 28, 29, 30, 31, 32, 33, 34, 35, 36, 37, 10, 11, 12, 13, 72, 73, 74, 75, 76, 77, 78, 79, 80, 81, 82] (by decide +kernel) (by decide +kernel)
set_option maxRecDepth 20000 in
theorem gX7_enter_X7_usable : GoodIn wsX7_enter (wsV RX7 192 RX7 yX7_usable wsX7_usable) := goodIn_app (goodIn_of _ (by decide +kernel)) ggX7_enter_X7_usable
set_option maxRecDepth 20000 in
theorem ggX7_enter_X7_guided : GoodIn wsX7_enter wsX7_guided := goodIn_r _ [41, 1, 42, 43, 44, 4, 45, 10, 11, 12, 13, 46, 47, 48, 49, 18, 19, 20, 21, 22, 23, 24, 25, 26, 27, 28, 29, 30, 31, 32, 33, 34, 35, 36, 37, 50, 51, 52, 53, 54, 55, 56, 57, 72, 73, 74, 75, 76, 77, 78, 79, 80, 81, 82] (by decide +kernel) (by decide +kernel)
set_option maxRecDepth 20000 in
theorem gX7_enter_X7_guided : GoodIn wsX7_enter (wsV RX7 195 RX7 yX7_guided wsX7_guided) := goodIn_app (goodIn_of _ (by decide +kernel)) ggX7_enter_X7_guided
set_option maxRecDepth 20000 in
theorem ggX7_enter_X7_about : GoodIn wsX7_enter wsX7_about := goodIn_r _ [21, 1, 72, 73, 74, 75, 76, 77, 78, 79, 80, 81, 82] (by decide +kernel) (by decide +kernel)
set_option maxRecDepth 20000 in
theorem gX7_enter_X7_about : GoodIn wsX7_enter (wsV RX7 150 RX7 yX7_about wsX7_about) := goodIn_app (goodIn_of _ (by decide +kernel)) ggX7_enter_X7_about
set_option maxRecDepth 20000 in
theorem ggX7_enter_X7_notes : GoodIn wsX7_enter wsX7_notes := goodIn_r _ [61, 62, 63, 1, 72, 73, 74, 75, 76, 77, 78, 79, 80, 81, 82] (by decide +kernel) (by decide +kernel)
set_option maxRecDepth 20000 in
theorem gX7_enter_X7_notes : GoodIn wsX7_enter (wsV RX7 51 RX7 yX7_notes wsX7_notes) := goodIn_app (goodIn_of _ (by decide +kernel)) ggX7_enter_X7_notes
set_option maxRecDepth 20000 in
theorem ggX7_enter_X7_sets : GoodIn wsX7_enter wsX7_sets := goodIn_r _ [67, 1, 72, 73, 74, 75, 76, 77, 78, 79, 80, 81, 82] (by decide +kernel) (by decide +kernel)
set_option maxRecDepth 20000 in
theorem gX7_enter_X7_sets : GoodIn wsX7_enter (wsV RX7 39 RX7 yX7_sets wsX7_sets) := goodIn_app (goodIn_of _ (by decide +kernel)) ggX7_enter_X7_sets
set_option maxRecDepth 20000 in
theorem ggX7_enter_X7_marks : GoodIn wsX7_enter wsX7_marks := goodIn_r _ [71, 1, 72, 73, 74, 75, 76, 77, 78, 79, 80, 81, 82] (by decide +kernel) (by decide +kernel)
set_option maxRecDepth 20000 in
theorem gX7_enter_X7_marks : GoodIn wsX7_enter (wsV RX7 180 RX7 yX7_marks wsX7_marks) := goodIn_app (goodIn_of _ (by decide +kernel)) ggX7_enter_X7_marks
theorem dX7_enter_0 : decode cX7_enter 0 = .ok (.iload_n 1, 1) := by decide +kernel
theorem dX7_enter_1 : decode cX7_enter 1 = .ok (.iconst 1, 1) := by decide +kernel
theorem dX7_enter_2 : decode cX7_enter 2 = .ok (.sipush 999, 3) := by decide +kernel
theorem dX7_enter_5 : decode cX7_enter 5 = .ok (.invokestatic 31, 3) := by decide +kernel
theorem dX7_enter_8 : decode cX7_enter 8 = .ok (.ifCond .eq 12, 3) := by decide +kernel
theorem dX7_enter_11 : decode cX7_enter 11 = .ok (.iload_n 2, 1) := by decide +kernel
theorem dX7_enter_12 : decode cX7_enter 12 = .ok (.iconst 0, 1) := by decide +kernel
theorem dX7_enter_13 : decode cX7_enter 13 = .ok (.iconst 2, 1) := by decide +kernel
theorem dX7_enter_14 : decode cX7_enter 14 = .ok (.invokestatic 31, 3) := by decide +kernel
theorem dX7_enter_17 : decode cX7_enter 17 = .ok (.ifCond .ne 5, 3) := by decide +kernel
theorem dX7_enter_20 : decode cX7_enter 20 = .ok (.iconst (-1), 1) := by decide +kernel
theorem dX7_enter_21 : decode cX7_enter 21 = .ok (.ireturn, 1) := by decide +kernel
theorem dX7_enter_22 : decode cX7_enter 22 = .ok (.aload_n 0, 1) := by decide +kernel
theorem dX7_enter_23 : decode cX7_enter 23 = .ok (.iload_n 1, 1) := by decide +kernel
theorem dX7_enter_24 : decode cX7_enter 24 = .ok (.invokevirtual 189, 3) := by decide +kernel
theorem dX7_enter_27 : decode cX7_enter 27 = .ok (.bipush (-9), 2) := by decide +kernel
theorem dX7_enter_29 : decode cX7_enter 29 = .ok (.if_icmp .eq 6, 3) := by decide +kernel
theorem dX7_enter_32 : decode cX7_enter 32 = .ok (.bipush (-2), 2) := by decide +kernel
theorem dX7_enter_34 : decode cX7_enter 34 = .ok (.ireturn, 1) := by decide +kernel
theorem dX7_enter_35 : decode cX7_enter 35 = .ok (.aload_n 0, 1) := by decide +kernel
theorem dX7_enter_36 : decode cX7_enter 36 = .ok (.iload_n 1, 1) := by decide +kernel
theorem dX7_enter_37 : decode cX7_enter 37 = .ok (.iload_n 2, 1) := by decide +kernel
theorem dX7_enter_38 : decode cX7_enter 38 = .ok (.invokevirtual 192, 3) := by decide +kernel
theorem dX7_enter_41 : decode cX7_enter 41 = .ok (.istore_n 3, 1) := by decide +kernel
theorem dX7_enter_42 : decode cX7_enter 42 = .ok (.iload_n 3, 1) := by decide +kernel
theorem dX7_enter_43 : decode cX7_enter 43 = .ok (.bipush (-9), 2) := by decide +kernel
theorem dX7_enter_45 : decode cX7_enter 45 = .ok (.if_icmp .ne 11, 3) := by decide +kernel
theorem dX7_enter_48 : decode cX7_enter 48 = .ok (.aload_n 0, 1) := by decide +kernel
theorem dX7_enter_49 : decode cX7_enter 49 = .ok (.iload_n 2, 1) := by decide +kernel
theorem dX7_enter_50 : decode cX7_enter 50 = .ok (.invokevirtual 195, 3) := by decide +kernel
theorem dX7_enter_53 : decode cX7_enter 53 = .ok (.goto 9, 3) := by decide +kernel
theorem dX7_enter_56 : decode cX7_enter 56 = .ok (.aload_n 0, 1) := by decide +kernel
theorem dX7_enter_57 : decode cX7_enter 57 = .ok (.iload_n 3, 1) := by decide +kernel
theorem dX7_enter_58 : decode cX7_enter 58 = .ok (.iconst 1, 1) := by decide +kernel
theorem dX7_enter_59 : decode cX7_enter 59 = .ok (.invokevirtual 150, 3) := by decide +kernel
theorem dX7_enter_62 : decode cX7_enter 62 = .ok (.istore 4, 2) := by decide +kernel
theorem dX7_enter_64 : decode cX7_enter 64 = .ok (.iload 4, 2) := by decide +kernel
theorem dX7_enter_66 : decode cX7_enter 66 = .ok (.bipush (-9), 2) := by decide +kernel
theorem dX7_enter_68 : decode cX7_enter 68 = .ok (.if_icmp .ne 6, 3) := by decide +kernel
theorem dX7_enter_71 : decode cX7_enter 71 = .ok (.bipush (-3), 2) := by decide +kernel
theorem dX7_enter_73 : decode cX7_enter 73 = .ok (.ireturn, 1) := by decide +kernel
theorem dX7_enter_74 : decode cX7_enter 74 = .ok (.aload_n 0, 1) := by decide +kernel
theorem dX7_enter_75 : decode cX7_enter 75 = .ok (.invokevirtual 51, 3) := by decide +kernel
theorem dX7_enter_78 : decode cX7_enter 78 = .ok (.aload_n 0, 1) := by decide +kernel
theorem dX7_enter_79 : decode cX7_enter 79 = .ok (.getfield 7, 3) := by decide +kernel
theorem dX7_enter_82 : decode cX7_enter 82 = .ok (.iconst 3, 1) := by decide +kernel
theorem dX7_enter_83 : decode cX7_enter 83 = .ok (.dup2, 1) := by decide +kernel
theorem dX7_enter_84 : decode cX7_enter 84 = .ok (.iaload, 1) := by decide +kernel
theorem dX7_enter_85 : decode cX7_enter 85 = .ok (.iconst 1, 1) := by decide +kernel
theorem dX7_enter_86 : decode cX7_enter 86 = .ok (.iadd, 1) := by decide +kernel
theorem dX7_enter_87 : decode cX7_enter 87 = .ok (.iastore, 1) := by decide +kernel
theorem dX7_enter_88 : decode cX7_enter 88 = .ok (.aload_n 0, 1) := by decide +kernel
theorem dX7_enter_89 : decode cX7_enter 89 = .ok (.iload 4, 2) := by decide +kernel
theorem dX7_enter_91 : decode cX7_enter 91 = .ok (.iconst 4, 1) := by decide +kernel
theorem dX7_enter_92 : decode cX7_enter 92 = .ok (.iload_n 1, 1) := by decide +kernel
theorem dX7_enter_93 : decode cX7_enter 93 = .ok (.invokevirtual 39, 3) := by decide +kernel
theorem dX7_enter_96 : decode cX7_enter 96 = .ok (.aload_n 0, 1) := by decide +kernel
theorem dX7_enter_97 : decode cX7_enter 97 = .ok (.iload 4, 2) := by decide +kernel
theorem dX7_enter_99 : decode cX7_enter 99 = .ok (.iconst 5, 1) := by decide +kernel
theorem dX7_enter_100 : decode cX7_enter 100 = .ok (.aload_n 0, 1) := by decide +kernel
theorem dX7_enter_101 : decode cX7_enter 101 = .ok (.getfield 7, 3) := by decide +kernel
theorem dX7_enter_104 : decode cX7_enter 104 = .ok (.iconst 0, 1) := by decide +kernel
theorem dX7_enter_105 : decode cX7_enter 105 = .ok (.iaload, 1) := by decide +kernel
theorem dX7_enter_106 : decode cX7_enter 106 = .ok (.invokevirtual 39, 3) := by decide +kernel
theorem dX7_enter_109 : decode cX7_enter 109 = .ok (.aload_n 0, 1) := by decide +kernel
theorem dX7_enter_110 : decode cX7_enter 110 = .ok (.iload 4, 2) := by decide +kernel
theorem dX7_enter_112 : decode cX7_enter 112 = .ok (.bipush 6, 2) := by decide +kernel
theorem dX7_enter_114 : decode cX7_enter 114 = .ok (.iload_n 3, 1) := by decide +kernel
theorem dX7_enter_115 : decode cX7_enter 115 = .ok (.invokevirtual 39, 3) := by decide +kernel
theorem dX7_enter_118 : decode cX7_enter 118 = .ok (.aload_n 0, 1) := by decide +kernel
theorem dX7_enter_119 : decode cX7_enter 119 = .ok (.iload 4, 2) := by decide +kernel
theorem dX7_enter_121 : decode cX7_enter 121 = .ok (.bipush 7, 2) := by decide +kernel
theorem dX7_enter_123 : decode cX7_enter 123 = .ok (.aload_n 0, 1) := by decide +kernel
theorem dX7_enter_124 : decode cX7_enter 124 = .ok (.getfield 7, 3) := by decide +kernel
theorem dX7_enter_127 : decode cX7_enter 127 = .ok (.iconst 3, 1) := by decide +kernel
theorem dX7_enter_128 : decode cX7_enter 128 = .ok (.iaload, 1) := by decide +kernel
theorem dX7_enter_129 : decode cX7_enter 129 = .ok (.invokevirtual 39, 3) := by decide +kernel
theorem dX7_enter_132 : decode cX7_enter 132 = .ok (.iload_n 3, 1) := by decide +kernel
theorem dX7_enter_133 : decode cX7_enter 133 = .ok (.bipush (-9), 2) := by decide +kernel
theorem dX7_enter_135 : decode cX7_enter 135 = .ok (.if_icmp .eq 9, 3) := by decide +kernel
theorem dX7_enter_138 : decode cX7_enter 138 = .ok (.aload_n 0, 1) := by decide +kernel
theorem dX7_enter_139 : decode cX7_enter 139 = .ok (.iload_n 3, 1) := by decide +kernel
theorem dX7_enter_140 : decode cX7_enter 140 = .ok (.iconst 1, 1) := by decide +kernel
theorem dX7_enter_141 : decode cX7_enter 141 = .ok (.invokevirtual 180, 3) := by decide +kernel
theorem dX7_enter_144 : decode cX7_enter 144 = .ok (.aload_n 0, 1) := by decide +kernel
theorem dX7_enter_145 : decode cX7_enter 145 = .ok (.getfield 7, 3) := by decide +kernel
theorem dX7_enter_148 : decode cX7_enter 148 = .ok (.iconst 3, 1) := by decide +kernel
theorem dX7_enter_149 : decode cX7_enter 149 = .ok (.iaload, 1) := by decide +kernel
theorem dX7_enter_150 : decode cX7_enter 150 = .ok (.ireturn, 1) := by decide +kernel
set_option maxRecDepth 20000 in
theorem ggX7_feeAt_X7_of : GoodIn wsX7_feeAt wsX7_of := goodIn_r _ [5, 6, 22, 23, 24, 25, 26, 27, 28, 29, 30, 31, 32] (by decide +kernel) (by decide +kernel)
set_option maxRecDepth 20000 in
theorem gX7_feeAt_X7_of : GoodIn wsX7_feeAt (wsV RX7 35 RX7 yX7_of wsX7_of) := goodIn_app (goodIn_of _ (by decide +kernel)) ggX7_feeAt_X7_of
set_option maxRecDepth 20000 in
theorem ggX7_feeAt_X7_normal : GoodIn wsX7_feeAt wsX7_normal := goodIn_r _ [10, 6, 11, 12, 13, 4, 14, 15, 16, 17, 22, 23, 24, 25, 26, 27, 28, 29, 30, 31, 32] (by decide +kernel) (by decide +kernel)
set_option maxRecDepth 20000 in
theorem gX7_feeAt_X7_normal : GoodIn wsX7_feeAt (wsV RX7 174 RX7 yX7_normal wsX7_normal) := goodIn_app (goodIn_of _ (by decide +kernel)) ggX7_feeAt_X7_normal
set_option maxRecDepth 20000 in
theorem ggX7_feeAt_X7_about : GoodIn wsX7_feeAt wsX7_about := goodIn_r _ [21, 6, 22, 23, 24, 25, 26, 27, 28, 29, 30, 31, 32] (by decide +kernel) (by decide +kernel)
set_option maxRecDepth 20000 in
theorem gX7_feeAt_X7_about : GoodIn wsX7_feeAt (wsV RX7 150 RX7 yX7_about wsX7_about) := goodIn_app (goodIn_of _ (by decide +kernel)) ggX7_feeAt_X7_about
set_option maxRecDepth 20000 in
theorem ggX7_feeAt_X7_sum : GoodIn wsX7_feeAt wsX7_sum := goodIn_r _ [14, 6, 15, 16, 4, 17, 22, 23, 24, 25, 26, 27, 28, 29, 30, 31, 32] (by decide +kernel) (by decide +kernel)
set_option maxRecDepth 20000 in
theorem gX7_feeAt_X7_sum : GoodIn wsX7_feeAt (wsV RX7 75 RX7 yX7_sum wsX7_sum) := goodIn_app (goodIn_of _ (by decide +kernel)) ggX7_feeAt_X7_sum
theorem dX7_feeAt_0 : decode cX7_feeAt 0 = .ok (.aload_n 0, 1) := by decide +kernel
theorem dX7_feeAt_1 : decode cX7_feeAt 1 = .ok (.iload_n 1, 1) := by decide +kernel
theorem dX7_feeAt_2 : decode cX7_feeAt 2 = .ok (.bipush 6, 2) := by decide +kernel
theorem dX7_feeAt_4 : decode cX7_feeAt 4 = .ok (.invokevirtual 35, 3) := by decide +kernel
theorem dX7_feeAt_7 : decode cX7_feeAt 7 = .ok (.istore_n 3, 1) := by decide +kernel
theorem dX7_feeAt_8 : decode cX7_feeAt 8 = .ok (.iload_n 3, 1) := by decide +kernel
theorem dX7_feeAt_9 : decode cX7_feeAt 9 = .ok (.bipush (-9), 2) := by decide +kernel
theorem dX7_feeAt_11 : decode cX7_feeAt 11 = .ok (.if_icmp .ne 16, 3) := by decide +kernel
theorem dX7_feeAt_14 : decode cX7_feeAt 14 = .ok (.aload_n 0, 1) := by decide +kernel
theorem dX7_feeAt_15 : decode cX7_feeAt 15 = .ok (.iload_n 2, 1) := by decide +kernel
theorem dX7_feeAt_16 : decode cX7_feeAt 16 = .ok (.aload_n 0, 1) := by decide +kernel
theorem dX7_feeAt_17 : decode cX7_feeAt 17 = .ok (.iload_n 1, 1) := by decide +kernel
theorem dX7_feeAt_18 : decode cX7_feeAt 18 = .ok (.iconst 5, 1) := by decide +kernel
theorem dX7_feeAt_19 : decode cX7_feeAt 19 = .ok (.invokevirtual 35, 3) := by decide +kernel
theorem dX7_feeAt_22 : decode cX7_feeAt 22 = .ok (.isub, 1) := by decide +kernel
theorem dX7_feeAt_23 : decode cX7_feeAt 23 = .ok (.invokevirtual 174, 3) := by decide +kernel
theorem dX7_feeAt_26 : decode cX7_feeAt 26 = .ok (.ireturn, 1) := by decide +kernel
theorem dX7_feeAt_27 : decode cX7_feeAt 27 = .ok (.iload_n 2, 1) := by decide +kernel
theorem dX7_feeAt_28 : decode cX7_feeAt 28 = .ok (.aload_n 0, 1) := by decide +kernel
theorem dX7_feeAt_29 : decode cX7_feeAt 29 = .ok (.iload_n 3, 1) := by decide +kernel
theorem dX7_feeAt_30 : decode cX7_feeAt 30 = .ok (.iconst 3, 1) := by decide +kernel
theorem dX7_feeAt_31 : decode cX7_feeAt 31 = .ok (.invokevirtual 150, 3) := by decide +kernel
theorem dX7_feeAt_34 : decode cX7_feeAt 34 = .ok (.if_icmp .gt 7, 3) := by decide +kernel
theorem dX7_feeAt_37 : decode cX7_feeAt 37 = .ok (.iconst 0, 1) := by decide +kernel
theorem dX7_feeAt_38 : decode cX7_feeAt 38 = .ok (.goto 16, 3) := by decide +kernel
theorem dX7_feeAt_41 : decode cX7_feeAt 41 = .ok (.aload_n 0, 1) := by decide +kernel
theorem dX7_feeAt_42 : decode cX7_feeAt 42 = .ok (.iconst 1, 1) := by decide +kernel
theorem dX7_feeAt_43 : decode cX7_feeAt 43 = .ok (.iload_n 2, 1) := by decide +kernel
theorem dX7_feeAt_44 : decode cX7_feeAt 44 = .ok (.aload_n 0, 1) := by decide +kernel
theorem dX7_feeAt_45 : decode cX7_feeAt 45 = .ok (.iload_n 3, 1) := by decide +kernel
theorem dX7_feeAt_46 : decode cX7_feeAt 46 = .ok (.iconst 3, 1) := by decide +kernel
theorem dX7_feeAt_47 : decode cX7_feeAt 47 = .ok (.invokevirtual 150, 3) := by decide +kernel
theorem dX7_feeAt_50 : decode cX7_feeAt 50 = .ok (.isub, 1) := by decide +kernel
theorem dX7_feeAt_51 : decode cX7_feeAt 51 = .ok (.invokevirtual 75, 3) := by decide +kernel
theorem dX7_feeAt_54 : decode cX7_feeAt 54 = .ok (.ireturn, 1) := by decide +kernel
set_option maxRecDepth 20000 in
theorem ggX7_lostFee_X7_of : GoodIn wsX7_lostFee wsX7_of := goodIn_r _ [6, 1, 18, 19, 20, 21, 22, 23, 24, 25, 26, 27, 28] (by decide +kernel) (by decide +kernel)
set_option maxRecDepth 20000 in
theorem gX7_lostFee_X7_of : GoodIn wsX7_lostFee (wsV RX7 35 RX7 yX7_of wsX7_of) := goodIn_app (goodIn_of _ (by decide +kernel)) ggX7_lostFee_X7_of
set_option maxRecDepth 20000 in
theorem ggX7_lostFee_X7_lesser : GoodIn wsX7_lostFee wsX7_lesser := goodIn_r _ [9] (by decide +kernel) (by decide +kernel)
set_option maxRecDepth 20000 in
theorem gX7_lostFee_X7_lesser : GoodIn wsX7_lostFee (va_wsS RX7 72 yX7_lesser wsX7_lesser) := goodIn_app (goodIn_of _ (by decide +kernel)) ggX7_lostFee_X7_lesser
set_option maxRecDepth 20000 in
theorem ggX7_lostFee_X7_normal : GoodIn wsX7_lostFee wsX7_normal := goodIn_r _ [13, 1, 14, 15, 16, 5, 17, 7, 8, 9, 18, 19, 20, 21, 22, 23, 24, 25, 26, 27, 28] (by decide +kernel) (by decide +kernel)
set_option maxRecDepth 20000 in
theorem gX7_lostFee_X7_normal : GoodIn wsX7_lostFee (wsV RX7 174 RX7 yX7_normal wsX7_normal) := goodIn_app (goodIn_of _ (by decide +kernel)) ggX7_lostFee_X7_normal
theorem dX7_lostFee_0 : decode cX7_lostFee 0 = .ok (.aload_n 0, 1) := by decide +kernel
theorem dX7_lostFee_1 : decode cX7_lostFee 1 = .ok (.iload_n 1, 1) := by decide +kernel
theorem dX7_lostFee_2 : decode cX7_lostFee 2 = .ok (.iconst 5, 1) := by decide +kernel
theorem dX7_lostFee_3 : decode cX7_lostFee 3 = .ok (.invokevirtual 35, 3) := by decide +kernel
theorem dX7_lostFee_6 : decode cX7_lostFee 6 = .ok (.aload_n 0, 1) := by decide +kernel
theorem dX7_lostFee_7 : decode cX7_lostFee 7 = .ok (.getfield 7, 3) := by decide +kernel
theorem dX7_lostFee_10 : decode cX7_lostFee 10 = .ok (.iconst 0, 1) := by decide +kernel
theorem dX7_lostFee_11 : decode cX7_lostFee 11 = .ok (.iaload, 1) := by decide +kernel
theorem dX7_lostFee_12 : decode cX7_lostFee 12 = .ok (.sipush 1440, 3) := by decide +kernel
theorem dX7_lostFee_15 : decode cX7_lostFee 15 = .ok (.idiv, 1) := by decide +kernel
theorem dX7_lostFee_16 : decode cX7_lostFee 16 = .ok (.sipush 1440, 3) := by decide +kernel
theorem dX7_lostFee_19 : decode cX7_lostFee 19 = .ok (.imul, 1) := by decide +kernel
theorem dX7_lostFee_20 : decode cX7_lostFee 20 = .ok (.invokestatic 72, 3) := by decide +kernel
theorem dX7_lostFee_23 : decode cX7_lostFee 23 = .ok (.istore_n 2, 1) := by decide +kernel
theorem dX7_lostFee_24 : decode cX7_lostFee 24 = .ok (.aload_n 0, 1) := by decide +kernel
theorem dX7_lostFee_25 : decode cX7_lostFee 25 = .ok (.getfield 7, 3) := by decide +kernel
theorem dX7_lostFee_28 : decode cX7_lostFee 28 = .ok (.bipush 9, 2) := by decide +kernel
theorem dX7_lostFee_30 : decode cX7_lostFee 30 = .ok (.iaload, 1) := by decide +kernel
theorem dX7_lostFee_31 : decode cX7_lostFee 31 = .ok (.aload_n 0, 1) := by decide +kernel
theorem dX7_lostFee_32 : decode cX7_lostFee 32 = .ok (.aload_n 0, 1) := by decide +kernel
theorem dX7_lostFee_33 : decode cX7_lostFee 33 = .ok (.getfield 7, 3) := by decide +kernel
theorem dX7_lostFee_36 : decode cX7_lostFee 36 = .ok (.iconst 0, 1) := by decide +kernel
theorem dX7_lostFee_37 : decode cX7_lostFee 37 = .ok (.iaload, 1) := by decide +kernel
theorem dX7_lostFee_38 : decode cX7_lostFee 38 = .ok (.iload_n 2, 1) := by decide +kernel
theorem dX7_lostFee_39 : decode cX7_lostFee 39 = .ok (.isub, 1) := by decide +kernel
theorem dX7_lostFee_40 : decode cX7_lostFee 40 = .ok (.invokevirtual 174, 3) := by decide +kernel
theorem dX7_lostFee_43 : decode cX7_lostFee 43 = .ok (.iadd, 1) := by decide +kernel
theorem dX7_lostFee_44 : decode cX7_lostFee 44 = .ok (.ireturn, 1) := by decide +kernel
set_option maxRecDepth 20000 in
theorem ggX7_leaves_X7_notes : GoodIn wsX7_leaves wsX7_notes := goodIn_r _ [6, 7, 8, 1, 21, 22, 23, 24, 25, 26, 27, 28, 29, 30, 31] (by decide +kernel) (by decide +kernel)
set_option maxRecDepth 20000 in
theorem gX7_leaves_X7_notes : GoodIn wsX7_leaves (wsV RX7 51 RX7 yX7_notes wsX7_notes) := goodIn_app (goodIn_of _ (by decide +kernel)) ggX7_leaves_X7_notes
set_option maxRecDepth 20000 in
theorem ggX7_leaves_X7_of : GoodIn wsX7_leaves wsX7_of := goodIn_r _ [12, 1, 21, 22, 23, 24, 25, 26, 27, 28, 29, 30, 31] (by decide +kernel) (by decide +kernel)
set_option maxRecDepth 20000 in
theorem gX7_leaves_X7_of : GoodIn wsX7_leaves (wsV RX7 35 RX7 yX7_of wsX7_of) := goodIn_app (goodIn_of _ (by decide +kernel)) ggX7_leaves_X7_of
set_option maxRecDepth 20000 in
theorem ggX7_leaves_X7_marks : GoodIn wsX7_leaves wsX7_marks := goodIn_r _ [16, 1, 21, 22, 23, 24, 25, 26, 27, 28, 29, 30, 31] (by decide +kernel) (by decide +kernel)
set_option maxRecDepth 20000 in
theorem gX7_leaves_X7_marks : GoodIn wsX7_leaves (wsV RX7 180 RX7 yX7_marks wsX7_marks) := goodIn_app (goodIn_of _ (by decide +kernel)) ggX7_leaves_X7_marks
set_option maxRecDepth 20000 in
theorem ggX7_leaves_X7_sets : GoodIn wsX7_leaves wsX7_sets := goodIn_r _ [20, 1, 21, 22, 23, 24, 25, 26, 27, 28, 29, 30, 31] (by decide +kernel) (by decide +kernel)
set_option maxRecDepth 20000 in
theorem gX7_leaves_X7_sets : GoodIn wsX7_leaves (wsV RX7 39 RX7 yX7_sets wsX7_sets) := goodIn_app (goodIn_of _ (by decide +kernel)) ggX7_leaves_X7_sets
theorem dX7_leaves_0 : decode cX7_leaves 0 = .ok (.aload_n 0, 1) := by decide +kernel
theorem dX7_leaves_1 : decode cX7_leaves 1 = .ok (.invokevirtual 51, 3) := by decide +kernel
theorem dX7_leaves_4 : decode cX7_leaves 4 = .ok (.aload_n 0, 1) := by decide +kernel
theorem dX7_leaves_5 : decode cX7_leaves 5 = .ok (.getfield 7, 3) := by decide +kernel
theorem dX7_leaves_8 : decode cX7_leaves 8 = .ok (.bipush 10, 2) := by decide +kernel
theorem dX7_leaves_10 : decode cX7_leaves 10 = .ok (.iload_n 3, 1) := by decide +kernel
theorem dX7_leaves_11 : decode cX7_leaves 11 = .ok (.iadd, 1) := by decide +kernel
theorem dX7_leaves_12 : decode cX7_leaves 12 = .ok (.dup2, 1) := by decide +kernel
theorem dX7_leaves_13 : decode cX7_leaves 13 = .ok (.iaload, 1) := by decide +kernel
theorem dX7_leaves_14 : decode cX7_leaves 14 = .ok (.iload_n 2, 1) := by decide +kernel
theorem dX7_leaves_15 : decode cX7_leaves 15 = .ok (.iadd, 1) := by decide +kernel
theorem dX7_leaves_16 : decode cX7_leaves 16 = .ok (.iastore, 1) := by decide +kernel
theorem dX7_leaves_17 : decode cX7_leaves 17 = .ok (.aload_n 0, 1) := by decide +kernel
theorem dX7_leaves_18 : decode cX7_leaves 18 = .ok (.iload_n 1, 1) := by decide +kernel
theorem dX7_leaves_19 : decode cX7_leaves 19 = .ok (.bipush 6, 2) := by decide +kernel
theorem dX7_leaves_21 : decode cX7_leaves 21 = .ok (.invokevirtual 35, 3) := by decide +kernel
theorem dX7_leaves_24 : decode cX7_leaves 24 = .ok (.bipush (-9), 2) := by decide +kernel
theorem dX7_leaves_26 : decode cX7_leaves 26 = .ok (.if_icmp .eq 15, 3) := by decide +kernel
theorem dX7_leaves_29 : decode cX7_leaves 29 = .ok (.aload_n 0, 1) := by decide +kernel
theorem dX7_leaves_30 : decode cX7_leaves 30 = .ok (.aload_n 0, 1) := by decide +kernel
theorem dX7_leaves_31 : decode cX7_leaves 31 = .ok (.iload_n 1, 1) := by decide +kernel
theorem dX7_leaves_32 : decode cX7_leaves 32 = .ok (.bipush 6, 2) := by decide +kernel
theorem dX7_leaves_34 : decode cX7_leaves 34 = .ok (.invokevirtual 35, 3) := by decide +kernel
theorem dX7_leaves_37 : decode cX7_leaves 37 = .ok (.iconst 2, 1) := by decide +kernel
theorem dX7_leaves_38 : decode cX7_leaves 38 = .ok (.invokevirtual 180, 3) := by decide +kernel
theorem dX7_leaves_41 : decode cX7_leaves 41 = .ok (.aload_n 0, 1) := by decide +kernel
theorem dX7_leaves_42 : decode cX7_leaves 42 = .ok (.iload_n 1, 1) := by decide +kernel
theorem dX7_leaves_43 : decode cX7_leaves 43 = .ok (.iconst 4, 1) := by decide +kernel
theorem dX7_leaves_44 : decode cX7_leaves 44 = .ok (.iconst 0, 1) := by decide +kernel
theorem dX7_leaves_45 : decode cX7_leaves 45 = .ok (.invokevirtual 39, 3) := by decide +kernel
theorem dX7_leaves_48 : decode cX7_leaves 48 = .ok (.aload_n 0, 1) := by decide +kernel
theorem dX7_leaves_49 : decode cX7_leaves 49 = .ok (.iload_n 1, 1) := by decide +kernel
theorem dX7_leaves_50 : decode cX7_leaves 50 = .ok (.iconst 5, 1) := by decide +kernel
theorem dX7_leaves_51 : decode cX7_leaves 51 = .ok (.iconst 0, 1) := by decide +kernel
theorem dX7_leaves_52 : decode cX7_leaves 52 = .ok (.invokevirtual 39, 3) := by decide +kernel
theorem dX7_leaves_55 : decode cX7_leaves 55 = .ok (.aload_n 0, 1) := by decide +kernel
theorem dX7_leaves_56 : decode cX7_leaves 56 = .ok (.iload_n 1, 1) := by decide +kernel
theorem dX7_leaves_57 : decode cX7_leaves 57 = .ok (.bipush 6, 2) := by decide +kernel
theorem dX7_leaves_59 : decode cX7_leaves 59 = .ok (.bipush (-9), 2) := by decide +kernel
theorem dX7_leaves_61 : decode cX7_leaves 61 = .ok (.invokevirtual 39, 3) := by decide +kernel
theorem dX7_leaves_64 : decode cX7_leaves 64 = .ok (.aload_n 0, 1) := by decide +kernel
theorem dX7_leaves_65 : decode cX7_leaves 65 = .ok (.iload_n 1, 1) := by decide +kernel
theorem dX7_leaves_66 : decode cX7_leaves 66 = .ok (.bipush 7, 2) := by decide +kernel
theorem dX7_leaves_68 : decode cX7_leaves 68 = .ok (.iconst 0, 1) := by decide +kernel
theorem dX7_leaves_69 : decode cX7_leaves 69 = .ok (.invokevirtual 39, 3) := by decide +kernel
theorem dX7_leaves_72 : decode cX7_leaves 72 = .ok (.aload_n 0, 1) := by decide +kernel
theorem dX7_leaves_73 : decode cX7_leaves 73 = .ok (.getfield 7, 3) := by decide +kernel
theorem dX7_leaves_76 : decode cX7_leaves 76 = .ok (.iconst 4, 1) := by decide +kernel
theorem dX7_leaves_77 : decode cX7_leaves 77 = .ok (.dup2, 1) := by decide +kernel
theorem dX7_leaves_78 : decode cX7_leaves 78 = .ok (.iaload, 1) := by decide +kernel
theorem dX7_leaves_79 : decode cX7_leaves 79 = .ok (.iconst 1, 1) := by decide +kernel
theorem dX7_leaves_80 : decode cX7_leaves 80 = .ok (.iadd, 1) := by decide +kernel
theorem dX7_leaves_81 : decode cX7_leaves 81 = .ok (.iastore, 1) := by decide +kernel
theorem dX7_leaves_82 : decode cX7_leaves 82 = .ok (.iload_n 2, 1) := by decide +kernel
theorem dX7_leaves_83 : decode cX7_leaves 83 = .ok (.ireturn, 1) := by decide +kernel
set_option maxRecDepth 20000 in
theorem ggX7_leave_X7_in : GoodIn wsX7_leave wsX7_in := goodIn_r _ [5] (by decide +kernel) (by decide +kernel)
set_option maxRecDepth 20000 in
theorem gX7_leave_X7_in : GoodIn wsX7_leave (va_wsS RX7 31 yX7_in wsX7_in) := goodIn_app (goodIn_of _ (by decide +kernel)) ggX7_leave_X7_in
set_option maxRecDepth 20000 in
theorem ggX7_leave_X7_of : GoodIn wsX7_leave wsX7_of := goodIn_r _ [9, 1, 47, 48, 49, 50, 51, 52, 53, 54, 55, 56, 57] (by decide +kernel) (by decide +kernel)
set_option maxRecDepth 20000 in
theorem gX7_leave_X7_of : GoodIn wsX7_leave (wsV RX7 35 RX7 yX7_of wsX7_of) := goodIn_app (goodIn_of _ (by decide +kernel)) ggX7_leave_X7_of
set_option maxRecDepth 20000 in
theorem ggX7_leave_X7_feeAt : GoodIn wsX7_leave wsX7_feeAt := goodIn_r _ [13, 6, 7, 8, 4, 9, 1, 14, 15, 16, 17, 18, 19, 20, 21, 22, 23, 24, 25, 26, 27, 28, 47, 48, 49, 50, 51, 52, 53, 54, 55, 56, 57] (by decide +kernel) (by decide +kernel)
set_option maxRecDepth 20000 in
theorem gX7_leave_X7_feeAt : GoodIn wsX7_leave (wsV RX7 198 RX7 yX7_feeAt wsX7_feeAt) := goodIn_app (goodIn_of _ (by decide +kernel)) ggX7_leave_X7_feeAt
set_option maxRecDepth 20000 in
theorem ggX7_leave_X7_leaves : GoodIn wsX7_leave wsX7_leaves := goodIn_r _ [32, 1, 33, 34, 35, 4, 36, 37, 38, 6, 7, 8, 9, 39, 40, 41, 42, 43, 44, 45, 46, 47, 48, 49, 50, 51, 52, 53, 54, 55, 56, 57] (by decide +kernel) (by decide +kernel)
set_option maxRecDepth 20000 in
theorem gX7_leave_X7_leaves : GoodIn wsX7_leave (wsV RX7 201 RX7 yX7_leaves wsX7_leaves) := goodIn_app (goodIn_of _ (by decide +kernel)) ggX7_leave_X7_leaves
theorem dX7_leave_0 : decode cX7_leave 0 = .ok (.iload_n 1, 1) := by decide +kernel
theorem dX7_leave_1 : decode cX7_leave 1 = .ok (.iconst 1, 1) := by decide +kernel
theorem dX7_leave_2 : decode cX7_leave 2 = .ok (.aload_n 0, 1) := by decide +kernel
theorem dX7_leave_3 : decode cX7_leave 3 = .ok (.getfield 7, 3) := by decide +kernel
theorem dX7_leave_6 : decode cX7_leave 6 = .ok (.iconst 3, 1) := by decide +kernel
theorem dX7_leave_7 : decode cX7_leave 7 = .ok (.iaload, 1) := by decide +kernel
theorem dX7_leave_8 : decode cX7_leave 8 = .ok (.invokestatic 31, 3) := by decide +kernel
theorem dX7_leave_11 : decode cX7_leave 11 = .ok (.ifCond .ne 5, 3) := by decide +kernel
theorem dX7_leave_14 : decode cX7_leave 14 = .ok (.iconst (-1), 1) := by decide +kernel
theorem dX7_leave_15 : decode cX7_leave 15 = .ok (.ireturn, 1) := by decide +kernel
theorem dX7_leave_16 : decode cX7_leave 16 = .ok (.iconst 0, 1) := by decide +kernel
theorem dX7_leave_17 : decode cX7_leave 17 = .ok (.istore_n 2, 1) := by decide +kernel
theorem dX7_leave_18 : decode cX7_leave 18 = .ok (.iload_n 2, 1) := by decide +kernel
theorem dX7_leave_19 : decode cX7_leave 19 = .ok (.aload_n 0, 1) := by decide +kernel
theorem dX7_leave_20 : decode cX7_leave 20 = .ok (.getfield 7, 3) := by decide +kernel
theorem dX7_leave_23 : decode cX7_leave 23 = .ok (.iconst 1, 1) := by decide +kernel
theorem dX7_leave_24 : decode cX7_leave 24 = .ok (.iaload, 1) := by decide +kernel
theorem dX7_leave_25 : decode cX7_leave 25 = .ok (.if_icmp .ge 54, 3) := by decide +kernel
theorem dX7_leave_28 : decode cX7_leave 28 = .ok (.aload_n 0, 1) := by decide +kernel
theorem dX7_leave_29 : decode cX7_leave 29 = .ok (.iload_n 2, 1) := by decide +kernel
theorem dX7_leave_30 : decode cX7_leave 30 = .ok (.bipush 7, 2) := by decide +kernel
theorem dX7_leave_32 : decode cX7_leave 32 = .ok (.invokevirtual 35, 3) := by decide +kernel
theorem dX7_leave_35 : decode cX7_leave 35 = .ok (.iload_n 1, 1) := by decide +kernel
theorem dX7_leave_36 : decode cX7_leave 36 = .ok (.if_icmp .ne 37, 3) := by decide +kernel
theorem dX7_leave_39 : decode cX7_leave 39 = .ok (.aload_n 0, 1) := by decide +kernel
theorem dX7_leave_40 : decode cX7_leave 40 = .ok (.iload_n 2, 1) := by decide +kernel
theorem dX7_leave_41 : decode cX7_leave 41 = .ok (.aload_n 0, 1) := by decide +kernel
theorem dX7_leave_42 : decode cX7_leave 42 = .ok (.iload_n 2, 1) := by decide +kernel
theorem dX7_leave_43 : decode cX7_leave 43 = .ok (.aload_n 0, 1) := by decide +kernel
theorem dX7_leave_44 : decode cX7_leave 44 = .ok (.getfield 7, 3) := by decide +kernel
theorem dX7_leave_47 : decode cX7_leave 47 = .ok (.iconst 0, 1) := by decide +kernel
theorem dX7_leave_48 : decode cX7_leave 48 = .ok (.iaload, 1) := by decide +kernel
theorem dX7_leave_49 : decode cX7_leave 49 = .ok (.invokevirtual 198, 3) := by decide +kernel
theorem dX7_leave_52 : decode cX7_leave 52 = .ok (.aload_n 0, 1) := by decide +kernel
theorem dX7_leave_53 : decode cX7_leave 53 = .ok (.iload_n 2, 1) := by decide +kernel
theorem dX7_leave_54 : decode cX7_leave 54 = .ok (.bipush 6, 2) := by decide +kernel
theorem dX7_leave_56 : decode cX7_leave 56 = .ok (.invokevirtual 35, 3) := by decide +kernel
theorem dX7_leave_59 : decode cX7_leave 59 = .ok (.bipush (-9), 2) := by decide +kernel
theorem dX7_leave_61 : decode cX7_leave 61 = .ok (.if_icmp .ne 7, 3) := by decide +kernel
theorem dX7_leave_64 : decode cX7_leave 64 = .ok (.iconst 0, 1) := by decide +kernel
theorem dX7_leave_65 : decode cX7_leave 65 = .ok (.goto 4, 3) := by decide +kernel
theorem dX7_leave_68 : decode cX7_leave 68 = .ok (.iconst 2, 1) := by decide +kernel
theorem dX7_leave_69 : decode cX7_leave 69 = .ok (.invokevirtual 201, 3) := by decide +kernel
theorem dX7_leave_72 : decode cX7_leave 72 = .ok (.ireturn, 1) := by decide +kernel
theorem dX7_leave_73 : decode cX7_leave 73 = .ok (.iinc 2 1, 3) := by decide +kernel
theorem dX7_leave_76 : decode cX7_leave 76 = .ok (.goto (-58), 3) := by decide +kernel
theorem dX7_leave_79 : decode cX7_leave 79 = .ok (.bipush (-2), 2) := by decide +kernel
theorem dX7_leave_81 : decode cX7_leave 81 = .ok (.ireturn, 1) := by decide +kernel
set_option maxRecDepth 20000 in
theorem ggX7_leaveLost_X7_in : GoodIn wsX7_leaveLost wsX7_in := goodIn_r _ [4] (by decide +kernel) (by decide +kernel)
set_option maxRecDepth 20000 in
theorem gX7_leaveLost_X7_in : GoodIn wsX7_leaveLost (va_wsS RX7 31 yX7_in wsX7_in) := goodIn_app (goodIn_of _ (by decide +kernel)) ggX7_leaveLost_X7_in
set_option maxRecDepth 20000 in
theorem ggX7_leaveLost_X7_bayOf : GoodIn wsX7_leaveLost wsX7_bayOf := goodIn_r _ [8, 9, 10, 11, 12, 3, 13, 47, 48, 49, 50, 51, 52, 53, 54, 55, 56, 57] (by decide +kernel) (by decide +kernel)
set_option maxRecDepth 20000 in
theorem gX7_leaveLost_X7_bayOf : GoodIn wsX7_leaveLost (wsV RX7 189 RX7 yX7_bayOf wsX7_bayOf) := goodIn_app (goodIn_of _ (by decide +kernel)) ggX7_leaveLost_X7_bayOf
set_option maxRecDepth 20000 in
theorem ggX7_leaveLost_X7_lostFee : GoodIn wsX7_leaveLost wsX7_lostFee := goodIn_r _ [17, 9, 10, 11, 12, 3, 13, 18, 19, 20, 21, 22, 23, 24, 25, 26, 27, 28, 47, 48, 49, 50, 51, 52, 53, 54, 55, 56, 57] (by decide +kernel) (by decide +kernel)
set_option maxRecDepth 20000 in
theorem gX7_leaveLost_X7_lostFee : GoodIn wsX7_leaveLost (wsV RX7 204 RX7 yX7_lostFee wsX7_lostFee) := goodIn_app (goodIn_of _ (by decide +kernel)) ggX7_leaveLost_X7_lostFee
set_option maxRecDepth 20000 in
theorem ggX7_leaveLost_X7_leaves : GoodIn wsX7_leaveLost wsX7_leaves := goodIn_r _ [32, 9, 33, 34, 35, 3, 36, 37, 38, 10, 11, 12, 13, 39, 40, 41, 42, 43, 44, 45, 46, 47, 48, 49, 50, 51, 52, 53, 54, 55, 56, 57] (by decide +kernel) (by decide +kernel)
set_option maxRecDepth 20000 in
theorem gX7_leaveLost_X7_leaves : GoodIn wsX7_leaveLost (wsV RX7 201 RX7 yX7_leaves wsX7_leaves) := goodIn_app (goodIn_of _ (by decide +kernel)) ggX7_leaveLost_X7_leaves
theorem dX7_leaveLost_0 : decode cX7_leaveLost 0 = .ok (.iload_n 1, 1) := by decide +kernel
theorem dX7_leaveLost_1 : decode cX7_leaveLost 1 = .ok (.iconst 1, 1) := by decide +kernel
theorem dX7_leaveLost_2 : decode cX7_leaveLost 2 = .ok (.sipush 999, 3) := by decide +kernel
theorem dX7_leaveLost_5 : decode cX7_leaveLost 5 = .ok (.invokestatic 31, 3) := by decide +kernel
theorem dX7_leaveLost_8 : decode cX7_leaveLost 8 = .ok (.ifCond .ne 5, 3) := by decide +kernel
theorem dX7_leaveLost_11 : decode cX7_leaveLost 11 = .ok (.iconst (-1), 1) := by decide +kernel
theorem dX7_leaveLost_12 : decode cX7_leaveLost 12 = .ok (.ireturn, 1) := by decide +kernel
theorem dX7_leaveLost_13 : decode cX7_leaveLost 13 = .ok (.aload_n 0, 1) := by decide +kernel
theorem dX7_leaveLost_14 : decode cX7_leaveLost 14 = .ok (.iload_n 1, 1) := by decide +kernel
theorem dX7_leaveLost_15 : decode cX7_leaveLost 15 = .ok (.invokevirtual 189, 3) := by decide +kernel
theorem dX7_leaveLost_18 : decode cX7_leaveLost 18 = .ok (.istore_n 2, 1) := by decide +kernel
theorem dX7_leaveLost_19 : decode cX7_leaveLost 19 = .ok (.iload_n 2, 1) := by decide +kernel
theorem dX7_leaveLost_20 : decode cX7_leaveLost 20 = .ok (.bipush (-9), 2) := by decide +kernel
theorem dX7_leaveLost_22 : decode cX7_leaveLost 22 = .ok (.if_icmp .ne 8, 3) := by decide +kernel
theorem dX7_leaveLost_25 : decode cX7_leaveLost 25 = .ok (.bipush (-2), 2) := by decide +kernel
theorem dX7_leaveLost_27 : decode cX7_leaveLost 27 = .ok (.goto 14, 3) := by decide +kernel
theorem dX7_leaveLost_30 : decode cX7_leaveLost 30 = .ok (.aload_n 0, 1) := by decide +kernel
theorem dX7_leaveLost_31 : decode cX7_leaveLost 31 = .ok (.iload_n 2, 1) := by decide +kernel
theorem dX7_leaveLost_32 : decode cX7_leaveLost 32 = .ok (.aload_n 0, 1) := by decide +kernel
theorem dX7_leaveLost_33 : decode cX7_leaveLost 33 = .ok (.iload_n 2, 1) := by decide +kernel
theorem dX7_leaveLost_34 : decode cX7_leaveLost 34 = .ok (.invokevirtual 204, 3) := by decide +kernel
theorem dX7_leaveLost_37 : decode cX7_leaveLost 37 = .ok (.iconst 3, 1) := by decide +kernel
theorem dX7_leaveLost_38 : decode cX7_leaveLost 38 = .ok (.invokevirtual 201, 3) := by decide +kernel
theorem dX7_leaveLost_41 : decode cX7_leaveLost 41 = .ok (.ireturn, 1) := by decide +kernel
set_option maxRecDepth 20000 in
theorem ggX7_pass_X7_in : GoodIn wsX7_pass wsX7_in := goodIn_r _ [5] (by decide +kernel) (by decide +kernel)
set_option maxRecDepth 20000 in
theorem gX7_pass_X7_in : GoodIn wsX7_pass (va_wsS RX7 31 yX7_in wsX7_in) := goodIn_app (goodIn_of _ (by decide +kernel)) ggX7_pass_X7_in
set_option maxRecDepth 20000 in
theorem ggX7_pass_X7_notes : GoodIn wsX7_pass wsX7_notes := goodIn_r _ [9, 10, 11, 1, 20, 21, 22, 23, 24, 25, 26, 27, 28, 29, 30] (by decide +kernel) (by decide +kernel)
set_option maxRecDepth 20000 in
theorem gX7_pass_X7_notes : GoodIn wsX7_pass (wsV RX7 51 RX7 yX7_notes wsX7_notes) := goodIn_app (goodIn_of _ (by decide +kernel)) ggX7_pass_X7_notes
set_option maxRecDepth 20000 in
theorem ggX7_pass_X7_about : GoodIn wsX7_pass wsX7_about := goodIn_r _ [15, 1, 20, 21, 22, 23, 24, 25, 26, 27, 28, 29, 30] (by decide +kernel) (by decide +kernel)
set_option maxRecDepth 20000 in
theorem gX7_pass_X7_about : GoodIn wsX7_pass (wsV RX7 150 RX7 yX7_about wsX7_about) := goodIn_app (goodIn_of _ (by decide +kernel)) ggX7_pass_X7_about
set_option maxRecDepth 20000 in
theorem ggX7_pass_X7_marks : GoodIn wsX7_pass wsX7_marks := goodIn_r _ [19, 1, 20, 21, 22, 23, 24, 25, 26, 27, 28, 29, 30] (by decide +kernel) (by decide +kernel)
set_option maxRecDepth 20000 in
theorem gX7_pass_X7_marks : GoodIn wsX7_pass (wsV RX7 180 RX7 yX7_marks wsX7_marks) := goodIn_app (goodIn_of _ (by decide +kernel)) ggX7_pass_X7_marks
theorem dX7_pass_0 : decode cX7_pass 0 = .ok (.iload_n 1, 1) := by decide +kernel
theorem dX7_pass_1 : decode cX7_pass 1 = .ok (.iconst 1, 1) := by decide +kernel
theorem dX7_pass_2 : decode cX7_pass 2 = .ok (.sipush 5000, 3) := by decide +kernel
theorem dX7_pass_5 : decode cX7_pass 5 = .ok (.invokestatic 31, 3) := by decide +kernel
theorem dX7_pass_8 : decode cX7_pass 8 = .ok (.ifCond .ne 5, 3) := by decide +kernel
theorem dX7_pass_11 : decode cX7_pass 11 = .ok (.iconst (-1), 1) := by decide +kernel
theorem dX7_pass_12 : decode cX7_pass 12 = .ok (.ireturn, 1) := by decide +kernel
theorem dX7_pass_13 : decode cX7_pass 13 = .ok (.aload_n 0, 1) := by decide +kernel
theorem dX7_pass_14 : decode cX7_pass 14 = .ok (.getfield 7, 3) := by decide +kernel
theorem dX7_pass_17 : decode cX7_pass 17 = .ok (.iconst 0, 1) := by decide +kernel
theorem dX7_pass_18 : decode cX7_pass 18 = .ok (.iaload, 1) := by decide +kernel
theorem dX7_pass_19 : decode cX7_pass 19 = .ok (.iload_n 1, 1) := by decide +kernel
theorem dX7_pass_20 : decode cX7_pass 20 = .ok (.iadd, 1) := by decide +kernel
theorem dX7_pass_21 : decode cX7_pass 21 = .ok (.sipush 20000, 3) := by decide +kernel
theorem dX7_pass_24 : decode cX7_pass 24 = .ok (.if_icmp .le 6, 3) := by decide +kernel
theorem dX7_pass_27 : decode cX7_pass 27 = .ok (.bipush (-3), 2) := by decide +kernel
theorem dX7_pass_29 : decode cX7_pass 29 = .ok (.ireturn, 1) := by decide +kernel
theorem dX7_pass_30 : decode cX7_pass 30 = .ok (.aload_n 0, 1) := by decide +kernel
theorem dX7_pass_31 : decode cX7_pass 31 = .ok (.invokevirtual 51, 3) := by decide +kernel
theorem dX7_pass_34 : decode cX7_pass 34 = .ok (.aload_n 0, 1) := by decide +kernel
theorem dX7_pass_35 : decode cX7_pass 35 = .ok (.getfield 7, 3) := by decide +kernel
theorem dX7_pass_38 : decode cX7_pass 38 = .ok (.iconst 0, 1) := by decide +kernel
theorem dX7_pass_39 : decode cX7_pass 39 = .ok (.dup2, 1) := by decide +kernel
theorem dX7_pass_40 : decode cX7_pass 40 = .ok (.iaload, 1) := by decide +kernel
theorem dX7_pass_41 : decode cX7_pass 41 = .ok (.iload_n 1, 1) := by decide +kernel
theorem dX7_pass_42 : decode cX7_pass 42 = .ok (.iadd, 1) := by decide +kernel
theorem dX7_pass_43 : decode cX7_pass 43 = .ok (.iastore, 1) := by decide +kernel
theorem dX7_pass_44 : decode cX7_pass 44 = .ok (.iconst 0, 1) := by decide +kernel
theorem dX7_pass_45 : decode cX7_pass 45 = .ok (.istore_n 2, 1) := by decide +kernel
theorem dX7_pass_46 : decode cX7_pass 46 = .ok (.iconst 0, 1) := by decide +kernel
theorem dX7_pass_47 : decode cX7_pass 47 = .ok (.istore_n 3, 1) := by decide +kernel
theorem dX7_pass_48 : decode cX7_pass 48 = .ok (.iload_n 3, 1) := by decide +kernel
theorem dX7_pass_49 : decode cX7_pass 49 = .ok (.aload_n 0, 1) := by decide +kernel
theorem dX7_pass_50 : decode cX7_pass 50 = .ok (.getfield 7, 3) := by decide +kernel
theorem dX7_pass_53 : decode cX7_pass 53 = .ok (.iconst 2, 1) := by decide +kernel
theorem dX7_pass_54 : decode cX7_pass 54 = .ok (.iaload, 1) := by decide +kernel
theorem dX7_pass_55 : decode cX7_pass 55 = .ok (.if_icmp .ge 42, 3) := by decide +kernel
theorem dX7_pass_58 : decode cX7_pass 58 = .ok (.aload_n 0, 1) := by decide +kernel
theorem dX7_pass_59 : decode cX7_pass 59 = .ok (.iload_n 3, 1) := by decide +kernel
theorem dX7_pass_60 : decode cX7_pass 60 = .ok (.iconst 5, 1) := by decide +kernel
theorem dX7_pass_61 : decode cX7_pass 61 = .ok (.invokevirtual 150, 3) := by decide +kernel
theorem dX7_pass_64 : decode cX7_pass 64 = .ok (.ifCond .ne 27, 3) := by decide +kernel
theorem dX7_pass_67 : decode cX7_pass 67 = .ok (.aload_n 0, 1) := by decide +kernel
theorem dX7_pass_68 : decode cX7_pass 68 = .ok (.iload_n 3, 1) := by decide +kernel
theorem dX7_pass_69 : decode cX7_pass 69 = .ok (.iconst 3, 1) := by decide +kernel
theorem dX7_pass_70 : decode cX7_pass 70 = .ok (.invokevirtual 150, 3) := by decide +kernel
theorem dX7_pass_73 : decode cX7_pass 73 = .ok (.aload_n 0, 1) := by decide +kernel
theorem dX7_pass_74 : decode cX7_pass 74 = .ok (.getfield 7, 3) := by decide +kernel
theorem dX7_pass_77 : decode cX7_pass 77 = .ok (.iconst 0, 1) := by decide +kernel
theorem dX7_pass_78 : decode cX7_pass 78 = .ok (.iaload, 1) := by decide +kernel
theorem dX7_pass_79 : decode cX7_pass 79 = .ok (.if_icmp .gt 12, 3) := by decide +kernel
theorem dX7_pass_82 : decode cX7_pass 82 = .ok (.aload_n 0, 1) := by decide +kernel
theorem dX7_pass_83 : decode cX7_pass 83 = .ok (.iload_n 3, 1) := by decide +kernel
theorem dX7_pass_84 : decode cX7_pass 84 = .ok (.iconst 4, 1) := by decide +kernel
theorem dX7_pass_85 : decode cX7_pass 85 = .ok (.invokevirtual 180, 3) := by decide +kernel
theorem dX7_pass_88 : decode cX7_pass 88 = .ok (.iinc 2 1, 3) := by decide +kernel
theorem dX7_pass_91 : decode cX7_pass 91 = .ok (.iinc 3 1, 3) := by decide +kernel
theorem dX7_pass_94 : decode cX7_pass 94 = .ok (.goto (-46), 3) := by decide +kernel
theorem dX7_pass_97 : decode cX7_pass 97 = .ok (.iload_n 2, 1) := by decide +kernel
theorem dX7_pass_98 : decode cX7_pass 98 = .ok (.ireturn, 1) := by decide +kernel
set_option maxRecDepth 20000 in
theorem ggX7_count_X7_in : GoodIn wsX7_count wsX7_in := goodIn_r _ [7] (by decide +kernel) (by decide +kernel)
set_option maxRecDepth 20000 in
theorem gX7_count_X7_in : GoodIn wsX7_count (va_wsS RX7 31 yX7_in wsX7_in) := goodIn_app (goodIn_of _ (by decide +kernel)) ggX7_count_X7_in
theorem dX7_count_0 : decode cX7_count 0 = .ok (.iload_n 1, 1) := by decide +kernel
theorem dX7_count_1 : decode cX7_count 1 = .ok (.tableswitch 126 0 12 #[67, 74, 81, 88, 102, 109, 126, 126, 126, 126, 126, 116, 121], 67) := by decide +kernel
theorem dX7_count_68 : decode cX7_count 68 = .ok (.aload_n 0, 1) := by decide +kernel
theorem dX7_count_69 : decode cX7_count 69 = .ok (.getfield 7, 3) := by decide +kernel
theorem dX7_count_72 : decode cX7_count 72 = .ok (.iconst 1, 1) := by decide +kernel
theorem dX7_count_73 : decode cX7_count 73 = .ok (.iaload, 1) := by decide +kernel
theorem dX7_count_74 : decode cX7_count 74 = .ok (.ireturn, 1) := by decide +kernel
theorem dX7_count_75 : decode cX7_count 75 = .ok (.aload_n 0, 1) := by decide +kernel
theorem dX7_count_76 : decode cX7_count 76 = .ok (.getfield 7, 3) := by decide +kernel
theorem dX7_count_79 : decode cX7_count 79 = .ok (.iconst 2, 1) := by decide +kernel
theorem dX7_count_80 : decode cX7_count 80 = .ok (.iaload, 1) := by decide +kernel
theorem dX7_count_81 : decode cX7_count 81 = .ok (.ireturn, 1) := by decide +kernel
theorem dX7_count_82 : decode cX7_count 82 = .ok (.aload_n 0, 1) := by decide +kernel
theorem dX7_count_83 : decode cX7_count 83 = .ok (.getfield 7, 3) := by decide +kernel
theorem dX7_count_86 : decode cX7_count 86 = .ok (.iconst 3, 1) := by decide +kernel
theorem dX7_count_87 : decode cX7_count 87 = .ok (.iaload, 1) := by decide +kernel
theorem dX7_count_88 : decode cX7_count 88 = .ok (.ireturn, 1) := by decide +kernel
theorem dX7_count_89 : decode cX7_count 89 = .ok (.aload_n 0, 1) := by decide +kernel
theorem dX7_count_90 : decode cX7_count 90 = .ok (.getfield 7, 3) := by decide +kernel
theorem dX7_count_93 : decode cX7_count 93 = .ok (.iconst 3, 1) := by decide +kernel
theorem dX7_count_94 : decode cX7_count 94 = .ok (.iaload, 1) := by decide +kernel
theorem dX7_count_95 : decode cX7_count 95 = .ok (.aload_n 0, 1) := by decide +kernel
theorem dX7_count_96 : decode cX7_count 96 = .ok (.getfield 7, 3) := by decide +kernel
theorem dX7_count_99 : decode cX7_count 99 = .ok (.iconst 4, 1) := by decide +kernel
theorem dX7_count_100 : decode cX7_count 100 = .ok (.iaload, 1) := by decide +kernel
theorem dX7_count_101 : decode cX7_count 101 = .ok (.isub, 1) := by decide +kernel
theorem dX7_count_102 : decode cX7_count 102 = .ok (.ireturn, 1) := by decide +kernel
theorem dX7_count_103 : decode cX7_count 103 = .ok (.aload_n 0, 1) := by decide +kernel
theorem dX7_count_104 : decode cX7_count 104 = .ok (.getfield 7, 3) := by decide +kernel
theorem dX7_count_107 : decode cX7_count 107 = .ok (.iconst 4, 1) := by decide +kernel
theorem dX7_count_108 : decode cX7_count 108 = .ok (.iaload, 1) := by decide +kernel
theorem dX7_count_109 : decode cX7_count 109 = .ok (.ireturn, 1) := by decide +kernel
theorem dX7_count_110 : decode cX7_count 110 = .ok (.aload_n 0, 1) := by decide +kernel
theorem dX7_count_111 : decode cX7_count 111 = .ok (.getfield 7, 3) := by decide +kernel
theorem dX7_count_114 : decode cX7_count 114 = .ok (.iconst 0, 1) := by decide +kernel
theorem dX7_count_115 : decode cX7_count 115 = .ok (.iaload, 1) := by decide +kernel
theorem dX7_count_116 : decode cX7_count 116 = .ok (.ireturn, 1) := by decide +kernel
theorem dX7_count_117 : decode cX7_count 117 = .ok (.aload_n 0, 1) := by decide +kernel
theorem dX7_count_118 : decode cX7_count 118 = .ok (.getfield 82, 3) := by decide +kernel
theorem dX7_count_121 : decode cX7_count 121 = .ok (.ireturn, 1) := by decide +kernel
theorem dX7_count_122 : decode cX7_count 122 = .ok (.aload_n 0, 1) := by decide +kernel
theorem dX7_count_123 : decode cX7_count 123 = .ok (.getfield 27, 3) := by decide +kernel
theorem dX7_count_126 : decode cX7_count 126 = .ok (.ireturn, 1) := by decide +kernel
theorem dX7_count_127 : decode cX7_count 127 = .ok (.iload_n 1, 1) := by decide +kernel
theorem dX7_count_128 : decode cX7_count 128 = .ok (.bipush 6, 2) := by decide +kernel
theorem dX7_count_130 : decode cX7_count 130 = .ok (.bipush 10, 2) := by decide +kernel
theorem dX7_count_132 : decode cX7_count 132 = .ok (.invokestatic 31, 3) := by decide +kernel
theorem dX7_count_135 : decode cX7_count 135 = .ok (.ifCond .eq 17, 3) := by decide +kernel
theorem dX7_count_138 : decode cX7_count 138 = .ok (.aload_n 0, 1) := by decide +kernel
theorem dX7_count_139 : decode cX7_count 139 = .ok (.getfield 7, 3) := by decide +kernel
theorem dX7_count_142 : decode cX7_count 142 = .ok (.iconst 5, 1) := by decide +kernel
theorem dX7_count_143 : decode cX7_count 143 = .ok (.iload_n 1, 1) := by decide +kernel
theorem dX7_count_144 : decode cX7_count 144 = .ok (.iadd, 1) := by decide +kernel
theorem dX7_count_145 : decode cX7_count 145 = .ok (.bipush 6, 2) := by decide +kernel
theorem dX7_count_147 : decode cX7_count 147 = .ok (.isub, 1) := by decide +kernel
theorem dX7_count_148 : decode cX7_count 148 = .ok (.iaload, 1) := by decide +kernel
theorem dX7_count_149 : decode cX7_count 149 = .ok (.goto 4, 3) := by decide +kernel
theorem dX7_count_152 : decode cX7_count 152 = .ok (.iconst (-1), 1) := by decide +kernel
theorem dX7_count_153 : decode cX7_count 153 = .ok (.ireturn, 1) := by decide +kernel
set_option maxRecDepth 20000 in
theorem ggX7_bay_X7_isBay : GoodIn wsX7_bay wsX7_isBay := goodIn_r _ [5, 6, 7, 8, 4, 9, 38, 39, 40, 41, 42, 43, 44, 45, 46, 47, 48] (by decide +kernel) (by decide +kernel)
set_option maxRecDepth 20000 in
theorem gX7_bay_X7_isBay : GoodIn wsX7_bay (wsV RX7 58 RX7 yX7_isBay wsX7_isBay) := goodIn_app (goodIn_of _ (by decide +kernel)) ggX7_bay_X7_isBay
set_option maxRecDepth 20000 in
theorem ggX7_bay_X7_in : GoodIn wsX7_bay wsX7_in := goodIn_r _ [9] (by decide +kernel) (by decide +kernel)
set_option maxRecDepth 20000 in
theorem gX7_bay_X7_in : GoodIn wsX7_bay (va_wsS RX7 31 yX7_in wsX7_in) := goodIn_app (goodIn_of _ (by decide +kernel)) ggX7_bay_X7_in
set_option maxRecDepth 20000 in
theorem ggX7_bay_X7_way : GoodIn wsX7_bay wsX7_way := goodIn_r _ [13, 6, 14, 15, 16, 4, 17, 38, 39, 40, 41, 42, 43, 44, 45, 46, 47, 48] (by decide +kernel) (by decide +kernel)
set_option maxRecDepth 20000 in
theorem gX7_bay_X7_way : GoodIn wsX7_bay (wsV RX7 43 RX7 yX7_way wsX7_way) := goodIn_app (goodIn_of _ (by decide +kernel)) ggX7_bay_X7_way
set_option maxRecDepth 20000 in
theorem ggX7_bay_X7_of : GoodIn wsX7_bay wsX7_of := goodIn_r _ [17, 6, 38, 39, 40, 41, 42, 43, 44, 45, 46, 47, 48] (by decide +kernel) (by decide +kernel)
set_option maxRecDepth 20000 in
theorem gX7_bay_X7_of : GoodIn wsX7_bay (wsV RX7 35 RX7 yX7_of wsX7_of) := goodIn_app (goodIn_of _ (by decide +kernel)) ggX7_bay_X7_of
set_option maxRecDepth 20000 in
theorem ggX7_bay_X7_holder : GoodIn wsX7_bay wsX7_holder := goodIn_r _ [21, 6, 22, 23, 24, 4, 25, 26, 27, 28, 29, 30, 31, 32, 33, 34, 35, 36, 37, 38, 39, 40, 41, 42, 43, 44, 45, 46, 47, 48] (by decide +kernel) (by decide +kernel)
set_option maxRecDepth 20000 in
theorem gX7_bay_X7_holder : GoodIn wsX7_bay (wsV RX7 183 RX7 yX7_holder wsX7_holder) := goodIn_app (goodIn_of _ (by decide +kernel)) ggX7_bay_X7_holder
theorem dX7_bay_0 : decode cX7_bay 0 = .ok (.aload_n 0, 1) := by decide +kernel
theorem dX7_bay_1 : decode cX7_bay 1 = .ok (.iload_n 1, 1) := by decide +kernel
theorem dX7_bay_2 : decode cX7_bay 2 = .ok (.invokevirtual 58, 3) := by decide +kernel
theorem dX7_bay_5 : decode cX7_bay 5 = .ok (.ifCond .eq 13, 3) := by decide +kernel
theorem dX7_bay_8 : decode cX7_bay 8 = .ok (.iload_n 2, 1) := by decide +kernel
theorem dX7_bay_9 : decode cX7_bay 9 = .ok (.iconst 0, 1) := by decide +kernel
theorem dX7_bay_10 : decode cX7_bay 10 = .ok (.bipush 6, 2) := by decide +kernel
theorem dX7_bay_12 : decode cX7_bay 12 = .ok (.invokestatic 31, 3) := by decide +kernel
theorem dX7_bay_15 : decode cX7_bay 15 = .ok (.ifCond .ne 5, 3) := by decide +kernel
theorem dX7_bay_18 : decode cX7_bay 18 = .ok (.iconst (-1), 1) := by decide +kernel
theorem dX7_bay_19 : decode cX7_bay 19 = .ok (.ireturn, 1) := by decide +kernel
theorem dX7_bay_20 : decode cX7_bay 20 = .ok (.iload_n 2, 1) := by decide +kernel
theorem dX7_bay_21 : decode cX7_bay 21 = .ok (.tableswitch 71 3 6 #[31, 37, 44, 65], 31) := by decide +kernel
theorem dX7_bay_52 : decode cX7_bay 52 = .ok (.aload_n 0, 1) := by decide +kernel
theorem dX7_bay_53 : decode cX7_bay 53 = .ok (.iload_n 1, 1) := by decide +kernel
theorem dX7_bay_54 : decode cX7_bay 54 = .ok (.invokevirtual 43, 3) := by decide +kernel
theorem dX7_bay_57 : decode cX7_bay 57 = .ok (.ireturn, 1) := by decide +kernel
theorem dX7_bay_58 : decode cX7_bay 58 = .ok (.aload_n 0, 1) := by decide +kernel
theorem dX7_bay_59 : decode cX7_bay 59 = .ok (.iload_n 1, 1) := by decide +kernel
theorem dX7_bay_60 : decode cX7_bay 60 = .ok (.iconst 3, 1) := by decide +kernel
theorem dX7_bay_61 : decode cX7_bay 61 = .ok (.invokevirtual 35, 3) := by decide +kernel
theorem dX7_bay_64 : decode cX7_bay 64 = .ok (.ireturn, 1) := by decide +kernel
theorem dX7_bay_65 : decode cX7_bay 65 = .ok (.aload_n 0, 1) := by decide +kernel
theorem dX7_bay_66 : decode cX7_bay 66 = .ok (.iload_n 1, 1) := by decide +kernel
theorem dX7_bay_67 : decode cX7_bay 67 = .ok (.iconst 4, 1) := by decide +kernel
theorem dX7_bay_68 : decode cX7_bay 68 = .ok (.invokevirtual 35, 3) := by decide +kernel
theorem dX7_bay_71 : decode cX7_bay 71 = .ok (.ifCond .ne 8, 3) := by decide +kernel
theorem dX7_bay_74 : decode cX7_bay 74 = .ok (.bipush (-9), 2) := by decide +kernel
theorem dX7_bay_76 : decode cX7_bay 76 = .ok (.goto 9, 3) := by decide +kernel
theorem dX7_bay_79 : decode cX7_bay 79 = .ok (.aload_n 0, 1) := by decide +kernel
theorem dX7_bay_80 : decode cX7_bay 80 = .ok (.iload_n 1, 1) := by decide +kernel
theorem dX7_bay_81 : decode cX7_bay 81 = .ok (.iconst 4, 1) := by decide +kernel
theorem dX7_bay_82 : decode cX7_bay 82 = .ok (.invokevirtual 35, 3) := by decide +kernel
theorem dX7_bay_85 : decode cX7_bay 85 = .ok (.ireturn, 1) := by decide +kernel
theorem dX7_bay_86 : decode cX7_bay 86 = .ok (.aload_n 0, 1) := by decide +kernel
theorem dX7_bay_87 : decode cX7_bay 87 = .ok (.iload_n 1, 1) := by decide +kernel
theorem dX7_bay_88 : decode cX7_bay 88 = .ok (.invokevirtual 183, 3) := by decide +kernel
theorem dX7_bay_91 : decode cX7_bay 91 = .ok (.ireturn, 1) := by decide +kernel
theorem dX7_bay_92 : decode cX7_bay 92 = .ok (.aload_n 0, 1) := by decide +kernel
theorem dX7_bay_93 : decode cX7_bay 93 = .ok (.iload_n 1, 1) := by decide +kernel
theorem dX7_bay_94 : decode cX7_bay 94 = .ok (.iload_n 2, 1) := by decide +kernel
theorem dX7_bay_95 : decode cX7_bay 95 = .ok (.invokevirtual 35, 3) := by decide +kernel
theorem dX7_bay_98 : decode cX7_bay 98 = .ok (.ireturn, 1) := by decide +kernel
set_option maxRecDepth 20000 in
theorem ggX7_reservation_X7_isReservation : GoodIn wsX7_reservation wsX7_isReservation := goodIn_r _ [5, 6, 7, 8, 4, 9, 14, 15, 16, 17, 18, 19, 20, 21, 22, 23, 24] (by decide +kernel) (by decide +kernel)
set_option maxRecDepth 20000 in
theorem gX7_reservation_X7_isReservation : GoodIn wsX7_reservation (wsV RX7 177 RX7 yX7_isReservation wsX7_isReservation) := goodIn_app (goodIn_of _ (by decide +kernel)) ggX7_reservation_X7_isReservation
set_option maxRecDepth 20000 in
theorem ggX7_reservation_X7_in : GoodIn wsX7_reservation wsX7_in := goodIn_r _ [9] (by decide +kernel) (by decide +kernel)
set_option maxRecDepth 20000 in
theorem gX7_reservation_X7_in : GoodIn wsX7_reservation (va_wsS RX7 31 yX7_in wsX7_in) := goodIn_app (goodIn_of _ (by decide +kernel)) ggX7_reservation_X7_in
set_option maxRecDepth 20000 in
theorem ggX7_reservation_X7_about : GoodIn wsX7_reservation wsX7_about := goodIn_r _ [13, 6, 14, 15, 16, 17, 18, 19, 20, 21, 22, 23, 24] (by decide +kernel) (by decide +kernel)
set_option maxRecDepth 20000 in
theorem gX7_reservation_X7_about : GoodIn wsX7_reservation (wsV RX7 150 RX7 yX7_about wsX7_about) := goodIn_app (goodIn_of _ (by decide +kernel)) ggX7_reservation_X7_about
theorem dX7_reservation_0 : decode cX7_reservation 0 = .ok (.aload_n 0, 1) := by decide +kernel
theorem dX7_reservation_1 : decode cX7_reservation 1 = .ok (.iload_n 1, 1) := by decide +kernel
theorem dX7_reservation_2 : decode cX7_reservation 2 = .ok (.invokevirtual 177, 3) := by decide +kernel
theorem dX7_reservation_5 : decode cX7_reservation 5 = .ok (.ifCond .eq 21, 3) := by decide +kernel
theorem dX7_reservation_8 : decode cX7_reservation 8 = .ok (.iload_n 2, 1) := by decide +kernel
theorem dX7_reservation_9 : decode cX7_reservation 9 = .ok (.iconst 0, 1) := by decide +kernel
theorem dX7_reservation_10 : decode cX7_reservation 10 = .ok (.iconst 5, 1) := by decide +kernel
theorem dX7_reservation_11 : decode cX7_reservation 11 = .ok (.invokestatic 31, 3) := by decide +kernel
theorem dX7_reservation_14 : decode cX7_reservation 14 = .ok (.ifCond .eq 12, 3) := by decide +kernel
theorem dX7_reservation_17 : decode cX7_reservation 17 = .ok (.aload_n 0, 1) := by decide +kernel
theorem dX7_reservation_18 : decode cX7_reservation 18 = .ok (.iload_n 1, 1) := by decide +kernel
theorem dX7_reservation_19 : decode cX7_reservation 19 = .ok (.iload_n 2, 1) := by decide +kernel
theorem dX7_reservation_20 : decode cX7_reservation 20 = .ok (.invokevirtual 150, 3) := by decide +kernel
theorem dX7_reservation_23 : decode cX7_reservation 23 = .ok (.goto 4, 3) := by decide +kernel
theorem dX7_reservation_26 : decode cX7_reservation 26 = .ok (.iconst (-1), 1) := by decide +kernel
theorem dX7_reservation_27 : decode cX7_reservation 27 = .ok (.ireturn, 1) := by decide +kernel
set_option maxRecDepth 20000 in
theorem ggX7_car_X7_in : GoodIn wsX7_car wsX7_in := goodIn_r _ [5] (by decide +kernel) (by decide +kernel)
set_option maxRecDepth 20000 in
theorem gX7_car_X7_in : GoodIn wsX7_car (va_wsS RX7 31 yX7_in wsX7_in) := goodIn_app (goodIn_of _ (by decide +kernel)) ggX7_car_X7_in
set_option maxRecDepth 20000 in
theorem ggX7_car_X7_bayOf : GoodIn wsX7_car wsX7_bayOf := goodIn_r _ [9, 1, 10, 11, 12, 4, 13, 37, 38, 39, 40, 41, 42, 43, 44, 45, 46, 47] (by decide +kernel) (by decide +kernel)
set_option maxRecDepth 20000 in
theorem gX7_car_X7_bayOf : GoodIn wsX7_car (wsV RX7 189 RX7 yX7_bayOf wsX7_bayOf) := goodIn_app (goodIn_of _ (by decide +kernel)) ggX7_car_X7_bayOf
set_option maxRecDepth 20000 in
theorem ggX7_car_X7_of : GoodIn wsX7_car wsX7_of := goodIn_r _ [13, 1, 37, 38, 39, 40, 41, 42, 43, 44, 45, 46, 47] (by decide +kernel) (by decide +kernel)
set_option maxRecDepth 20000 in
theorem gX7_car_X7_of : GoodIn wsX7_car (wsV RX7 35 RX7 yX7_of wsX7_of) := goodIn_app (goodIn_of _ (by decide +kernel)) ggX7_car_X7_of
set_option maxRecDepth 20000 in
theorem ggX7_car_X7_feeAt : GoodIn wsX7_car wsX7_feeAt := goodIn_r _ [17, 10, 11, 12, 4, 13, 1, 18, 19, 20, 21, 22, 23, 24, 25, 26, 27, 28, 29, 30, 31, 32, 37, 38, 39, 40, 41, 42, 43, 44, 45, 46, 47] (by decide +kernel) (by decide +kernel)
set_option maxRecDepth 20000 in
theorem gX7_car_X7_feeAt : GoodIn wsX7_car (wsV RX7 198 RX7 yX7_feeAt wsX7_feeAt) := goodIn_app (goodIn_of _ (by decide +kernel)) ggX7_car_X7_feeAt
set_option maxRecDepth 20000 in
theorem ggX7_car_X7_lostFee : GoodIn wsX7_car wsX7_lostFee := goodIn_r _ [36, 1, 10, 11, 12, 4, 13, 26, 27, 28, 18, 19, 20, 21, 22, 23, 24, 25, 37, 38, 39, 40, 41, 42, 43, 44, 45, 46, 47] (by decide +kernel) (by decide +kernel)
set_option maxRecDepth 20000 in
theorem gX7_car_X7_lostFee : GoodIn wsX7_car (wsV RX7 204 RX7 yX7_lostFee wsX7_lostFee) := goodIn_app (goodIn_of _ (by decide +kernel)) ggX7_car_X7_lostFee
theorem dX7_car_0 : decode cX7_car 0 = .ok (.iload_n 1, 1) := by decide +kernel
theorem dX7_car_1 : decode cX7_car 1 = .ok (.iconst 1, 1) := by decide +kernel
theorem dX7_car_2 : decode cX7_car 2 = .ok (.sipush 999, 3) := by decide +kernel
theorem dX7_car_5 : decode cX7_car 5 = .ok (.invokestatic 31, 3) := by decide +kernel
theorem dX7_car_8 : decode cX7_car 8 = .ok (.ifCond .eq 12, 3) := by decide +kernel
theorem dX7_car_11 : decode cX7_car 11 = .ok (.iload_n 2, 1) := by decide +kernel
theorem dX7_car_12 : decode cX7_car 12 = .ok (.iconst 0, 1) := by decide +kernel
theorem dX7_car_13 : decode cX7_car 13 = .ok (.iconst 5, 1) := by decide +kernel
theorem dX7_car_14 : decode cX7_car 14 = .ok (.invokestatic 31, 3) := by decide +kernel
theorem dX7_car_17 : decode cX7_car 17 = .ok (.ifCond .ne 5, 3) := by decide +kernel
theorem dX7_car_20 : decode cX7_car 20 = .ok (.iconst (-1), 1) := by decide +kernel
theorem dX7_car_21 : decode cX7_car 21 = .ok (.ireturn, 1) := by decide +kernel
theorem dX7_car_22 : decode cX7_car 22 = .ok (.aload_n 0, 1) := by decide +kernel
theorem dX7_car_23 : decode cX7_car 23 = .ok (.iload_n 1, 1) := by decide +kernel
theorem dX7_car_24 : decode cX7_car 24 = .ok (.invokevirtual 189, 3) := by decide +kernel
theorem dX7_car_27 : decode cX7_car 27 = .ok (.istore_n 3, 1) := by decide +kernel
theorem dX7_car_28 : decode cX7_car 28 = .ok (.iload_n 3, 1) := by decide +kernel
theorem dX7_car_29 : decode cX7_car 29 = .ok (.bipush (-9), 2) := by decide +kernel
theorem dX7_car_31 : decode cX7_car 31 = .ok (.if_icmp .ne 6, 3) := by decide +kernel
theorem dX7_car_34 : decode cX7_car 34 = .ok (.bipush (-9), 2) := by decide +kernel
theorem dX7_car_36 : decode cX7_car 36 = .ok (.ireturn, 1) := by decide +kernel
theorem dX7_car_37 : decode cX7_car 37 = .ok (.iload_n 2, 1) := by decide +kernel
theorem dX7_car_38 : decode cX7_car 38 = .ok (.tableswitch 71 0 4 #[34, 42, 49, 51, 59], 34) := by decide +kernel
theorem dX7_car_72 : decode cX7_car 72 = .ok (.aload_n 0, 1) := by decide +kernel
theorem dX7_car_73 : decode cX7_car 73 = .ok (.iload_n 3, 1) := by decide +kernel
theorem dX7_car_74 : decode cX7_car 74 = .ok (.bipush 7, 2) := by decide +kernel
theorem dX7_car_76 : decode cX7_car 76 = .ok (.invokevirtual 35, 3) := by decide +kernel
theorem dX7_car_79 : decode cX7_car 79 = .ok (.ireturn, 1) := by decide +kernel
theorem dX7_car_80 : decode cX7_car 80 = .ok (.aload_n 0, 1) := by decide +kernel
theorem dX7_car_81 : decode cX7_car 81 = .ok (.iload_n 3, 1) := by decide +kernel
theorem dX7_car_82 : decode cX7_car 82 = .ok (.iconst 5, 1) := by decide +kernel
theorem dX7_car_83 : decode cX7_car 83 = .ok (.invokevirtual 35, 3) := by decide +kernel
theorem dX7_car_86 : decode cX7_car 86 = .ok (.ireturn, 1) := by decide +kernel
theorem dX7_car_87 : decode cX7_car 87 = .ok (.iload_n 3, 1) := by decide +kernel
theorem dX7_car_88 : decode cX7_car 88 = .ok (.ireturn, 1) := by decide +kernel
theorem dX7_car_89 : decode cX7_car 89 = .ok (.aload_n 0, 1) := by decide +kernel
theorem dX7_car_90 : decode cX7_car 90 = .ok (.iload_n 3, 1) := by decide +kernel
theorem dX7_car_91 : decode cX7_car 91 = .ok (.bipush 6, 2) := by decide +kernel
theorem dX7_car_93 : decode cX7_car 93 = .ok (.invokevirtual 35, 3) := by decide +kernel
theorem dX7_car_96 : decode cX7_car 96 = .ok (.ireturn, 1) := by decide +kernel
theorem dX7_car_97 : decode cX7_car 97 = .ok (.aload_n 0, 1) := by decide +kernel
theorem dX7_car_98 : decode cX7_car 98 = .ok (.iload_n 3, 1) := by decide +kernel
theorem dX7_car_99 : decode cX7_car 99 = .ok (.aload_n 0, 1) := by decide +kernel
theorem dX7_car_100 : decode cX7_car 100 = .ok (.getfield 7, 3) := by decide +kernel
theorem dX7_car_103 : decode cX7_car 103 = .ok (.iconst 0, 1) := by decide +kernel
theorem dX7_car_104 : decode cX7_car 104 = .ok (.iaload, 1) := by decide +kernel
theorem dX7_car_105 : decode cX7_car 105 = .ok (.invokevirtual 198, 3) := by decide +kernel
theorem dX7_car_108 : decode cX7_car 108 = .ok (.ireturn, 1) := by decide +kernel
theorem dX7_car_109 : decode cX7_car 109 = .ok (.aload_n 0, 1) := by decide +kernel
theorem dX7_car_110 : decode cX7_car 110 = .ok (.iload_n 3, 1) := by decide +kernel
theorem dX7_car_111 : decode cX7_car 111 = .ok (.invokevirtual 204, 3) := by decide +kernel
theorem dX7_car_114 : decode cX7_car 114 = .ok (.ireturn, 1) := by decide +kernel
set_option maxRecDepth 20000 in
theorem ggX7_step_X7_in : GoodIn wsX7_step wsX7_in := goodIn_r _ [5] (by decide +kernel) (by decide +kernel)
set_option maxRecDepth 20000 in
theorem gX7_step_X7_in : GoodIn wsX7_step (va_wsS RX7 31 yX7_in wsX7_in) := goodIn_app (goodIn_of _ (by decide +kernel)) ggX7_step_X7_in
theorem dX7_step_0 : decode cX7_step 0 = .ok (.iload_n 1, 1) := by decide +kernel
theorem dX7_step_1 : decode cX7_step 1 = .ok (.iconst 0, 1) := by decide +kernel
theorem dX7_step_2 : decode cX7_step 2 = .ok (.iconst 1, 1) := by decide +kernel
theorem dX7_step_3 : decode cX7_step 3 = .ok (.invokestatic 31, 3) := by decide +kernel
theorem dX7_step_6 : decode cX7_step 6 = .ok (.ifCond .eq 16, 3) := by decide +kernel
theorem dX7_step_9 : decode cX7_step 9 = .ok (.iload_n 2, 1) := by decide +kernel
theorem dX7_step_10 : decode cX7_step 10 = .ok (.ifCond .lt 12, 3) := by decide +kernel
theorem dX7_step_13 : decode cX7_step 13 = .ok (.iload_n 3, 1) := by decide +kernel
theorem dX7_step_14 : decode cX7_step 14 = .ok (.iconst 0, 1) := by decide +kernel
theorem dX7_step_15 : decode cX7_step 15 = .ok (.iconst 2, 1) := by decide +kernel
theorem dX7_step_16 : decode cX7_step 16 = .ok (.invokestatic 31, 3) := by decide +kernel
theorem dX7_step_19 : decode cX7_step 19 = .ok (.ifCond .ne 5, 3) := by decide +kernel
theorem dX7_step_22 : decode cX7_step 22 = .ok (.iconst (-1), 1) := by decide +kernel
theorem dX7_step_23 : decode cX7_step 23 = .ok (.ireturn, 1) := by decide +kernel
theorem dX7_step_24 : decode cX7_step 24 = .ok (.bipush 14, 2) := by decide +kernel
theorem dX7_step_26 : decode cX7_step 26 = .ok (.bipush 16, 2) := by decide +kernel
theorem dX7_step_28 : decode cX7_step 28 = .ok (.iload_n 1, 1) := by decide +kernel
theorem dX7_step_29 : decode cX7_step 29 = .ok (.imul, 1) := by decide +kernel
theorem dX7_step_30 : decode cX7_step 30 = .ok (.iadd, 1) := by decide +kernel
theorem dX7_step_31 : decode cX7_step 31 = .ok (.istore 4, 2) := by decide +kernel
theorem dX7_step_33 : decode cX7_step 33 = .ok (.iload_n 2, 1) := by decide +kernel
theorem dX7_step_34 : decode cX7_step 34 = .ok (.aload_n 0, 1) := by decide +kernel
theorem dX7_step_35 : decode cX7_step 35 = .ok (.getfield 7, 3) := by decide +kernel
theorem dX7_step_38 : decode cX7_step 38 = .ok (.iload 4, 2) := by decide +kernel
theorem dX7_step_40 : decode cX7_step 40 = .ok (.iaload, 1) := by decide +kernel
theorem dX7_step_41 : decode cX7_step 41 = .ok (.if_icmp .ge 21, 3) := by decide +kernel
theorem dX7_step_44 : decode cX7_step 44 = .ok (.aload_n 0, 1) := by decide +kernel
theorem dX7_step_45 : decode cX7_step 45 = .ok (.getfield 7, 3) := by decide +kernel
theorem dX7_step_48 : decode cX7_step 48 = .ok (.iload 4, 2) := by decide +kernel
theorem dX7_step_50 : decode cX7_step 50 = .ok (.iconst 1, 1) := by decide +kernel
theorem dX7_step_51 : decode cX7_step 51 = .ok (.iadd, 1) := by decide +kernel
theorem dX7_step_52 : decode cX7_step 52 = .ok (.iconst 3, 1) := by decide +kernel
theorem dX7_step_53 : decode cX7_step 53 = .ok (.iload_n 2, 1) := by decide +kernel
theorem dX7_step_54 : decode cX7_step 54 = .ok (.imul, 1) := by decide +kernel
theorem dX7_step_55 : decode cX7_step 55 = .ok (.iadd, 1) := by decide +kernel
theorem dX7_step_56 : decode cX7_step 56 = .ok (.iload_n 3, 1) := by decide +kernel
theorem dX7_step_57 : decode cX7_step 57 = .ok (.iadd, 1) := by decide +kernel
theorem dX7_step_58 : decode cX7_step 58 = .ok (.iaload, 1) := by decide +kernel
theorem dX7_step_59 : decode cX7_step 59 = .ok (.goto 5, 3) := by decide +kernel
theorem dX7_step_62 : decode cX7_step 62 = .ok (.bipush (-9), 2) := by decide +kernel
theorem dX7_step_64 : decode cX7_step 64 = .ok (.ireturn, 1) := by decide +kernel
set_option maxRecDepth 20000 in
theorem ggX7_account_X7_in : GoodIn wsX7_account wsX7_in := goodIn_r _ [5] (by decide +kernel) (by decide +kernel)
set_option maxRecDepth 20000 in
theorem gX7_account_X7_in : GoodIn wsX7_account (va_wsS RX7 31 yX7_in wsX7_in) := goodIn_app (goodIn_of _ (by decide +kernel)) ggX7_account_X7_in
theorem dX7_account_0 : decode cX7_account 0 = .ok (.iload_n 1, 1) := by decide +kernel
theorem dX7_account_1 : decode cX7_account 1 = .ok (.iconst (-1), 1) := by decide +kernel
theorem dX7_account_2 : decode cX7_account 2 = .ok (.iconst 3, 1) := by decide +kernel
theorem dX7_account_3 : decode cX7_account 3 = .ok (.invokestatic 31, 3) := by decide +kernel
theorem dX7_account_6 : decode cX7_account 6 = .ok (.ifCond .ne 5, 3) := by decide +kernel
theorem dX7_account_9 : decode cX7_account 9 = .ok (.iconst (-1), 1) := by decide +kernel
theorem dX7_account_10 : decode cX7_account 10 = .ok (.ireturn, 1) := by decide +kernel
theorem dX7_account_11 : decode cX7_account 11 = .ok (.iload_n 1, 1) := by decide +kernel
theorem dX7_account_12 : decode cX7_account 12 = .ok (.ifCond .lt 15, 3) := by decide +kernel
theorem dX7_account_15 : decode cX7_account 15 = .ok (.aload_n 0, 1) := by decide +kernel
theorem dX7_account_16 : decode cX7_account 16 = .ok (.getfield 7, 3) := by decide +kernel
theorem dX7_account_19 : decode cX7_account 19 = .ok (.bipush 10, 2) := by decide +kernel
theorem dX7_account_21 : decode cX7_account 21 = .ok (.iload_n 1, 1) := by decide +kernel
theorem dX7_account_22 : decode cX7_account 22 = .ok (.iadd, 1) := by decide +kernel
theorem dX7_account_23 : decode cX7_account 23 = .ok (.iaload, 1) := by decide +kernel
theorem dX7_account_24 : decode cX7_account 24 = .ok (.goto 34, 3) := by decide +kernel
theorem dX7_account_27 : decode cX7_account 27 = .ok (.aload_n 0, 1) := by decide +kernel
theorem dX7_account_28 : decode cX7_account 28 = .ok (.getfield 7, 3) := by decide +kernel
theorem dX7_account_31 : decode cX7_account 31 = .ok (.bipush 10, 2) := by decide +kernel
theorem dX7_account_33 : decode cX7_account 33 = .ok (.iaload, 1) := by decide +kernel
theorem dX7_account_34 : decode cX7_account 34 = .ok (.aload_n 0, 1) := by decide +kernel
theorem dX7_account_35 : decode cX7_account 35 = .ok (.getfield 7, 3) := by decide +kernel
theorem dX7_account_38 : decode cX7_account 38 = .ok (.bipush 11, 2) := by decide +kernel
theorem dX7_account_40 : decode cX7_account 40 = .ok (.iaload, 1) := by decide +kernel
theorem dX7_account_41 : decode cX7_account 41 = .ok (.iadd, 1) := by decide +kernel
theorem dX7_account_42 : decode cX7_account 42 = .ok (.aload_n 0, 1) := by decide +kernel
theorem dX7_account_43 : decode cX7_account 43 = .ok (.getfield 7, 3) := by decide +kernel
theorem dX7_account_46 : decode cX7_account 46 = .ok (.bipush 12, 2) := by decide +kernel
theorem dX7_account_48 : decode cX7_account 48 = .ok (.iaload, 1) := by decide +kernel
theorem dX7_account_49 : decode cX7_account 49 = .ok (.iadd, 1) := by decide +kernel
theorem dX7_account_50 : decode cX7_account 50 = .ok (.aload_n 0, 1) := by decide +kernel
theorem dX7_account_51 : decode cX7_account 51 = .ok (.getfield 7, 3) := by decide +kernel
theorem dX7_account_54 : decode cX7_account 54 = .ok (.bipush 13, 2) := by decide +kernel
theorem dX7_account_56 : decode cX7_account 56 = .ok (.iaload, 1) := by decide +kernel
theorem dX7_account_57 : decode cX7_account 57 = .ok (.iadd, 1) := by decide +kernel
theorem dX7_account_58 : decode cX7_account 58 = .ok (.ireturn, 1) := by decide +kernel
set_option maxRecDepth 20000 in
theorem ggX7_nearest_X7_in : GoodIn wsX7_nearest wsX7_in := goodIn_r _ [4] (by decide +kernel) (by decide +kernel)
set_option maxRecDepth 20000 in
theorem gX7_nearest_X7_in : GoodIn wsX7_nearest (va_wsS RX7 31 yX7_in wsX7_in) := goodIn_app (goodIn_of _ (by decide +kernel)) ggX7_nearest_X7_in
set_option maxRecDepth 20000 in
theorem ggX7_nearest_X7_guided : GoodIn wsX7_nearest wsX7_guided := goodIn_r _ [8, 9, 10, 11, 12, 3, 13, 14, 15, 16, 17, 18, 19, 20, 21, 22, 23, 24, 25, 26, 27, 28, 29, 30, 31, 32, 33, 34, 35, 36, 37, 38, 39, 40, 41, 42, 43, 44, 45, 46, 47, 48, 49, 50, 51, 52, 53, 54, 55, 56, 57, 58, 59, 60] (by decide +kernel) (by decide +kernel)
set_option maxRecDepth 20000 in
theorem gX7_nearest_X7_guided : GoodIn wsX7_nearest (wsV RX7 195 RX7 yX7_guided wsX7_guided) := goodIn_app (goodIn_of _ (by decide +kernel)) ggX7_nearest_X7_guided
theorem dX7_nearest_0 : decode cX7_nearest 0 = .ok (.iload_n 1, 1) := by decide +kernel
theorem dX7_nearest_1 : decode cX7_nearest 1 = .ok (.iconst 0, 1) := by decide +kernel
theorem dX7_nearest_2 : decode cX7_nearest 2 = .ok (.iconst 2, 1) := by decide +kernel
theorem dX7_nearest_3 : decode cX7_nearest 3 = .ok (.invokestatic 31, 3) := by decide +kernel
theorem dX7_nearest_6 : decode cX7_nearest 6 = .ok (.ifCond .eq 11, 3) := by decide +kernel
theorem dX7_nearest_9 : decode cX7_nearest 9 = .ok (.aload_n 0, 1) := by decide +kernel
theorem dX7_nearest_10 : decode cX7_nearest 10 = .ok (.iload_n 1, 1) := by decide +kernel
theorem dX7_nearest_11 : decode cX7_nearest 11 = .ok (.invokevirtual 195, 3) := by decide +kernel
theorem dX7_nearest_14 : decode cX7_nearest 14 = .ok (.goto 4, 3) := by decide +kernel
theorem dX7_nearest_17 : decode cX7_nearest 17 = .ok (.iconst (-1), 1) := by decide +kernel
theorem dX7_nearest_18 : decode cX7_nearest 18 = .ok (.ireturn, 1) := by decide +kernel
set_option maxRecDepth 20000 in
theorem ggX7_free_X7_in : GoodIn wsX7_free wsX7_in := goodIn_r _ [5] (by decide +kernel) (by decide +kernel)
set_option maxRecDepth 20000 in
theorem gX7_free_X7_in : GoodIn wsX7_free (va_wsS RX7 31 yX7_in wsX7_in) := goodIn_app (goodIn_of _ (by decide +kernel)) ggX7_free_X7_in
set_option maxRecDepth 20000 in
theorem ggX7_free_X7_of : GoodIn wsX7_free wsX7_of := goodIn_r _ [9, 1, 34, 35, 36, 37, 38, 39, 40, 41, 42, 43, 44] (by decide +kernel) (by decide +kernel)
set_option maxRecDepth 20000 in
theorem gX7_free_X7_of : GoodIn wsX7_free (wsV RX7 35 RX7 yX7_of wsX7_of) := goodIn_app (goodIn_of _ (by decide +kernel)) ggX7_free_X7_of
set_option maxRecDepth 20000 in
theorem ggX7_free_X7_isFree : GoodIn wsX7_free wsX7_isFree := goodIn_r _ [13, 6, 7, 8, 4, 9, 1, 14, 15, 16, 17, 18, 19, 20, 21, 22, 23, 24, 25, 26, 27, 28, 29, 30, 31, 32, 33, 34, 35, 36, 37, 38, 39, 40, 41, 42, 43, 44] (by decide +kernel) (by decide +kernel)
set_option maxRecDepth 20000 in
theorem gX7_free_X7_isFree : GoodIn wsX7_free (wsV RX7 186 RX7 yX7_isFree wsX7_isFree) := goodIn_app (goodIn_of _ (by decide +kernel)) ggX7_free_X7_isFree
theorem dX7_free_0 : decode cX7_free 0 = .ok (.iload_n 1, 1) := by decide +kernel
theorem dX7_free_1 : decode cX7_free 1 = .ok (.iconst 0, 1) := by decide +kernel
theorem dX7_free_2 : decode cX7_free 2 = .ok (.iconst 4, 1) := by decide +kernel
theorem dX7_free_3 : decode cX7_free 3 = .ok (.invokestatic 31, 3) := by decide +kernel
theorem dX7_free_6 : decode cX7_free 6 = .ok (.ifCond .eq 12, 3) := by decide +kernel
theorem dX7_free_9 : decode cX7_free 9 = .ok (.iload_n 2, 1) := by decide +kernel
theorem dX7_free_10 : decode cX7_free 10 = .ok (.iconst (-1), 1) := by decide +kernel
theorem dX7_free_11 : decode cX7_free 11 = .ok (.iconst 2, 1) := by decide +kernel
theorem dX7_free_12 : decode cX7_free 12 = .ok (.invokestatic 31, 3) := by decide +kernel
theorem dX7_free_15 : decode cX7_free 15 = .ok (.ifCond .ne 5, 3) := by decide +kernel
theorem dX7_free_18 : decode cX7_free 18 = .ok (.iconst (-1), 1) := by decide +kernel
theorem dX7_free_19 : decode cX7_free 19 = .ok (.ireturn, 1) := by decide +kernel
theorem dX7_free_20 : decode cX7_free 20 = .ok (.iconst 0, 1) := by decide +kernel
theorem dX7_free_21 : decode cX7_free 21 = .ok (.istore_n 3, 1) := by decide +kernel
theorem dX7_free_22 : decode cX7_free 22 = .ok (.iconst 0, 1) := by decide +kernel
theorem dX7_free_23 : decode cX7_free 23 = .ok (.istore 4, 2) := by decide +kernel
theorem dX7_free_25 : decode cX7_free 25 = .ok (.iload 4, 2) := by decide +kernel
theorem dX7_free_27 : decode cX7_free 27 = .ok (.aload_n 0, 1) := by decide +kernel
theorem dX7_free_28 : decode cX7_free 28 = .ok (.getfield 7, 3) := by decide +kernel
theorem dX7_free_31 : decode cX7_free 31 = .ok (.iconst 1, 1) := by decide +kernel
theorem dX7_free_32 : decode cX7_free 32 = .ok (.iaload, 1) := by decide +kernel
theorem dX7_free_33 : decode cX7_free 33 = .ok (.if_icmp .ge 52, 3) := by decide +kernel
theorem dX7_free_36 : decode cX7_free 36 = .ok (.iload_n 3, 1) := by decide +kernel
theorem dX7_free_37 : decode cX7_free 37 = .ok (.aload_n 0, 1) := by decide +kernel
theorem dX7_free_38 : decode cX7_free 38 = .ok (.iload 4, 2) := by decide +kernel
theorem dX7_free_40 : decode cX7_free 40 = .ok (.iconst 0, 1) := by decide +kernel
theorem dX7_free_41 : decode cX7_free 41 = .ok (.invokevirtual 35, 3) := by decide +kernel
theorem dX7_free_44 : decode cX7_free 44 = .ok (.iload_n 1, 1) := by decide +kernel
theorem dX7_free_45 : decode cX7_free 45 = .ok (.if_icmp .ne 31, 3) := by decide +kernel
theorem dX7_free_48 : decode cX7_free 48 = .ok (.iload_n 2, 1) := by decide +kernel
theorem dX7_free_49 : decode cX7_free 49 = .ok (.ifCond .lt 14, 3) := by decide +kernel
theorem dX7_free_52 : decode cX7_free 52 = .ok (.aload_n 0, 1) := by decide +kernel
theorem dX7_free_53 : decode cX7_free 53 = .ok (.iload 4, 2) := by decide +kernel
theorem dX7_free_55 : decode cX7_free 55 = .ok (.iconst 2, 1) := by decide +kernel
theorem dX7_free_56 : decode cX7_free 56 = .ok (.invokevirtual 35, 3) := by decide +kernel
theorem dX7_free_59 : decode cX7_free 59 = .ok (.iload_n 2, 1) := by decide +kernel
theorem dX7_free_60 : decode cX7_free 60 = .ok (.if_icmp .ne 16, 3) := by decide +kernel
theorem dX7_free_63 : decode cX7_free 63 = .ok (.aload_n 0, 1) := by decide +kernel
theorem dX7_free_64 : decode cX7_free 64 = .ok (.iload 4, 2) := by decide +kernel
theorem dX7_free_66 : decode cX7_free 66 = .ok (.invokevirtual 186, 3) := by decide +kernel
theorem dX7_free_69 : decode cX7_free 69 = .ok (.ifCond .eq 7, 3) := by decide +kernel
theorem dX7_free_72 : decode cX7_free 72 = .ok (.iconst 1, 1) := by decide +kernel
theorem dX7_free_73 : decode cX7_free 73 = .ok (.goto 4, 3) := by decide +kernel
theorem dX7_free_76 : decode cX7_free 76 = .ok (.iconst 0, 1) := by decide +kernel
theorem dX7_free_77 : decode cX7_free 77 = .ok (.iadd, 1) := by decide +kernel
theorem dX7_free_78 : decode cX7_free 78 = .ok (.istore_n 3, 1) := by decide +kernel
theorem dX7_free_79 : decode cX7_free 79 = .ok (.iinc 4 1, 3) := by decide +kernel
theorem dX7_free_82 : decode cX7_free 82 = .ok (.goto (-57), 3) := by decide +kernel
theorem dX7_free_85 : decode cX7_free 85 = .ok (.iload_n 3, 1) := by decide +kernel
theorem dX7_free_86 : decode cX7_free 86 = .ok (.ireturn, 1) := by decide +kernel
set_option maxRecDepth 20000 in
theorem ggX7_fee_X7_in : GoodIn wsX7_fee wsX7_in := goodIn_r _ [4] (by decide +kernel) (by decide +kernel)
set_option maxRecDepth 20000 in
theorem gX7_fee_X7_in : GoodIn wsX7_fee (va_wsS RX7 31 yX7_in wsX7_in) := goodIn_app (goodIn_of _ (by decide +kernel)) ggX7_fee_X7_in
set_option maxRecDepth 20000 in
theorem ggX7_fee_X7_normal : GoodIn wsX7_fee wsX7_normal := goodIn_r _ [8, 9, 10, 11, 12, 3, 13, 14, 15, 16, 17, 18, 19, 20, 21, 22, 23, 24, 25, 26, 27] (by decide +kernel) (by decide +kernel)
set_option maxRecDepth 20000 in
theorem gX7_fee_X7_normal : GoodIn wsX7_fee (wsV RX7 174 RX7 yX7_normal wsX7_normal) := goodIn_app (goodIn_of _ (by decide +kernel)) ggX7_fee_X7_normal
set_option maxRecDepth 20000 in
theorem ggX7_fee_X7_sum : GoodIn wsX7_fee wsX7_sum := goodIn_r _ [13, 9, 14, 15, 3, 16, 17, 18, 19, 20, 21, 22, 23, 24, 25, 26, 27] (by decide +kernel) (by decide +kernel)
set_option maxRecDepth 20000 in
theorem gX7_fee_X7_sum : GoodIn wsX7_fee (wsV RX7 75 RX7 yX7_sum wsX7_sum) := goodIn_app (goodIn_of _ (by decide +kernel)) ggX7_fee_X7_sum
theorem dX7_fee_0 : decode cX7_fee 0 = .ok (.iload_n 1, 1) := by decide +kernel
theorem dX7_fee_1 : decode cX7_fee 1 = .ok (.iconst 0, 1) := by decide +kernel
theorem dX7_fee_2 : decode cX7_fee 2 = .ok (.iconst 1, 1) := by decide +kernel
theorem dX7_fee_3 : decode cX7_fee 3 = .ok (.invokestatic 31, 3) := by decide +kernel
theorem dX7_fee_6 : decode cX7_fee 6 = .ok (.ifCond .eq 14, 3) := by decide +kernel
theorem dX7_fee_9 : decode cX7_fee 9 = .ok (.iload_n 2, 1) := by decide +kernel
theorem dX7_fee_10 : decode cX7_fee 10 = .ok (.iconst 0, 1) := by decide +kernel
theorem dX7_fee_11 : decode cX7_fee 11 = .ok (.sipush 20000, 3) := by decide +kernel
theorem dX7_fee_14 : decode cX7_fee 14 = .ok (.invokestatic 31, 3) := by decide +kernel
theorem dX7_fee_17 : decode cX7_fee 17 = .ok (.ifCond .ne 5, 3) := by decide +kernel
theorem dX7_fee_20 : decode cX7_fee 20 = .ok (.iconst (-1), 1) := by decide +kernel
theorem dX7_fee_21 : decode cX7_fee 21 = .ok (.ireturn, 1) := by decide +kernel
theorem dX7_fee_22 : decode cX7_fee 22 = .ok (.iload_n 1, 1) := by decide +kernel
theorem dX7_fee_23 : decode cX7_fee 23 = .ok (.ifCond .ne 11, 3) := by decide +kernel
theorem dX7_fee_26 : decode cX7_fee 26 = .ok (.aload_n 0, 1) := by decide +kernel
theorem dX7_fee_27 : decode cX7_fee 27 = .ok (.iload_n 2, 1) := by decide +kernel
theorem dX7_fee_28 : decode cX7_fee 28 = .ok (.invokevirtual 174, 3) := by decide +kernel
theorem dX7_fee_31 : decode cX7_fee 31 = .ok (.goto 9, 3) := by decide +kernel
theorem dX7_fee_34 : decode cX7_fee 34 = .ok (.aload_n 0, 1) := by decide +kernel
theorem dX7_fee_35 : decode cX7_fee 35 = .ok (.iconst 1, 1) := by decide +kernel
theorem dX7_fee_36 : decode cX7_fee 36 = .ok (.iload_n 2, 1) := by decide +kernel
theorem dX7_fee_37 : decode cX7_fee 37 = .ok (.invokevirtual 75, 3) := by decide +kernel
theorem dX7_fee_40 : decode cX7_fee 40 = .ok (.ireturn, 1) := by decide +kernel
set_option maxRecDepth 20000 in
theorem ggX7_minutesLeft_X7_in : GoodIn wsX7_minutesLeft wsX7_in := goodIn_r _ [5] (by decide +kernel) (by decide +kernel)
set_option maxRecDepth 20000 in
theorem gX7_minutesLeft_X7_in : GoodIn wsX7_minutesLeft (va_wsS RX7 31 yX7_in wsX7_in) := goodIn_app (goodIn_of _ (by decide +kernel)) ggX7_minutesLeft_X7_in
set_option maxRecDepth 20000 in
theorem ggX7_minutesLeft_X7_bayOf : GoodIn wsX7_minutesLeft wsX7_bayOf := goodIn_r _ [9, 1, 10, 11, 12, 4, 13, 33, 34, 35, 36, 37, 38, 39, 40, 41, 42, 43] (by decide +kernel) (by decide +kernel)
set_option maxRecDepth 20000 in
theorem gX7_minutesLeft_X7_bayOf : GoodIn wsX7_minutesLeft (wsV RX7 189 RX7 yX7_bayOf wsX7_bayOf) := goodIn_app (goodIn_of _ (by decide +kernel)) ggX7_minutesLeft_X7_bayOf
set_option maxRecDepth 20000 in
theorem ggX7_minutesLeft_X7_feeAt : GoodIn wsX7_minutesLeft wsX7_feeAt := goodIn_r _ [17, 10, 11, 12, 4, 13, 1, 18, 19, 20, 21, 22, 23, 24, 25, 26, 27, 28, 29, 30, 31, 32, 33, 34, 35, 36, 37, 38, 39, 40, 41, 42, 43] (by decide +kernel) (by decide +kernel)
set_option maxRecDepth 20000 in
theorem gX7_minutesLeft_X7_feeAt : GoodIn wsX7_minutesLeft (wsV RX7 198 RX7 yX7_feeAt wsX7_feeAt) := goodIn_app (goodIn_of _ (by decide +kernel)) ggX7_minutesLeft_X7_feeAt
theorem dX7_minutesLeft_0 : decode cX7_minutesLeft 0 = .ok (.iload_n 1, 1) := by decide +kernel
theorem dX7_minutesLeft_1 : decode cX7_minutesLeft 1 = .ok (.iconst 1, 1) := by decide +kernel
theorem dX7_minutesLeft_2 : decode cX7_minutesLeft 2 = .ok (.sipush 999, 3) := by decide +kernel
theorem dX7_minutesLeft_5 : decode cX7_minutesLeft 5 = .ok (.invokestatic 31, 3) := by decide +kernel
theorem dX7_minutesLeft_8 : decode cX7_minutesLeft 8 = .ok (.ifCond .ne 5, 3) := by decide +kernel
theorem dX7_minutesLeft_11 : decode cX7_minutesLeft 11 = .ok (.iconst (-1), 1) := by decide +kernel
theorem dX7_minutesLeft_12 : decode cX7_minutesLeft 12 = .ok (.ireturn, 1) := by decide +kernel
theorem dX7_minutesLeft_13 : decode cX7_minutesLeft 13 = .ok (.aload_n 0, 1) := by decide +kernel
theorem dX7_minutesLeft_14 : decode cX7_minutesLeft 14 = .ok (.iload_n 1, 1) := by decide +kernel
theorem dX7_minutesLeft_15 : decode cX7_minutesLeft 15 = .ok (.invokevirtual 189, 3) := by decide +kernel
theorem dX7_minutesLeft_18 : decode cX7_minutesLeft 18 = .ok (.istore_n 2, 1) := by decide +kernel
theorem dX7_minutesLeft_19 : decode cX7_minutesLeft 19 = .ok (.iload_n 2, 1) := by decide +kernel
theorem dX7_minutesLeft_20 : decode cX7_minutesLeft 20 = .ok (.bipush (-9), 2) := by decide +kernel
theorem dX7_minutesLeft_22 : decode cX7_minutesLeft 22 = .ok (.if_icmp .ne 6, 3) := by decide +kernel
theorem dX7_minutesLeft_25 : decode cX7_minutesLeft 25 = .ok (.bipush (-9), 2) := by decide +kernel
theorem dX7_minutesLeft_27 : decode cX7_minutesLeft 27 = .ok (.ireturn, 1) := by decide +kernel
theorem dX7_minutesLeft_28 : decode cX7_minutesLeft 28 = .ok (.aload_n 0, 1) := by decide +kernel
theorem dX7_minutesLeft_29 : decode cX7_minutesLeft 29 = .ok (.iload_n 2, 1) := by decide +kernel
theorem dX7_minutesLeft_30 : decode cX7_minutesLeft 30 = .ok (.aload_n 0, 1) := by decide +kernel
theorem dX7_minutesLeft_31 : decode cX7_minutesLeft 31 = .ok (.getfield 7, 3) := by decide +kernel
theorem dX7_minutesLeft_34 : decode cX7_minutesLeft 34 = .ok (.iconst 0, 1) := by decide +kernel
theorem dX7_minutesLeft_35 : decode cX7_minutesLeft 35 = .ok (.iaload, 1) := by decide +kernel
theorem dX7_minutesLeft_36 : decode cX7_minutesLeft 36 = .ok (.invokevirtual 198, 3) := by decide +kernel
theorem dX7_minutesLeft_39 : decode cX7_minutesLeft 39 = .ok (.istore_n 3, 1) := by decide +kernel
theorem dX7_minutesLeft_40 : decode cX7_minutesLeft 40 = .ok (.iconst 0, 1) := by decide +kernel
theorem dX7_minutesLeft_41 : decode cX7_minutesLeft 41 = .ok (.istore 4, 2) := by decide +kernel
theorem dX7_minutesLeft_43 : decode cX7_minutesLeft 43 = .ok (.iload 4, 2) := by decide +kernel
theorem dX7_minutesLeft_45 : decode cX7_minutesLeft 45 = .ok (.sipush 1440, 3) := by decide +kernel
theorem dX7_minutesLeft_48 : decode cX7_minutesLeft 48 = .ok (.if_icmp .ge 29, 3) := by decide +kernel
theorem dX7_minutesLeft_51 : decode cX7_minutesLeft 51 = .ok (.aload_n 0, 1) := by decide +kernel
theorem dX7_minutesLeft_52 : decode cX7_minutesLeft 52 = .ok (.iload_n 2, 1) := by decide +kernel
theorem dX7_minutesLeft_53 : decode cX7_minutesLeft 53 = .ok (.aload_n 0, 1) := by decide +kernel
theorem dX7_minutesLeft_54 : decode cX7_minutesLeft 54 = .ok (.getfield 7, 3) := by decide +kernel
theorem dX7_minutesLeft_57 : decode cX7_minutesLeft 57 = .ok (.iconst 0, 1) := by decide +kernel
theorem dX7_minutesLeft_58 : decode cX7_minutesLeft 58 = .ok (.iaload, 1) := by decide +kernel
theorem dX7_minutesLeft_59 : decode cX7_minutesLeft 59 = .ok (.iload 4, 2) := by decide +kernel
theorem dX7_minutesLeft_61 : decode cX7_minutesLeft 61 = .ok (.iadd, 1) := by decide +kernel
theorem dX7_minutesLeft_62 : decode cX7_minutesLeft 62 = .ok (.iconst 1, 1) := by decide +kernel
theorem dX7_minutesLeft_63 : decode cX7_minutesLeft 63 = .ok (.iadd, 1) := by decide +kernel
theorem dX7_minutesLeft_64 : decode cX7_minutesLeft 64 = .ok (.invokevirtual 198, 3) := by decide +kernel
theorem dX7_minutesLeft_67 : decode cX7_minutesLeft 67 = .ok (.iload_n 3, 1) := by decide +kernel
theorem dX7_minutesLeft_68 : decode cX7_minutesLeft 68 = .ok (.if_icmp .gt 9, 3) := by decide +kernel
theorem dX7_minutesLeft_71 : decode cX7_minutesLeft 71 = .ok (.iinc 4 1, 3) := by decide +kernel
theorem dX7_minutesLeft_74 : decode cX7_minutesLeft 74 = .ok (.goto (-31), 3) := by decide +kernel
theorem dX7_minutesLeft_77 : decode cX7_minutesLeft 77 = .ok (.iload 4, 2) := by decide +kernel
theorem dX7_minutesLeft_79 : decode cX7_minutesLeft 79 = .ok (.ireturn, 1) := by decide +kernel
set_option maxRecDepth 20000 in
theorem ggX7_freeFor_X7_isBay : GoodIn wsX7_freeFor wsX7_isBay := goodIn_r _ [6, 1, 7, 8, 5, 9, 30, 31, 32, 33, 34, 35, 36, 37, 38, 39, 40] (by decide +kernel) (by decide +kernel)
set_option maxRecDepth 20000 in
theorem gX7_freeFor_X7_isBay : GoodIn wsX7_freeFor (wsV RX7 58 RX7 yX7_isBay wsX7_isBay) := goodIn_app (goodIn_of _ (by decide +kernel)) ggX7_freeFor_X7_isBay
set_option maxRecDepth 20000 in
theorem ggX7_freeFor_X7_holder : GoodIn wsX7_freeFor wsX7_holder := goodIn_r _ [13, 1, 14, 15, 16, 5, 17, 18, 19, 20, 21, 22, 23, 24, 25, 26, 27, 28, 29, 30, 31, 32, 33, 34, 35, 36, 37, 38, 39, 40] (by decide +kernel) (by decide +kernel)
set_option maxRecDepth 20000 in
theorem gX7_freeFor_X7_holder : GoodIn wsX7_freeFor (wsV RX7 183 RX7 yX7_holder wsX7_holder) := goodIn_app (goodIn_of _ (by decide +kernel)) ggX7_freeFor_X7_holder
set_option maxRecDepth 20000 in
theorem ggX7_freeFor_X7_about : GoodIn wsX7_freeFor wsX7_about := goodIn_r _ [17, 1, 30, 31, 32, 33, 34, 35, 36, 37, 38, 39, 40] (by decide +kernel) (by decide +kernel)
set_option maxRecDepth 20000 in
theorem gX7_freeFor_X7_about : GoodIn wsX7_freeFor (wsV RX7 150 RX7 yX7_about wsX7_about) := goodIn_app (goodIn_of _ (by decide +kernel)) ggX7_freeFor_X7_about
set_option maxRecDepth 20000 in
theorem ggX7_freeFor_X7_holdsFrom : GoodIn wsX7_freeFor wsX7_holdsFrom := goodIn_r _ [29, 1, 30, 31, 32, 33, 34, 35, 36, 37, 38, 39, 40] (by decide +kernel) (by decide +kernel)
set_option maxRecDepth 20000 in
theorem gX7_freeFor_X7_holdsFrom : GoodIn wsX7_freeFor (wsV RX7 156 RX7 yX7_holdsFrom wsX7_holdsFrom) := goodIn_app (goodIn_of _ (by decide +kernel)) ggX7_freeFor_X7_holdsFrom
set_option maxRecDepth 20000 in
theorem ggX7_freeFor_X7_isAlive : GoodIn wsX7_freeFor wsX7_isAlive := goodIn_r _ [25, 14, 15, 16, 5, 17, 1, 30, 31, 32, 33, 34, 35, 36, 37, 38, 39, 40] (by decide +kernel) (by decide +kernel)
set_option maxRecDepth 20000 in
theorem gX7_freeFor_X7_isAlive : GoodIn wsX7_freeFor (wsV RX7 153 RX7 yX7_isAlive wsX7_isAlive) := goodIn_app (goodIn_of _ (by decide +kernel)) ggX7_freeFor_X7_isAlive
theorem dX7_freeFor_0 : decode cX7_freeFor 0 = .ok (.aload_n 0, 1) := by decide +kernel
theorem dX7_freeFor_1 : decode cX7_freeFor 1 = .ok (.iload_n 1, 1) := by decide +kernel
theorem dX7_freeFor_2 : decode cX7_freeFor 2 = .ok (.invokevirtual 58, 3) := by decide +kernel
theorem dX7_freeFor_5 : decode cX7_freeFor 5 = .ok (.ifCond .ne 5, 3) := by decide +kernel
theorem dX7_freeFor_8 : decode cX7_freeFor 8 = .ok (.iconst (-1), 1) := by decide +kernel
theorem dX7_freeFor_9 : decode cX7_freeFor 9 = .ok (.ireturn, 1) := by decide +kernel
theorem dX7_freeFor_10 : decode cX7_freeFor 10 = .ok (.aload_n 0, 1) := by decide +kernel
theorem dX7_freeFor_11 : decode cX7_freeFor 11 = .ok (.iload_n 1, 1) := by decide +kernel
theorem dX7_freeFor_12 : decode cX7_freeFor 12 = .ok (.invokevirtual 183, 3) := by decide +kernel
theorem dX7_freeFor_15 : decode cX7_freeFor 15 = .ok (.bipush (-9), 2) := by decide +kernel
theorem dX7_freeFor_17 : decode cX7_freeFor 17 = .ok (.if_icmp .eq 5, 3) := by decide +kernel
theorem dX7_freeFor_20 : decode cX7_freeFor 20 = .ok (.iconst 0, 1) := by decide +kernel
theorem dX7_freeFor_21 : decode cX7_freeFor 21 = .ok (.ireturn, 1) := by decide +kernel
theorem dX7_freeFor_22 : decode cX7_freeFor 22 = .ok (.bipush (-9), 2) := by decide +kernel
theorem dX7_freeFor_24 : decode cX7_freeFor 24 = .ok (.istore_n 2, 1) := by decide +kernel
theorem dX7_freeFor_25 : decode cX7_freeFor 25 = .ok (.iconst 0, 1) := by decide +kernel
theorem dX7_freeFor_26 : decode cX7_freeFor 26 = .ok (.istore_n 3, 1) := by decide +kernel
theorem dX7_freeFor_27 : decode cX7_freeFor 27 = .ok (.iload_n 3, 1) := by decide +kernel
theorem dX7_freeFor_28 : decode cX7_freeFor 28 = .ok (.aload_n 0, 1) := by decide +kernel
theorem dX7_freeFor_29 : decode cX7_freeFor 29 = .ok (.getfield 7, 3) := by decide +kernel
theorem dX7_freeFor_32 : decode cX7_freeFor 32 = .ok (.iconst 2, 1) := by decide +kernel
theorem dX7_freeFor_33 : decode cX7_freeFor 33 = .ok (.iaload, 1) := by decide +kernel
theorem dX7_freeFor_34 : decode cX7_freeFor 34 = .ok (.if_icmp .ge 82, 3) := by decide +kernel
theorem dX7_freeFor_37 : decode cX7_freeFor 37 = .ok (.aload_n 0, 1) := by decide +kernel
theorem dX7_freeFor_38 : decode cX7_freeFor 38 = .ok (.aload_n 0, 1) := by decide +kernel
theorem dX7_freeFor_39 : decode cX7_freeFor 39 = .ok (.iload_n 3, 1) := by decide +kernel
theorem dX7_freeFor_40 : decode cX7_freeFor 40 = .ok (.iconst 2, 1) := by decide +kernel
theorem dX7_freeFor_41 : decode cX7_freeFor 41 = .ok (.invokevirtual 150, 3) := by decide +kernel
theorem dX7_freeFor_44 : decode cX7_freeFor 44 = .ok (.invokevirtual 156, 3) := by decide +kernel
theorem dX7_freeFor_47 : decode cX7_freeFor 47 = .ok (.aload_n 0, 1) := by decide +kernel
theorem dX7_freeFor_48 : decode cX7_freeFor 48 = .ok (.getfield 7, 3) := by decide +kernel
theorem dX7_freeFor_51 : decode cX7_freeFor 51 = .ok (.iconst 0, 1) := by decide +kernel
theorem dX7_freeFor_52 : decode cX7_freeFor 52 = .ok (.iaload, 1) := by decide +kernel
theorem dX7_freeFor_53 : decode cX7_freeFor 53 = .ok (.isub, 1) := by decide +kernel
theorem dX7_freeFor_54 : decode cX7_freeFor 54 = .ok (.istore 4, 2) := by decide +kernel
theorem dX7_freeFor_56 : decode cX7_freeFor 56 = .ok (.aload_n 0, 1) := by decide +kernel
theorem dX7_freeFor_57 : decode cX7_freeFor 57 = .ok (.iload_n 3, 1) := by decide +kernel
theorem dX7_freeFor_58 : decode cX7_freeFor 58 = .ok (.iconst 1, 1) := by decide +kernel
theorem dX7_freeFor_59 : decode cX7_freeFor 59 = .ok (.invokevirtual 150, 3) := by decide +kernel
theorem dX7_freeFor_62 : decode cX7_freeFor 62 = .ok (.iload_n 1, 1) := by decide +kernel
theorem dX7_freeFor_63 : decode cX7_freeFor 63 = .ok (.if_icmp .ne 20, 3) := by decide +kernel
theorem dX7_freeFor_66 : decode cX7_freeFor 66 = .ok (.aload_n 0, 1) := by decide +kernel
theorem dX7_freeFor_67 : decode cX7_freeFor 67 = .ok (.iload_n 3, 1) := by decide +kernel
theorem dX7_freeFor_68 : decode cX7_freeFor 68 = .ok (.invokevirtual 153, 3) := by decide +kernel
theorem dX7_freeFor_71 : decode cX7_freeFor 71 = .ok (.ifCond .eq 12, 3) := by decide +kernel
theorem dX7_freeFor_74 : decode cX7_freeFor 74 = .ok (.iload 4, 2) := by decide +kernel
theorem dX7_freeFor_76 : decode cX7_freeFor 76 = .ok (.ifCond .le 7, 3) := by decide +kernel
theorem dX7_freeFor_79 : decode cX7_freeFor 79 = .ok (.iconst 1, 1) := by decide +kernel
theorem dX7_freeFor_80 : decode cX7_freeFor 80 = .ok (.goto 4, 3) := by decide +kernel
theorem dX7_freeFor_83 : decode cX7_freeFor 83 = .ok (.iconst 0, 1) := by decide +kernel
theorem dX7_freeFor_84 : decode cX7_freeFor 84 = .ok (.istore 5, 2) := by decide +kernel
theorem dX7_freeFor_86 : decode cX7_freeFor 86 = .ok (.iload 5, 2) := by decide +kernel
theorem dX7_freeFor_88 : decode cX7_freeFor 88 = .ok (.ifCond .eq 20, 3) := by decide +kernel
theorem dX7_freeFor_91 : decode cX7_freeFor 91 = .ok (.iload_n 2, 1) := by decide +kernel
theorem dX7_freeFor_92 : decode cX7_freeFor 92 = .ok (.bipush (-9), 2) := by decide +kernel
theorem dX7_freeFor_94 : decode cX7_freeFor 94 = .ok (.if_icmp .eq 9, 3) := by decide +kernel
theorem dX7_freeFor_97 : decode cX7_freeFor 97 = .ok (.iload 4, 2) := by decide +kernel
theorem dX7_freeFor_99 : decode cX7_freeFor 99 = .ok (.iload_n 2, 1) := by decide +kernel
theorem dX7_freeFor_100 : decode cX7_freeFor 100 = .ok (.if_icmp .ge 8, 3) := by decide +kernel
theorem dX7_freeFor_103 : decode cX7_freeFor 103 = .ok (.iload 4, 2) := by decide +kernel
theorem dX7_freeFor_105 : decode cX7_freeFor 105 = .ok (.goto 4, 3) := by decide +kernel
theorem dX7_freeFor_108 : decode cX7_freeFor 108 = .ok (.iload_n 2, 1) := by decide +kernel
theorem dX7_freeFor_109 : decode cX7_freeFor 109 = .ok (.istore_n 2, 1) := by decide +kernel
theorem dX7_freeFor_110 : decode cX7_freeFor 110 = .ok (.iinc 3 1, 3) := by decide +kernel
theorem dX7_freeFor_113 : decode cX7_freeFor 113 = .ok (.goto (-86), 3) := by decide +kernel
theorem dX7_freeFor_116 : decode cX7_freeFor 116 = .ok (.iload_n 2, 1) := by decide +kernel
theorem dX7_freeFor_117 : decode cX7_freeFor 117 = .ok (.ireturn, 1) := by decide +kernel
set_option maxRecDepth 20000 in
theorem ggX7_earliest_X7_in : GoodIn wsX7_earliest wsX7_in := goodIn_r _ [5] (by decide +kernel) (by decide +kernel)
set_option maxRecDepth 20000 in
theorem gX7_earliest_X7_in : GoodIn wsX7_earliest (va_wsS RX7 31 yX7_in wsX7_in) := goodIn_app (goodIn_of _ (by decide +kernel)) ggX7_earliest_X7_in
set_option maxRecDepth 20000 in
theorem ggX7_earliest_X7_lesser : GoodIn wsX7_earliest wsX7_lesser := goodIn_r _ [8] (by decide +kernel) (by decide +kernel)
set_option maxRecDepth 20000 in
theorem gX7_earliest_X7_lesser : GoodIn wsX7_earliest (va_wsS RX7 72 yX7_lesser wsX7_lesser) := goodIn_app (goodIn_of _ (by decide +kernel)) ggX7_earliest_X7_lesser
set_option maxRecDepth 20000 in
theorem ggX7_earliest_X7_bayFor : GoodIn wsX7_earliest wsX7_bayFor := goodIn_r _ [12, 1, 13, 14, 15, 4, 16, 17, 18, 19, 20, 21, 22, 23, 24, 25, 26, 27, 28, 29, 30, 31, 32, 33, 34, 35, 36, 37, 38, 39, 40, 41, 42, 43, 44, 45, 46, 47, 48, 49, 50, 51, 52, 53, 54, 55] (by decide +kernel) (by decide +kernel)
set_option maxRecDepth 20000 in
theorem gX7_earliest_X7_bayFor : GoodIn wsX7_earliest (wsV RX7 171 RX7 yX7_bayFor wsX7_bayFor) := goodIn_app (goodIn_of _ (by decide +kernel)) ggX7_earliest_X7_bayFor
theorem dX7_earliest_0 : decode cX7_earliest 0 = .ok (.iload_n 1, 1) := by decide +kernel
theorem dX7_earliest_1 : decode cX7_earliest 1 = .ok (.iconst 0, 1) := by decide +kernel
theorem dX7_earliest_2 : decode cX7_earliest 2 = .ok (.iconst 2, 1) := by decide +kernel
theorem dX7_earliest_3 : decode cX7_earliest 3 = .ok (.invokestatic 31, 3) := by decide +kernel
theorem dX7_earliest_6 : decode cX7_earliest 6 = .ok (.ifCond .eq 14, 3) := by decide +kernel
theorem dX7_earliest_9 : decode cX7_earliest 9 = .ok (.iload_n 2, 1) := by decide +kernel
theorem dX7_earliest_10 : decode cX7_earliest 10 = .ok (.iconst 1, 1) := by decide +kernel
theorem dX7_earliest_11 : decode cX7_earliest 11 = .ok (.sipush 1440, 3) := by decide +kernel
theorem dX7_earliest_14 : decode cX7_earliest 14 = .ok (.invokestatic 31, 3) := by decide +kernel
theorem dX7_earliest_17 : decode cX7_earliest 17 = .ok (.ifCond .ne 5, 3) := by decide +kernel
theorem dX7_earliest_20 : decode cX7_earliest 20 = .ok (.iconst (-1), 1) := by decide +kernel
theorem dX7_earliest_21 : decode cX7_earliest 21 = .ok (.ireturn, 1) := by decide +kernel
theorem dX7_earliest_22 : decode cX7_earliest 22 = .ok (.sipush 20000, 3) := by decide +kernel
theorem dX7_earliest_25 : decode cX7_earliest 25 = .ok (.aload_n 0, 1) := by decide +kernel
theorem dX7_earliest_26 : decode cX7_earliest 26 = .ok (.getfield 7, 3) := by decide +kernel
theorem dX7_earliest_29 : decode cX7_earliest 29 = .ok (.iconst 0, 1) := by decide +kernel
theorem dX7_earliest_30 : decode cX7_earliest 30 = .ok (.iaload, 1) := by decide +kernel
theorem dX7_earliest_31 : decode cX7_earliest 31 = .ok (.sipush 1440, 3) := by decide +kernel
theorem dX7_earliest_34 : decode cX7_earliest 34 = .ok (.iadd, 1) := by decide +kernel
theorem dX7_earliest_35 : decode cX7_earliest 35 = .ok (.invokestatic 72, 3) := by decide +kernel
theorem dX7_earliest_38 : decode cX7_earliest 38 = .ok (.istore_n 3, 1) := by decide +kernel
theorem dX7_earliest_39 : decode cX7_earliest 39 = .ok (.aload_n 0, 1) := by decide +kernel
theorem dX7_earliest_40 : decode cX7_earliest 40 = .ok (.getfield 7, 3) := by decide +kernel
theorem dX7_earliest_43 : decode cX7_earliest 43 = .ok (.iconst 0, 1) := by decide +kernel
theorem dX7_earliest_44 : decode cX7_earliest 44 = .ok (.iaload, 1) := by decide +kernel
theorem dX7_earliest_45 : decode cX7_earliest 45 = .ok (.istore 4, 2) := by decide +kernel
theorem dX7_earliest_47 : decode cX7_earliest 47 = .ok (.iload 4, 2) := by decide +kernel
theorem dX7_earliest_49 : decode cX7_earliest 49 = .ok (.iload_n 3, 1) := by decide +kernel
theorem dX7_earliest_50 : decode cX7_earliest 50 = .ok (.if_icmp .gt 39, 3) := by decide +kernel
theorem dX7_earliest_53 : decode cX7_earliest 53 = .ok (.aload_n 0, 1) := by decide +kernel
theorem dX7_earliest_54 : decode cX7_earliest 54 = .ok (.getfield 7, 3) := by decide +kernel
theorem dX7_earliest_57 : decode cX7_earliest 57 = .ok (.iconst 2, 1) := by decide +kernel
theorem dX7_earliest_58 : decode cX7_earliest 58 = .ok (.iaload, 1) := by decide +kernel
theorem dX7_earliest_59 : decode cX7_earliest 59 = .ok (.bipush 16, 2) := by decide +kernel
theorem dX7_earliest_61 : decode cX7_earliest 61 = .ok (.if_icmp .ge 28, 3) := by decide +kernel
theorem dX7_earliest_64 : decode cX7_earliest 64 = .ok (.aload_n 0, 1) := by decide +kernel
theorem dX7_earliest_65 : decode cX7_earliest 65 = .ok (.iload_n 1, 1) := by decide +kernel
theorem dX7_earliest_66 : decode cX7_earliest 66 = .ok (.iload 4, 2) := by decide +kernel
theorem dX7_earliest_68 : decode cX7_earliest 68 = .ok (.iload 4, 2) := by decide +kernel
theorem dX7_earliest_70 : decode cX7_earliest 70 = .ok (.iload_n 2, 1) := by decide +kernel
theorem dX7_earliest_71 : decode cX7_earliest 71 = .ok (.iadd, 1) := by decide +kernel
theorem dX7_earliest_72 : decode cX7_earliest 72 = .ok (.invokevirtual 171, 3) := by decide +kernel
theorem dX7_earliest_75 : decode cX7_earliest 75 = .ok (.bipush (-9), 2) := by decide +kernel
theorem dX7_earliest_77 : decode cX7_earliest 77 = .ok (.if_icmp .eq 6, 3) := by decide +kernel
theorem dX7_earliest_80 : decode cX7_earliest 80 = .ok (.iload 4, 2) := by decide +kernel
theorem dX7_earliest_82 : decode cX7_earliest 82 = .ok (.ireturn, 1) := by decide +kernel
theorem dX7_earliest_83 : decode cX7_earliest 83 = .ok (.iinc 4 1, 3) := by decide +kernel
theorem dX7_earliest_86 : decode cX7_earliest 86 = .ok (.goto (-39), 3) := by decide +kernel
theorem dX7_earliest_89 : decode cX7_earliest 89 = .ok (.bipush (-9), 2) := by decide +kernel
theorem dX7_earliest_91 : decode cX7_earliest 91 = .ok (.ireturn, 1) := by decide +kernel
