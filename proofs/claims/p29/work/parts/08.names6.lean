set_option maxRecDepth 20000 in
theorem ggX6_init_X3_init : GoodIn wsX6_init wsX3_init := goodIn_r _ [19, 20, 2, 3, 21, 22, 23, 24, 25, 26, 27, 28, 29, 30, 31, 32, 33, 34, 35, 36, 37, 38, 39, 40, 41, 42, 43, 44, 45, 46, 47, 48, 49, 50, 51, 52, 53, 54, 55, 56, 57, 58, 59, 60, 61, 62, 63, 64, 65, 66, 67, 68, 69, 70, 71, 72, 73, 74, 75, 76, 77, 78, 79, 97, 98, 99, 100, 101, 102, 103, 104, 116, 117, 118, 119, 120, 121, 122, 123, 124, 125, 126, 127, 128, 129, 130, 131, 132, 133, 134, 135] (by decide +kernel) (by decide +kernel)
set_option maxRecDepth 20000 in
theorem gX6_init_X3_init : GoodIn wsX6_init (wsX3_init) := ggX6_init_X3_init
set_option maxRecDepth 20000 in
theorem ggX6_init_X1_init : GoodIn wsX6_init wsX1_init := goodIn_r _ [82, 83, 2, 3, 84, 85, 86, 5, 6, 87, 18, 19, 20, 21, 22, 23, 24, 25, 26, 27, 28, 29, 30, 31, 32, 33, 34, 35, 36, 37, 38, 39, 40, 41, 42, 43, 44, 45, 46, 47, 48, 49, 50, 51, 52, 53, 54, 55, 56, 57, 58, 59, 60, 61, 62, 63, 64, 65, 66, 67, 68, 69, 70, 71, 72, 73, 74, 75, 76, 77, 78, 79, 109, 110, 97, 98, 99, 100, 101, 102, 103, 104, 116, 117, 118, 119, 120, 121, 122, 123, 124, 125, 126, 127, 128, 129, 130, 131, 132, 133, 134, 135] (by decide +kernel) (by decide +kernel)
set_option maxRecDepth 20000 in
theorem gX6_init_X1_init : GoodIn wsX6_init (wsX1_init) := ggX6_init_X1_init
set_option maxRecDepth 20000 in
theorem ggX6_init_X5_init : GoodIn wsX6_init wsX5_init := goodIn_r _ [89, 90, 2, 3, 91, 92, 93, 94, 95, 96, 111, 112, 113, 114, 115] (by decide +kernel) (by decide +kernel)
set_option maxRecDepth 20000 in
theorem gX6_init_X5_init_n28 : GoodIn wsX6_init (wsX5_init) := ggX6_init_X5_init
theorem dX6_init_0 : decode cX6_init 0 = .ok (.aload_n 0, 1) := by decide +kernel
theorem dX6_init_1 : decode cX6_init 1 = .ok (.invokespecial 1, 3) := by decide +kernel
theorem dX6_init_4 : decode cX6_init 4 = .ok (.aload_n 0, 1) := by decide +kernel
theorem dX6_init_5 : decode cX6_init 5 = .ok (.new 7, 3) := by decide +kernel
theorem dX6_init_8 : decode cX6_init 8 = .ok (.dup, 1) := by decide +kernel
theorem dX6_init_9 : decode cX6_init 9 = .ok (.invokespecial 9, 3) := by decide +kernel
theorem dX6_init_12 : decode cX6_init 12 = .ok (.putfield 10, 3) := by decide +kernel
theorem dX6_init_15 : decode cX6_init 15 = .ok (.aload_n 0, 1) := by decide +kernel
theorem dX6_init_16 : decode cX6_init 16 = .ok (.new 7, 3) := by decide +kernel
theorem dX6_init_19 : decode cX6_init 19 = .ok (.dup, 1) := by decide +kernel
theorem dX6_init_20 : decode cX6_init 20 = .ok (.invokespecial 9, 3) := by decide +kernel
theorem dX6_init_23 : decode cX6_init 23 = .ok (.putfield 16, 3) := by decide +kernel
theorem dX6_init_26 : decode cX6_init 26 = .ok (.aload_n 0, 1) := by decide +kernel
theorem dX6_init_27 : decode cX6_init 27 = .ok (.new 19, 3) := by decide +kernel
theorem dX6_init_30 : decode cX6_init 30 = .ok (.dup, 1) := by decide +kernel
theorem dX6_init_31 : decode cX6_init 31 = .ok (.invokespecial 21, 3) := by decide +kernel
theorem dX6_init_34 : decode cX6_init 34 = .ok (.putfield 22, 3) := by decide +kernel
theorem dX6_init_37 : decode cX6_init 37 = .ok (.aload_n 0, 1) := by decide +kernel
theorem dX6_init_38 : decode cX6_init 38 = .ok (.new 26, 3) := by decide +kernel
theorem dX6_init_41 : decode cX6_init 41 = .ok (.dup, 1) := by decide +kernel
theorem dX6_init_42 : decode cX6_init 42 = .ok (.invokespecial 28, 3) := by decide +kernel
theorem dX6_init_45 : decode cX6_init 45 = .ok (.putfield 29, 3) := by decide +kernel
theorem dX6_init_48 : decode cX6_init 48 = .ok (.return_, 1) := by decide +kernel
set_option maxRecDepth 20000 in
theorem ggX6_addBay_X6_isWithin : GoodIn wsX6_addBay wsX6_isWithin := goodIn_r _ [7] (by decide +kernel) (by decide +kernel)
set_option maxRecDepth 20000 in
theorem gX6_addBay_X6_isWithin : GoodIn wsX6_addBay (va_wsS RX6 33 yX6_isWithin wsX6_isWithin) := goodIn_app (goodIn_of _ (by decide +kernel)) ggX6_addBay_X6_isWithin
set_option maxRecDepth 20000 in
theorem ggX6_addBay_X0_hasPlace : GoodIn wsX6_addBay wsX0_hasPlace := goodIn_r _ [12, 13, 14, 15, 110, 111, 112, 113, 114, 115, 116, 117, 118] (by decide +kernel) (by decide +kernel)
set_option maxRecDepth 20000 in
theorem gX6_addBay_X0_hasPlace : GoodIn wsX6_addBay (wsV RX6 41 RX0 yX0_hasPlace wsX0_hasPlace) := goodIn_app (goodIn_of _ (by decide +kernel)) ggX6_addBay_X0_hasPlace
set_option maxRecDepth 20000 in
theorem ggX6_addBay_X0_isFull : GoodIn wsX6_addBay wsX0_isFull := goodIn_r _ [19, 13, 110, 111, 112, 113, 114, 115, 116, 117, 118] (by decide +kernel) (by decide +kernel)
set_option maxRecDepth 20000 in
theorem gX6_addBay_X0_isFull : GoodIn wsX6_addBay (wsV RX6 47 RX0 yX0_isFull wsX0_isFull) := goodIn_app (goodIn_of _ (by decide +kernel)) ggX6_addBay_X0_isFull
set_option maxRecDepth 20000 in
theorem ggX6_addBay_X1_save : GoodIn wsX6_addBay wsX1_save := goodIn_r _ [24, 25, 26, 27, 28, 29, 23, 30, 31, 32, 33, 34, 35, 36, 37, 38, 39, 40, 41, 42, 43, 44, 6, 45, 46, 47, 48, 49, 50, 51, 52, 53, 54, 55, 56, 11, 57, 13, 14, 15, 58, 59, 60, 61, 62, 63, 64, 65, 66, 67, 68, 69, 70, 71, 72, 73, 74, 75, 76, 77, 78, 79, 80, 81, 82, 83, 84, 119, 120, 102, 103, 104, 105, 106, 107, 108, 109, 110, 111, 112, 113, 114, 115, 116, 117, 118, 121, 122, 123, 124, 125, 126, 127, 128, 129, 130, 131] (by decide +kernel) (by decide +kernel)
set_option maxRecDepth 20000 in
theorem gX6_addBay_X1_save : GoodIn wsX6_addBay (wsV RX6 51 RX1 yX1_save wsX1_save) := goodIn_app (goodIn_of _ (by decide +kernel)) ggX6_addBay_X1_save
set_option maxRecDepth 20000 in
theorem ggX6_addBay_X0_add : GoodIn wsX6_addBay wsX0_add := goodIn_r _ [88, 13, 14, 15, 58, 59, 89, 17, 18, 11, 19, 90, 91, 92, 93, 60, 61, 62, 63, 94, 95, 96, 97, 110, 111, 112, 113, 114, 115, 116, 117, 118] (by decide +kernel) (by decide +kernel)
set_option maxRecDepth 20000 in
theorem gX6_addBay_X0_add : GoodIn wsX6_addBay (wsV RX6 55 RX0 yX0_add wsX0_add) := goodIn_app (goodIn_of _ (by decide +kernel)) ggX6_addBay_X0_add
theorem dX6_addBay_0 : decode cX6_addBay 0 = .ok (.iload_n 1, 1) := by decide +kernel
theorem dX6_addBay_1 : decode cX6_addBay 1 = .ok (.iconst 0, 1) := by decide +kernel
theorem dX6_addBay_2 : decode cX6_addBay 2 = .ok (.iconst 4, 1) := by decide +kernel
theorem dX6_addBay_3 : decode cX6_addBay 3 = .ok (.invokestatic 33, 3) := by decide +kernel
theorem dX6_addBay_6 : decode cX6_addBay 6 = .ok (.ifCond .eq 22, 3) := by decide +kernel
theorem dX6_addBay_9 : decode cX6_addBay 9 = .ok (.iload_n 2, 1) := by decide +kernel
theorem dX6_addBay_10 : decode cX6_addBay 10 = .ok (.iconst 0, 1) := by decide +kernel
theorem dX6_addBay_11 : decode cX6_addBay 11 = .ok (.bipush 99, 2) := by decide +kernel
theorem dX6_addBay_13 : decode cX6_addBay 13 = .ok (.invokestatic 33, 3) := by decide +kernel
theorem dX6_addBay_16 : decode cX6_addBay 16 = .ok (.ifCond .eq 12, 3) := by decide +kernel
theorem dX6_addBay_19 : decode cX6_addBay 19 = .ok (.iload_n 3, 1) := by decide +kernel
theorem dX6_addBay_20 : decode cX6_addBay 20 = .ok (.iconst 0, 1) := by decide +kernel
theorem dX6_addBay_21 : decode cX6_addBay 21 = .ok (.iconst 2, 1) := by decide +kernel
theorem dX6_addBay_22 : decode cX6_addBay 22 = .ok (.invokestatic 33, 3) := by decide +kernel
theorem dX6_addBay_25 : decode cX6_addBay 25 = .ok (.ifCond .ne 5, 3) := by decide +kernel
theorem dX6_addBay_28 : decode cX6_addBay 28 = .ok (.iconst (-1), 1) := by decide +kernel
theorem dX6_addBay_29 : decode cX6_addBay 29 = .ok (.ireturn, 1) := by decide +kernel
theorem dX6_addBay_30 : decode cX6_addBay 30 = .ok (.aload_n 0, 1) := by decide +kernel
theorem dX6_addBay_31 : decode cX6_addBay 31 = .ok (.getfield 10, 3) := by decide +kernel
theorem dX6_addBay_34 : decode cX6_addBay 34 = .ok (.getfield 37, 3) := by decide +kernel
theorem dX6_addBay_37 : decode cX6_addBay 37 = .ok (.iload_n 1, 1) := by decide +kernel
theorem dX6_addBay_38 : decode cX6_addBay 38 = .ok (.iload_n 2, 1) := by decide +kernel
theorem dX6_addBay_39 : decode cX6_addBay 39 = .ok (.invokevirtual 41, 3) := by decide +kernel
theorem dX6_addBay_42 : decode cX6_addBay 42 = .ok (.ifCond .eq 6, 3) := by decide +kernel
theorem dX6_addBay_45 : decode cX6_addBay 45 = .ok (.bipush (-2), 2) := by decide +kernel
theorem dX6_addBay_47 : decode cX6_addBay 47 = .ok (.ireturn, 1) := by decide +kernel
theorem dX6_addBay_48 : decode cX6_addBay 48 = .ok (.aload_n 0, 1) := by decide +kernel
theorem dX6_addBay_49 : decode cX6_addBay 49 = .ok (.getfield 10, 3) := by decide +kernel
theorem dX6_addBay_52 : decode cX6_addBay 52 = .ok (.getfield 37, 3) := by decide +kernel
theorem dX6_addBay_55 : decode cX6_addBay 55 = .ok (.invokevirtual 47, 3) := by decide +kernel
theorem dX6_addBay_58 : decode cX6_addBay 58 = .ok (.ifCond .eq 6, 3) := by decide +kernel
theorem dX6_addBay_61 : decode cX6_addBay 61 = .ok (.bipush (-3), 2) := by decide +kernel
theorem dX6_addBay_63 : decode cX6_addBay 63 = .ok (.ireturn, 1) := by decide +kernel
theorem dX6_addBay_64 : decode cX6_addBay 64 = .ok (.aload_n 0, 1) := by decide +kernel
theorem dX6_addBay_65 : decode cX6_addBay 65 = .ok (.getfield 22, 3) := by decide +kernel
theorem dX6_addBay_68 : decode cX6_addBay 68 = .ok (.aload_n 0, 1) := by decide +kernel
theorem dX6_addBay_69 : decode cX6_addBay 69 = .ok (.getfield 10, 3) := by decide +kernel
theorem dX6_addBay_72 : decode cX6_addBay 72 = .ok (.invokevirtual 51, 3) := by decide +kernel
theorem dX6_addBay_75 : decode cX6_addBay 75 = .ok (.aload_n 0, 1) := by decide +kernel
theorem dX6_addBay_76 : decode cX6_addBay 76 = .ok (.getfield 10, 3) := by decide +kernel
theorem dX6_addBay_79 : decode cX6_addBay 79 = .ok (.getfield 37, 3) := by decide +kernel
theorem dX6_addBay_82 : decode cX6_addBay 82 = .ok (.iload_n 1, 1) := by decide +kernel
theorem dX6_addBay_83 : decode cX6_addBay 83 = .ok (.iload_n 2, 1) := by decide +kernel
theorem dX6_addBay_84 : decode cX6_addBay 84 = .ok (.iload_n 3, 1) := by decide +kernel
theorem dX6_addBay_85 : decode cX6_addBay 85 = .ok (.invokevirtual 55, 3) := by decide +kernel
theorem dX6_addBay_88 : decode cX6_addBay 88 = .ok (.ireturn, 1) := by decide +kernel
set_option maxRecDepth 20000 in
theorem ggX6_setBay_X0_has : GoodIn wsX6_setBay wsX0_has := goodIn_r _ [9, 10, 94, 95, 96, 97, 98, 99, 100, 101, 102] (by decide +kernel) (by decide +kernel)
set_option maxRecDepth 20000 in
theorem gX6_setBay_X0_has : GoodIn wsX6_setBay (wsV RX6 59 RX0 yX0_has wsX0_has) := goodIn_app (goodIn_of _ (by decide +kernel)) ggX6_setBay_X0_has
set_option maxRecDepth 20000 in
theorem ggX6_setBay_X6_isWithin : GoodIn wsX6_setBay wsX6_isWithin := goodIn_r _ [14] (by decide +kernel) (by decide +kernel)
set_option maxRecDepth 20000 in
theorem gX6_setBay_X6_isWithin : GoodIn wsX6_setBay (va_wsS RX6 33 yX6_isWithin wsX6_isWithin) := goodIn_app (goodIn_of _ (by decide +kernel)) ggX6_setBay_X6_isWithin
set_option maxRecDepth 20000 in
theorem ggX6_setBay_X1_save : GoodIn wsX6_setBay wsX1_save := goodIn_r _ [19, 20, 21, 22, 23, 24, 18, 25, 26, 27, 28, 29, 30, 31, 32, 33, 34, 35, 36, 37, 38, 39, 13, 40, 41, 42, 43, 44, 45, 46, 47, 48, 49, 50, 51, 8, 52, 10, 53, 54, 55, 56, 57, 58, 59, 60, 61, 62, 63, 64, 65, 66, 67, 68, 69, 70, 71, 72, 73, 74, 75, 76, 77, 78, 79, 80, 81, 103, 104, 86, 87, 88, 89, 90, 91, 92, 93, 94, 95, 96, 97, 98, 99, 100, 101, 102, 105, 106, 107, 108, 109, 110, 111, 112, 113, 114, 115] (by decide +kernel) (by decide +kernel)
set_option maxRecDepth 20000 in
theorem gX6_setBay_X1_save : GoodIn wsX6_setBay (wsV RX6 51 RX1 yX1_save wsX1_save) := goodIn_app (goodIn_of _ (by decide +kernel)) ggX6_setBay_X1_save
theorem dX6_setBay_0 : decode cX6_setBay 0 = .ok (.aload_n 0, 1) := by decide +kernel
theorem dX6_setBay_1 : decode cX6_setBay 1 = .ok (.getfield 10, 3) := by decide +kernel
theorem dX6_setBay_4 : decode cX6_setBay 4 = .ok (.getfield 37, 3) := by decide +kernel
theorem dX6_setBay_7 : decode cX6_setBay 7 = .ok (.iload_n 1, 1) := by decide +kernel
theorem dX6_setBay_8 : decode cX6_setBay 8 = .ok (.invokevirtual 59, 3) := by decide +kernel
theorem dX6_setBay_11 : decode cX6_setBay 11 = .ok (.ifCond .eq 12, 3) := by decide +kernel
theorem dX6_setBay_14 : decode cX6_setBay 14 = .ok (.iload_n 2, 1) := by decide +kernel
theorem dX6_setBay_15 : decode cX6_setBay 15 = .ok (.iconst 0, 1) := by decide +kernel
theorem dX6_setBay_16 : decode cX6_setBay 16 = .ok (.iconst 1, 1) := by decide +kernel
theorem dX6_setBay_17 : decode cX6_setBay 17 = .ok (.invokestatic 33, 3) := by decide +kernel
theorem dX6_setBay_20 : decode cX6_setBay 20 = .ok (.ifCond .ne 5, 3) := by decide +kernel
theorem dX6_setBay_23 : decode cX6_setBay 23 = .ok (.iconst (-1), 1) := by decide +kernel
theorem dX6_setBay_24 : decode cX6_setBay 24 = .ok (.ireturn, 1) := by decide +kernel
theorem dX6_setBay_25 : decode cX6_setBay 25 = .ok (.aload_n 0, 1) := by decide +kernel
theorem dX6_setBay_26 : decode cX6_setBay 26 = .ok (.getfield 22, 3) := by decide +kernel
theorem dX6_setBay_29 : decode cX6_setBay 29 = .ok (.aload_n 0, 1) := by decide +kernel
theorem dX6_setBay_30 : decode cX6_setBay 30 = .ok (.getfield 10, 3) := by decide +kernel
theorem dX6_setBay_33 : decode cX6_setBay 33 = .ok (.invokevirtual 51, 3) := by decide +kernel
theorem dX6_setBay_36 : decode cX6_setBay 36 = .ok (.aload_n 0, 1) := by decide +kernel
theorem dX6_setBay_37 : decode cX6_setBay 37 = .ok (.getfield 10, 3) := by decide +kernel
theorem dX6_setBay_40 : decode cX6_setBay 40 = .ok (.getfield 37, 3) := by decide +kernel
theorem dX6_setBay_43 : decode cX6_setBay 43 = .ok (.getfield 63, 3) := by decide +kernel
theorem dX6_setBay_46 : decode cX6_setBay 46 = .ok (.iload_n 1, 1) := by decide +kernel
theorem dX6_setBay_47 : decode cX6_setBay 47 = .ok (.iaload, 1) := by decide +kernel
theorem dX6_setBay_48 : decode cX6_setBay 48 = .ok (.istore_n 3, 1) := by decide +kernel
theorem dX6_setBay_49 : decode cX6_setBay 49 = .ok (.aload_n 0, 1) := by decide +kernel
theorem dX6_setBay_50 : decode cX6_setBay 50 = .ok (.getfield 10, 3) := by decide +kernel
theorem dX6_setBay_53 : decode cX6_setBay 53 = .ok (.getfield 37, 3) := by decide +kernel
theorem dX6_setBay_56 : decode cX6_setBay 56 = .ok (.getfield 63, 3) := by decide +kernel
theorem dX6_setBay_59 : decode cX6_setBay 59 = .ok (.iload_n 1, 1) := by decide +kernel
theorem dX6_setBay_60 : decode cX6_setBay 60 = .ok (.iload_n 2, 1) := by decide +kernel
theorem dX6_setBay_61 : decode cX6_setBay 61 = .ok (.iastore, 1) := by decide +kernel
theorem dX6_setBay_62 : decode cX6_setBay 62 = .ok (.iload_n 3, 1) := by decide +kernel
theorem dX6_setBay_63 : decode cX6_setBay 63 = .ok (.ireturn, 1) := by decide +kernel
set_option maxRecDepth 20000 in
theorem ggX6_setStep_X6_isTariff : GoodIn wsX6_setStep wsX6_isTariff := goodIn_r _ [7] (by decide +kernel) (by decide +kernel)
set_option maxRecDepth 20000 in
theorem gX6_setStep_X6_isTariff : GoodIn wsX6_setStep (va_wsS RX6 67 yX6_isTariff wsX6_isTariff) := goodIn_app (goodIn_of _ (by decide +kernel)) ggX6_setStep_X6_isTariff
set_option maxRecDepth 20000 in
theorem ggX6_setStep_X6_isWithin : GoodIn wsX6_setStep wsX6_isWithin := goodIn_r _ [10] (by decide +kernel) (by decide +kernel)
set_option maxRecDepth 20000 in
theorem gX6_setStep_X6_isWithin : GoodIn wsX6_setStep (va_wsS RX6 33 yX6_isWithin wsX6_isWithin) := goodIn_app (goodIn_of _ (by decide +kernel)) ggX6_setStep_X6_isWithin
set_option maxRecDepth 20000 in
theorem ggX6_setStep_X3_tariff : GoodIn wsX6_setStep wsX3_tariff := goodIn_r _ [15, 16, 17, 117, 118, 119, 120, 121, 122, 123, 124] (by decide +kernel) (by decide +kernel)
set_option maxRecDepth 20000 in
theorem gX6_setStep_X3_tariff : GoodIn wsX6_setStep (wsV RX6 70 RX3 yX3_tariff wsX3_tariff) := goodIn_app (goodIn_of _ (by decide +kernel)) ggX6_setStep_X3_tariff
set_option maxRecDepth 20000 in
theorem ggX6_setStep_X4_has : GoodIn wsX6_setStep wsX4_has := goodIn_r _ [22, 23, 24, 25, 26, 27, 21, 28, 113, 114, 115, 116] (by decide +kernel) (by decide +kernel)
set_option maxRecDepth 20000 in
theorem gX6_setStep_X4_has : GoodIn wsX6_setStep (wsV RX6 74 RX4 yX4_has wsX4_has) := goodIn_app (goodIn_of _ (by decide +kernel)) ggX6_setStep_X4_has
set_option maxRecDepth 20000 in
theorem ggX6_setStep_X1_save : GoodIn wsX6_setStep wsX1_save := goodIn_r _ [33, 34, 35, 36, 37, 38, 32, 39, 40, 41, 42, 14, 43, 44, 45, 46, 47, 48, 49, 16, 17, 50, 6, 51, 52, 53, 54, 55, 56, 57, 58, 59, 60, 61, 62, 63, 64, 65, 66, 67, 68, 69, 70, 71, 72, 73, 74, 75, 76, 77, 78, 79, 80, 81, 82, 83, 84, 85, 86, 87, 88, 21, 89, 23, 24, 90, 91, 125, 126, 117, 118, 119, 120, 121, 122, 123, 124, 127, 128, 129, 130, 131, 132, 133, 134, 135, 136, 137, 138, 139, 140, 141, 142, 113, 114, 115, 116] (by decide +kernel) (by decide +kernel)
set_option maxRecDepth 20000 in
theorem gX6_setStep_X1_save : GoodIn wsX6_setStep (wsV RX6 51 RX1 yX1_save wsX1_save) := goodIn_app (goodIn_of _ (by decide +kernel)) ggX6_setStep_X1_save
set_option maxRecDepth 20000 in
theorem ggX6_setStep_X4_remove : GoodIn wsX6_setStep wsX4_remove := goodIn_r _ [95, 23, 96, 19, 20, 21, 22, 24, 25, 26, 27, 28, 97, 98, 99, 100, 90, 91, 113, 114, 115, 116] (by decide +kernel) (by decide +kernel)
set_option maxRecDepth 20000 in
theorem gX6_setStep_X4_remove : GoodIn wsX6_setStep (wsV RX6 77 RX4 yX4_remove wsX4_remove) := goodIn_app (goodIn_of _ (by decide +kernel)) ggX6_setStep_X4_remove
set_option maxRecDepth 20000 in
theorem ggX6_setStep_X4_hasRoomFor : GoodIn wsX6_setStep wsX4_hasRoomFor := goodIn_r _ [104, 23, 96, 19, 20, 21, 22, 24, 25, 26, 27, 28, 113, 114, 115, 116] (by decide +kernel) (by decide +kernel)
set_option maxRecDepth 20000 in
theorem gX6_setStep_X4_hasRoomFor : GoodIn wsX6_setStep (wsV RX6 85 RX4 yX4_hasRoomFor wsX4_hasRoomFor) := goodIn_app (goodIn_of _ (by decide +kernel)) ggX6_setStep_X4_hasRoomFor
set_option maxRecDepth 20000 in
theorem ggX6_setStep_X4_put : GoodIn wsX6_setStep wsX4_put := goodIn_r _ [108, 23, 24, 90, 91, 25, 26, 27, 21, 28, 97, 98, 99, 100, 113, 114, 115, 116] (by decide +kernel) (by decide +kernel)
set_option maxRecDepth 20000 in
theorem gX6_setStep_X4_put : GoodIn wsX6_setStep (wsV RX6 88 RX4 yX4_put wsX4_put) := goodIn_app (goodIn_of _ (by decide +kernel)) ggX6_setStep_X4_put
theorem dX6_setStep_0 : decode cX6_setStep 0 = .ok (.iload_n 1, 1) := by decide +kernel
theorem dX6_setStep_1 : decode cX6_setStep 1 = .ok (.invokestatic 67, 3) := by decide +kernel
theorem dX6_setStep_4 : decode cX6_setStep 4 = .ok (.ifCond .eq 37, 3) := by decide +kernel
theorem dX6_setStep_7 : decode cX6_setStep 7 = .ok (.iload_n 2, 1) := by decide +kernel
theorem dX6_setStep_8 : decode cX6_setStep 8 = .ok (.iconst 0, 1) := by decide +kernel
theorem dX6_setStep_9 : decode cX6_setStep 9 = .ok (.sipush 1440, 3) := by decide +kernel
theorem dX6_setStep_12 : decode cX6_setStep 12 = .ok (.invokestatic 33, 3) := by decide +kernel
theorem dX6_setStep_15 : decode cX6_setStep 15 = .ok (.ifCond .eq 26, 3) := by decide +kernel
theorem dX6_setStep_18 : decode cX6_setStep 18 = .ok (.iload_n 3, 1) := by decide +kernel
theorem dX6_setStep_19 : decode cX6_setStep 19 = .ok (.iconst 0, 1) := by decide +kernel
theorem dX6_setStep_20 : decode cX6_setStep 20 = .ok (.sipush 240, 3) := by decide +kernel
theorem dX6_setStep_23 : decode cX6_setStep 23 = .ok (.invokestatic 33, 3) := by decide +kernel
theorem dX6_setStep_26 : decode cX6_setStep 26 = .ok (.ifCond .eq 15, 3) := by decide +kernel
theorem dX6_setStep_29 : decode cX6_setStep 29 = .ok (.iload 4, 2) := by decide +kernel
theorem dX6_setStep_31 : decode cX6_setStep 31 = .ok (.iconst 0, 1) := by decide +kernel
theorem dX6_setStep_32 : decode cX6_setStep 32 = .ok (.sipush 5000, 3) := by decide +kernel
theorem dX6_setStep_35 : decode cX6_setStep 35 = .ok (.invokestatic 33, 3) := by decide +kernel
theorem dX6_setStep_38 : decode cX6_setStep 38 = .ok (.ifCond .ne 5, 3) := by decide +kernel
theorem dX6_setStep_41 : decode cX6_setStep 41 = .ok (.iconst (-1), 1) := by decide +kernel
theorem dX6_setStep_42 : decode cX6_setStep 42 = .ok (.ireturn, 1) := by decide +kernel
theorem dX6_setStep_43 : decode cX6_setStep 43 = .ok (.aload_n 0, 1) := by decide +kernel
theorem dX6_setStep_44 : decode cX6_setStep 44 = .ok (.getfield 10, 3) := by decide +kernel
theorem dX6_setStep_47 : decode cX6_setStep 47 = .ok (.iload_n 1, 1) := by decide +kernel
theorem dX6_setStep_48 : decode cX6_setStep 48 = .ok (.invokevirtual 70, 3) := by decide +kernel
theorem dX6_setStep_51 : decode cX6_setStep 51 = .ok (.astore 5, 2) := by decide +kernel
theorem dX6_setStep_53 : decode cX6_setStep 53 = .ok (.iload_n 3, 1) := by decide +kernel
theorem dX6_setStep_54 : decode cX6_setStep 54 = .ok (.ifCond .ne 38, 3) := by decide +kernel
theorem dX6_setStep_57 : decode cX6_setStep 57 = .ok (.aload 5, 2) := by decide +kernel
theorem dX6_setStep_59 : decode cX6_setStep 59 = .ok (.iload_n 2, 1) := by decide +kernel
theorem dX6_setStep_60 : decode cX6_setStep 60 = .ok (.invokevirtual 74, 3) := by decide +kernel
theorem dX6_setStep_63 : decode cX6_setStep 63 = .ok (.ifCond .ne 6, 3) := by decide +kernel
theorem dX6_setStep_66 : decode cX6_setStep 66 = .ok (.bipush (-2), 2) := by decide +kernel
theorem dX6_setStep_68 : decode cX6_setStep 68 = .ok (.ireturn, 1) := by decide +kernel
theorem dX6_setStep_69 : decode cX6_setStep 69 = .ok (.aload_n 0, 1) := by decide +kernel
theorem dX6_setStep_70 : decode cX6_setStep 70 = .ok (.getfield 22, 3) := by decide +kernel
theorem dX6_setStep_73 : decode cX6_setStep 73 = .ok (.aload_n 0, 1) := by decide +kernel
theorem dX6_setStep_74 : decode cX6_setStep 74 = .ok (.getfield 10, 3) := by decide +kernel
theorem dX6_setStep_77 : decode cX6_setStep 77 = .ok (.invokevirtual 51, 3) := by decide +kernel
theorem dX6_setStep_80 : decode cX6_setStep 80 = .ok (.aload 5, 2) := by decide +kernel
theorem dX6_setStep_82 : decode cX6_setStep 82 = .ok (.iload_n 2, 1) := by decide +kernel
theorem dX6_setStep_83 : decode cX6_setStep 83 = .ok (.invokevirtual 77, 3) := by decide +kernel
theorem dX6_setStep_86 : decode cX6_setStep 86 = .ok (.aload 5, 2) := by decide +kernel
theorem dX6_setStep_88 : decode cX6_setStep 88 = .ok (.getfield 81, 3) := by decide +kernel
theorem dX6_setStep_91 : decode cX6_setStep 91 = .ok (.ireturn, 1) := by decide +kernel
theorem dX6_setStep_92 : decode cX6_setStep 92 = .ok (.aload 5, 2) := by decide +kernel
theorem dX6_setStep_94 : decode cX6_setStep 94 = .ok (.iload_n 2, 1) := by decide +kernel
theorem dX6_setStep_95 : decode cX6_setStep 95 = .ok (.invokevirtual 85, 3) := by decide +kernel
theorem dX6_setStep_98 : decode cX6_setStep 98 = .ok (.ifCond .ne 6, 3) := by decide +kernel
theorem dX6_setStep_101 : decode cX6_setStep 101 = .ok (.bipush (-3), 2) := by decide +kernel
theorem dX6_setStep_103 : decode cX6_setStep 103 = .ok (.ireturn, 1) := by decide +kernel
theorem dX6_setStep_104 : decode cX6_setStep 104 = .ok (.aload_n 0, 1) := by decide +kernel
theorem dX6_setStep_105 : decode cX6_setStep 105 = .ok (.getfield 22, 3) := by decide +kernel
theorem dX6_setStep_108 : decode cX6_setStep 108 = .ok (.aload_n 0, 1) := by decide +kernel
theorem dX6_setStep_109 : decode cX6_setStep 109 = .ok (.getfield 10, 3) := by decide +kernel
theorem dX6_setStep_112 : decode cX6_setStep 112 = .ok (.invokevirtual 51, 3) := by decide +kernel
theorem dX6_setStep_115 : decode cX6_setStep 115 = .ok (.aload 5, 2) := by decide +kernel
theorem dX6_setStep_117 : decode cX6_setStep 117 = .ok (.iload_n 2, 1) := by decide +kernel
theorem dX6_setStep_118 : decode cX6_setStep 118 = .ok (.iload_n 3, 1) := by decide +kernel
theorem dX6_setStep_119 : decode cX6_setStep 119 = .ok (.iload 4, 2) := by decide +kernel
theorem dX6_setStep_121 : decode cX6_setStep 121 = .ok (.invokevirtual 88, 3) := by decide +kernel
theorem dX6_setStep_124 : decode cX6_setStep 124 = .ok (.aload 5, 2) := by decide +kernel
theorem dX6_setStep_126 : decode cX6_setStep 126 = .ok (.getfield 81, 3) := by decide +kernel
theorem dX6_setStep_129 : decode cX6_setStep 129 = .ok (.ireturn, 1) := by decide +kernel
set_option maxRecDepth 20000 in
theorem ggX6_setNumber_X6_isWithin : GoodIn wsX6_setNumber wsX6_isWithin := goodIn_r _ [9] (by decide +kernel) (by decide +kernel)
set_option maxRecDepth 20000 in
theorem gX6_setNumber_X6_isWithin : GoodIn wsX6_setNumber (va_wsS RX6 33 yX6_isWithin wsX6_isWithin) := goodIn_app (goodIn_of _ (by decide +kernel)) ggX6_setNumber_X6_isWithin
set_option maxRecDepth 20000 in
theorem ggX6_setNumber_X1_save : GoodIn wsX6_setNumber wsX1_save := goodIn_r _ [14, 15, 16, 17, 18, 19, 13, 20, 21, 22, 23, 24, 25, 26, 27, 28, 29, 30, 31, 32, 33, 34, 8, 35, 36, 37, 38, 39, 40, 41, 42, 43, 44, 45, 46, 47, 48, 49, 50, 51, 52, 53, 54, 55, 56, 57, 58, 59, 60, 61, 62, 63, 64, 65, 66, 67, 68, 69, 70, 71, 72, 73, 74, 75, 76, 77, 78, 91, 92, 83, 84, 85, 86, 87, 88, 89, 90, 93, 94, 95, 96, 97, 98, 99, 100, 101, 102, 103, 104, 105, 106, 107, 108, 109, 110, 111, 112] (by decide +kernel) (by decide +kernel)
set_option maxRecDepth 20000 in
theorem gX6_setNumber_X1_save : GoodIn wsX6_setNumber (wsV RX6 51 RX1 yX1_save wsX1_save) := goodIn_app (goodIn_of _ (by decide +kernel)) ggX6_setNumber_X1_save
theorem dX6_setNumber_0 : decode cX6_setNumber 0 = .ok (.iload_n 1, 1) := by decide +kernel
theorem dX6_setNumber_1 : decode cX6_setNumber 1 = .ok (.iconst 0, 1) := by decide +kernel
theorem dX6_setNumber_2 : decode cX6_setNumber 2 = .ok (.iconst 4, 1) := by decide +kernel
theorem dX6_setNumber_3 : decode cX6_setNumber 3 = .ok (.invokestatic 33, 3) := by decide +kernel
theorem dX6_setNumber_6 : decode cX6_setNumber 6 = .ok (.ifCond .eq 20, 3) := by decide +kernel
theorem dX6_setNumber_9 : decode cX6_setNumber 9 = .ok (.iload_n 2, 1) := by decide +kernel
theorem dX6_setNumber_10 : decode cX6_setNumber 10 = .ok (.getstatic 92, 3) := by decide +kernel
theorem dX6_setNumber_13 : decode cX6_setNumber 13 = .ok (.iload_n 1, 1) := by decide +kernel
theorem dX6_setNumber_14 : decode cX6_setNumber 14 = .ok (.iaload, 1) := by decide +kernel
theorem dX6_setNumber_15 : decode cX6_setNumber 15 = .ok (.getstatic 95, 3) := by decide +kernel
theorem dX6_setNumber_18 : decode cX6_setNumber 18 = .ok (.iload_n 1, 1) := by decide +kernel
theorem dX6_setNumber_19 : decode cX6_setNumber 19 = .ok (.iaload, 1) := by decide +kernel
theorem dX6_setNumber_20 : decode cX6_setNumber 20 = .ok (.invokestatic 33, 3) := by decide +kernel
theorem dX6_setNumber_23 : decode cX6_setNumber 23 = .ok (.ifCond .ne 5, 3) := by decide +kernel
theorem dX6_setNumber_26 : decode cX6_setNumber 26 = .ok (.iconst (-1), 1) := by decide +kernel
theorem dX6_setNumber_27 : decode cX6_setNumber 27 = .ok (.ireturn, 1) := by decide +kernel
theorem dX6_setNumber_28 : decode cX6_setNumber 28 = .ok (.aload_n 0, 1) := by decide +kernel
theorem dX6_setNumber_29 : decode cX6_setNumber 29 = .ok (.getfield 22, 3) := by decide +kernel
theorem dX6_setNumber_32 : decode cX6_setNumber 32 = .ok (.aload_n 0, 1) := by decide +kernel
theorem dX6_setNumber_33 : decode cX6_setNumber 33 = .ok (.getfield 10, 3) := by decide +kernel
theorem dX6_setNumber_36 : decode cX6_setNumber 36 = .ok (.invokevirtual 51, 3) := by decide +kernel
theorem dX6_setNumber_39 : decode cX6_setNumber 39 = .ok (.aload_n 0, 1) := by decide +kernel
theorem dX6_setNumber_40 : decode cX6_setNumber 40 = .ok (.getfield 10, 3) := by decide +kernel
theorem dX6_setNumber_43 : decode cX6_setNumber 43 = .ok (.getfield 98, 3) := by decide +kernel
theorem dX6_setNumber_46 : decode cX6_setNumber 46 = .ok (.iload_n 1, 1) := by decide +kernel
theorem dX6_setNumber_47 : decode cX6_setNumber 47 = .ok (.iaload, 1) := by decide +kernel
theorem dX6_setNumber_48 : decode cX6_setNumber 48 = .ok (.istore_n 3, 1) := by decide +kernel
theorem dX6_setNumber_49 : decode cX6_setNumber 49 = .ok (.aload_n 0, 1) := by decide +kernel
theorem dX6_setNumber_50 : decode cX6_setNumber 50 = .ok (.getfield 10, 3) := by decide +kernel
theorem dX6_setNumber_53 : decode cX6_setNumber 53 = .ok (.getfield 98, 3) := by decide +kernel
theorem dX6_setNumber_56 : decode cX6_setNumber 56 = .ok (.iload_n 1, 1) := by decide +kernel
theorem dX6_setNumber_57 : decode cX6_setNumber 57 = .ok (.iload_n 2, 1) := by decide +kernel
theorem dX6_setNumber_58 : decode cX6_setNumber 58 = .ok (.iastore, 1) := by decide +kernel
theorem dX6_setNumber_59 : decode cX6_setNumber 59 = .ok (.iload_n 3, 1) := by decide +kernel
theorem dX6_setNumber_60 : decode cX6_setNumber 60 = .ok (.ireturn, 1) := by decide +kernel
set_option maxRecDepth 20000 in
theorem ggX6_reserve_X6_isPlate : GoodIn wsX6_reserve wsX6_isPlate := goodIn_r _ [10, 11, 12, 9, 13] (by decide +kernel) (by decide +kernel)
set_option maxRecDepth 20000 in
theorem gX6_reserve_X6_isPlate : GoodIn wsX6_reserve (va_wsS RX6 119 yX6_isPlate wsX6_isPlate) := goodIn_app (goodIn_of _ (by decide +kernel)) ggX6_reserve_X6_isPlate
set_option maxRecDepth 20000 in
theorem ggX6_reserve_X6_isWithin : GoodIn wsX6_reserve wsX6_isWithin := goodIn_r _ [13] (by decide +kernel) (by decide +kernel)
set_option maxRecDepth 20000 in
theorem gX6_reserve_X6_isWithin : GoodIn wsX6_reserve (va_wsS RX6 33 yX6_isWithin wsX6_isWithin) := goodIn_app (goodIn_of _ (by decide +kernel)) ggX6_reserve_X6_isWithin
set_option maxRecDepth 20000 in
theorem ggX6_reserve_X3_firstReservable : GoodIn wsX6_reserve wsX3_firstReservable := goodIn_r _ [18, 19, 20, 21, 22, 23, 24, 25, 26, 27, 28, 29, 30, 31, 32, 33, 34, 35, 17, 36, 37, 38, 39, 40, 41, 42, 43, 44, 45, 46, 47, 48, 49, 50, 51, 52, 53, 54, 55, 56, 57, 58, 59, 60, 61, 62, 63, 64, 65, 66, 67, 68, 69, 70, 71, 72, 73, 74, 75, 76, 77, 78, 79, 160, 161, 162, 163, 164, 165, 166, 167, 168, 169, 170, 171, 172, 173, 174, 175, 176, 177, 178, 179, 180, 181, 182, 183] (by decide +kernel) (by decide +kernel)
set_option maxRecDepth 20000 in
theorem gX6_reserve_X3_firstReservable : GoodIn wsX6_reserve (wsV RX6 125 RX3 yX3_firstReservable wsX3_firstReservable) := goodIn_app (goodIn_of _ (by decide +kernel)) ggX6_reserve_X3_firstReservable
set_option maxRecDepth 20000 in
theorem ggX6_reserve_X2_isFull : GoodIn wsX6_reserve wsX2_isFull := goodIn_r _ [83, 50, 177, 178, 179, 180, 181, 182, 183] (by decide +kernel) (by decide +kernel)
set_option maxRecDepth 20000 in
theorem gX6_reserve_X2_isFull : GoodIn wsX6_reserve (wsV RX6 132 RX2 yX2_isFull wsX2_isFull) := goodIn_app (goodIn_of _ (by decide +kernel)) ggX6_reserve_X2_isFull
set_option maxRecDepth 20000 in
theorem ggX6_reserve_X0_has : GoodIn wsX6_reserve wsX0_has := goodIn_r _ [31, 32, 168, 169, 170, 171, 172, 173, 174, 175, 176] (by decide +kernel) (by decide +kernel)
set_option maxRecDepth 20000 in
theorem gX6_reserve_X0_has : GoodIn wsX6_reserve (wsV RX6 59 RX0 yX0_has wsX0_has) := goodIn_app (goodIn_of _ (by decide +kernel)) ggX6_reserve_X0_has
set_option maxRecDepth 20000 in
theorem ggX6_reserve_X1_save : GoodIn wsX6_reserve wsX1_save := goodIn_r _ [89, 90, 91, 92, 93, 94, 88, 95, 96, 97, 98, 17, 99, 38, 100, 37, 101, 19, 39, 102, 103, 104, 9, 105, 106, 107, 108, 109, 110, 111, 112, 113, 114, 115, 116, 24, 117, 32, 118, 119, 27, 26, 44, 120, 121, 122, 123, 124, 125, 48, 126, 50, 127, 51, 56, 57, 128, 62, 129, 130, 131, 132, 133, 134, 135, 136, 137, 184, 185, 160, 161, 162, 163, 164, 165, 166, 167, 168, 169, 170, 171, 172, 173, 174, 175, 176, 177, 178, 179, 180, 181, 182, 183, 186, 187, 188, 189] (by decide +kernel) (by decide +kernel)
set_option maxRecDepth 20000 in
theorem gX6_reserve_X1_save : GoodIn wsX6_reserve (wsV RX6 51 RX1 yX1_save wsX1_save) := goodIn_app (goodIn_of _ (by decide +kernel)) ggX6_reserve_X1_save
set_option maxRecDepth 20000 in
theorem ggX6_reserve_X3_normalFee : GoodIn wsX6_reserve wsX3_normalFee := goodIn_r _ [141, 37, 102, 142, 107, 108, 109, 143, 144, 145, 132, 146, 134, 135, 147, 137, 136, 148, 149, 150, 160, 161, 162, 163, 164, 165, 166, 167, 186, 187, 188, 189] (by decide +kernel) (by decide +kernel)
set_option maxRecDepth 20000 in
theorem gX6_reserve_X3_normalFee : GoodIn wsX6_reserve (wsV RX6 135 RX3 yX3_normalFee wsX3_normalFee) := goodIn_app (goodIn_of _ (by decide +kernel)) ggX6_reserve_X3_normalFee
set_option maxRecDepth 20000 in
theorem ggX6_reserve_X2_add : GoodIn wsX6_reserve wsX2_add := goodIn_r _ [154, 50, 127, 51, 56, 57, 128, 62, 155, 81, 82, 48, 83, 177, 178, 179, 180, 181, 182, 183] (by decide +kernel) (by decide +kernel)
set_option maxRecDepth 20000 in
theorem gX6_reserve_X2_add : GoodIn wsX6_reserve (wsV RX6 142 RX2 yX2_add wsX2_add) := goodIn_app (goodIn_of _ (by decide +kernel)) ggX6_reserve_X2_add
theorem dX6_reserve_0 : decode cX6_reserve 0 = .ok (.iload_n 1, 1) := by decide +kernel
theorem dX6_reserve_1 : decode cX6_reserve 1 = .ok (.invokestatic 119, 3) := by decide +kernel
theorem dX6_reserve_4 : decode cX6_reserve 4 = .ok (.ifCond .eq 45, 3) := by decide +kernel
theorem dX6_reserve_7 : decode cX6_reserve 7 = .ok (.iload_n 2, 1) := by decide +kernel
theorem dX6_reserve_8 : decode cX6_reserve 8 = .ok (.iconst 0, 1) := by decide +kernel
theorem dX6_reserve_9 : decode cX6_reserve 9 = .ok (.iconst 2, 1) := by decide +kernel
theorem dX6_reserve_10 : decode cX6_reserve 10 = .ok (.invokestatic 33, 3) := by decide +kernel
theorem dX6_reserve_13 : decode cX6_reserve 13 = .ok (.ifCond .eq 36, 3) := by decide +kernel
theorem dX6_reserve_16 : decode cX6_reserve 16 = .ok (.iload_n 3, 1) := by decide +kernel
theorem dX6_reserve_17 : decode cX6_reserve 17 = .ok (.aload_n 0, 1) := by decide +kernel
theorem dX6_reserve_18 : decode cX6_reserve 18 = .ok (.getfield 10, 3) := by decide +kernel
theorem dX6_reserve_21 : decode cX6_reserve 21 = .ok (.getfield 122, 3) := by decide +kernel
theorem dX6_reserve_24 : decode cX6_reserve 24 = .ok (.sipush 20000, 3) := by decide +kernel
theorem dX6_reserve_27 : decode cX6_reserve 27 = .ok (.invokestatic 33, 3) := by decide +kernel
theorem dX6_reserve_30 : decode cX6_reserve 30 = .ok (.ifCond .eq 19, 3) := by decide +kernel
theorem dX6_reserve_33 : decode cX6_reserve 33 = .ok (.iload 4, 2) := by decide +kernel
theorem dX6_reserve_35 : decode cX6_reserve 35 = .ok (.iload_n 3, 1) := by decide +kernel
theorem dX6_reserve_36 : decode cX6_reserve 36 = .ok (.iconst 1, 1) := by decide +kernel
theorem dX6_reserve_37 : decode cX6_reserve 37 = .ok (.iadd, 1) := by decide +kernel
theorem dX6_reserve_38 : decode cX6_reserve 38 = .ok (.iload_n 3, 1) := by decide +kernel
theorem dX6_reserve_39 : decode cX6_reserve 39 = .ok (.sipush 1440, 3) := by decide +kernel
theorem dX6_reserve_42 : decode cX6_reserve 42 = .ok (.iadd, 1) := by decide +kernel
theorem dX6_reserve_43 : decode cX6_reserve 43 = .ok (.invokestatic 33, 3) := by decide +kernel
theorem dX6_reserve_46 : decode cX6_reserve 46 = .ok (.ifCond .ne 5, 3) := by decide +kernel
theorem dX6_reserve_49 : decode cX6_reserve 49 = .ok (.iconst (-1), 1) := by decide +kernel
theorem dX6_reserve_50 : decode cX6_reserve 50 = .ok (.ireturn, 1) := by decide +kernel
theorem dX6_reserve_51 : decode cX6_reserve 51 = .ok (.aload_n 0, 1) := by decide +kernel
theorem dX6_reserve_52 : decode cX6_reserve 52 = .ok (.getfield 10, 3) := by decide +kernel
theorem dX6_reserve_55 : decode cX6_reserve 55 = .ok (.iload_n 2, 1) := by decide +kernel
theorem dX6_reserve_56 : decode cX6_reserve 56 = .ok (.iload_n 3, 1) := by decide +kernel
theorem dX6_reserve_57 : decode cX6_reserve 57 = .ok (.iload 4, 2) := by decide +kernel
theorem dX6_reserve_59 : decode cX6_reserve 59 = .ok (.invokevirtual 125, 3) := by decide +kernel
theorem dX6_reserve_62 : decode cX6_reserve 62 = .ok (.istore 5, 2) := by decide +kernel
theorem dX6_reserve_64 : decode cX6_reserve 64 = .ok (.aload_n 0, 1) := by decide +kernel
theorem dX6_reserve_65 : decode cX6_reserve 65 = .ok (.getfield 10, 3) := by decide +kernel
theorem dX6_reserve_68 : decode cX6_reserve 68 = .ok (.getfield 128, 3) := by decide +kernel
theorem dX6_reserve_71 : decode cX6_reserve 71 = .ok (.invokevirtual 132, 3) := by decide +kernel
theorem dX6_reserve_74 : decode cX6_reserve 74 = .ok (.ifCond .ne 18, 3) := by decide +kernel
theorem dX6_reserve_77 : decode cX6_reserve 77 = .ok (.aload_n 0, 1) := by decide +kernel
theorem dX6_reserve_78 : decode cX6_reserve 78 = .ok (.getfield 10, 3) := by decide +kernel
theorem dX6_reserve_81 : decode cX6_reserve 81 = .ok (.getfield 37, 3) := by decide +kernel
theorem dX6_reserve_84 : decode cX6_reserve 84 = .ok (.iload 5, 2) := by decide +kernel
theorem dX6_reserve_86 : decode cX6_reserve 86 = .ok (.invokevirtual 59, 3) := by decide +kernel
theorem dX6_reserve_89 : decode cX6_reserve 89 = .ok (.ifCond .ne 6, 3) := by decide +kernel
theorem dX6_reserve_92 : decode cX6_reserve 92 = .ok (.bipush (-3), 2) := by decide +kernel
theorem dX6_reserve_94 : decode cX6_reserve 94 = .ok (.ireturn, 1) := by decide +kernel
theorem dX6_reserve_95 : decode cX6_reserve 95 = .ok (.aload_n 0, 1) := by decide +kernel
theorem dX6_reserve_96 : decode cX6_reserve 96 = .ok (.getfield 22, 3) := by decide +kernel
theorem dX6_reserve_99 : decode cX6_reserve 99 = .ok (.aload_n 0, 1) := by decide +kernel
theorem dX6_reserve_100 : decode cX6_reserve 100 = .ok (.getfield 10, 3) := by decide +kernel
theorem dX6_reserve_103 : decode cX6_reserve 103 = .ok (.invokevirtual 51, 3) := by decide +kernel
theorem dX6_reserve_106 : decode cX6_reserve 106 = .ok (.aload_n 0, 1) := by decide +kernel
theorem dX6_reserve_107 : decode cX6_reserve 107 = .ok (.getfield 10, 3) := by decide +kernel
theorem dX6_reserve_110 : decode cX6_reserve 110 = .ok (.iload 4, 2) := by decide +kernel
theorem dX6_reserve_112 : decode cX6_reserve 112 = .ok (.iload_n 3, 1) := by decide +kernel
theorem dX6_reserve_113 : decode cX6_reserve 113 = .ok (.isub, 1) := by decide +kernel
theorem dX6_reserve_114 : decode cX6_reserve 114 = .ok (.invokevirtual 135, 3) := by decide +kernel
theorem dX6_reserve_117 : decode cX6_reserve 117 = .ok (.istore 6, 2) := by decide +kernel
theorem dX6_reserve_119 : decode cX6_reserve 119 = .ok (.aload_n 0, 1) := by decide +kernel
theorem dX6_reserve_120 : decode cX6_reserve 120 = .ok (.getfield 10, 3) := by decide +kernel
theorem dX6_reserve_123 : decode cX6_reserve 123 = .ok (.getfield 139, 3) := by decide +kernel
theorem dX6_reserve_126 : decode cX6_reserve 126 = .ok (.iconst 1, 1) := by decide +kernel
theorem dX6_reserve_127 : decode cX6_reserve 127 = .ok (.dup2, 1) := by decide +kernel
theorem dX6_reserve_128 : decode cX6_reserve 128 = .ok (.iaload, 1) := by decide +kernel
theorem dX6_reserve_129 : decode cX6_reserve 129 = .ok (.iload 6, 2) := by decide +kernel
theorem dX6_reserve_131 : decode cX6_reserve 131 = .ok (.iadd, 1) := by decide +kernel
theorem dX6_reserve_132 : decode cX6_reserve 132 = .ok (.iastore, 1) := by decide +kernel
theorem dX6_reserve_133 : decode cX6_reserve 133 = .ok (.aload_n 0, 1) := by decide +kernel
theorem dX6_reserve_134 : decode cX6_reserve 134 = .ok (.getfield 10, 3) := by decide +kernel
theorem dX6_reserve_137 : decode cX6_reserve 137 = .ok (.getfield 128, 3) := by decide +kernel
theorem dX6_reserve_140 : decode cX6_reserve 140 = .ok (.iload_n 1, 1) := by decide +kernel
theorem dX6_reserve_141 : decode cX6_reserve 141 = .ok (.iload 5, 2) := by decide +kernel
theorem dX6_reserve_143 : decode cX6_reserve 143 = .ok (.iload_n 3, 1) := by decide +kernel
theorem dX6_reserve_144 : decode cX6_reserve 144 = .ok (.iload 4, 2) := by decide +kernel
theorem dX6_reserve_146 : decode cX6_reserve 146 = .ok (.iload 6, 2) := by decide +kernel
theorem dX6_reserve_148 : decode cX6_reserve 148 = .ok (.invokevirtual 142, 3) := by decide +kernel
theorem dX6_reserve_151 : decode cX6_reserve 151 = .ok (.ireturn, 1) := by decide +kernel
set_option maxRecDepth 20000 in
theorem ggX6_cancel_X2_has : GoodIn wsX6_cancel wsX2_has := goodIn_r _ [13, 14, 95, 96, 97, 98, 99, 100, 101] (by decide +kernel) (by decide +kernel)
set_option maxRecDepth 20000 in
theorem gX6_cancel_X2_has : GoodIn wsX6_cancel (wsV RX6 145 RX2 yX2_has wsX2_has) := goodIn_app (goodIn_of _ (by decide +kernel)) ggX6_cancel_X2_has
set_option maxRecDepth 20000 in
theorem ggX6_cancel_X1_save : GoodIn wsX6_cancel wsX1_save := goodIn_r _ [19, 20, 21, 22, 23, 24, 18, 25, 26, 27, 28, 29, 30, 31, 32, 33, 34, 35, 36, 37, 38, 39, 40, 41, 42, 43, 44, 45, 46, 47, 48, 49, 50, 51, 52, 53, 54, 55, 56, 57, 58, 59, 60, 61, 62, 63, 64, 65, 66, 12, 67, 14, 68, 69, 70, 71, 72, 73, 74, 75, 76, 77, 78, 79, 80, 81, 82, 102, 103, 87, 88, 89, 90, 91, 92, 93, 94, 104, 105, 106, 107, 108, 109, 110, 111, 112, 95, 96, 97, 98, 99, 100, 101, 113, 114, 115, 116] (by decide +kernel) (by decide +kernel)
set_option maxRecDepth 20000 in
theorem gX6_cancel_X1_save : GoodIn wsX6_cancel (wsV RX6 51 RX1 yX1_save wsX1_save) := goodIn_app (goodIn_of _ (by decide +kernel)) ggX6_cancel_X1_save
theorem dX6_cancel_0 : decode cX6_cancel 0 = .ok (.aload_n 0, 1) := by decide +kernel
theorem dX6_cancel_1 : decode cX6_cancel 1 = .ok (.getfield 10, 3) := by decide +kernel
theorem dX6_cancel_4 : decode cX6_cancel 4 = .ok (.getfield 128, 3) := by decide +kernel
theorem dX6_cancel_7 : decode cX6_cancel 7 = .ok (.iload_n 1, 1) := by decide +kernel
theorem dX6_cancel_8 : decode cX6_cancel 8 = .ok (.invokevirtual 145, 3) := by decide +kernel
theorem dX6_cancel_11 : decode cX6_cancel 11 = .ok (.ifCond .ne 5, 3) := by decide +kernel
theorem dX6_cancel_14 : decode cX6_cancel 14 = .ok (.iconst (-1), 1) := by decide +kernel
theorem dX6_cancel_15 : decode cX6_cancel 15 = .ok (.ireturn, 1) := by decide +kernel
theorem dX6_cancel_16 : decode cX6_cancel 16 = .ok (.aload_n 0, 1) := by decide +kernel
theorem dX6_cancel_17 : decode cX6_cancel 17 = .ok (.getfield 10, 3) := by decide +kernel
theorem dX6_cancel_20 : decode cX6_cancel 20 = .ok (.getfield 128, 3) := by decide +kernel
theorem dX6_cancel_23 : decode cX6_cancel 23 = .ok (.getfield 146, 3) := by decide +kernel
theorem dX6_cancel_26 : decode cX6_cancel 26 = .ok (.iload_n 1, 1) := by decide +kernel
theorem dX6_cancel_27 : decode cX6_cancel 27 = .ok (.iaload, 1) := by decide +kernel
theorem dX6_cancel_28 : decode cX6_cancel 28 = .ok (.ifCond .eq 6, 3) := by decide +kernel
theorem dX6_cancel_31 : decode cX6_cancel 31 = .ok (.bipush (-2), 2) := by decide +kernel
theorem dX6_cancel_33 : decode cX6_cancel 33 = .ok (.ireturn, 1) := by decide +kernel
theorem dX6_cancel_34 : decode cX6_cancel 34 = .ok (.aload_n 0, 1) := by decide +kernel
theorem dX6_cancel_35 : decode cX6_cancel 35 = .ok (.getfield 22, 3) := by decide +kernel
theorem dX6_cancel_38 : decode cX6_cancel 38 = .ok (.aload_n 0, 1) := by decide +kernel
theorem dX6_cancel_39 : decode cX6_cancel 39 = .ok (.getfield 10, 3) := by decide +kernel
theorem dX6_cancel_42 : decode cX6_cancel 42 = .ok (.invokevirtual 51, 3) := by decide +kernel
theorem dX6_cancel_45 : decode cX6_cancel 45 = .ok (.aload_n 0, 1) := by decide +kernel
theorem dX6_cancel_46 : decode cX6_cancel 46 = .ok (.getfield 10, 3) := by decide +kernel
theorem dX6_cancel_49 : decode cX6_cancel 49 = .ok (.getfield 128, 3) := by decide +kernel
theorem dX6_cancel_52 : decode cX6_cancel 52 = .ok (.getfield 149, 3) := by decide +kernel
theorem dX6_cancel_55 : decode cX6_cancel 55 = .ok (.iload_n 1, 1) := by decide +kernel
theorem dX6_cancel_56 : decode cX6_cancel 56 = .ok (.iaload, 1) := by decide +kernel
theorem dX6_cancel_57 : decode cX6_cancel 57 = .ok (.aload_n 0, 1) := by decide +kernel
theorem dX6_cancel_58 : decode cX6_cancel 58 = .ok (.getfield 10, 3) := by decide +kernel
theorem dX6_cancel_61 : decode cX6_cancel 61 = .ok (.getfield 122, 3) := by decide +kernel
theorem dX6_cancel_64 : decode cX6_cancel 64 = .ok (.if_icmp .le 20, 3) := by decide +kernel
theorem dX6_cancel_67 : decode cX6_cancel 67 = .ok (.aload_n 0, 1) := by decide +kernel
theorem dX6_cancel_68 : decode cX6_cancel 68 = .ok (.getfield 10, 3) := by decide +kernel
theorem dX6_cancel_71 : decode cX6_cancel 71 = .ok (.getfield 128, 3) := by decide +kernel
theorem dX6_cancel_74 : decode cX6_cancel 74 = .ok (.getfield 152, 3) := by decide +kernel
theorem dX6_cancel_77 : decode cX6_cancel 77 = .ok (.iload_n 1, 1) := by decide +kernel
theorem dX6_cancel_78 : decode cX6_cancel 78 = .ok (.iaload, 1) := by decide +kernel
theorem dX6_cancel_79 : decode cX6_cancel 79 = .ok (.iconst 2, 1) := by decide +kernel
theorem dX6_cancel_80 : decode cX6_cancel 80 = .ok (.idiv, 1) := by decide +kernel
theorem dX6_cancel_81 : decode cX6_cancel 81 = .ok (.goto 4, 3) := by decide +kernel
theorem dX6_cancel_84 : decode cX6_cancel 84 = .ok (.iconst 0, 1) := by decide +kernel
theorem dX6_cancel_85 : decode cX6_cancel 85 = .ok (.istore_n 2, 1) := by decide +kernel
theorem dX6_cancel_86 : decode cX6_cancel 86 = .ok (.aload_n 0, 1) := by decide +kernel
theorem dX6_cancel_87 : decode cX6_cancel 87 = .ok (.getfield 10, 3) := by decide +kernel
theorem dX6_cancel_90 : decode cX6_cancel 90 = .ok (.getfield 128, 3) := by decide +kernel
theorem dX6_cancel_93 : decode cX6_cancel 93 = .ok (.getfield 146, 3) := by decide +kernel
theorem dX6_cancel_96 : decode cX6_cancel 96 = .ok (.iload_n 1, 1) := by decide +kernel
theorem dX6_cancel_97 : decode cX6_cancel 97 = .ok (.iconst 3, 1) := by decide +kernel
theorem dX6_cancel_98 : decode cX6_cancel 98 = .ok (.iastore, 1) := by decide +kernel
theorem dX6_cancel_99 : decode cX6_cancel 99 = .ok (.aload_n 0, 1) := by decide +kernel
theorem dX6_cancel_100 : decode cX6_cancel 100 = .ok (.getfield 10, 3) := by decide +kernel
theorem dX6_cancel_103 : decode cX6_cancel 103 = .ok (.getfield 139, 3) := by decide +kernel
theorem dX6_cancel_106 : decode cX6_cancel 106 = .ok (.iconst 1, 1) := by decide +kernel
theorem dX6_cancel_107 : decode cX6_cancel 107 = .ok (.dup2, 1) := by decide +kernel
theorem dX6_cancel_108 : decode cX6_cancel 108 = .ok (.iaload, 1) := by decide +kernel
theorem dX6_cancel_109 : decode cX6_cancel 109 = .ok (.iload_n 2, 1) := by decide +kernel
theorem dX6_cancel_110 : decode cX6_cancel 110 = .ok (.isub, 1) := by decide +kernel
theorem dX6_cancel_111 : decode cX6_cancel 111 = .ok (.iastore, 1) := by decide +kernel
theorem dX6_cancel_112 : decode cX6_cancel 112 = .ok (.iload_n 2, 1) := by decide +kernel
theorem dX6_cancel_113 : decode cX6_cancel 113 = .ok (.ireturn, 1) := by decide +kernel
set_option maxRecDepth 20000 in
theorem ggX6_enter_X6_isPlate : GoodIn wsX6_enter wsX6_isPlate := goodIn_r _ [10, 11, 12, 9, 13] (by decide +kernel) (by decide +kernel)
set_option maxRecDepth 20000 in
theorem gX6_enter_X6_isPlate : GoodIn wsX6_enter (va_wsS RX6 119 yX6_isPlate wsX6_isPlate) := goodIn_app (goodIn_of _ (by decide +kernel)) ggX6_enter_X6_isPlate
set_option maxRecDepth 20000 in
theorem ggX6_enter_X6_isWithin : GoodIn wsX6_enter wsX6_isWithin := goodIn_r _ [13] (by decide +kernel) (by decide +kernel)
set_option maxRecDepth 20000 in
theorem gX6_enter_X6_isWithin : GoodIn wsX6_enter (va_wsS RX6 33 yX6_isWithin wsX6_isWithin) := goodIn_app (goodIn_of _ (by decide +kernel)) ggX6_enter_X6_isWithin
set_option maxRecDepth 20000 in
theorem ggX6_enter_X0_withPlate : GoodIn wsX6_enter wsX0_withPlate := goodIn_r _ [18, 19, 20, 176, 177, 178, 179, 180, 181, 182, 183, 184] (by decide +kernel) (by decide +kernel)
set_option maxRecDepth 20000 in
theorem gX6_enter_X0_withPlate : GoodIn wsX6_enter (wsV RX6 155 RX0 yX0_withPlate wsX0_withPlate) := goodIn_app (goodIn_of _ (by decide +kernel)) ggX6_enter_X0_withPlate
set_option maxRecDepth 20000 in
theorem ggX6_enter_X0_has : GoodIn wsX6_enter wsX0_has := goodIn_r _ [24, 19, 176, 177, 178, 179, 180, 181, 182, 183, 184] (by decide +kernel) (by decide +kernel)
set_option maxRecDepth 20000 in
theorem gX6_enter_X0_has : GoodIn wsX6_enter (wsV RX6 59 RX0 yX0_has wsX0_has) := goodIn_app (goodIn_of _ (by decide +kernel)) ggX6_enter_X0_has
set_option maxRecDepth 20000 in
theorem ggX6_enter_X3_usableReservation : GoodIn wsX6_enter wsX3_usableReservation := goodIn_r _ [29, 30, 31, 32, 33, 34, 35, 36, 37, 38, 39, 40, 41, 42, 43, 44, 45, 46, 47, 48, 49, 50, 51, 52, 53, 54, 55, 56, 57, 58, 59, 60, 17, 61, 62, 63, 64, 22, 23, 24, 19, 65, 66, 67, 68, 20, 161, 162, 163, 164, 165, 166, 167, 168, 169, 170, 171, 172, 173, 174, 175, 176, 177, 178, 179, 180, 181, 182, 183, 184] (by decide +kernel) (by decide +kernel)
set_option maxRecDepth 20000 in
theorem gX6_enter_X3_usableReservation : GoodIn wsX6_enter (wsV RX6 158 RX3 yX3_usableReservation wsX3_usableReservation) := goodIn_app (goodIn_of _ (by decide +kernel)) ggX6_enter_X3_usableReservation
set_option maxRecDepth 20000 in
theorem ggX6_enter_X2_has : GoodIn wsX6_enter wsX2_has := goodIn_r _ [56, 40, 169, 170, 171, 172, 173, 174, 175] (by decide +kernel) (by decide +kernel)
set_option maxRecDepth 20000 in
theorem gX6_enter_X2_has : GoodIn wsX6_enter (wsV RX6 145 RX2 yX2_has wsX2_has) := goodIn_app (goodIn_of _ (by decide +kernel)) ggX6_enter_X2_has
set_option maxRecDepth 20000 in
theorem ggX6_enter_X3_firstFree : GoodIn wsX6_enter wsX3_firstFree := goodIn_r _ [73, 34, 74, 58, 59, 60, 17, 61, 62, 63, 64, 22, 23, 24, 19, 65, 66, 67, 68, 20, 75, 76, 77, 28, 78, 30, 31, 32, 79, 80, 81, 38, 82, 40, 83, 43, 44, 45, 46, 47, 48, 49, 50, 51, 52, 42, 53, 54, 55, 56, 57, 84, 85, 86, 87, 88, 89, 90, 91, 92, 93, 94, 95, 161, 162, 163, 164, 165, 166, 167, 168, 176, 177, 178, 179, 180, 181, 182, 183, 184, 169, 170, 171, 172, 173, 174, 175] (by decide +kernel) (by decide +kernel)
set_option maxRecDepth 20000 in
theorem gX6_enter_X3_firstFree : GoodIn wsX6_enter (wsV RX6 164 RX3 yX3_firstFree wsX3_firstFree) := goodIn_app (goodIn_of _ (by decide +kernel)) ggX6_enter_X3_firstFree
set_option maxRecDepth 20000 in
theorem ggX6_enter_X1_save : GoodIn wsX6_enter wsX1_save := goodIn_r _ [100, 101, 102, 103, 104, 105, 99, 106, 107, 108, 109, 28, 110, 31, 111, 32, 112, 34, 30, 113, 114, 115, 9, 116, 117, 118, 119, 120, 121, 122, 123, 124, 125, 126, 127, 17, 128, 19, 129, 130, 63, 62, 20, 131, 132, 133, 134, 135, 136, 38, 137, 40, 41, 83, 47, 48, 138, 42, 139, 140, 141, 142, 143, 144, 145, 146, 147, 185, 186, 161, 162, 163, 164, 165, 166, 167, 168, 176, 177, 178, 179, 180, 181, 182, 183, 184, 169, 170, 171, 172, 173, 174, 175, 187, 188, 189, 190] (by decide +kernel) (by decide +kernel)
set_option maxRecDepth 20000 in
theorem gX6_enter_X1_save : GoodIn wsX6_enter (wsV RX6 51 RX1 yX1_save wsX1_save) := goodIn_app (goodIn_of _ (by decide +kernel)) ggX6_enter_X1_save
set_option maxRecDepth 20000 in
theorem ggX6_enter_X3_letIn : GoodIn wsX6_enter wsX3_letIn := goodIn_r _ [151, 34, 111, 152, 153, 154, 31, 155, 30, 156, 89, 22, 23, 17, 24, 19, 57, 54, 55, 38, 56, 40, 161, 162, 163, 164, 165, 166, 167, 168, 176, 177, 178, 179, 180, 181, 182, 183, 184, 169, 170, 171, 172, 173, 174, 175] (by decide +kernel) (by decide +kernel)
set_option maxRecDepth 20000 in
theorem gX6_enter_X3_letIn : GoodIn wsX6_enter (wsV RX6 167 RX3 yX3_letIn wsX3_letIn) := goodIn_app (goodIn_of _ (by decide +kernel)) ggX6_enter_X3_letIn
theorem dX6_enter_0 : decode cX6_enter 0 = .ok (.iload_n 1, 1) := by decide +kernel
theorem dX6_enter_1 : decode cX6_enter 1 = .ok (.invokestatic 119, 3) := by decide +kernel
theorem dX6_enter_4 : decode cX6_enter 4 = .ok (.ifCond .eq 12, 3) := by decide +kernel
theorem dX6_enter_7 : decode cX6_enter 7 = .ok (.iload_n 2, 1) := by decide +kernel
theorem dX6_enter_8 : decode cX6_enter 8 = .ok (.iconst 0, 1) := by decide +kernel
theorem dX6_enter_9 : decode cX6_enter 9 = .ok (.iconst 2, 1) := by decide +kernel
theorem dX6_enter_10 : decode cX6_enter 10 = .ok (.invokestatic 33, 3) := by decide +kernel
theorem dX6_enter_13 : decode cX6_enter 13 = .ok (.ifCond .ne 5, 3) := by decide +kernel
theorem dX6_enter_16 : decode cX6_enter 16 = .ok (.iconst (-1), 1) := by decide +kernel
theorem dX6_enter_17 : decode cX6_enter 17 = .ok (.ireturn, 1) := by decide +kernel
theorem dX6_enter_18 : decode cX6_enter 18 = .ok (.aload_n 0, 1) := by decide +kernel
theorem dX6_enter_19 : decode cX6_enter 19 = .ok (.getfield 10, 3) := by decide +kernel
theorem dX6_enter_22 : decode cX6_enter 22 = .ok (.getfield 37, 3) := by decide +kernel
theorem dX6_enter_25 : decode cX6_enter 25 = .ok (.aload_n 0, 1) := by decide +kernel
theorem dX6_enter_26 : decode cX6_enter 26 = .ok (.getfield 10, 3) := by decide +kernel
theorem dX6_enter_29 : decode cX6_enter 29 = .ok (.getfield 37, 3) := by decide +kernel
theorem dX6_enter_32 : decode cX6_enter 32 = .ok (.iload_n 1, 1) := by decide +kernel
theorem dX6_enter_33 : decode cX6_enter 33 = .ok (.invokevirtual 155, 3) := by decide +kernel
theorem dX6_enter_36 : decode cX6_enter 36 = .ok (.invokevirtual 59, 3) := by decide +kernel
theorem dX6_enter_39 : decode cX6_enter 39 = .ok (.ifCond .eq 6, 3) := by decide +kernel
theorem dX6_enter_42 : decode cX6_enter 42 = .ok (.bipush (-2), 2) := by decide +kernel
theorem dX6_enter_44 : decode cX6_enter 44 = .ok (.ireturn, 1) := by decide +kernel
theorem dX6_enter_45 : decode cX6_enter 45 = .ok (.aload_n 0, 1) := by decide +kernel
theorem dX6_enter_46 : decode cX6_enter 46 = .ok (.getfield 10, 3) := by decide +kernel
theorem dX6_enter_49 : decode cX6_enter 49 = .ok (.iload_n 1, 1) := by decide +kernel
theorem dX6_enter_50 : decode cX6_enter 50 = .ok (.iload_n 2, 1) := by decide +kernel
theorem dX6_enter_51 : decode cX6_enter 51 = .ok (.invokevirtual 158, 3) := by decide +kernel
theorem dX6_enter_54 : decode cX6_enter 54 = .ok (.istore_n 3, 1) := by decide +kernel
theorem dX6_enter_55 : decode cX6_enter 55 = .ok (.aload_n 0, 1) := by decide +kernel
theorem dX6_enter_56 : decode cX6_enter 56 = .ok (.getfield 10, 3) := by decide +kernel
theorem dX6_enter_59 : decode cX6_enter 59 = .ok (.getfield 128, 3) := by decide +kernel
theorem dX6_enter_62 : decode cX6_enter 62 = .ok (.iload_n 3, 1) := by decide +kernel
theorem dX6_enter_63 : decode cX6_enter 63 = .ok (.invokevirtual 145, 3) := by decide +kernel
theorem dX6_enter_66 : decode cX6_enter 66 = .ok (.ifCond .eq 18, 3) := by decide +kernel
theorem dX6_enter_69 : decode cX6_enter 69 = .ok (.aload_n 0, 1) := by decide +kernel
theorem dX6_enter_70 : decode cX6_enter 70 = .ok (.getfield 10, 3) := by decide +kernel
theorem dX6_enter_73 : decode cX6_enter 73 = .ok (.getfield 128, 3) := by decide +kernel
theorem dX6_enter_76 : decode cX6_enter 76 = .ok (.getfield 162, 3) := by decide +kernel
theorem dX6_enter_79 : decode cX6_enter 79 = .ok (.iload_n 3, 1) := by decide +kernel
theorem dX6_enter_80 : decode cX6_enter 80 = .ok (.iaload, 1) := by decide +kernel
theorem dX6_enter_81 : decode cX6_enter 81 = .ok (.goto 11, 3) := by decide +kernel
theorem dX6_enter_84 : decode cX6_enter 84 = .ok (.aload_n 0, 1) := by decide +kernel
theorem dX6_enter_85 : decode cX6_enter 85 = .ok (.getfield 10, 3) := by decide +kernel
theorem dX6_enter_88 : decode cX6_enter 88 = .ok (.iload_n 2, 1) := by decide +kernel
theorem dX6_enter_89 : decode cX6_enter 89 = .ok (.invokevirtual 164, 3) := by decide +kernel
theorem dX6_enter_92 : decode cX6_enter 92 = .ok (.istore 4, 2) := by decide +kernel
theorem dX6_enter_94 : decode cX6_enter 94 = .ok (.aload_n 0, 1) := by decide +kernel
theorem dX6_enter_95 : decode cX6_enter 95 = .ok (.getfield 10, 3) := by decide +kernel
theorem dX6_enter_98 : decode cX6_enter 98 = .ok (.getfield 37, 3) := by decide +kernel
theorem dX6_enter_101 : decode cX6_enter 101 = .ok (.iload 4, 2) := by decide +kernel
theorem dX6_enter_103 : decode cX6_enter 103 = .ok (.invokevirtual 59, 3) := by decide +kernel
theorem dX6_enter_106 : decode cX6_enter 106 = .ok (.ifCond .ne 6, 3) := by decide +kernel
theorem dX6_enter_109 : decode cX6_enter 109 = .ok (.bipush (-3), 2) := by decide +kernel
theorem dX6_enter_111 : decode cX6_enter 111 = .ok (.ireturn, 1) := by decide +kernel
theorem dX6_enter_112 : decode cX6_enter 112 = .ok (.aload_n 0, 1) := by decide +kernel
theorem dX6_enter_113 : decode cX6_enter 113 = .ok (.getfield 22, 3) := by decide +kernel
theorem dX6_enter_116 : decode cX6_enter 116 = .ok (.aload_n 0, 1) := by decide +kernel
theorem dX6_enter_117 : decode cX6_enter 117 = .ok (.getfield 10, 3) := by decide +kernel
theorem dX6_enter_120 : decode cX6_enter 120 = .ok (.invokevirtual 51, 3) := by decide +kernel
theorem dX6_enter_123 : decode cX6_enter 123 = .ok (.aload_n 0, 1) := by decide +kernel
theorem dX6_enter_124 : decode cX6_enter 124 = .ok (.getfield 10, 3) := by decide +kernel
theorem dX6_enter_127 : decode cX6_enter 127 = .ok (.iload_n 1, 1) := by decide +kernel
theorem dX6_enter_128 : decode cX6_enter 128 = .ok (.iload 4, 2) := by decide +kernel
theorem dX6_enter_130 : decode cX6_enter 130 = .ok (.iload_n 3, 1) := by decide +kernel
theorem dX6_enter_131 : decode cX6_enter 131 = .ok (.invokevirtual 167, 3) := by decide +kernel
theorem dX6_enter_134 : decode cX6_enter 134 = .ok (.aload_n 0, 1) := by decide +kernel
theorem dX6_enter_135 : decode cX6_enter 135 = .ok (.getfield 10, 3) := by decide +kernel
theorem dX6_enter_138 : decode cX6_enter 138 = .ok (.getfield 170, 3) := by decide +kernel
theorem dX6_enter_141 : decode cX6_enter 141 = .ok (.ireturn, 1) := by decide +kernel
set_option maxRecDepth 20000 in
theorem ggX6_leave_X6_isWithin : GoodIn wsX6_leave wsX6_isWithin := goodIn_r _ [12] (by decide +kernel) (by decide +kernel)
set_option maxRecDepth 20000 in
theorem gX6_leave_X6_isWithin : GoodIn wsX6_leave (va_wsS RX6 33 yX6_isWithin wsX6_isWithin) := goodIn_app (goodIn_of _ (by decide +kernel)) ggX6_leave_X6_isWithin
set_option maxRecDepth 20000 in
theorem ggX6_leave_X0_withTicket : GoodIn wsX6_leave wsX0_withTicket := goodIn_r _ [17, 18, 19, 138, 139, 140, 141, 142, 143, 144, 145, 146] (by decide +kernel) (by decide +kernel)
set_option maxRecDepth 20000 in
theorem gX6_leave_X0_withTicket : GoodIn wsX6_leave (wsV RX6 173 RX0 yX0_withTicket wsX0_withTicket) := goodIn_app (goodIn_of _ (by decide +kernel)) ggX6_leave_X0_withTicket
set_option maxRecDepth 20000 in
theorem ggX6_leave_X0_has : GoodIn wsX6_leave wsX0_has := goodIn_r _ [23, 18, 138, 139, 140, 141, 142, 143, 144, 145, 146] (by decide +kernel) (by decide +kernel)
set_option maxRecDepth 20000 in
theorem gX6_leave_X0_has : GoodIn wsX6_leave (wsV RX6 59 RX0 yX0_has wsX0_has) := goodIn_app (goodIn_of _ (by decide +kernel)) ggX6_leave_X0_has
set_option maxRecDepth 20000 in
theorem ggX6_leave_X1_save : GoodIn wsX6_leave wsX1_save := goodIn_r _ [28, 29, 30, 31, 32, 33, 27, 34, 35, 36, 37, 38, 39, 40, 41, 42, 43, 44, 45, 46, 47, 48, 11, 49, 50, 51, 52, 53, 54, 55, 56, 57, 58, 59, 60, 16, 61, 18, 62, 63, 64, 65, 66, 19, 67, 68, 69, 70, 71, 72, 73, 74, 75, 76, 77, 78, 79, 80, 81, 82, 83, 84, 85, 86, 87, 88, 89, 147, 148, 130, 131, 132, 133, 134, 135, 136, 137, 138, 139, 140, 141, 142, 143, 144, 145, 146, 149, 150, 151, 152, 153, 154, 155, 156, 157, 158, 159] (by decide +kernel) (by decide +kernel)
set_option maxRecDepth 20000 in
theorem gX6_leave_X1_save : GoodIn wsX6_leave (wsV RX6 51 RX1 yX1_save wsX1_save) := goodIn_app (goodIn_of _ (by decide +kernel)) ggX6_leave_X1_save
set_option maxRecDepth 20000 in
theorem ggX6_leave_X3_feeAt : GoodIn wsX6_leave wsX3_feeAt := goodIn_r _ [93, 44, 94, 45, 95, 47, 96, 97, 21, 22, 16, 23, 18, 98, 99, 100, 72, 101, 74, 102, 103, 104, 38, 105, 42, 46, 106, 51, 52, 53, 107, 108, 109, 84, 110, 86, 87, 111, 89, 88, 112, 113, 114, 130, 131, 132, 133, 134, 135, 136, 137, 138, 139, 140, 141, 142, 143, 144, 145, 146, 149, 150, 151, 152, 153, 154, 155, 156, 157, 158, 159] (by decide +kernel) (by decide +kernel)
set_option maxRecDepth 20000 in
theorem gX6_leave_X3_feeAt : GoodIn wsX6_leave (wsV RX6 176 RX3 yX3_feeAt wsX3_feeAt) := goodIn_app (goodIn_of _ (by decide +kernel)) ggX6_leave_X3_feeAt
set_option maxRecDepth 20000 in
theorem ggX6_leave_X2_has : GoodIn wsX6_leave wsX2_has := goodIn_r _ [101, 74, 149, 150, 151, 152, 153, 154, 155] (by decide +kernel) (by decide +kernel)
set_option maxRecDepth 20000 in
theorem gX6_leave_X2_has : GoodIn wsX6_leave (wsV RX6 145 RX2 yX2_has wsX2_has) := goodIn_app (goodIn_of _ (by decide +kernel)) ggX6_leave_X2_has
set_option maxRecDepth 20000 in
theorem ggX6_leave_X3_letOut : GoodIn wsX6_leave wsX3_letOut := goodIn_r _ [119, 44, 94, 45, 120, 97, 21, 22, 16, 23, 18, 98, 99, 100, 72, 101, 74, 121, 122, 123, 124, 66, 19, 67, 68, 125, 130, 131, 132, 133, 134, 135, 136, 137, 138, 139, 140, 141, 142, 143, 144, 145, 146, 149, 150, 151, 152, 153, 154, 155] (by decide +kernel) (by decide +kernel)
set_option maxRecDepth 20000 in
theorem gX6_leave_X3_letOut : GoodIn wsX6_leave (wsV RX6 181 RX3 yX3_letOut wsX3_letOut) := goodIn_app (goodIn_of _ (by decide +kernel)) ggX6_leave_X3_letOut
theorem dX6_leave_0 : decode cX6_leave 0 = .ok (.iload_n 1, 1) := by decide +kernel
theorem dX6_leave_1 : decode cX6_leave 1 = .ok (.iconst 1, 1) := by decide +kernel
theorem dX6_leave_2 : decode cX6_leave 2 = .ok (.aload_n 0, 1) := by decide +kernel
theorem dX6_leave_3 : decode cX6_leave 3 = .ok (.getfield 10, 3) := by decide +kernel
theorem dX6_leave_6 : decode cX6_leave 6 = .ok (.getfield 170, 3) := by decide +kernel
theorem dX6_leave_9 : decode cX6_leave 9 = .ok (.invokestatic 33, 3) := by decide +kernel
theorem dX6_leave_12 : decode cX6_leave 12 = .ok (.ifCond .ne 5, 3) := by decide +kernel
theorem dX6_leave_15 : decode cX6_leave 15 = .ok (.iconst (-1), 1) := by decide +kernel
theorem dX6_leave_16 : decode cX6_leave 16 = .ok (.ireturn, 1) := by decide +kernel
theorem dX6_leave_17 : decode cX6_leave 17 = .ok (.aload_n 0, 1) := by decide +kernel
theorem dX6_leave_18 : decode cX6_leave 18 = .ok (.getfield 10, 3) := by decide +kernel
theorem dX6_leave_21 : decode cX6_leave 21 = .ok (.getfield 37, 3) := by decide +kernel
theorem dX6_leave_24 : decode cX6_leave 24 = .ok (.iload_n 1, 1) := by decide +kernel
theorem dX6_leave_25 : decode cX6_leave 25 = .ok (.invokevirtual 173, 3) := by decide +kernel
theorem dX6_leave_28 : decode cX6_leave 28 = .ok (.istore_n 2, 1) := by decide +kernel
theorem dX6_leave_29 : decode cX6_leave 29 = .ok (.aload_n 0, 1) := by decide +kernel
theorem dX6_leave_30 : decode cX6_leave 30 = .ok (.getfield 10, 3) := by decide +kernel
theorem dX6_leave_33 : decode cX6_leave 33 = .ok (.getfield 37, 3) := by decide +kernel
theorem dX6_leave_36 : decode cX6_leave 36 = .ok (.iload_n 2, 1) := by decide +kernel
theorem dX6_leave_37 : decode cX6_leave 37 = .ok (.invokevirtual 59, 3) := by decide +kernel
theorem dX6_leave_40 : decode cX6_leave 40 = .ok (.ifCond .ne 6, 3) := by decide +kernel
theorem dX6_leave_43 : decode cX6_leave 43 = .ok (.bipush (-2), 2) := by decide +kernel
theorem dX6_leave_45 : decode cX6_leave 45 = .ok (.ireturn, 1) := by decide +kernel
theorem dX6_leave_46 : decode cX6_leave 46 = .ok (.aload_n 0, 1) := by decide +kernel
theorem dX6_leave_47 : decode cX6_leave 47 = .ok (.getfield 22, 3) := by decide +kernel
theorem dX6_leave_50 : decode cX6_leave 50 = .ok (.aload_n 0, 1) := by decide +kernel
theorem dX6_leave_51 : decode cX6_leave 51 = .ok (.getfield 10, 3) := by decide +kernel
theorem dX6_leave_54 : decode cX6_leave 54 = .ok (.invokevirtual 51, 3) := by decide +kernel
theorem dX6_leave_57 : decode cX6_leave 57 = .ok (.aload_n 0, 1) := by decide +kernel
theorem dX6_leave_58 : decode cX6_leave 58 = .ok (.getfield 10, 3) := by decide +kernel
theorem dX6_leave_61 : decode cX6_leave 61 = .ok (.iload_n 2, 1) := by decide +kernel
theorem dX6_leave_62 : decode cX6_leave 62 = .ok (.aload_n 0, 1) := by decide +kernel
theorem dX6_leave_63 : decode cX6_leave 63 = .ok (.getfield 10, 3) := by decide +kernel
theorem dX6_leave_66 : decode cX6_leave 66 = .ok (.getfield 122, 3) := by decide +kernel
theorem dX6_leave_69 : decode cX6_leave 69 = .ok (.invokevirtual 176, 3) := by decide +kernel
theorem dX6_leave_72 : decode cX6_leave 72 = .ok (.istore_n 3, 1) := by decide +kernel
theorem dX6_leave_73 : decode cX6_leave 73 = .ok (.aload_n 0, 1) := by decide +kernel
theorem dX6_leave_74 : decode cX6_leave 74 = .ok (.getfield 10, 3) := by decide +kernel
theorem dX6_leave_77 : decode cX6_leave 77 = .ok (.getfield 128, 3) := by decide +kernel
theorem dX6_leave_80 : decode cX6_leave 80 = .ok (.aload_n 0, 1) := by decide +kernel
theorem dX6_leave_81 : decode cX6_leave 81 = .ok (.getfield 10, 3) := by decide +kernel
theorem dX6_leave_84 : decode cX6_leave 84 = .ok (.getfield 37, 3) := by decide +kernel
theorem dX6_leave_87 : decode cX6_leave 87 = .ok (.getfield 179, 3) := by decide +kernel
theorem dX6_leave_90 : decode cX6_leave 90 = .ok (.iload_n 2, 1) := by decide +kernel
theorem dX6_leave_91 : decode cX6_leave 91 = .ok (.iaload, 1) := by decide +kernel
theorem dX6_leave_92 : decode cX6_leave 92 = .ok (.invokevirtual 145, 3) := by decide +kernel
theorem dX6_leave_95 : decode cX6_leave 95 = .ok (.istore 4, 2) := by decide +kernel
theorem dX6_leave_97 : decode cX6_leave 97 = .ok (.aload_n 0, 1) := by decide +kernel
theorem dX6_leave_98 : decode cX6_leave 98 = .ok (.getfield 10, 3) := by decide +kernel
theorem dX6_leave_101 : decode cX6_leave 101 = .ok (.getfield 139, 3) := by decide +kernel
theorem dX6_leave_104 : decode cX6_leave 104 = .ok (.iload 4, 2) := by decide +kernel
theorem dX6_leave_106 : decode cX6_leave 106 = .ok (.ifCond .eq 7, 3) := by decide +kernel
theorem dX6_leave_109 : decode cX6_leave 109 = .ok (.iconst 2, 1) := by decide +kernel
theorem dX6_leave_110 : decode cX6_leave 110 = .ok (.goto 4, 3) := by decide +kernel
theorem dX6_leave_113 : decode cX6_leave 113 = .ok (.iconst 0, 1) := by decide +kernel
theorem dX6_leave_114 : decode cX6_leave 114 = .ok (.dup2, 1) := by decide +kernel
theorem dX6_leave_115 : decode cX6_leave 115 = .ok (.iaload, 1) := by decide +kernel
theorem dX6_leave_116 : decode cX6_leave 116 = .ok (.iload_n 3, 1) := by decide +kernel
theorem dX6_leave_117 : decode cX6_leave 117 = .ok (.iadd, 1) := by decide +kernel
theorem dX6_leave_118 : decode cX6_leave 118 = .ok (.iastore, 1) := by decide +kernel
theorem dX6_leave_119 : decode cX6_leave 119 = .ok (.aload_n 0, 1) := by decide +kernel
theorem dX6_leave_120 : decode cX6_leave 120 = .ok (.getfield 10, 3) := by decide +kernel
theorem dX6_leave_123 : decode cX6_leave 123 = .ok (.iload_n 2, 1) := by decide +kernel
theorem dX6_leave_124 : decode cX6_leave 124 = .ok (.invokevirtual 181, 3) := by decide +kernel
theorem dX6_leave_127 : decode cX6_leave 127 = .ok (.iload_n 3, 1) := by decide +kernel
theorem dX6_leave_128 : decode cX6_leave 128 = .ok (.ireturn, 1) := by decide +kernel
set_option maxRecDepth 20000 in
theorem ggX6_leaveLost_X6_isPlate : GoodIn wsX6_leaveLost wsX6_isPlate := goodIn_r _ [8, 9, 10, 7, 11] (by decide +kernel) (by decide +kernel)
set_option maxRecDepth 20000 in
theorem gX6_leaveLost_X6_isPlate : GoodIn wsX6_leaveLost (va_wsS RX6 119 yX6_isPlate wsX6_isPlate) := goodIn_app (goodIn_of _ (by decide +kernel)) ggX6_leaveLost_X6_isPlate
set_option maxRecDepth 20000 in
theorem ggX6_leaveLost_X0_withPlate : GoodIn wsX6_leaveLost wsX0_withPlate := goodIn_r _ [16, 17, 18, 135, 136, 137, 138, 139, 140, 141, 142, 143] (by decide +kernel) (by decide +kernel)
set_option maxRecDepth 20000 in
theorem gX6_leaveLost_X0_withPlate : GoodIn wsX6_leaveLost (wsV RX6 155 RX0 yX0_withPlate wsX0_withPlate) := goodIn_app (goodIn_of _ (by decide +kernel)) ggX6_leaveLost_X0_withPlate
set_option maxRecDepth 20000 in
theorem ggX6_leaveLost_X0_has : GoodIn wsX6_leaveLost wsX0_has := goodIn_r _ [22, 17, 135, 136, 137, 138, 139, 140, 141, 142, 143] (by decide +kernel) (by decide +kernel)
set_option maxRecDepth 20000 in
theorem gX6_leaveLost_X0_has : GoodIn wsX6_leaveLost (wsV RX6 59 RX0 yX0_has wsX0_has) := goodIn_app (goodIn_of _ (by decide +kernel)) ggX6_leaveLost_X0_has
set_option maxRecDepth 20000 in
theorem ggX6_leaveLost_X1_save : GoodIn wsX6_leaveLost wsX1_save := goodIn_r _ [27, 28, 29, 30, 31, 32, 26, 33, 34, 35, 36, 37, 38, 39, 40, 41, 42, 43, 44, 45, 46, 47, 7, 48, 49, 50, 51, 52, 53, 54, 55, 56, 57, 58, 59, 15, 60, 17, 61, 62, 63, 64, 18, 65, 66, 67, 68, 69, 70, 71, 72, 73, 74, 75, 76, 77, 78, 79, 80, 81, 82, 83, 84, 85, 86, 87, 88, 144, 145, 127, 128, 129, 130, 131, 132, 133, 134, 135, 136, 137, 138, 139, 140, 141, 142, 143, 146, 147, 148, 149, 150, 151, 152, 153, 154, 155, 156] (by decide +kernel) (by decide +kernel)
set_option maxRecDepth 20000 in
theorem gX6_leaveLost_X1_save : GoodIn wsX6_leaveLost (wsV RX6 51 RX1 yX1_save wsX1_save) := goodIn_app (goodIn_of _ (by decide +kernel)) ggX6_leaveLost_X1_save
set_option maxRecDepth 20000 in
theorem ggX6_leaveLost_X3_lostFee : GoodIn wsX6_leaveLost wsX3_lostFee := goodIn_r _ [92, 43, 39, 93, 94, 50, 51, 52, 41, 95, 20, 21, 15, 22, 17, 96, 97, 98, 37, 99, 45, 100, 101, 102, 83, 103, 85, 86, 104, 88, 87, 105, 106, 107, 127, 128, 129, 130, 131, 132, 133, 134, 135, 136, 137, 138, 139, 140, 141, 142, 143, 153, 154, 155, 156] (by decide +kernel) (by decide +kernel)
set_option maxRecDepth 20000 in
theorem gX6_leaveLost_X3_lostFee : GoodIn wsX6_leaveLost (wsV RX6 184 RX3 yX3_lostFee wsX3_lostFee) := goodIn_app (goodIn_of _ (by decide +kernel)) ggX6_leaveLost_X3_lostFee
set_option maxRecDepth 20000 in
theorem ggX6_leaveLost_X3_letOut : GoodIn wsX6_leaveLost wsX3_letOut := goodIn_r _ [111, 43, 112, 44, 113, 95, 20, 21, 15, 22, 17, 114, 115, 116, 71, 117, 73, 118, 119, 120, 121, 18, 65, 66, 67, 122, 127, 128, 129, 130, 131, 132, 133, 134, 135, 136, 137, 138, 139, 140, 141, 142, 143, 146, 147, 148, 149, 150, 151, 152] (by decide +kernel) (by decide +kernel)
set_option maxRecDepth 20000 in
theorem gX6_leaveLost_X3_letOut : GoodIn wsX6_leaveLost (wsV RX6 181 RX3 yX3_letOut wsX3_letOut) := goodIn_app (goodIn_of _ (by decide +kernel)) ggX6_leaveLost_X3_letOut
theorem dX6_leaveLost_0 : decode cX6_leaveLost 0 = .ok (.iload_n 1, 1) := by decide +kernel
theorem dX6_leaveLost_1 : decode cX6_leaveLost 1 = .ok (.invokestatic 119, 3) := by decide +kernel
theorem dX6_leaveLost_4 : decode cX6_leaveLost 4 = .ok (.ifCond .ne 5, 3) := by decide +kernel
theorem dX6_leaveLost_7 : decode cX6_leaveLost 7 = .ok (.iconst (-1), 1) := by decide +kernel
theorem dX6_leaveLost_8 : decode cX6_leaveLost 8 = .ok (.ireturn, 1) := by decide +kernel
theorem dX6_leaveLost_9 : decode cX6_leaveLost 9 = .ok (.aload_n 0, 1) := by decide +kernel
theorem dX6_leaveLost_10 : decode cX6_leaveLost 10 = .ok (.getfield 10, 3) := by decide +kernel
theorem dX6_leaveLost_13 : decode cX6_leaveLost 13 = .ok (.getfield 37, 3) := by decide +kernel
theorem dX6_leaveLost_16 : decode cX6_leaveLost 16 = .ok (.iload_n 1, 1) := by decide +kernel
theorem dX6_leaveLost_17 : decode cX6_leaveLost 17 = .ok (.invokevirtual 155, 3) := by decide +kernel
theorem dX6_leaveLost_20 : decode cX6_leaveLost 20 = .ok (.istore_n 2, 1) := by decide +kernel
theorem dX6_leaveLost_21 : decode cX6_leaveLost 21 = .ok (.aload_n 0, 1) := by decide +kernel
theorem dX6_leaveLost_22 : decode cX6_leaveLost 22 = .ok (.getfield 10, 3) := by decide +kernel
theorem dX6_leaveLost_25 : decode cX6_leaveLost 25 = .ok (.getfield 37, 3) := by decide +kernel
theorem dX6_leaveLost_28 : decode cX6_leaveLost 28 = .ok (.iload_n 2, 1) := by decide +kernel
theorem dX6_leaveLost_29 : decode cX6_leaveLost 29 = .ok (.invokevirtual 59, 3) := by decide +kernel
theorem dX6_leaveLost_32 : decode cX6_leaveLost 32 = .ok (.ifCond .ne 6, 3) := by decide +kernel
theorem dX6_leaveLost_35 : decode cX6_leaveLost 35 = .ok (.bipush (-2), 2) := by decide +kernel
theorem dX6_leaveLost_37 : decode cX6_leaveLost 37 = .ok (.ireturn, 1) := by decide +kernel
theorem dX6_leaveLost_38 : decode cX6_leaveLost 38 = .ok (.aload_n 0, 1) := by decide +kernel
theorem dX6_leaveLost_39 : decode cX6_leaveLost 39 = .ok (.getfield 22, 3) := by decide +kernel
theorem dX6_leaveLost_42 : decode cX6_leaveLost 42 = .ok (.aload_n 0, 1) := by decide +kernel
theorem dX6_leaveLost_43 : decode cX6_leaveLost 43 = .ok (.getfield 10, 3) := by decide +kernel
theorem dX6_leaveLost_46 : decode cX6_leaveLost 46 = .ok (.invokevirtual 51, 3) := by decide +kernel
theorem dX6_leaveLost_49 : decode cX6_leaveLost 49 = .ok (.aload_n 0, 1) := by decide +kernel
theorem dX6_leaveLost_50 : decode cX6_leaveLost 50 = .ok (.getfield 10, 3) := by decide +kernel
theorem dX6_leaveLost_53 : decode cX6_leaveLost 53 = .ok (.iload_n 2, 1) := by decide +kernel
theorem dX6_leaveLost_54 : decode cX6_leaveLost 54 = .ok (.invokevirtual 184, 3) := by decide +kernel
theorem dX6_leaveLost_57 : decode cX6_leaveLost 57 = .ok (.istore_n 3, 1) := by decide +kernel
theorem dX6_leaveLost_58 : decode cX6_leaveLost 58 = .ok (.aload_n 0, 1) := by decide +kernel
theorem dX6_leaveLost_59 : decode cX6_leaveLost 59 = .ok (.getfield 10, 3) := by decide +kernel
theorem dX6_leaveLost_62 : decode cX6_leaveLost 62 = .ok (.getfield 139, 3) := by decide +kernel
theorem dX6_leaveLost_65 : decode cX6_leaveLost 65 = .ok (.iconst 3, 1) := by decide +kernel
theorem dX6_leaveLost_66 : decode cX6_leaveLost 66 = .ok (.dup2, 1) := by decide +kernel
theorem dX6_leaveLost_67 : decode cX6_leaveLost 67 = .ok (.iaload, 1) := by decide +kernel
theorem dX6_leaveLost_68 : decode cX6_leaveLost 68 = .ok (.iload_n 3, 1) := by decide +kernel
theorem dX6_leaveLost_69 : decode cX6_leaveLost 69 = .ok (.iadd, 1) := by decide +kernel
theorem dX6_leaveLost_70 : decode cX6_leaveLost 70 = .ok (.iastore, 1) := by decide +kernel
theorem dX6_leaveLost_71 : decode cX6_leaveLost 71 = .ok (.aload_n 0, 1) := by decide +kernel
theorem dX6_leaveLost_72 : decode cX6_leaveLost 72 = .ok (.getfield 10, 3) := by decide +kernel
theorem dX6_leaveLost_75 : decode cX6_leaveLost 75 = .ok (.iload_n 2, 1) := by decide +kernel
theorem dX6_leaveLost_76 : decode cX6_leaveLost 76 = .ok (.invokevirtual 181, 3) := by decide +kernel
theorem dX6_leaveLost_79 : decode cX6_leaveLost 79 = .ok (.iload_n 3, 1) := by decide +kernel
theorem dX6_leaveLost_80 : decode cX6_leaveLost 80 = .ok (.ireturn, 1) := by decide +kernel
set_option maxRecDepth 20000 in
theorem ggX6_pass_X6_isWithin : GoodIn wsX6_pass wsX6_isWithin := goodIn_r _ [8] (by decide +kernel) (by decide +kernel)
set_option maxRecDepth 20000 in
theorem gX6_pass_X6_isWithin : GoodIn wsX6_pass (va_wsS RX6 33 yX6_isWithin wsX6_isWithin) := goodIn_app (goodIn_of _ (by decide +kernel)) ggX6_pass_X6_isWithin
set_option maxRecDepth 20000 in
theorem ggX6_pass_X1_save : GoodIn wsX6_pass wsX1_save := goodIn_r _ [13, 14, 15, 16, 17, 18, 12, 19, 20, 21, 22, 23, 24, 25, 26, 27, 28, 29, 30, 31, 32, 33, 7, 34, 35, 36, 37, 38, 39, 40, 41, 42, 43, 44, 45, 46, 47, 48, 49, 50, 51, 52, 53, 54, 55, 56, 57, 58, 59, 60, 61, 62, 63, 64, 65, 66, 67, 68, 69, 70, 71, 72, 73, 74, 75, 76, 77, 94, 95, 86, 87, 88, 89, 90, 91, 92, 93, 96, 97, 98, 99, 100, 101, 102, 103, 104, 105, 106, 107, 108, 109, 110, 111, 112, 113, 114, 115] (by decide +kernel) (by decide +kernel)
set_option maxRecDepth 20000 in
theorem gX6_pass_X1_save : GoodIn wsX6_pass (wsV RX6 51 RX1 yX1_save wsX1_save) := goodIn_app (goodIn_of _ (by decide +kernel)) ggX6_pass_X1_save
set_option maxRecDepth 20000 in
theorem ggX6_pass_X2_expire : GoodIn wsX6_pass wsX2_expire := goodIn_r _ [81, 62, 68, 66, 105, 106, 107, 108, 109, 110, 111] (by decide +kernel) (by decide +kernel)
set_option maxRecDepth 20000 in
theorem gX6_pass_X2_expire : GoodIn wsX6_pass (wsV RX6 187 RX2 yX2_expire wsX2_expire) := goodIn_app (goodIn_of _ (by decide +kernel)) ggX6_pass_X2_expire
theorem dX6_pass_0 : decode cX6_pass 0 = .ok (.iload_n 1, 1) := by decide +kernel
theorem dX6_pass_1 : decode cX6_pass 1 = .ok (.iconst 1, 1) := by decide +kernel
theorem dX6_pass_2 : decode cX6_pass 2 = .ok (.sipush 5000, 3) := by decide +kernel
theorem dX6_pass_5 : decode cX6_pass 5 = .ok (.invokestatic 33, 3) := by decide +kernel
theorem dX6_pass_8 : decode cX6_pass 8 = .ok (.ifCond .ne 5, 3) := by decide +kernel
theorem dX6_pass_11 : decode cX6_pass 11 = .ok (.iconst (-1), 1) := by decide +kernel
theorem dX6_pass_12 : decode cX6_pass 12 = .ok (.ireturn, 1) := by decide +kernel
theorem dX6_pass_13 : decode cX6_pass 13 = .ok (.aload_n 0, 1) := by decide +kernel
theorem dX6_pass_14 : decode cX6_pass 14 = .ok (.getfield 10, 3) := by decide +kernel
theorem dX6_pass_17 : decode cX6_pass 17 = .ok (.getfield 122, 3) := by decide +kernel
theorem dX6_pass_20 : decode cX6_pass 20 = .ok (.iload_n 1, 1) := by decide +kernel
theorem dX6_pass_21 : decode cX6_pass 21 = .ok (.iadd, 1) := by decide +kernel
theorem dX6_pass_22 : decode cX6_pass 22 = .ok (.sipush 20000, 3) := by decide +kernel
theorem dX6_pass_25 : decode cX6_pass 25 = .ok (.if_icmp .le 6, 3) := by decide +kernel
theorem dX6_pass_28 : decode cX6_pass 28 = .ok (.bipush (-3), 2) := by decide +kernel
theorem dX6_pass_30 : decode cX6_pass 30 = .ok (.ireturn, 1) := by decide +kernel
theorem dX6_pass_31 : decode cX6_pass 31 = .ok (.aload_n 0, 1) := by decide +kernel
theorem dX6_pass_32 : decode cX6_pass 32 = .ok (.getfield 22, 3) := by decide +kernel
theorem dX6_pass_35 : decode cX6_pass 35 = .ok (.aload_n 0, 1) := by decide +kernel
theorem dX6_pass_36 : decode cX6_pass 36 = .ok (.getfield 10, 3) := by decide +kernel
theorem dX6_pass_39 : decode cX6_pass 39 = .ok (.invokevirtual 51, 3) := by decide +kernel
theorem dX6_pass_42 : decode cX6_pass 42 = .ok (.aload_n 0, 1) := by decide +kernel
theorem dX6_pass_43 : decode cX6_pass 43 = .ok (.getfield 10, 3) := by decide +kernel
theorem dX6_pass_46 : decode cX6_pass 46 = .ok (.dup, 1) := by decide +kernel
theorem dX6_pass_47 : decode cX6_pass 47 = .ok (.getfield 122, 3) := by decide +kernel
theorem dX6_pass_50 : decode cX6_pass 50 = .ok (.iload_n 1, 1) := by decide +kernel
theorem dX6_pass_51 : decode cX6_pass 51 = .ok (.iadd, 1) := by decide +kernel
theorem dX6_pass_52 : decode cX6_pass 52 = .ok (.putfield 122, 3) := by decide +kernel
theorem dX6_pass_55 : decode cX6_pass 55 = .ok (.aload_n 0, 1) := by decide +kernel
theorem dX6_pass_56 : decode cX6_pass 56 = .ok (.getfield 10, 3) := by decide +kernel
theorem dX6_pass_59 : decode cX6_pass 59 = .ok (.getfield 128, 3) := by decide +kernel
theorem dX6_pass_62 : decode cX6_pass 62 = .ok (.aload_n 0, 1) := by decide +kernel
theorem dX6_pass_63 : decode cX6_pass 63 = .ok (.getfield 10, 3) := by decide +kernel
theorem dX6_pass_66 : decode cX6_pass 66 = .ok (.getfield 122, 3) := by decide +kernel
theorem dX6_pass_69 : decode cX6_pass 69 = .ok (.invokevirtual 187, 3) := by decide +kernel
theorem dX6_pass_72 : decode cX6_pass 72 = .ok (.ireturn, 1) := by decide +kernel
set_option maxRecDepth 20000 in
theorem ggX6_count_X0_cars : GoodIn wsX6_count wsX0_cars := goodIn_r _ [17, 18, 19, 20, 21, 16, 22, 23, 24, 25, 26, 27, 40, 41, 42, 43, 44, 45, 46, 47, 48] (by decide +kernel) (by decide +kernel)
set_option maxRecDepth 20000 in
theorem gX6_count_X0_cars : GoodIn wsX6_count (wsV RX6 192 RX0 yX0_cars wsX0_cars) := goodIn_app (goodIn_of _ (by decide +kernel)) ggX6_count_X0_cars
theorem dX6_count_0 : decode cX6_count 0 = .ok (.iload_n 1, 1) := by decide +kernel
theorem dX6_count_1 : decode cX6_count 1 = .ok (.tableswitch 164 0 12 #[67, 78, 89, 97, 108, 127, 135, 135, 135, 135, 135, 148, 156], 67) := by decide +kernel
theorem dX6_count_68 : decode cX6_count 68 = .ok (.aload_n 0, 1) := by decide +kernel
theorem dX6_count_69 : decode cX6_count 69 = .ok (.getfield 10, 3) := by decide +kernel
theorem dX6_count_72 : decode cX6_count 72 = .ok (.getfield 37, 3) := by decide +kernel
theorem dX6_count_75 : decode cX6_count 75 = .ok (.getfield 190, 3) := by decide +kernel
theorem dX6_count_78 : decode cX6_count 78 = .ok (.ireturn, 1) := by decide +kernel
theorem dX6_count_79 : decode cX6_count 79 = .ok (.aload_n 0, 1) := by decide +kernel
theorem dX6_count_80 : decode cX6_count 80 = .ok (.getfield 10, 3) := by decide +kernel
theorem dX6_count_83 : decode cX6_count 83 = .ok (.getfield 128, 3) := by decide +kernel
theorem dX6_count_86 : decode cX6_count 86 = .ok (.getfield 191, 3) := by decide +kernel
theorem dX6_count_89 : decode cX6_count 89 = .ok (.ireturn, 1) := by decide +kernel
theorem dX6_count_90 : decode cX6_count 90 = .ok (.aload_n 0, 1) := by decide +kernel
theorem dX6_count_91 : decode cX6_count 91 = .ok (.getfield 10, 3) := by decide +kernel
theorem dX6_count_94 : decode cX6_count 94 = .ok (.getfield 170, 3) := by decide +kernel
theorem dX6_count_97 : decode cX6_count 97 = .ok (.ireturn, 1) := by decide +kernel
theorem dX6_count_98 : decode cX6_count 98 = .ok (.aload_n 0, 1) := by decide +kernel
theorem dX6_count_99 : decode cX6_count 99 = .ok (.getfield 10, 3) := by decide +kernel
theorem dX6_count_102 : decode cX6_count 102 = .ok (.getfield 37, 3) := by decide +kernel
theorem dX6_count_105 : decode cX6_count 105 = .ok (.invokevirtual 192, 3) := by decide +kernel
theorem dX6_count_108 : decode cX6_count 108 = .ok (.ireturn, 1) := by decide +kernel
theorem dX6_count_109 : decode cX6_count 109 = .ok (.aload_n 0, 1) := by decide +kernel
theorem dX6_count_110 : decode cX6_count 110 = .ok (.getfield 10, 3) := by decide +kernel
theorem dX6_count_113 : decode cX6_count 113 = .ok (.getfield 170, 3) := by decide +kernel
theorem dX6_count_116 : decode cX6_count 116 = .ok (.aload_n 0, 1) := by decide +kernel
theorem dX6_count_117 : decode cX6_count 117 = .ok (.getfield 10, 3) := by decide +kernel
theorem dX6_count_120 : decode cX6_count 120 = .ok (.getfield 37, 3) := by decide +kernel
theorem dX6_count_123 : decode cX6_count 123 = .ok (.invokevirtual 192, 3) := by decide +kernel
theorem dX6_count_126 : decode cX6_count 126 = .ok (.isub, 1) := by decide +kernel
theorem dX6_count_127 : decode cX6_count 127 = .ok (.ireturn, 1) := by decide +kernel
theorem dX6_count_128 : decode cX6_count 128 = .ok (.aload_n 0, 1) := by decide +kernel
theorem dX6_count_129 : decode cX6_count 129 = .ok (.getfield 10, 3) := by decide +kernel
theorem dX6_count_132 : decode cX6_count 132 = .ok (.getfield 122, 3) := by decide +kernel
theorem dX6_count_135 : decode cX6_count 135 = .ok (.ireturn, 1) := by decide +kernel
theorem dX6_count_136 : decode cX6_count 136 = .ok (.aload_n 0, 1) := by decide +kernel
theorem dX6_count_137 : decode cX6_count 137 = .ok (.getfield 10, 3) := by decide +kernel
theorem dX6_count_140 : decode cX6_count 140 = .ok (.getfield 98, 3) := by decide +kernel
theorem dX6_count_143 : decode cX6_count 143 = .ok (.iload_n 1, 1) := by decide +kernel
theorem dX6_count_144 : decode cX6_count 144 = .ok (.bipush 6, 2) := by decide +kernel
theorem dX6_count_146 : decode cX6_count 146 = .ok (.isub, 1) := by decide +kernel
theorem dX6_count_147 : decode cX6_count 147 = .ok (.iaload, 1) := by decide +kernel
theorem dX6_count_148 : decode cX6_count 148 = .ok (.ireturn, 1) := by decide +kernel
theorem dX6_count_149 : decode cX6_count 149 = .ok (.aload_n 0, 1) := by decide +kernel
theorem dX6_count_150 : decode cX6_count 150 = .ok (.getfield 29, 3) := by decide +kernel
theorem dX6_count_153 : decode cX6_count 153 = .ok (.getfield 106, 3) := by decide +kernel
theorem dX6_count_156 : decode cX6_count 156 = .ok (.ireturn, 1) := by decide +kernel
theorem dX6_count_157 : decode cX6_count 157 = .ok (.aload_n 0, 1) := by decide +kernel
theorem dX6_count_158 : decode cX6_count 158 = .ok (.getfield 22, 3) := by decide +kernel
theorem dX6_count_161 : decode cX6_count 161 = .ok (.getfield 196, 3) := by decide +kernel
theorem dX6_count_164 : decode cX6_count 164 = .ok (.ireturn, 1) := by decide +kernel
theorem dX6_count_165 : decode cX6_count 165 = .ok (.iconst (-1), 1) := by decide +kernel
theorem dX6_count_166 : decode cX6_count 166 = .ok (.ireturn, 1) := by decide +kernel
set_option maxRecDepth 20000 in
theorem ggX6_bay_X0_has : GoodIn wsX6_bay wsX0_has := goodIn_r _ [12, 13, 70, 71, 72, 73, 74, 75, 76, 77, 78] (by decide +kernel) (by decide +kernel)
set_option maxRecDepth 20000 in
theorem gX6_bay_X0_has : GoodIn wsX6_bay (wsV RX6 59 RX0 yX0_has wsX0_has) := goodIn_app (goodIn_of _ (by decide +kernel)) ggX6_bay_X0_has
set_option maxRecDepth 20000 in
theorem ggX6_bay_X3_way : GoodIn wsX6_bay wsX3_way := goodIn_r _ [18, 19, 20, 21, 22, 23, 9, 10, 11, 12, 13, 62, 63, 64, 65, 66, 67, 68, 69, 70, 71, 72, 73, 74, 75, 76, 77, 78] (by decide +kernel) (by decide +kernel)
set_option maxRecDepth 20000 in
theorem gX6_bay_X3_way : GoodIn wsX6_bay (wsV RX6 206 RX3 yX3_way wsX3_way) := goodIn_app (goodIn_of _ (by decide +kernel)) ggX6_bay_X3_way
set_option maxRecDepth 20000 in
theorem ggX6_bay_X0_isEmpty : GoodIn wsX6_bay wsX0_isEmpty := goodIn_r _ [27, 28, 29, 9, 10, 11, 12, 13, 70, 71, 72, 73, 74, 75, 76, 77, 78] (by decide +kernel) (by decide +kernel)
set_option maxRecDepth 20000 in
theorem gX6_bay_X0_isEmpty : GoodIn wsX6_bay (wsV RX6 209 RX0 yX0_isEmpty wsX0_isEmpty) := goodIn_app (goodIn_of _ (by decide +kernel)) ggX6_bay_X0_isEmpty
set_option maxRecDepth 20000 in
theorem ggX6_bay_X3_holder : GoodIn wsX6_bay wsX3_holder := goodIn_r _ [33, 34, 35, 21, 36, 37, 38, 39, 40, 41, 42, 43, 44, 45, 46, 47, 48, 49, 50, 51, 52, 53, 54, 55, 56, 57, 62, 63, 64, 65, 66, 67, 68, 69, 79, 80, 81, 82, 83, 84, 85] (by decide +kernel) (by decide +kernel)
set_option maxRecDepth 20000 in
theorem gX6_bay_X3_holder : GoodIn wsX6_bay (wsV RX6 215 RX3 yX3_holder wsX3_holder) := goodIn_app (goodIn_of _ (by decide +kernel)) ggX6_bay_X3_holder
theorem dX6_bay_0 : decode cX6_bay 0 = .ok (.aload_n 0, 1) := by decide +kernel
theorem dX6_bay_1 : decode cX6_bay 1 = .ok (.getfield 10, 3) := by decide +kernel
theorem dX6_bay_4 : decode cX6_bay 4 = .ok (.getfield 37, 3) := by decide +kernel
theorem dX6_bay_7 : decode cX6_bay 7 = .ok (.iload_n 1, 1) := by decide +kernel
theorem dX6_bay_8 : decode cX6_bay 8 = .ok (.invokevirtual 59, 3) := by decide +kernel
theorem dX6_bay_11 : decode cX6_bay 11 = .ok (.ifCond .ne 5, 3) := by decide +kernel
theorem dX6_bay_14 : decode cX6_bay 14 = .ok (.iconst (-1), 1) := by decide +kernel
theorem dX6_bay_15 : decode cX6_bay 15 = .ok (.ireturn, 1) := by decide +kernel
theorem dX6_bay_16 : decode cX6_bay 16 = .ok (.iload_n 2, 1) := by decide +kernel
theorem dX6_bay_17 : decode cX6_bay 17 = .ok (.tableswitch 145 0 6 #[43, 56, 69, 82, 91, 104, 136], 43) := by decide +kernel
theorem dX6_bay_60 : decode cX6_bay 60 = .ok (.aload_n 0, 1) := by decide +kernel
theorem dX6_bay_61 : decode cX6_bay 61 = .ok (.getfield 10, 3) := by decide +kernel
theorem dX6_bay_64 : decode cX6_bay 64 = .ok (.getfield 37, 3) := by decide +kernel
theorem dX6_bay_67 : decode cX6_bay 67 = .ok (.getfield 197, 3) := by decide +kernel
theorem dX6_bay_70 : decode cX6_bay 70 = .ok (.iload_n 1, 1) := by decide +kernel
theorem dX6_bay_71 : decode cX6_bay 71 = .ok (.iaload, 1) := by decide +kernel
theorem dX6_bay_72 : decode cX6_bay 72 = .ok (.ireturn, 1) := by decide +kernel
theorem dX6_bay_73 : decode cX6_bay 73 = .ok (.aload_n 0, 1) := by decide +kernel
theorem dX6_bay_74 : decode cX6_bay 74 = .ok (.getfield 10, 3) := by decide +kernel
theorem dX6_bay_77 : decode cX6_bay 77 = .ok (.getfield 37, 3) := by decide +kernel
theorem dX6_bay_80 : decode cX6_bay 80 = .ok (.getfield 200, 3) := by decide +kernel
theorem dX6_bay_83 : decode cX6_bay 83 = .ok (.iload_n 1, 1) := by decide +kernel
theorem dX6_bay_84 : decode cX6_bay 84 = .ok (.iaload, 1) := by decide +kernel
theorem dX6_bay_85 : decode cX6_bay 85 = .ok (.ireturn, 1) := by decide +kernel
theorem dX6_bay_86 : decode cX6_bay 86 = .ok (.aload_n 0, 1) := by decide +kernel
theorem dX6_bay_87 : decode cX6_bay 87 = .ok (.getfield 10, 3) := by decide +kernel
theorem dX6_bay_90 : decode cX6_bay 90 = .ok (.getfield 37, 3) := by decide +kernel
theorem dX6_bay_93 : decode cX6_bay 93 = .ok (.getfield 203, 3) := by decide +kernel
theorem dX6_bay_96 : decode cX6_bay 96 = .ok (.iload_n 1, 1) := by decide +kernel
theorem dX6_bay_97 : decode cX6_bay 97 = .ok (.iaload, 1) := by decide +kernel
theorem dX6_bay_98 : decode cX6_bay 98 = .ok (.ireturn, 1) := by decide +kernel
theorem dX6_bay_99 : decode cX6_bay 99 = .ok (.aload_n 0, 1) := by decide +kernel
theorem dX6_bay_100 : decode cX6_bay 100 = .ok (.getfield 10, 3) := by decide +kernel
theorem dX6_bay_103 : decode cX6_bay 103 = .ok (.iload_n 1, 1) := by decide +kernel
theorem dX6_bay_104 : decode cX6_bay 104 = .ok (.invokevirtual 206, 3) := by decide +kernel
theorem dX6_bay_107 : decode cX6_bay 107 = .ok (.ireturn, 1) := by decide +kernel
theorem dX6_bay_108 : decode cX6_bay 108 = .ok (.aload_n 0, 1) := by decide +kernel
theorem dX6_bay_109 : decode cX6_bay 109 = .ok (.getfield 10, 3) := by decide +kernel
theorem dX6_bay_112 : decode cX6_bay 112 = .ok (.getfield 37, 3) := by decide +kernel
theorem dX6_bay_115 : decode cX6_bay 115 = .ok (.getfield 63, 3) := by decide +kernel
theorem dX6_bay_118 : decode cX6_bay 118 = .ok (.iload_n 1, 1) := by decide +kernel
theorem dX6_bay_119 : decode cX6_bay 119 = .ok (.iaload, 1) := by decide +kernel
theorem dX6_bay_120 : decode cX6_bay 120 = .ok (.ireturn, 1) := by decide +kernel
theorem dX6_bay_121 : decode cX6_bay 121 = .ok (.aload_n 0, 1) := by decide +kernel
theorem dX6_bay_122 : decode cX6_bay 122 = .ok (.getfield 10, 3) := by decide +kernel
theorem dX6_bay_125 : decode cX6_bay 125 = .ok (.getfield 37, 3) := by decide +kernel
theorem dX6_bay_128 : decode cX6_bay 128 = .ok (.iload_n 1, 1) := by decide +kernel
theorem dX6_bay_129 : decode cX6_bay 129 = .ok (.invokevirtual 209, 3) := by decide +kernel
theorem dX6_bay_132 : decode cX6_bay 132 = .ok (.ifCond .eq 8, 3) := by decide +kernel
theorem dX6_bay_135 : decode cX6_bay 135 = .ok (.bipush (-9), 2) := by decide +kernel
theorem dX6_bay_137 : decode cX6_bay 137 = .ok (.goto 15, 3) := by decide +kernel
theorem dX6_bay_140 : decode cX6_bay 140 = .ok (.aload_n 0, 1) := by decide +kernel
theorem dX6_bay_141 : decode cX6_bay 141 = .ok (.getfield 10, 3) := by decide +kernel
theorem dX6_bay_144 : decode cX6_bay 144 = .ok (.getfield 37, 3) := by decide +kernel
theorem dX6_bay_147 : decode cX6_bay 147 = .ok (.getfield 212, 3) := by decide +kernel
theorem dX6_bay_150 : decode cX6_bay 150 = .ok (.iload_n 1, 1) := by decide +kernel
theorem dX6_bay_151 : decode cX6_bay 151 = .ok (.iaload, 1) := by decide +kernel
theorem dX6_bay_152 : decode cX6_bay 152 = .ok (.ireturn, 1) := by decide +kernel
theorem dX6_bay_153 : decode cX6_bay 153 = .ok (.aload_n 0, 1) := by decide +kernel
theorem dX6_bay_154 : decode cX6_bay 154 = .ok (.getfield 10, 3) := by decide +kernel
theorem dX6_bay_157 : decode cX6_bay 157 = .ok (.iload_n 1, 1) := by decide +kernel
theorem dX6_bay_158 : decode cX6_bay 158 = .ok (.invokevirtual 215, 3) := by decide +kernel
theorem dX6_bay_161 : decode cX6_bay 161 = .ok (.ireturn, 1) := by decide +kernel
theorem dX6_bay_162 : decode cX6_bay 162 = .ok (.iconst (-1), 1) := by decide +kernel
theorem dX6_bay_163 : decode cX6_bay 163 = .ok (.ireturn, 1) := by decide +kernel
set_option maxRecDepth 20000 in
theorem ggX6_reservation_X2_has : GoodIn wsX6_reservation wsX2_has := goodIn_r _ [13, 14, 27, 28, 29, 30, 31, 32, 33] (by decide +kernel) (by decide +kernel)
set_option maxRecDepth 20000 in
theorem gX6_reservation_X2_has : GoodIn wsX6_reservation (wsV RX6 145 RX2 yX2_has wsX2_has) := goodIn_app (goodIn_of _ (by decide +kernel)) ggX6_reservation_X2_has
theorem dX6_reservation_0 : decode cX6_reservation 0 = .ok (.aload_n 0, 1) := by decide +kernel
theorem dX6_reservation_1 : decode cX6_reservation 1 = .ok (.getfield 10, 3) := by decide +kernel
theorem dX6_reservation_4 : decode cX6_reservation 4 = .ok (.getfield 128, 3) := by decide +kernel
theorem dX6_reservation_7 : decode cX6_reservation 7 = .ok (.iload_n 1, 1) := by decide +kernel
theorem dX6_reservation_8 : decode cX6_reservation 8 = .ok (.invokevirtual 145, 3) := by decide +kernel
theorem dX6_reservation_11 : decode cX6_reservation 11 = .ok (.ifCond .ne 5, 3) := by decide +kernel
theorem dX6_reservation_14 : decode cX6_reservation 14 = .ok (.iconst (-1), 1) := by decide +kernel
theorem dX6_reservation_15 : decode cX6_reservation 15 = .ok (.ireturn, 1) := by decide +kernel
theorem dX6_reservation_16 : decode cX6_reservation 16 = .ok (.iload_n 2, 1) := by decide +kernel
theorem dX6_reservation_17 : decode cX6_reservation 17 = .ok (.tableswitch 117 0 5 #[39, 52, 65, 78, 91, 104], 39) := by decide +kernel
theorem dX6_reservation_56 : decode cX6_reservation 56 = .ok (.aload_n 0, 1) := by decide +kernel
theorem dX6_reservation_57 : decode cX6_reservation 57 = .ok (.getfield 10, 3) := by decide +kernel
theorem dX6_reservation_60 : decode cX6_reservation 60 = .ok (.getfield 128, 3) := by decide +kernel
theorem dX6_reservation_63 : decode cX6_reservation 63 = .ok (.getfield 218, 3) := by decide +kernel
theorem dX6_reservation_66 : decode cX6_reservation 66 = .ok (.iload_n 1, 1) := by decide +kernel
theorem dX6_reservation_67 : decode cX6_reservation 67 = .ok (.iaload, 1) := by decide +kernel
theorem dX6_reservation_68 : decode cX6_reservation 68 = .ok (.ireturn, 1) := by decide +kernel
theorem dX6_reservation_69 : decode cX6_reservation 69 = .ok (.aload_n 0, 1) := by decide +kernel
theorem dX6_reservation_70 : decode cX6_reservation 70 = .ok (.getfield 10, 3) := by decide +kernel
theorem dX6_reservation_73 : decode cX6_reservation 73 = .ok (.getfield 128, 3) := by decide +kernel
theorem dX6_reservation_76 : decode cX6_reservation 76 = .ok (.getfield 162, 3) := by decide +kernel
theorem dX6_reservation_79 : decode cX6_reservation 79 = .ok (.iload_n 1, 1) := by decide +kernel
theorem dX6_reservation_80 : decode cX6_reservation 80 = .ok (.iaload, 1) := by decide +kernel
theorem dX6_reservation_81 : decode cX6_reservation 81 = .ok (.ireturn, 1) := by decide +kernel
theorem dX6_reservation_82 : decode cX6_reservation 82 = .ok (.aload_n 0, 1) := by decide +kernel
theorem dX6_reservation_83 : decode cX6_reservation 83 = .ok (.getfield 10, 3) := by decide +kernel
theorem dX6_reservation_86 : decode cX6_reservation 86 = .ok (.getfield 128, 3) := by decide +kernel
theorem dX6_reservation_89 : decode cX6_reservation 89 = .ok (.getfield 149, 3) := by decide +kernel
theorem dX6_reservation_92 : decode cX6_reservation 92 = .ok (.iload_n 1, 1) := by decide +kernel
theorem dX6_reservation_93 : decode cX6_reservation 93 = .ok (.iaload, 1) := by decide +kernel
theorem dX6_reservation_94 : decode cX6_reservation 94 = .ok (.ireturn, 1) := by decide +kernel
theorem dX6_reservation_95 : decode cX6_reservation 95 = .ok (.aload_n 0, 1) := by decide +kernel
theorem dX6_reservation_96 : decode cX6_reservation 96 = .ok (.getfield 10, 3) := by decide +kernel
theorem dX6_reservation_99 : decode cX6_reservation 99 = .ok (.getfield 128, 3) := by decide +kernel
theorem dX6_reservation_102 : decode cX6_reservation 102 = .ok (.getfield 219, 3) := by decide +kernel
theorem dX6_reservation_105 : decode cX6_reservation 105 = .ok (.iload_n 1, 1) := by decide +kernel
theorem dX6_reservation_106 : decode cX6_reservation 106 = .ok (.iaload, 1) := by decide +kernel
theorem dX6_reservation_107 : decode cX6_reservation 107 = .ok (.ireturn, 1) := by decide +kernel
theorem dX6_reservation_108 : decode cX6_reservation 108 = .ok (.aload_n 0, 1) := by decide +kernel
theorem dX6_reservation_109 : decode cX6_reservation 109 = .ok (.getfield 10, 3) := by decide +kernel
theorem dX6_reservation_112 : decode cX6_reservation 112 = .ok (.getfield 128, 3) := by decide +kernel
theorem dX6_reservation_115 : decode cX6_reservation 115 = .ok (.getfield 152, 3) := by decide +kernel
theorem dX6_reservation_118 : decode cX6_reservation 118 = .ok (.iload_n 1, 1) := by decide +kernel
theorem dX6_reservation_119 : decode cX6_reservation 119 = .ok (.iaload, 1) := by decide +kernel
theorem dX6_reservation_120 : decode cX6_reservation 120 = .ok (.ireturn, 1) := by decide +kernel
theorem dX6_reservation_121 : decode cX6_reservation 121 = .ok (.aload_n 0, 1) := by decide +kernel
theorem dX6_reservation_122 : decode cX6_reservation 122 = .ok (.getfield 10, 3) := by decide +kernel
theorem dX6_reservation_125 : decode cX6_reservation 125 = .ok (.getfield 128, 3) := by decide +kernel
theorem dX6_reservation_128 : decode cX6_reservation 128 = .ok (.getfield 146, 3) := by decide +kernel
theorem dX6_reservation_131 : decode cX6_reservation 131 = .ok (.iload_n 1, 1) := by decide +kernel
theorem dX6_reservation_132 : decode cX6_reservation 132 = .ok (.iaload, 1) := by decide +kernel
theorem dX6_reservation_133 : decode cX6_reservation 133 = .ok (.ireturn, 1) := by decide +kernel
theorem dX6_reservation_134 : decode cX6_reservation 134 = .ok (.iconst (-1), 1) := by decide +kernel
theorem dX6_reservation_135 : decode cX6_reservation 135 = .ok (.ireturn, 1) := by decide +kernel
set_option maxRecDepth 20000 in
theorem ggX6_car_X6_isPlate : GoodIn wsX6_car wsX6_isPlate := goodIn_r _ [10, 11, 12, 9, 13] (by decide +kernel) (by decide +kernel)
set_option maxRecDepth 20000 in
theorem gX6_car_X6_isPlate : GoodIn wsX6_car (va_wsS RX6 119 yX6_isPlate wsX6_isPlate) := goodIn_app (goodIn_of _ (by decide +kernel)) ggX6_car_X6_isPlate
set_option maxRecDepth 20000 in
theorem ggX6_car_X6_isWithin : GoodIn wsX6_car wsX6_isWithin := goodIn_r _ [13] (by decide +kernel) (by decide +kernel)
set_option maxRecDepth 20000 in
theorem gX6_car_X6_isWithin : GoodIn wsX6_car (va_wsS RX6 33 yX6_isWithin wsX6_isWithin) := goodIn_app (goodIn_of _ (by decide +kernel)) ggX6_car_X6_isWithin
set_option maxRecDepth 20000 in
theorem ggX6_car_X0_withPlate : GoodIn wsX6_car wsX0_withPlate := goodIn_r _ [18, 19, 20, 83, 84, 85, 86, 87, 88, 89, 90, 91] (by decide +kernel) (by decide +kernel)
set_option maxRecDepth 20000 in
theorem gX6_car_X0_withPlate : GoodIn wsX6_car (wsV RX6 155 RX0 yX0_withPlate wsX0_withPlate) := goodIn_app (goodIn_of _ (by decide +kernel)) ggX6_car_X0_withPlate
set_option maxRecDepth 20000 in
theorem ggX6_car_X0_has : GoodIn wsX6_car wsX0_has := goodIn_r _ [24, 19, 83, 84, 85, 86, 87, 88, 89, 90, 91] (by decide +kernel) (by decide +kernel)
set_option maxRecDepth 20000 in
theorem gX6_car_X0_has : GoodIn wsX6_car (wsV RX6 59 RX0 yX0_has wsX0_has) := goodIn_app (goodIn_of _ (by decide +kernel)) ggX6_car_X0_has
set_option maxRecDepth 20000 in
theorem ggX6_car_X3_feeAt : GoodIn wsX6_car wsX3_feeAt := goodIn_r _ [29, 30, 31, 32, 33, 34, 35, 36, 22, 23, 17, 24, 19, 37, 38, 39, 40, 41, 42, 43, 44, 45, 28, 46, 47, 48, 49, 50, 51, 52, 53, 54, 55, 56, 57, 58, 59, 60, 61, 62, 63, 64, 65, 75, 76, 77, 78, 79, 80, 81, 82, 83, 84, 85, 86, 87, 88, 89, 90, 91, 92, 93, 94, 95, 96, 97, 98, 99, 100, 101, 102] (by decide +kernel) (by decide +kernel)
set_option maxRecDepth 20000 in
theorem gX6_car_X3_feeAt : GoodIn wsX6_car (wsV RX6 176 RX3 yX3_feeAt wsX3_feeAt) := goodIn_app (goodIn_of _ (by decide +kernel)) ggX6_car_X3_feeAt
set_option maxRecDepth 20000 in
theorem ggX6_car_X3_lostFee : GoodIn wsX6_car wsX3_lostFee := goodIn_r _ [69, 30, 70, 33, 49, 50, 51, 52, 47, 36, 22, 23, 17, 24, 19, 43, 44, 45, 28, 46, 48, 53, 54, 55, 56, 57, 58, 59, 60, 61, 62, 63, 64, 65, 75, 76, 77, 78, 79, 80, 81, 82, 83, 84, 85, 86, 87, 88, 89, 90, 91, 99, 100, 101, 102] (by decide +kernel) (by decide +kernel)
set_option maxRecDepth 20000 in
theorem gX6_car_X3_lostFee : GoodIn wsX6_car (wsV RX6 184 RX3 yX3_lostFee wsX3_lostFee) := goodIn_app (goodIn_of _ (by decide +kernel)) ggX6_car_X3_lostFee
theorem dX6_car_0 : decode cX6_car 0 = .ok (.iload_n 1, 1) := by decide +kernel
theorem dX6_car_1 : decode cX6_car 1 = .ok (.invokestatic 119, 3) := by decide +kernel
theorem dX6_car_4 : decode cX6_car 4 = .ok (.ifCond .eq 12, 3) := by decide +kernel
theorem dX6_car_7 : decode cX6_car 7 = .ok (.iload_n 2, 1) := by decide +kernel
theorem dX6_car_8 : decode cX6_car 8 = .ok (.iconst 0, 1) := by decide +kernel
theorem dX6_car_9 : decode cX6_car 9 = .ok (.iconst 5, 1) := by decide +kernel
theorem dX6_car_10 : decode cX6_car 10 = .ok (.invokestatic 33, 3) := by decide +kernel
theorem dX6_car_13 : decode cX6_car 13 = .ok (.ifCond .ne 5, 3) := by decide +kernel
theorem dX6_car_16 : decode cX6_car 16 = .ok (.iconst (-1), 1) := by decide +kernel
theorem dX6_car_17 : decode cX6_car 17 = .ok (.ireturn, 1) := by decide +kernel
theorem dX6_car_18 : decode cX6_car 18 = .ok (.aload_n 0, 1) := by decide +kernel
theorem dX6_car_19 : decode cX6_car 19 = .ok (.getfield 10, 3) := by decide +kernel
theorem dX6_car_22 : decode cX6_car 22 = .ok (.getfield 37, 3) := by decide +kernel
theorem dX6_car_25 : decode cX6_car 25 = .ok (.iload_n 1, 1) := by decide +kernel
theorem dX6_car_26 : decode cX6_car 26 = .ok (.invokevirtual 155, 3) := by decide +kernel
theorem dX6_car_29 : decode cX6_car 29 = .ok (.istore_n 3, 1) := by decide +kernel
theorem dX6_car_30 : decode cX6_car 30 = .ok (.aload_n 0, 1) := by decide +kernel
theorem dX6_car_31 : decode cX6_car 31 = .ok (.getfield 10, 3) := by decide +kernel
theorem dX6_car_34 : decode cX6_car 34 = .ok (.getfield 37, 3) := by decide +kernel
theorem dX6_car_37 : decode cX6_car 37 = .ok (.iload_n 3, 1) := by decide +kernel
theorem dX6_car_38 : decode cX6_car 38 = .ok (.invokevirtual 59, 3) := by decide +kernel
theorem dX6_car_41 : decode cX6_car 41 = .ok (.ifCond .ne 6, 3) := by decide +kernel
theorem dX6_car_44 : decode cX6_car 44 = .ok (.bipush (-9), 2) := by decide +kernel
theorem dX6_car_46 : decode cX6_car 46 = .ok (.ireturn, 1) := by decide +kernel
theorem dX6_car_47 : decode cX6_car 47 = .ok (.iload_n 2, 1) := by decide +kernel
theorem dX6_car_48 : decode cX6_car 48 = .ok (.tableswitch 93 0 4 #[36, 49, 62, 64, 77], 36) := by decide +kernel
theorem dX6_car_84 : decode cX6_car 84 = .ok (.aload_n 0, 1) := by decide +kernel
theorem dX6_car_85 : decode cX6_car 85 = .ok (.getfield 10, 3) := by decide +kernel
theorem dX6_car_88 : decode cX6_car 88 = .ok (.getfield 37, 3) := by decide +kernel
theorem dX6_car_91 : decode cX6_car 91 = .ok (.getfield 222, 3) := by decide +kernel
theorem dX6_car_94 : decode cX6_car 94 = .ok (.iload_n 3, 1) := by decide +kernel
theorem dX6_car_95 : decode cX6_car 95 = .ok (.iaload, 1) := by decide +kernel
theorem dX6_car_96 : decode cX6_car 96 = .ok (.ireturn, 1) := by decide +kernel
theorem dX6_car_97 : decode cX6_car 97 = .ok (.aload_n 0, 1) := by decide +kernel
theorem dX6_car_98 : decode cX6_car 98 = .ok (.getfield 10, 3) := by decide +kernel
theorem dX6_car_101 : decode cX6_car 101 = .ok (.getfield 37, 3) := by decide +kernel
theorem dX6_car_104 : decode cX6_car 104 = .ok (.getfield 224, 3) := by decide +kernel
theorem dX6_car_107 : decode cX6_car 107 = .ok (.iload_n 3, 1) := by decide +kernel
theorem dX6_car_108 : decode cX6_car 108 = .ok (.iaload, 1) := by decide +kernel
theorem dX6_car_109 : decode cX6_car 109 = .ok (.ireturn, 1) := by decide +kernel
theorem dX6_car_110 : decode cX6_car 110 = .ok (.iload_n 3, 1) := by decide +kernel
theorem dX6_car_111 : decode cX6_car 111 = .ok (.ireturn, 1) := by decide +kernel
theorem dX6_car_112 : decode cX6_car 112 = .ok (.aload_n 0, 1) := by decide +kernel
theorem dX6_car_113 : decode cX6_car 113 = .ok (.getfield 10, 3) := by decide +kernel
theorem dX6_car_116 : decode cX6_car 116 = .ok (.getfield 37, 3) := by decide +kernel
theorem dX6_car_119 : decode cX6_car 119 = .ok (.getfield 179, 3) := by decide +kernel
theorem dX6_car_122 : decode cX6_car 122 = .ok (.iload_n 3, 1) := by decide +kernel
theorem dX6_car_123 : decode cX6_car 123 = .ok (.iaload, 1) := by decide +kernel
theorem dX6_car_124 : decode cX6_car 124 = .ok (.ireturn, 1) := by decide +kernel
theorem dX6_car_125 : decode cX6_car 125 = .ok (.aload_n 0, 1) := by decide +kernel
theorem dX6_car_126 : decode cX6_car 126 = .ok (.getfield 10, 3) := by decide +kernel
theorem dX6_car_129 : decode cX6_car 129 = .ok (.iload_n 3, 1) := by decide +kernel
theorem dX6_car_130 : decode cX6_car 130 = .ok (.aload_n 0, 1) := by decide +kernel
theorem dX6_car_131 : decode cX6_car 131 = .ok (.getfield 10, 3) := by decide +kernel
theorem dX6_car_134 : decode cX6_car 134 = .ok (.getfield 122, 3) := by decide +kernel
theorem dX6_car_137 : decode cX6_car 137 = .ok (.invokevirtual 176, 3) := by decide +kernel
theorem dX6_car_140 : decode cX6_car 140 = .ok (.ireturn, 1) := by decide +kernel
theorem dX6_car_141 : decode cX6_car 141 = .ok (.aload_n 0, 1) := by decide +kernel
theorem dX6_car_142 : decode cX6_car 142 = .ok (.getfield 10, 3) := by decide +kernel
theorem dX6_car_145 : decode cX6_car 145 = .ok (.iload_n 3, 1) := by decide +kernel
theorem dX6_car_146 : decode cX6_car 146 = .ok (.invokevirtual 184, 3) := by decide +kernel
theorem dX6_car_149 : decode cX6_car 149 = .ok (.ireturn, 1) := by decide +kernel
set_option maxRecDepth 20000 in
theorem ggX6_step_X6_isTariff : GoodIn wsX6_step wsX6_isTariff := goodIn_r _ [9] (by decide +kernel) (by decide +kernel)
set_option maxRecDepth 20000 in
theorem gX6_step_X6_isTariff : GoodIn wsX6_step (va_wsS RX6 67 yX6_isTariff wsX6_isTariff) := goodIn_app (goodIn_of _ (by decide +kernel)) ggX6_step_X6_isTariff
set_option maxRecDepth 20000 in
theorem ggX6_step_X6_isWithin : GoodIn wsX6_step wsX6_isWithin := goodIn_r _ [12] (by decide +kernel) (by decide +kernel)
set_option maxRecDepth 20000 in
theorem gX6_step_X6_isWithin : GoodIn wsX6_step (va_wsS RX6 33 yX6_isWithin wsX6_isWithin) := goodIn_app (goodIn_of _ (by decide +kernel)) ggX6_step_X6_isWithin
set_option maxRecDepth 20000 in
theorem ggX6_step_X3_tariff : GoodIn wsX6_step wsX3_tariff := goodIn_r _ [17, 18, 19, 28, 29, 30, 31, 32, 33, 34, 35] (by decide +kernel) (by decide +kernel)
set_option maxRecDepth 20000 in
theorem gX6_step_X3_tariff : GoodIn wsX6_step (wsV RX6 70 RX3 yX3_tariff wsX3_tariff) := goodIn_app (goodIn_of _ (by decide +kernel)) ggX6_step_X3_tariff
theorem dX6_step_0 : decode cX6_step 0 = .ok (.iload_n 1, 1) := by decide +kernel
theorem dX6_step_1 : decode cX6_step 1 = .ok (.invokestatic 67, 3) := by decide +kernel
theorem dX6_step_4 : decode cX6_step 4 = .ok (.ifCond .eq 16, 3) := by decide +kernel
theorem dX6_step_7 : decode cX6_step 7 = .ok (.iload_n 2, 1) := by decide +kernel
theorem dX6_step_8 : decode cX6_step 8 = .ok (.ifCond .lt 12, 3) := by decide +kernel
theorem dX6_step_11 : decode cX6_step 11 = .ok (.iload_n 3, 1) := by decide +kernel
theorem dX6_step_12 : decode cX6_step 12 = .ok (.iconst 0, 1) := by decide +kernel
theorem dX6_step_13 : decode cX6_step 13 = .ok (.iconst 2, 1) := by decide +kernel
theorem dX6_step_14 : decode cX6_step 14 = .ok (.invokestatic 33, 3) := by decide +kernel
theorem dX6_step_17 : decode cX6_step 17 = .ok (.ifCond .ne 5, 3) := by decide +kernel
theorem dX6_step_20 : decode cX6_step 20 = .ok (.iconst (-1), 1) := by decide +kernel
theorem dX6_step_21 : decode cX6_step 21 = .ok (.ireturn, 1) := by decide +kernel
theorem dX6_step_22 : decode cX6_step 22 = .ok (.aload_n 0, 1) := by decide +kernel
theorem dX6_step_23 : decode cX6_step 23 = .ok (.getfield 10, 3) := by decide +kernel
theorem dX6_step_26 : decode cX6_step 26 = .ok (.iload_n 1, 1) := by decide +kernel
theorem dX6_step_27 : decode cX6_step 27 = .ok (.invokevirtual 70, 3) := by decide +kernel
theorem dX6_step_30 : decode cX6_step 30 = .ok (.astore 4, 2) := by decide +kernel
theorem dX6_step_32 : decode cX6_step 32 = .ok (.iload_n 2, 1) := by decide +kernel
theorem dX6_step_33 : decode cX6_step 33 = .ok (.aload 4, 2) := by decide +kernel
theorem dX6_step_35 : decode cX6_step 35 = .ok (.getfield 81, 3) := by decide +kernel
theorem dX6_step_38 : decode cX6_step 38 = .ok (.if_icmp .lt 6, 3) := by decide +kernel
theorem dX6_step_41 : decode cX6_step 41 = .ok (.bipush (-9), 2) := by decide +kernel
theorem dX6_step_43 : decode cX6_step 43 = .ok (.ireturn, 1) := by decide +kernel
theorem dX6_step_44 : decode cX6_step 44 = .ok (.iload_n 3, 1) := by decide +kernel
theorem dX6_step_45 : decode cX6_step 45 = .ok (.lookupswitch 43 #[(0, 27), (1, 35)], 27) := by decide +kernel
theorem dX6_step_72 : decode cX6_step 72 = .ok (.aload 4, 2) := by decide +kernel
theorem dX6_step_74 : decode cX6_step 74 = .ok (.getfield 227, 3) := by decide +kernel
theorem dX6_step_77 : decode cX6_step 77 = .ok (.iload_n 2, 1) := by decide +kernel
theorem dX6_step_78 : decode cX6_step 78 = .ok (.iaload, 1) := by decide +kernel
theorem dX6_step_79 : decode cX6_step 79 = .ok (.ireturn, 1) := by decide +kernel
theorem dX6_step_80 : decode cX6_step 80 = .ok (.aload 4, 2) := by decide +kernel
theorem dX6_step_82 : decode cX6_step 82 = .ok (.getfield 230, 3) := by decide +kernel
theorem dX6_step_85 : decode cX6_step 85 = .ok (.iload_n 2, 1) := by decide +kernel
theorem dX6_step_86 : decode cX6_step 86 = .ok (.iaload, 1) := by decide +kernel
theorem dX6_step_87 : decode cX6_step 87 = .ok (.ireturn, 1) := by decide +kernel
theorem dX6_step_88 : decode cX6_step 88 = .ok (.aload 4, 2) := by decide +kernel
theorem dX6_step_90 : decode cX6_step 90 = .ok (.getfield 233, 3) := by decide +kernel
theorem dX6_step_93 : decode cX6_step 93 = .ok (.iload_n 2, 1) := by decide +kernel
theorem dX6_step_94 : decode cX6_step 94 = .ok (.iaload, 1) := by decide +kernel
theorem dX6_step_95 : decode cX6_step 95 = .ok (.ireturn, 1) := by decide +kernel
set_option maxRecDepth 20000 in
theorem ggX6_account_X6_isWithin : GoodIn wsX6_account wsX6_isWithin := goodIn_r _ [6] (by decide +kernel) (by decide +kernel)
set_option maxRecDepth 20000 in
theorem gX6_account_X6_isWithin : GoodIn wsX6_account (va_wsS RX6 33 yX6_isWithin wsX6_isWithin) := goodIn_app (goodIn_of _ (by decide +kernel)) ggX6_account_X6_isWithin
set_option maxRecDepth 20000 in
theorem ggX6_account_X3_sumOfAccounts : GoodIn wsX6_account wsX3_sumOfAccounts := goodIn_r _ [11, 12, 17, 18, 19, 20, 21, 22, 23, 24] (by decide +kernel) (by decide +kernel)
set_option maxRecDepth 20000 in
theorem gX6_account_X3_sumOfAccounts : GoodIn wsX6_account (wsV RX6 234 RX3 yX3_sumOfAccounts wsX3_sumOfAccounts) := goodIn_app (goodIn_of _ (by decide +kernel)) ggX6_account_X3_sumOfAccounts
theorem dX6_account_0 : decode cX6_account 0 = .ok (.iload_n 1, 1) := by decide +kernel
theorem dX6_account_1 : decode cX6_account 1 = .ok (.iconst (-1), 1) := by decide +kernel
theorem dX6_account_2 : decode cX6_account 2 = .ok (.iconst 3, 1) := by decide +kernel
theorem dX6_account_3 : decode cX6_account 3 = .ok (.invokestatic 33, 3) := by decide +kernel
theorem dX6_account_6 : decode cX6_account 6 = .ok (.ifCond .ne 5, 3) := by decide +kernel
theorem dX6_account_9 : decode cX6_account 9 = .ok (.iconst (-1), 1) := by decide +kernel
theorem dX6_account_10 : decode cX6_account 10 = .ok (.ireturn, 1) := by decide +kernel
theorem dX6_account_11 : decode cX6_account 11 = .ok (.iload_n 1, 1) := by decide +kernel
theorem dX6_account_12 : decode cX6_account 12 = .ok (.ifCond .ge 13, 3) := by decide +kernel
theorem dX6_account_15 : decode cX6_account 15 = .ok (.aload_n 0, 1) := by decide +kernel
theorem dX6_account_16 : decode cX6_account 16 = .ok (.getfield 10, 3) := by decide +kernel
theorem dX6_account_19 : decode cX6_account 19 = .ok (.invokevirtual 234, 3) := by decide +kernel
theorem dX6_account_22 : decode cX6_account 22 = .ok (.goto 12, 3) := by decide +kernel
theorem dX6_account_25 : decode cX6_account 25 = .ok (.aload_n 0, 1) := by decide +kernel
theorem dX6_account_26 : decode cX6_account 26 = .ok (.getfield 10, 3) := by decide +kernel
theorem dX6_account_29 : decode cX6_account 29 = .ok (.getfield 139, 3) := by decide +kernel
theorem dX6_account_32 : decode cX6_account 32 = .ok (.iload_n 1, 1) := by decide +kernel
theorem dX6_account_33 : decode cX6_account 33 = .ok (.iaload, 1) := by decide +kernel
theorem dX6_account_34 : decode cX6_account 34 = .ok (.ireturn, 1) := by decide +kernel
set_option maxRecDepth 20000 in
theorem ggX6_nearest_X6_isWithin : GoodIn wsX6_nearest wsX6_isWithin := goodIn_r _ [5] (by decide +kernel) (by decide +kernel)
set_option maxRecDepth 20000 in
theorem gX6_nearest_X6_isWithin : GoodIn wsX6_nearest (va_wsS RX6 33 yX6_isWithin wsX6_isWithin) := goodIn_app (goodIn_of _ (by decide +kernel)) ggX6_nearest_X6_isWithin
set_option maxRecDepth 20000 in
theorem ggX6_nearest_X3_firstFree : GoodIn wsX6_nearest wsX3_firstFree := goodIn_r _ [10, 11, 12, 13, 14, 15, 16, 17, 18, 19, 20, 21, 22, 23, 24, 25, 26, 27, 28, 29, 30, 31, 32, 9, 33, 34, 35, 36, 37, 38, 39, 40, 41, 42, 43, 44, 45, 46, 47, 48, 49, 50, 51, 52, 53, 54, 55, 56, 57, 58, 59, 60, 61, 62, 63, 64, 65, 66, 67, 68, 69, 70, 71, 76, 77, 78, 79, 80, 81, 82, 83, 84, 85, 86, 87, 88, 89, 90, 91, 92, 93, 94, 95, 96, 97, 98, 99] (by decide +kernel) (by decide +kernel)
set_option maxRecDepth 20000 in
theorem gX6_nearest_X3_firstFree : GoodIn wsX6_nearest (wsV RX6 164 RX3 yX3_firstFree wsX3_firstFree) := goodIn_app (goodIn_of _ (by decide +kernel)) ggX6_nearest_X3_firstFree
theorem dX6_nearest_0 : decode cX6_nearest 0 = .ok (.iload_n 1, 1) := by decide +kernel
theorem dX6_nearest_1 : decode cX6_nearest 1 = .ok (.iconst 0, 1) := by decide +kernel
theorem dX6_nearest_2 : decode cX6_nearest 2 = .ok (.iconst 2, 1) := by decide +kernel
theorem dX6_nearest_3 : decode cX6_nearest 3 = .ok (.invokestatic 33, 3) := by decide +kernel
theorem dX6_nearest_6 : decode cX6_nearest 6 = .ok (.ifCond .ne 5, 3) := by decide +kernel
theorem dX6_nearest_9 : decode cX6_nearest 9 = .ok (.iconst (-1), 1) := by decide +kernel
theorem dX6_nearest_10 : decode cX6_nearest 10 = .ok (.ireturn, 1) := by decide +kernel
theorem dX6_nearest_11 : decode cX6_nearest 11 = .ok (.aload_n 0, 1) := by decide +kernel
theorem dX6_nearest_12 : decode cX6_nearest 12 = .ok (.getfield 10, 3) := by decide +kernel
theorem dX6_nearest_15 : decode cX6_nearest 15 = .ok (.iload_n 1, 1) := by decide +kernel
theorem dX6_nearest_16 : decode cX6_nearest 16 = .ok (.invokevirtual 164, 3) := by decide +kernel
theorem dX6_nearest_19 : decode cX6_nearest 19 = .ok (.ireturn, 1) := by decide +kernel
set_option maxRecDepth 20000 in
theorem ggX6_free_X6_isWithin : GoodIn wsX6_free wsX6_isWithin := goodIn_r _ [5] (by decide +kernel) (by decide +kernel)
set_option maxRecDepth 20000 in
theorem gX6_free_X6_isWithin : GoodIn wsX6_free (va_wsS RX6 33 yX6_isWithin wsX6_isWithin) := goodIn_app (goodIn_of _ (by decide +kernel)) ggX6_free_X6_isWithin
set_option maxRecDepth 20000 in
theorem ggX6_free_X3_freeBays : GoodIn wsX6_free wsX3_freeBays := goodIn_r _ [10, 11, 12, 13, 14, 15, 16, 17, 18, 19, 20, 21, 22, 23, 24, 25, 26, 27, 28, 29, 30, 31, 32, 33, 34, 9, 35, 36, 37, 38, 39, 40, 41, 42, 43, 44, 45, 46, 47, 48, 49, 50, 51, 52, 53, 54, 55, 56, 57, 58, 59, 60, 61, 66, 67, 68, 69, 70, 71, 72, 73, 74, 75, 76, 77, 78, 79, 80, 81, 82, 83, 84, 85, 86, 87, 88, 89] (by decide +kernel) (by decide +kernel)
set_option maxRecDepth 20000 in
theorem gX6_free_X3_freeBays : GoodIn wsX6_free (wsV RX6 237 RX3 yX3_freeBays wsX3_freeBays) := goodIn_app (goodIn_of _ (by decide +kernel)) ggX6_free_X3_freeBays
theorem dX6_free_0 : decode cX6_free 0 = .ok (.iload_n 1, 1) := by decide +kernel
theorem dX6_free_1 : decode cX6_free 1 = .ok (.iconst 0, 1) := by decide +kernel
theorem dX6_free_2 : decode cX6_free 2 = .ok (.iconst 4, 1) := by decide +kernel
theorem dX6_free_3 : decode cX6_free 3 = .ok (.invokestatic 33, 3) := by decide +kernel
theorem dX6_free_6 : decode cX6_free 6 = .ok (.ifCond .eq 12, 3) := by decide +kernel
theorem dX6_free_9 : decode cX6_free 9 = .ok (.iload_n 2, 1) := by decide +kernel
theorem dX6_free_10 : decode cX6_free 10 = .ok (.iconst (-1), 1) := by decide +kernel
theorem dX6_free_11 : decode cX6_free 11 = .ok (.iconst 2, 1) := by decide +kernel
theorem dX6_free_12 : decode cX6_free 12 = .ok (.invokestatic 33, 3) := by decide +kernel
theorem dX6_free_15 : decode cX6_free 15 = .ok (.ifCond .ne 5, 3) := by decide +kernel
theorem dX6_free_18 : decode cX6_free 18 = .ok (.iconst (-1), 1) := by decide +kernel
theorem dX6_free_19 : decode cX6_free 19 = .ok (.ireturn, 1) := by decide +kernel
theorem dX6_free_20 : decode cX6_free 20 = .ok (.aload_n 0, 1) := by decide +kernel
theorem dX6_free_21 : decode cX6_free 21 = .ok (.getfield 10, 3) := by decide +kernel
theorem dX6_free_24 : decode cX6_free 24 = .ok (.iload_n 1, 1) := by decide +kernel
theorem dX6_free_25 : decode cX6_free 25 = .ok (.iload_n 2, 1) := by decide +kernel
theorem dX6_free_26 : decode cX6_free 26 = .ok (.invokevirtual 237, 3) := by decide +kernel
theorem dX6_free_29 : decode cX6_free 29 = .ok (.ireturn, 1) := by decide +kernel
set_option maxRecDepth 20000 in
theorem ggX6_freeFor_X0_has : GoodIn wsX6_freeFor wsX0_has := goodIn_r _ [10, 11, 59, 60, 61, 62, 63, 64, 65, 66, 67] (by decide +kernel) (by decide +kernel)
set_option maxRecDepth 20000 in
theorem gX6_freeFor_X0_has : GoodIn wsX6_freeFor (wsV RX6 59 RX0 yX0_has wsX0_has) := goodIn_app (goodIn_of _ (by decide +kernel)) ggX6_freeFor_X0_has
set_option maxRecDepth 20000 in
theorem ggX6_freeFor_X3_isHeld : GoodIn wsX6_freeFor wsX3_isHeld := goodIn_r _ [16, 17, 18, 19, 20, 21, 22, 23, 24, 25, 26, 27, 28, 29, 30, 31, 32, 33, 34, 35, 36, 37, 38, 39, 40, 41, 42, 51, 52, 53, 54, 55, 56, 57, 58, 68, 69, 70, 71, 72, 73, 74] (by decide +kernel) (by decide +kernel)
set_option maxRecDepth 20000 in
theorem gX6_freeFor_X3_isHeld : GoodIn wsX6_freeFor (wsV RX6 250 RX3 yX3_isHeld wsX3_isHeld) := goodIn_app (goodIn_of _ (by decide +kernel)) ggX6_freeFor_X3_isHeld
set_option maxRecDepth 20000 in
theorem ggX6_freeFor_X2_minutesUntilHeld : GoodIn wsX6_freeFor wsX2_minutesUntilHeld := goodIn_r _ [46, 25, 31, 26, 33, 34, 35, 23, 36, 37, 38, 39, 40, 41, 68, 69, 70, 71, 72, 73, 74] (by decide +kernel) (by decide +kernel)
set_option maxRecDepth 20000 in
theorem gX6_freeFor_X2_minutesUntilHeld : GoodIn wsX6_freeFor (wsV RX6 253 RX2 yX2_minutesUntilHeld wsX2_minutesUntilHeld) := goodIn_app (goodIn_of _ (by decide +kernel)) ggX6_freeFor_X2_minutesUntilHeld
theorem dX6_freeFor_0 : decode cX6_freeFor 0 = .ok (.aload_n 0, 1) := by decide +kernel
theorem dX6_freeFor_1 : decode cX6_freeFor 1 = .ok (.getfield 10, 3) := by decide +kernel
theorem dX6_freeFor_4 : decode cX6_freeFor 4 = .ok (.getfield 37, 3) := by decide +kernel
theorem dX6_freeFor_7 : decode cX6_freeFor 7 = .ok (.iload_n 1, 1) := by decide +kernel
theorem dX6_freeFor_8 : decode cX6_freeFor 8 = .ok (.invokevirtual 59, 3) := by decide +kernel
theorem dX6_freeFor_11 : decode cX6_freeFor 11 = .ok (.ifCond .ne 5, 3) := by decide +kernel
theorem dX6_freeFor_14 : decode cX6_freeFor 14 = .ok (.iconst (-1), 1) := by decide +kernel
theorem dX6_freeFor_15 : decode cX6_freeFor 15 = .ok (.ireturn, 1) := by decide +kernel
theorem dX6_freeFor_16 : decode cX6_freeFor 16 = .ok (.aload_n 0, 1) := by decide +kernel
theorem dX6_freeFor_17 : decode cX6_freeFor 17 = .ok (.getfield 10, 3) := by decide +kernel
theorem dX6_freeFor_20 : decode cX6_freeFor 20 = .ok (.iload_n 1, 1) := by decide +kernel
theorem dX6_freeFor_21 : decode cX6_freeFor 21 = .ok (.invokevirtual 250, 3) := by decide +kernel
theorem dX6_freeFor_24 : decode cX6_freeFor 24 = .ok (.ifCond .eq 5, 3) := by decide +kernel
theorem dX6_freeFor_27 : decode cX6_freeFor 27 = .ok (.iconst 0, 1) := by decide +kernel
theorem dX6_freeFor_28 : decode cX6_freeFor 28 = .ok (.ireturn, 1) := by decide +kernel
theorem dX6_freeFor_29 : decode cX6_freeFor 29 = .ok (.aload_n 0, 1) := by decide +kernel
theorem dX6_freeFor_30 : decode cX6_freeFor 30 = .ok (.getfield 10, 3) := by decide +kernel
theorem dX6_freeFor_33 : decode cX6_freeFor 33 = .ok (.getfield 128, 3) := by decide +kernel
theorem dX6_freeFor_36 : decode cX6_freeFor 36 = .ok (.iload_n 1, 1) := by decide +kernel
theorem dX6_freeFor_37 : decode cX6_freeFor 37 = .ok (.aload_n 0, 1) := by decide +kernel
theorem dX6_freeFor_38 : decode cX6_freeFor 38 = .ok (.getfield 10, 3) := by decide +kernel
theorem dX6_freeFor_41 : decode cX6_freeFor 41 = .ok (.getfield 122, 3) := by decide +kernel
theorem dX6_freeFor_44 : decode cX6_freeFor 44 = .ok (.aload_n 0, 1) := by decide +kernel
theorem dX6_freeFor_45 : decode cX6_freeFor 45 = .ok (.getfield 10, 3) := by decide +kernel
theorem dX6_freeFor_48 : decode cX6_freeFor 48 = .ok (.getfield 98, 3) := by decide +kernel
theorem dX6_freeFor_51 : decode cX6_freeFor 51 = .ok (.iconst 1, 1) := by decide +kernel
theorem dX6_freeFor_52 : decode cX6_freeFor 52 = .ok (.iaload, 1) := by decide +kernel
theorem dX6_freeFor_53 : decode cX6_freeFor 53 = .ok (.invokevirtual 253, 3) := by decide +kernel
theorem dX6_freeFor_56 : decode cX6_freeFor 56 = .ok (.ireturn, 1) := by decide +kernel
set_option maxRecDepth 20000 in
theorem ggX6_undo_X1_restore : GoodIn wsX6_undo wsX1_restore := goodIn_r _ [8, 9, 10, 11, 12, 13, 14, 15, 16, 17, 18, 19, 20, 21, 22, 23, 24, 25, 26, 27, 28, 29, 30, 31, 32, 33, 34, 35, 36, 37, 38, 39, 40, 41, 42, 43, 44, 45, 46, 47, 48, 49, 50, 51, 52, 53, 54, 55, 56, 57, 58, 59, 60, 61, 62, 63, 64, 65, 66, 67, 68, 69, 74, 75, 76, 77, 78, 79, 80, 81, 82, 83, 84, 85, 86, 87, 88, 89, 90, 91, 92, 93, 94, 95, 96, 97, 98, 99, 100, 101, 102, 103] (by decide +kernel) (by decide +kernel)
set_option maxRecDepth 20000 in
theorem gX6_undo_X1_restore : GoodIn wsX6_undo (wsV RX6 259 RX1 yX1_restore wsX1_restore) := goodIn_app (goodIn_of _ (by decide +kernel)) ggX6_undo_X1_restore
theorem dX6_undo_0 : decode cX6_undo 0 = .ok (.aload_n 0, 1) := by decide +kernel
theorem dX6_undo_1 : decode cX6_undo 1 = .ok (.getfield 22, 3) := by decide +kernel
theorem dX6_undo_4 : decode cX6_undo 4 = .ok (.getfield 196, 3) := by decide +kernel
theorem dX6_undo_7 : decode cX6_undo 7 = .ok (.ifCond .ne 6, 3) := by decide +kernel
theorem dX6_undo_10 : decode cX6_undo 10 = .ok (.bipush (-2), 2) := by decide +kernel
theorem dX6_undo_12 : decode cX6_undo 12 = .ok (.ireturn, 1) := by decide +kernel
theorem dX6_undo_13 : decode cX6_undo 13 = .ok (.aload_n 0, 1) := by decide +kernel
theorem dX6_undo_14 : decode cX6_undo 14 = .ok (.getfield 22, 3) := by decide +kernel
theorem dX6_undo_17 : decode cX6_undo 17 = .ok (.aload_n 0, 1) := by decide +kernel
theorem dX6_undo_18 : decode cX6_undo 18 = .ok (.getfield 10, 3) := by decide +kernel
theorem dX6_undo_21 : decode cX6_undo 21 = .ok (.invokevirtual 259, 3) := by decide +kernel
theorem dX6_undo_24 : decode cX6_undo 24 = .ok (.aload_n 0, 1) := by decide +kernel
theorem dX6_undo_25 : decode cX6_undo 25 = .ok (.getfield 22, 3) := by decide +kernel
theorem dX6_undo_28 : decode cX6_undo 28 = .ok (.getfield 196, 3) := by decide +kernel
theorem dX6_undo_31 : decode cX6_undo 31 = .ok (.ireturn, 1) := by decide +kernel
theorem dX6_isWithin_0 : decode cX6_isWithin 0 = .ok (.iload_n 0, 1) := by decide +kernel
theorem dX6_isWithin_1 : decode cX6_isWithin 1 = .ok (.iload_n 1, 1) := by decide +kernel
theorem dX6_isWithin_2 : decode cX6_isWithin 2 = .ok (.if_icmp .lt 12, 3) := by decide +kernel
theorem dX6_isWithin_5 : decode cX6_isWithin 5 = .ok (.iload_n 0, 1) := by decide +kernel
theorem dX6_isWithin_6 : decode cX6_isWithin 6 = .ok (.iload_n 2, 1) := by decide +kernel
theorem dX6_isWithin_7 : decode cX6_isWithin 7 = .ok (.if_icmp .gt 7, 3) := by decide +kernel
theorem dX6_isWithin_10 : decode cX6_isWithin 10 = .ok (.iconst 1, 1) := by decide +kernel
theorem dX6_isWithin_11 : decode cX6_isWithin 11 = .ok (.goto 4, 3) := by decide +kernel
theorem dX6_isWithin_14 : decode cX6_isWithin 14 = .ok (.iconst 0, 1) := by decide +kernel
theorem dX6_isWithin_15 : decode cX6_isWithin 15 = .ok (.ireturn, 1) := by decide +kernel
set_option maxRecDepth 20000 in
theorem ggX6_isPlate_X6_isWithin : GoodIn wsX6_isPlate wsX6_isWithin := goodIn_r _ [4] (by decide +kernel) (by decide +kernel)
set_option maxRecDepth 20000 in
theorem gX6_isPlate_X6_isWithin : GoodIn wsX6_isPlate (va_wsS RX6 33 yX6_isWithin wsX6_isWithin) := goodIn_app (goodIn_of _ (by decide +kernel)) ggX6_isPlate_X6_isWithin
theorem dX6_isPlate_0 : decode cX6_isPlate 0 = .ok (.iload_n 0, 1) := by decide +kernel
theorem dX6_isPlate_1 : decode cX6_isPlate 1 = .ok (.iconst 1, 1) := by decide +kernel
theorem dX6_isPlate_2 : decode cX6_isPlate 2 = .ok (.sipush 999, 3) := by decide +kernel
theorem dX6_isPlate_5 : decode cX6_isPlate 5 = .ok (.invokestatic 33, 3) := by decide +kernel
theorem dX6_isPlate_8 : decode cX6_isPlate 8 = .ok (.ireturn, 1) := by decide +kernel
theorem dX6_isTariff_0 : decode cX6_isTariff 0 = .ok (.iload_n 0, 1) := by decide +kernel
theorem dX6_isTariff_1 : decode cX6_isTariff 1 = .ok (.ifCond .eq 8, 3) := by decide +kernel
theorem dX6_isTariff_4 : decode cX6_isTariff 4 = .ok (.iload_n 0, 1) := by decide +kernel
theorem dX6_isTariff_5 : decode cX6_isTariff 5 = .ok (.iconst 1, 1) := by decide +kernel
theorem dX6_isTariff_6 : decode cX6_isTariff 6 = .ok (.if_icmp .ne 7, 3) := by decide +kernel
theorem dX6_isTariff_9 : decode cX6_isTariff 9 = .ok (.iconst 1, 1) := by decide +kernel
theorem dX6_isTariff_10 : decode cX6_isTariff 10 = .ok (.goto 4, 3) := by decide +kernel
theorem dX6_isTariff_13 : decode cX6_isTariff 13 = .ok (.iconst 0, 1) := by decide +kernel
theorem dX6_isTariff_14 : decode cX6_isTariff 14 = .ok (.ireturn, 1) := by decide +kernel
theorem dX6_copyRow_0 : decode cX6_copyRow 0 = .ok (.aload_n 0, 1) := by decide +kernel
theorem dX6_copyRow_1 : decode cX6_copyRow 1 = .ok (.iconst 0, 1) := by decide +kernel
theorem dX6_copyRow_2 : decode cX6_copyRow 2 = .ok (.aload_n 1, 1) := by decide +kernel
theorem dX6_copyRow_3 : decode cX6_copyRow 3 = .ok (.iconst 0, 1) := by decide +kernel
theorem dX6_copyRow_4 : decode cX6_copyRow 4 = .ok (.aload_n 0, 1) := by decide +kernel
theorem dX6_copyRow_5 : decode cX6_copyRow 5 = .ok (.arraylength, 1) := by decide +kernel
theorem dX6_copyRow_6 : decode cX6_copyRow 6 = .ok (.aload_n 1, 1) := by decide +kernel
theorem dX6_copyRow_7 : decode cX6_copyRow 7 = .ok (.arraylength, 1) := by decide +kernel
theorem dX6_copyRow_8 : decode cX6_copyRow 8 = .ok (.invokestatic 262, 3) := by decide +kernel
theorem dX6_copyRow_11 : decode cX6_copyRow 11 = .ok (.invokestatic 267, 3) := by decide +kernel
theorem dX6_copyRow_14 : decode cX6_copyRow 14 = .ok (.return_, 1) := by decide +kernel
