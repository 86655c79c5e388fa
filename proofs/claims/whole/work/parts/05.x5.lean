set_option maxRecDepth 20000 in
theorem ggX5_init_X0_init : GoodIn wsX5_init wsX0_init := goodIn_r _ [27, 28, 2, 3, 29, 30, 31, 32, 33, 34, 79] (by decide +kernel) (by decide +kernel)
set_option maxRecDepth 20000 in
theorem gX5_init_X0_init : GoodIn wsX5_init (wsX0_init) := ggX5_init_X0_init
set_option maxRecDepth 20000 in
theorem ggX5_init_X1_init : GoodIn wsX5_init wsX1_init := goodIn_r _ [36, 37, 2, 3, 29, 38, 39, 40, 86, 87, 88, 89, 90] (by decide +kernel) (by decide +kernel)
set_option maxRecDepth 20000 in
theorem gX5_init_X1_init_n18 : GoodIn wsX5_init (wsX1_init) := ggX5_init_X1_init
set_option maxRecDepth 20000 in
theorem ggX5_init_X4_init : GoodIn wsX5_init wsX4_init := goodIn_r _ [43, 44, 2, 3, 29, 45, 46, 47, 48, 49, 50, 51, 52, 53, 91, 92, 93, 94, 95, 96] (by decide +kernel) (by decide +kernel)
set_option maxRecDepth 20000 in
theorem gX5_init_X4_init : GoodIn wsX5_init (wsX4_init) := ggX5_init_X4_init
set_option maxRecDepth 20000 in
theorem ggX5_init_X3_init : GoodIn wsX5_init wsX3_init := goodIn_r _ [56, 57, 2, 3, 29, 58, 59, 60, 61, 62, 63, 64, 65, 66, 97, 98, 99, 100, 101, 102, 103, 104, 105, 106] (by decide +kernel) (by decide +kernel)
set_option maxRecDepth 20000 in
theorem gX5_init_X3_init : GoodIn wsX5_init (wsX3_init) := ggX5_init_X3_init
set_option maxRecDepth 20000 in
theorem ggX5_init_X2_init : GoodIn wsX5_init wsX2_init := goodIn_r _ [69, 70, 2, 3, 29, 71, 61, 72, 73, 74, 75, 76, 77, 78, 107, 108, 109, 110, 111, 112, 113, 114, 115, 116, 117] (by decide +kernel) (by decide +kernel)
set_option maxRecDepth 20000 in
theorem gX5_init_X2_init : GoodIn wsX5_init (wsX2_init) := ggX5_init_X2_init
theorem dX5_init_0 : decode cX5_init 0 = .ok (.aload_n 0, 1) := by decide +kernel
theorem dX5_init_1 : decode cX5_init 1 = .ok (.invokespecial 1, 3) := by decide +kernel
theorem dX5_init_4 : decode cX5_init 4 = .ok (.aload_n 0, 1) := by decide +kernel
theorem dX5_init_5 : decode cX5_init 5 = .ok (.new 7, 3) := by decide +kernel
theorem dX5_init_8 : decode cX5_init 8 = .ok (.dup, 1) := by decide +kernel
theorem dX5_init_9 : decode cX5_init 9 = .ok (.invokespecial 9, 3) := by decide +kernel
theorem dX5_init_12 : decode cX5_init 12 = .ok (.putfield 10, 3) := by decide +kernel
theorem dX5_init_15 : decode cX5_init 15 = .ok (.aload_n 0, 1) := by decide +kernel
theorem dX5_init_16 : decode cX5_init 16 = .ok (.new 16, 3) := by decide +kernel
theorem dX5_init_19 : decode cX5_init 19 = .ok (.dup, 1) := by decide +kernel
theorem dX5_init_20 : decode cX5_init 20 = .ok (.invokespecial 18, 3) := by decide +kernel
theorem dX5_init_23 : decode cX5_init 23 = .ok (.putfield 19, 3) := by decide +kernel
theorem dX5_init_26 : decode cX5_init 26 = .ok (.aload_n 0, 1) := by decide +kernel
theorem dX5_init_27 : decode cX5_init 27 = .ok (.new 23, 3) := by decide +kernel
theorem dX5_init_30 : decode cX5_init 30 = .ok (.dup, 1) := by decide +kernel
theorem dX5_init_31 : decode cX5_init 31 = .ok (.invokespecial 25, 3) := by decide +kernel
theorem dX5_init_34 : decode cX5_init 34 = .ok (.putfield 26, 3) := by decide +kernel
theorem dX5_init_37 : decode cX5_init 37 = .ok (.aload_n 0, 1) := by decide +kernel
theorem dX5_init_38 : decode cX5_init 38 = .ok (.new 30, 3) := by decide +kernel
theorem dX5_init_41 : decode cX5_init 41 = .ok (.dup, 1) := by decide +kernel
theorem dX5_init_42 : decode cX5_init 42 = .ok (.aload_n 0, 1) := by decide +kernel
theorem dX5_init_43 : decode cX5_init 43 = .ok (.getfield 26, 3) := by decide +kernel
theorem dX5_init_46 : decode cX5_init 46 = .ok (.aload_n 0, 1) := by decide +kernel
theorem dX5_init_47 : decode cX5_init 47 = .ok (.getfield 10, 3) := by decide +kernel
theorem dX5_init_50 : decode cX5_init 50 = .ok (.invokespecial 32, 3) := by decide +kernel
theorem dX5_init_53 : decode cX5_init 53 = .ok (.putfield 35, 3) := by decide +kernel
theorem dX5_init_56 : decode cX5_init 56 = .ok (.aload_n 0, 1) := by decide +kernel
theorem dX5_init_57 : decode cX5_init 57 = .ok (.new 39, 3) := by decide +kernel
theorem dX5_init_60 : decode cX5_init 60 = .ok (.dup, 1) := by decide +kernel
theorem dX5_init_61 : decode cX5_init 61 = .ok (.aload_n 0, 1) := by decide +kernel
theorem dX5_init_62 : decode cX5_init 62 = .ok (.getfield 19, 3) := by decide +kernel
theorem dX5_init_65 : decode cX5_init 65 = .ok (.aload_n 0, 1) := by decide +kernel
theorem dX5_init_66 : decode cX5_init 66 = .ok (.getfield 26, 3) := by decide +kernel
theorem dX5_init_69 : decode cX5_init 69 = .ok (.aload_n 0, 1) := by decide +kernel
theorem dX5_init_70 : decode cX5_init 70 = .ok (.getfield 10, 3) := by decide +kernel
theorem dX5_init_73 : decode cX5_init 73 = .ok (.invokespecial 41, 3) := by decide +kernel
theorem dX5_init_76 : decode cX5_init 76 = .ok (.putfield 44, 3) := by decide +kernel
theorem dX5_init_79 : decode cX5_init 79 = .ok (.aload_n 0, 1) := by decide +kernel
theorem dX5_init_80 : decode cX5_init 80 = .ok (.lconst 0, 1) := by decide +kernel
theorem dX5_init_81 : decode cX5_init 81 = .ok (.putfield 48, 3) := by decide +kernel
theorem dX5_init_84 : decode cX5_init 84 = .ok (.return_, 1) := by decide +kernel
set_option maxRecDepth 20000 in
theorem ggX5_value_X5_isWithin : GoodIn wsX5_value wsX5_isWithin := goodIn_r _ [6] (by decide +kernel) (by decide +kernel)
set_option maxRecDepth 20000 in
theorem gX5_value_X5_isWithin : GoodIn wsX5_value (va_wsS RX5 52 yX5_isWithin wsX5_isWithin) := goodIn_app (goodIn_of _ (by decide +kernel)) ggX5_value_X5_isWithin
set_option maxRecDepth 20000 in
theorem ggX5_value_X5_isValue : GoodIn wsX5_value wsX5_isValue := goodIn_r _ [9, 10] (by decide +kernel) (by decide +kernel)
set_option maxRecDepth 20000 in
theorem gX5_value_X5_isValue : GoodIn wsX5_value (va_wsS RX5 56 yX5_isValue wsX5_isValue) := goodIn_app (goodIn_of _ (by decide +kernel)) ggX5_value_X5_isValue
set_option maxRecDepth 20000 in
theorem ggX5_value_X3_forget : GoodIn wsX5_value wsX3_forget := goodIn_r _ [15, 16, 29, 30, 31, 32, 33, 34, 35, 36, 37, 38] (by decide +kernel) (by decide +kernel)
set_option maxRecDepth 20000 in
theorem gX5_value_X3_forget : GoodIn wsX5_value (wsV RX5 60 RX3 yX3_forget wsX3_forget) := goodIn_app (goodIn_of _ (by decide +kernel)) ggX5_value_X3_forget
set_option maxRecDepth 20000 in
theorem ggX5_value_X0_replace : GoodIn wsX5_value wsX0_replace := goodIn_r _ [21, 22, 39] (by decide +kernel) (by decide +kernel)
set_option maxRecDepth 20000 in
theorem gX5_value_X0_replace : GoodIn wsX5_value (wsV RX5 63 RX0 yX0_replace wsX0_replace) := goodIn_app (goodIn_of _ (by decide +kernel)) ggX5_value_X0_replace
theorem dX5_value_0 : decode cX5_value 0 = .ok (.iload_n 1, 1) := by decide +kernel
theorem dX5_value_1 : decode cX5_value 1 = .ok (.iconst 4, 1) := by decide +kernel
theorem dX5_value_2 : decode cX5_value 2 = .ok (.invokestatic 52, 3) := by decide +kernel
theorem dX5_value_5 : decode cX5_value 5 = .ok (.ifCond .eq 22, 3) := by decide +kernel
theorem dX5_value_8 : decode cX5_value 8 = .ok (.iload_n 2, 1) := by decide +kernel
theorem dX5_value_9 : decode cX5_value 9 = .ok (.bipush 97, 2) := by decide +kernel
theorem dX5_value_11 : decode cX5_value 11 = .ok (.if_icmp .lt 16, 3) := by decide +kernel
theorem dX5_value_14 : decode cX5_value 14 = .ok (.iload_n 2, 1) := by decide +kernel
theorem dX5_value_15 : decode cX5_value 15 = .ok (.bipush 122, 2) := by decide +kernel
theorem dX5_value_17 : decode cX5_value 17 = .ok (.if_icmp .gt 10, 3) := by decide +kernel
theorem dX5_value_20 : decode cX5_value 20 = .ok (.iload_n 3, 1) := by decide +kernel
theorem dX5_value_21 : decode cX5_value 21 = .ok (.invokestatic 56, 3) := by decide +kernel
theorem dX5_value_24 : decode cX5_value 24 = .ok (.ifCond .ne 5, 3) := by decide +kernel
theorem dX5_value_27 : decode cX5_value 27 = .ok (.iconst (-1), 1) := by decide +kernel
theorem dX5_value_28 : decode cX5_value 28 = .ok (.ireturn, 1) := by decide +kernel
theorem dX5_value_29 : decode cX5_value 29 = .ok (.aload_n 0, 1) := by decide +kernel
theorem dX5_value_30 : decode cX5_value 30 = .ok (.getfield 35, 3) := by decide +kernel
theorem dX5_value_33 : decode cX5_value 33 = .ok (.invokevirtual 60, 3) := by decide +kernel
theorem dX5_value_36 : decode cX5_value 36 = .ok (.aload_n 0, 1) := by decide +kernel
theorem dX5_value_37 : decode cX5_value 37 = .ok (.getfield 10, 3) := by decide +kernel
theorem dX5_value_40 : decode cX5_value 40 = .ok (.iload_n 1, 1) := by decide +kernel
theorem dX5_value_41 : decode cX5_value 41 = .ok (.iload_n 2, 1) := by decide +kernel
theorem dX5_value_42 : decode cX5_value 42 = .ok (.iload_n 3, 1) := by decide +kernel
theorem dX5_value_43 : decode cX5_value 43 = .ok (.invokevirtual 63, 3) := by decide +kernel
theorem dX5_value_46 : decode cX5_value 46 = .ok (.ireturn, 1) := by decide +kernel
set_option maxRecDepth 20000 in
theorem ggX5_worth_X5_isCustomary : GoodIn wsX5_worth wsX5_isCustomary := goodIn_r _ [7, 8, 9, 6, 10] (by decide +kernel) (by decide +kernel)
set_option maxRecDepth 20000 in
theorem gX5_worth_X5_isCustomary : GoodIn wsX5_worth (va_wsS RX5 67 yX5_isCustomary wsX5_isCustomary) := goodIn_app (goodIn_of _ (by decide +kernel)) ggX5_worth_X5_isCustomary
set_option maxRecDepth 20000 in
theorem ggX5_worth_X5_isWithin : GoodIn wsX5_worth wsX5_isWithin := goodIn_r _ [10] (by decide +kernel) (by decide +kernel)
set_option maxRecDepth 20000 in
theorem gX5_worth_X5_isWithin : GoodIn wsX5_worth (va_wsS RX5 52 yX5_isWithin wsX5_isWithin) := goodIn_app (goodIn_of _ (by decide +kernel)) ggX5_worth_X5_isWithin
set_option maxRecDepth 20000 in
theorem ggX5_worth_X0_worthOf : GoodIn wsX5_worth wsX0_worthOf := goodIn_r _ [15, 16, 17, 6, 18, 19, 20, 21, 28] (by decide +kernel) (by decide +kernel)
set_option maxRecDepth 20000 in
theorem gX5_worth_X0_worthOf : GoodIn wsX5_worth (wsV RX5 74 RX0 yX0_worthOf wsX0_worthOf) := goodIn_app (goodIn_of _ (by decide +kernel)) ggX5_worth_X0_worthOf
theorem dX5_worth_0 : decode cX5_worth 0 = .ok (.iload_n 1, 1) := by decide +kernel
theorem dX5_worth_1 : decode cX5_worth 1 = .ok (.iload_n 2, 1) := by decide +kernel
theorem dX5_worth_2 : decode cX5_worth 2 = .ok (.invokestatic 67, 3) := by decide +kernel
theorem dX5_worth_5 : decode cX5_worth 5 = .ok (.ifCond .eq 24, 3) := by decide +kernel
theorem dX5_worth_8 : decode cX5_worth 8 = .ok (.iload_n 3, 1) := by decide +kernel
theorem dX5_worth_9 : decode cX5_worth 9 = .ok (.sipush 256, 3) := by decide +kernel
theorem dX5_worth_12 : decode cX5_worth 12 = .ok (.invokestatic 52, 3) := by decide +kernel
theorem dX5_worth_15 : decode cX5_worth 15 = .ok (.ifCond .eq 14, 3) := by decide +kernel
theorem dX5_worth_18 : decode cX5_worth 18 = .ok (.iload 4, 2) := by decide +kernel
theorem dX5_worth_20 : decode cX5_worth 20 = .ok (.sipush 256, 3) := by decide +kernel
theorem dX5_worth_23 : decode cX5_worth 23 = .ok (.invokestatic 52, 3) := by decide +kernel
theorem dX5_worth_26 : decode cX5_worth 26 = .ok (.ifCond .ne 5, 3) := by decide +kernel
theorem dX5_worth_29 : decode cX5_worth 29 = .ok (.iconst (-1), 1) := by decide +kernel
theorem dX5_worth_30 : decode cX5_worth 30 = .ok (.ireturn, 1) := by decide +kernel
theorem dX5_worth_31 : decode cX5_worth 31 = .ok (.aload_n 0, 1) := by decide +kernel
theorem dX5_worth_32 : decode cX5_worth 32 = .ok (.dup, 1) := by decide +kernel
theorem dX5_worth_33 : decode cX5_worth 33 = .ok (.getfield 48, 3) := by decide +kernel
theorem dX5_worth_36 : decode cX5_worth 36 = .ok (.getstatic 70, 3) := by decide +kernel
theorem dX5_worth_39 : decode cX5_worth 39 = .ok (.iload_n 1, 1) := by decide +kernel
theorem dX5_worth_40 : decode cX5_worth 40 = .ok (.iaload, 1) := by decide +kernel
theorem dX5_worth_41 : decode cX5_worth 41 = .ok (.i2l, 1) := by decide +kernel
theorem dX5_worth_42 : decode cX5_worth 42 = .ok (.ladd, 1) := by decide +kernel
theorem dX5_worth_43 : decode cX5_worth 43 = .ok (.putfield 48, 3) := by decide +kernel
theorem dX5_worth_46 : decode cX5_worth 46 = .ok (.aload_n 0, 1) := by decide +kernel
theorem dX5_worth_47 : decode cX5_worth 47 = .ok (.getfield 10, 3) := by decide +kernel
theorem dX5_worth_50 : decode cX5_worth 50 = .ok (.iload_n 1, 1) := by decide +kernel
theorem dX5_worth_51 : decode cX5_worth 51 = .ok (.iload_n 2, 1) := by decide +kernel
theorem dX5_worth_52 : decode cX5_worth 52 = .ok (.iload_n 3, 1) := by decide +kernel
theorem dX5_worth_53 : decode cX5_worth 53 = .ok (.iload 4, 2) := by decide +kernel
theorem dX5_worth_55 : decode cX5_worth 55 = .ok (.invokevirtual 74, 3) := by decide +kernel
theorem dX5_worth_58 : decode cX5_worth 58 = .ok (.ireturn, 1) := by decide +kernel
set_option maxRecDepth 20000 in
theorem ggX5_type_X5_mayAllStand : GoodIn wsX5_type wsX5_mayAllStand := goodIn_r _ [6, 7, 8, 5, 9, 10, 11, 12, 13, 14, 15] (by decide +kernel) (by decide +kernel)
set_option maxRecDepth 20000 in
theorem gX5_type_X5_mayAllStand : GoodIn wsX5_type (va_wsS RX5 78 yX5_mayAllStand wsX5_mayAllStand) := goodIn_app (goodIn_of _ (by decide +kernel)) ggX5_type_X5_mayAllStand
set_option maxRecDepth 20000 in
theorem ggX5_type_X1_append : GoodIn wsX5_type wsX1_append := goodIn_r _ [20, 21, 22, 8, 5, 9, 23, 24, 25, 19, 26, 27, 28, 29, 36, 37, 38, 39, 40] (by decide +kernel) (by decide +kernel)
set_option maxRecDepth 20000 in
theorem gX5_type_X1_append : GoodIn wsX5_type (wsV RX5 86 RX1 yX1_append wsX1_append) := goodIn_app (goodIn_of _ (by decide +kernel)) ggX5_type_X1_append
theorem dX5_type_0 : decode cX5_type 0 = .ok (.iload_n 3, 1) := by decide +kernel
theorem dX5_type_1 : decode cX5_type 1 = .ok (.iconst 1, 1) := by decide +kernel
theorem dX5_type_2 : decode cX5_type 2 = .ok (.if_icmp .lt 17, 3) := by decide +kernel
theorem dX5_type_5 : decode cX5_type 5 = .ok (.iload_n 3, 1) := by decide +kernel
theorem dX5_type_6 : decode cX5_type 6 = .ok (.bipush 8, 2) := by decide +kernel
theorem dX5_type_8 : decode cX5_type 8 = .ok (.if_icmp .gt 11, 3) := by decide +kernel
theorem dX5_type_11 : decode cX5_type 11 = .ok (.lload_n 1, 1) := by decide +kernel
theorem dX5_type_12 : decode cX5_type 12 = .ok (.iload_n 3, 1) := by decide +kernel
theorem dX5_type_13 : decode cX5_type 13 = .ok (.invokestatic 78, 3) := by decide +kernel
theorem dX5_type_16 : decode cX5_type 16 = .ok (.ifCond .ne 5, 3) := by decide +kernel
theorem dX5_type_19 : decode cX5_type 19 = .ok (.iconst (-1), 1) := by decide +kernel
theorem dX5_type_20 : decode cX5_type 20 = .ok (.ireturn, 1) := by decide +kernel
theorem dX5_type_21 : decode cX5_type 21 = .ok (.aload_n 0, 1) := by decide +kernel
theorem dX5_type_22 : decode cX5_type 22 = .ok (.getfield 19, 3) := by decide +kernel
theorem dX5_type_25 : decode cX5_type 25 = .ok (.getfield 82, 3) := by decide +kernel
theorem dX5_type_28 : decode cX5_type 28 = .ok (.iload_n 3, 1) := by decide +kernel
theorem dX5_type_29 : decode cX5_type 29 = .ok (.iadd, 1) := by decide +kernel
theorem dX5_type_30 : decode cX5_type 30 = .ok (.bipush 40, 2) := by decide +kernel
theorem dX5_type_32 : decode cX5_type 32 = .ok (.if_icmp .le 6, 3) := by decide +kernel
theorem dX5_type_35 : decode cX5_type 35 = .ok (.bipush (-3), 2) := by decide +kernel
theorem dX5_type_37 : decode cX5_type 37 = .ok (.ireturn, 1) := by decide +kernel
theorem dX5_type_38 : decode cX5_type 38 = .ok (.aload_n 0, 1) := by decide +kernel
theorem dX5_type_39 : decode cX5_type 39 = .ok (.getfield 19, 3) := by decide +kernel
theorem dX5_type_42 : decode cX5_type 42 = .ok (.lload_n 1, 1) := by decide +kernel
theorem dX5_type_43 : decode cX5_type 43 = .ok (.iload_n 3, 1) := by decide +kernel
theorem dX5_type_44 : decode cX5_type 44 = .ok (.invokevirtual 86, 3) := by decide +kernel
theorem dX5_type_47 : decode cX5_type 47 = .ok (.aload_n 0, 1) := by decide +kernel
theorem dX5_type_48 : decode cX5_type 48 = .ok (.getfield 19, 3) := by decide +kernel
theorem dX5_type_51 : decode cX5_type 51 = .ok (.getfield 82, 3) := by decide +kernel
theorem dX5_type_54 : decode cX5_type 54 = .ok (.ireturn, 1) := by decide +kernel
set_option maxRecDepth 20000 in
theorem ggX5_clear_X1_wipe : GoodIn wsX5_clear wsX1_wipe := goodIn_r _ [7, 8, 9, 16, 17, 18, 19, 20] (by decide +kernel) (by decide +kernel)
set_option maxRecDepth 20000 in
theorem gX5_clear_X1_wipe : GoodIn wsX5_clear (wsV RX5 90 RX1 yX1_wipe wsX1_wipe) := goodIn_app (goodIn_of _ (by decide +kernel)) ggX5_clear_X1_wipe
theorem dX5_clear_0 : decode cX5_clear 0 = .ok (.aload_n 0, 1) := by decide +kernel
theorem dX5_clear_1 : decode cX5_clear 1 = .ok (.getfield 19, 3) := by decide +kernel
theorem dX5_clear_4 : decode cX5_clear 4 = .ok (.getfield 82, 3) := by decide +kernel
theorem dX5_clear_7 : decode cX5_clear 7 = .ok (.istore_n 1, 1) := by decide +kernel
theorem dX5_clear_8 : decode cX5_clear 8 = .ok (.aload_n 0, 1) := by decide +kernel
theorem dX5_clear_9 : decode cX5_clear 9 = .ok (.getfield 19, 3) := by decide +kernel
theorem dX5_clear_12 : decode cX5_clear 12 = .ok (.invokevirtual 90, 3) := by decide +kernel
theorem dX5_clear_15 : decode cX5_clear 15 = .ok (.iload_n 1, 1) := by decide +kernel
theorem dX5_clear_16 : decode cX5_clear 16 = .ok (.ireturn, 1) := by decide +kernel
set_option maxRecDepth 20000 in
theorem ggX5_sum_X5_isCustomary : GoodIn wsX5_sum wsX5_isCustomary := goodIn_r _ [4, 5, 6, 3, 7] (by decide +kernel) (by decide +kernel)
set_option maxRecDepth 20000 in
theorem gX5_sum_X5_isCustomary : GoodIn wsX5_sum (va_wsS RX5 67 yX5_isCustomary wsX5_isCustomary) := goodIn_app (goodIn_of _ (by decide +kernel)) ggX5_sum_X5_isCustomary
set_option maxRecDepth 20000 in
theorem ggX5_sum_X5_sumOfDraft : GoodIn wsX5_sum wsX5_sumOfDraft := goodIn_r _ [11, 12, 13, 14, 15, 16, 17, 18, 19, 20, 21, 22, 23, 24, 25, 26, 3, 27, 28, 29, 30, 31, 32, 33, 34, 35, 36, 37, 38, 39, 40, 41, 42] (by decide +kernel) (by decide +kernel)
set_option maxRecDepth 20000 in
theorem gX5_sum_X5_sumOfDraft : GoodIn wsX5_sum (wsV RX5 93 RX5 yX5_sumOfDraft wsX5_sumOfDraft) := goodIn_app (goodIn_of _ (by decide +kernel)) ggX5_sum_X5_sumOfDraft
theorem dX5_sum_0 : decode cX5_sum 0 = .ok (.iload_n 1, 1) := by decide +kernel
theorem dX5_sum_1 : decode cX5_sum 1 = .ok (.iload_n 2, 1) := by decide +kernel
theorem dX5_sum_2 : decode cX5_sum 2 = .ok (.invokestatic 67, 3) := by decide +kernel
theorem dX5_sum_5 : decode cX5_sum 5 = .ok (.ifCond .ne 5, 3) := by decide +kernel
theorem dX5_sum_8 : decode cX5_sum 8 = .ok (.iconst (-1), 1) := by decide +kernel
theorem dX5_sum_9 : decode cX5_sum 9 = .ok (.ireturn, 1) := by decide +kernel
theorem dX5_sum_10 : decode cX5_sum 10 = .ok (.aload_n 0, 1) := by decide +kernel
theorem dX5_sum_11 : decode cX5_sum 11 = .ok (.iload_n 1, 1) := by decide +kernel
theorem dX5_sum_12 : decode cX5_sum 12 = .ok (.iload_n 2, 1) := by decide +kernel
theorem dX5_sum_13 : decode cX5_sum 13 = .ok (.invokevirtual 93, 3) := by decide +kernel
theorem dX5_sum_16 : decode cX5_sum 16 = .ok (.ireturn, 1) := by decide +kernel
set_option maxRecDepth 20000 in
theorem ggX5_vocable_X5_isWithin : GoodIn wsX5_vocable wsX5_isWithin := goodIn_r _ [8] (by decide +kernel) (by decide +kernel)
set_option maxRecDepth 20000 in
theorem gX5_vocable_X5_isWithin : GoodIn wsX5_vocable (va_wsS RX5 52 yX5_isWithin wsX5_isWithin) := goodIn_app (goodIn_of _ (by decide +kernel)) ggX5_vocable_X5_isWithin
set_option maxRecDepth 20000 in
theorem ggX5_vocable_X1_isWord : GoodIn wsX5_vocable wsX1_isWord := goodIn_r _ [13, 14, 15, 16, 7, 17, 18, 19, 20, 60, 61, 62, 63, 64] (by decide +kernel) (by decide +kernel)
set_option maxRecDepth 20000 in
theorem gX5_vocable_X1_isWord : GoodIn wsX5_vocable (wsV RX5 97 RX1 yX1_isWord wsX1_isWord) := goodIn_app (goodIn_of _ (by decide +kernel)) ggX5_vocable_X1_isWord
set_option maxRecDepth 20000 in
theorem ggX5_vocable_X4_take : GoodIn wsX5_vocable wsX4_take := goodIn_r _ [25, 26, 27, 28, 29, 30, 31, 32, 33, 34, 35, 36, 60, 61, 62, 63, 64, 54, 55, 56, 57, 58, 59] (by decide +kernel) (by decide +kernel)
set_option maxRecDepth 20000 in
theorem gX5_vocable_X4_take : GoodIn wsX5_vocable (wsV RX5 104 RX4 yX4_take wsX4_take) := goodIn_app (goodIn_of _ (by decide +kernel)) ggX5_vocable_X4_take
set_option maxRecDepth 20000 in
theorem ggX5_vocable_X1_wipe : GoodIn wsX5_vocable wsX1_wipe := goodIn_r _ [40, 14, 41, 60, 61, 62, 63, 64] (by decide +kernel) (by decide +kernel)
set_option maxRecDepth 20000 in
theorem gX5_vocable_X1_wipe : GoodIn wsX5_vocable (wsV RX5 90 RX1 yX1_wipe wsX1_wipe) := goodIn_app (goodIn_of _ (by decide +kernel)) ggX5_vocable_X1_wipe
set_option maxRecDepth 20000 in
theorem ggX5_vocable_X3_forget : GoodIn wsX5_vocable wsX3_forget := goodIn_r _ [46, 47, 65, 66, 67, 68, 69, 70, 71, 72, 73, 74] (by decide +kernel) (by decide +kernel)
set_option maxRecDepth 20000 in
theorem gX5_vocable_X3_forget : GoodIn wsX5_vocable (wsV RX5 60 RX3 yX3_forget wsX3_forget) := goodIn_app (goodIn_of _ (by decide +kernel)) ggX5_vocable_X3_forget
theorem dX5_vocable_0 : decode cX5_vocable 0 = .ok (.iload_n 1, 1) := by decide +kernel
theorem dX5_vocable_1 : decode cX5_vocable 1 = .ok (.iconst 1, 1) := by decide +kernel
theorem dX5_vocable_2 : decode cX5_vocable 2 = .ok (.if_icmp .lt 16, 3) := by decide +kernel
theorem dX5_vocable_5 : decode cX5_vocable 5 = .ok (.iload_n 1, 1) := by decide +kernel
theorem dX5_vocable_6 : decode cX5_vocable 6 = .ok (.iconst 3, 1) := by decide +kernel
theorem dX5_vocable_7 : decode cX5_vocable 7 = .ok (.if_icmp .gt 11, 3) := by decide +kernel
theorem dX5_vocable_10 : decode cX5_vocable 10 = .ok (.iload_n 2, 1) := by decide +kernel
theorem dX5_vocable_11 : decode cX5_vocable 11 = .ok (.iconst 3, 1) := by decide +kernel
theorem dX5_vocable_12 : decode cX5_vocable 12 = .ok (.invokestatic 52, 3) := by decide +kernel
theorem dX5_vocable_15 : decode cX5_vocable 15 = .ok (.ifCond .ne 5, 3) := by decide +kernel
theorem dX5_vocable_18 : decode cX5_vocable 18 = .ok (.iconst (-1), 1) := by decide +kernel
theorem dX5_vocable_19 : decode cX5_vocable 19 = .ok (.ireturn, 1) := by decide +kernel
theorem dX5_vocable_20 : decode cX5_vocable 20 = .ok (.aload_n 0, 1) := by decide +kernel
theorem dX5_vocable_21 : decode cX5_vocable 21 = .ok (.getfield 19, 3) := by decide +kernel
theorem dX5_vocable_24 : decode cX5_vocable 24 = .ok (.invokevirtual 97, 3) := by decide +kernel
theorem dX5_vocable_27 : decode cX5_vocable 27 = .ok (.ifCond .ne 6, 3) := by decide +kernel
theorem dX5_vocable_30 : decode cX5_vocable 30 = .ok (.bipush (-2), 2) := by decide +kernel
theorem dX5_vocable_32 : decode cX5_vocable 32 = .ok (.ireturn, 1) := by decide +kernel
theorem dX5_vocable_33 : decode cX5_vocable 33 = .ok (.aload_n 0, 1) := by decide +kernel
theorem dX5_vocable_34 : decode cX5_vocable 34 = .ok (.getfield 26, 3) := by decide +kernel
theorem dX5_vocable_37 : decode cX5_vocable 37 = .ok (.getfield 101, 3) := by decide +kernel
theorem dX5_vocable_40 : decode cX5_vocable 40 = .ok (.bipush 10, 2) := by decide +kernel
theorem dX5_vocable_42 : decode cX5_vocable 42 = .ok (.if_icmp .lt 6, 3) := by decide +kernel
theorem dX5_vocable_45 : decode cX5_vocable 45 = .ok (.bipush (-3), 2) := by decide +kernel
theorem dX5_vocable_47 : decode cX5_vocable 47 = .ok (.ireturn, 1) := by decide +kernel
theorem dX5_vocable_48 : decode cX5_vocable 48 = .ok (.aload_n 0, 1) := by decide +kernel
theorem dX5_vocable_49 : decode cX5_vocable 49 = .ok (.getfield 26, 3) := by decide +kernel
theorem dX5_vocable_52 : decode cX5_vocable 52 = .ok (.getfield 101, 3) := by decide +kernel
theorem dX5_vocable_55 : decode cX5_vocable 55 = .ok (.istore_n 3, 1) := by decide +kernel
theorem dX5_vocable_56 : decode cX5_vocable 56 = .ok (.aload_n 0, 1) := by decide +kernel
theorem dX5_vocable_57 : decode cX5_vocable 57 = .ok (.getfield 26, 3) := by decide +kernel
theorem dX5_vocable_60 : decode cX5_vocable 60 = .ok (.aload_n 0, 1) := by decide +kernel
theorem dX5_vocable_61 : decode cX5_vocable 61 = .ok (.getfield 19, 3) := by decide +kernel
theorem dX5_vocable_64 : decode cX5_vocable 64 = .ok (.iload_n 1, 1) := by decide +kernel
theorem dX5_vocable_65 : decode cX5_vocable 65 = .ok (.iload_n 2, 1) := by decide +kernel
theorem dX5_vocable_66 : decode cX5_vocable 66 = .ok (.invokevirtual 104, 3) := by decide +kernel
theorem dX5_vocable_69 : decode cX5_vocable 69 = .ok (.aload_n 0, 1) := by decide +kernel
theorem dX5_vocable_70 : decode cX5_vocable 70 = .ok (.getfield 19, 3) := by decide +kernel
theorem dX5_vocable_73 : decode cX5_vocable 73 = .ok (.invokevirtual 90, 3) := by decide +kernel
theorem dX5_vocable_76 : decode cX5_vocable 76 = .ok (.aload_n 0, 1) := by decide +kernel
theorem dX5_vocable_77 : decode cX5_vocable 77 = .ok (.getfield 35, 3) := by decide +kernel
theorem dX5_vocable_80 : decode cX5_vocable 80 = .ok (.invokevirtual 60, 3) := by decide +kernel
theorem dX5_vocable_83 : decode cX5_vocable 83 = .ok (.iload_n 3, 1) := by decide +kernel
theorem dX5_vocable_84 : decode cX5_vocable 84 = .ok (.ireturn, 1) := by decide +kernel
set_option maxRecDepth 20000 in
theorem ggX5_about_X5_isWithin : GoodIn wsX5_about wsX5_isWithin := goodIn_r _ [10] (by decide +kernel) (by decide +kernel)
set_option maxRecDepth 20000 in
theorem gX5_about_X5_isWithin : GoodIn wsX5_about (va_wsS RX5 52 yX5_isWithin wsX5_isWithin) := goodIn_app (goodIn_of _ (by decide +kernel)) ggX5_about_X5_isWithin
theorem dX5_about_0 : decode cX5_about 0 = .ok (.iload_n 1, 1) := by decide +kernel
theorem dX5_about_1 : decode cX5_about 1 = .ok (.aload_n 0, 1) := by decide +kernel
theorem dX5_about_2 : decode cX5_about 2 = .ok (.getfield 26, 3) := by decide +kernel
theorem dX5_about_5 : decode cX5_about 5 = .ok (.getfield 101, 3) := by decide +kernel
theorem dX5_about_8 : decode cX5_about 8 = .ok (.invokestatic 52, 3) := by decide +kernel
theorem dX5_about_11 : decode cX5_about 11 = .ok (.ifCond .ne 5, 3) := by decide +kernel
theorem dX5_about_14 : decode cX5_about 14 = .ok (.iconst (-1), 1) := by decide +kernel
theorem dX5_about_15 : decode cX5_about 15 = .ok (.ireturn, 1) := by decide +kernel
theorem dX5_about_16 : decode cX5_about 16 = .ok (.iload_n 2, 1) := by decide +kernel
theorem dX5_about_17 : decode cX5_about 17 = .ok (.tableswitch 74 0 3 #[31, 41, 51, 61], 31) := by decide +kernel
theorem dX5_about_48 : decode cX5_about 48 = .ok (.aload_n 0, 1) := by decide +kernel
theorem dX5_about_49 : decode cX5_about 49 = .ok (.getfield 26, 3) := by decide +kernel
theorem dX5_about_52 : decode cX5_about 52 = .ok (.getfield 108, 3) := by decide +kernel
theorem dX5_about_55 : decode cX5_about 55 = .ok (.iload_n 1, 1) := by decide +kernel
theorem dX5_about_56 : decode cX5_about 56 = .ok (.iaload, 1) := by decide +kernel
theorem dX5_about_57 : decode cX5_about 57 = .ok (.ireturn, 1) := by decide +kernel
theorem dX5_about_58 : decode cX5_about 58 = .ok (.aload_n 0, 1) := by decide +kernel
theorem dX5_about_59 : decode cX5_about 59 = .ok (.getfield 26, 3) := by decide +kernel
theorem dX5_about_62 : decode cX5_about 62 = .ok (.getfield 111, 3) := by decide +kernel
theorem dX5_about_65 : decode cX5_about 65 = .ok (.iload_n 1, 1) := by decide +kernel
theorem dX5_about_66 : decode cX5_about 66 = .ok (.iaload, 1) := by decide +kernel
theorem dX5_about_67 : decode cX5_about 67 = .ok (.ireturn, 1) := by decide +kernel
theorem dX5_about_68 : decode cX5_about 68 = .ok (.aload_n 0, 1) := by decide +kernel
theorem dX5_about_69 : decode cX5_about 69 = .ok (.getfield 26, 3) := by decide +kernel
theorem dX5_about_72 : decode cX5_about 72 = .ok (.getfield 114, 3) := by decide +kernel
theorem dX5_about_75 : decode cX5_about 75 = .ok (.iload_n 1, 1) := by decide +kernel
theorem dX5_about_76 : decode cX5_about 76 = .ok (.iaload, 1) := by decide +kernel
theorem dX5_about_77 : decode cX5_about 77 = .ok (.ireturn, 1) := by decide +kernel
theorem dX5_about_78 : decode cX5_about 78 = .ok (.aload_n 0, 1) := by decide +kernel
theorem dX5_about_79 : decode cX5_about 79 = .ok (.getfield 26, 3) := by decide +kernel
theorem dX5_about_82 : decode cX5_about 82 = .ok (.getfield 117, 3) := by decide +kernel
theorem dX5_about_85 : decode cX5_about 85 = .ok (.iload_n 1, 1) := by decide +kernel
theorem dX5_about_86 : decode cX5_about 86 = .ok (.bipush 8, 2) := by decide +kernel
theorem dX5_about_88 : decode cX5_about 88 = .ok (.imul, 1) := by decide +kernel
theorem dX5_about_89 : decode cX5_about 89 = .ok (.iaload, 1) := by decide +kernel
theorem dX5_about_90 : decode cX5_about 90 = .ok (.ireturn, 1) := by decide +kernel
theorem dX5_about_91 : decode cX5_about 91 = .ok (.iconst (-1), 1) := by decide +kernel
theorem dX5_about_92 : decode cX5_about 92 = .ok (.ireturn, 1) := by decide +kernel
set_option maxRecDepth 20000 in
theorem ggX5_order_X5_isWithin : GoodIn wsX5_order wsX5_isWithin := goodIn_r _ [7] (by decide +kernel) (by decide +kernel)
set_option maxRecDepth 20000 in
theorem gX5_order_X5_isWithin : GoodIn wsX5_order (va_wsS RX5 52 yX5_isWithin wsX5_isWithin) := goodIn_app (goodIn_of _ (by decide +kernel)) ggX5_order_X5_isWithin
set_option maxRecDepth 20000 in
theorem ggX5_order_X3_forget : GoodIn wsX5_order wsX3_forget := goodIn_r _ [12, 13, 26, 27, 28, 29, 30, 31, 32, 33, 34, 35] (by decide +kernel) (by decide +kernel)
set_option maxRecDepth 20000 in
theorem gX5_order_X3_forget : GoodIn wsX5_order (wsV RX5 60 RX3 yX3_forget wsX3_forget) := goodIn_app (goodIn_of _ (by decide +kernel)) ggX5_order_X3_forget
theorem dX5_order_0 : decode cX5_order 0 = .ok (.iload_n 1, 1) := by decide +kernel
theorem dX5_order_1 : decode cX5_order 1 = .ok (.iconst 4, 1) := by decide +kernel
theorem dX5_order_2 : decode cX5_order 2 = .ok (.invokestatic 52, 3) := by decide +kernel
theorem dX5_order_5 : decode cX5_order 5 = .ok (.ifCond .eq 12, 3) := by decide +kernel
theorem dX5_order_8 : decode cX5_order 8 = .ok (.iload_n 2, 1) := by decide +kernel
theorem dX5_order_9 : decode cX5_order 9 = .ok (.bipush 8, 2) := by decide +kernel
theorem dX5_order_11 : decode cX5_order 11 = .ok (.invokestatic 52, 3) := by decide +kernel
theorem dX5_order_14 : decode cX5_order 14 = .ok (.ifCond .ne 5, 3) := by decide +kernel
theorem dX5_order_17 : decode cX5_order 17 = .ok (.iconst (-1), 1) := by decide +kernel
theorem dX5_order_18 : decode cX5_order 18 = .ok (.ireturn, 1) := by decide +kernel
theorem dX5_order_19 : decode cX5_order 19 = .ok (.aload_n 0, 1) := by decide +kernel
theorem dX5_order_20 : decode cX5_order 20 = .ok (.getfield 26, 3) := by decide +kernel
theorem dX5_order_23 : decode cX5_order 23 = .ok (.getfield 120, 3) := by decide +kernel
theorem dX5_order_26 : decode cX5_order 26 = .ok (.iload_n 1, 1) := by decide +kernel
theorem dX5_order_27 : decode cX5_order 27 = .ok (.iaload, 1) := by decide +kernel
theorem dX5_order_28 : decode cX5_order 28 = .ok (.istore_n 3, 1) := by decide +kernel
theorem dX5_order_29 : decode cX5_order 29 = .ok (.aload_n 0, 1) := by decide +kernel
theorem dX5_order_30 : decode cX5_order 30 = .ok (.getfield 26, 3) := by decide +kernel
theorem dX5_order_33 : decode cX5_order 33 = .ok (.getfield 120, 3) := by decide +kernel
theorem dX5_order_36 : decode cX5_order 36 = .ok (.iload_n 1, 1) := by decide +kernel
theorem dX5_order_37 : decode cX5_order 37 = .ok (.iload_n 2, 1) := by decide +kernel
theorem dX5_order_38 : decode cX5_order 38 = .ok (.iastore, 1) := by decide +kernel
theorem dX5_order_39 : decode cX5_order 39 = .ok (.aload_n 0, 1) := by decide +kernel
theorem dX5_order_40 : decode cX5_order 40 = .ok (.getfield 35, 3) := by decide +kernel
theorem dX5_order_43 : decode cX5_order 43 = .ok (.invokevirtual 60, 3) := by decide +kernel
theorem dX5_order_46 : decode cX5_order 46 = .ok (.iload_n 3, 1) := by decide +kernel
theorem dX5_order_47 : decode cX5_order 47 = .ok (.ireturn, 1) := by decide +kernel
set_option maxRecDepth 20000 in
theorem ggX5_many_X3_ofFeet : GoodIn wsX5_many wsX3_ofFeet := goodIn_r _ [7, 8, 9, 10, 11, 6, 12, 13, 14, 15, 16, 17, 18, 19, 20, 21, 22, 23, 30, 31, 32, 33, 34, 35, 36, 37, 38, 39, 40, 41, 42, 43, 44, 45] (by decide +kernel) (by decide +kernel)
set_option maxRecDepth 20000 in
theorem gX5_many_X3_ofFeet : GoodIn wsX5_many (wsV RX5 125 RX3 yX3_ofFeet wsX3_ofFeet) := goodIn_app (goodIn_of _ (by decide +kernel)) ggX5_many_X3_ofFeet
theorem dX5_many_0 : decode cX5_many 0 = .ok (.iload_n 1, 1) := by decide +kernel
theorem dX5_many_1 : decode cX5_many 1 = .ok (.iconst 1, 1) := by decide +kernel
theorem dX5_many_2 : decode cX5_many 2 = .ok (.if_icmp .lt 9, 3) := by decide +kernel
theorem dX5_many_5 : decode cX5_many 5 = .ok (.iload_n 1, 1) := by decide +kernel
theorem dX5_many_6 : decode cX5_many 6 = .ok (.bipush 8, 2) := by decide +kernel
theorem dX5_many_8 : decode cX5_many 8 = .ok (.if_icmp .le 7, 3) := by decide +kernel
theorem dX5_many_11 : decode cX5_many 11 = .ok (.ldc2_w 123, 3) := by decide +kernel
theorem dX5_many_14 : decode cX5_many 14 = .ok (.lreturn, 1) := by decide +kernel
theorem dX5_many_15 : decode cX5_many 15 = .ok (.aload_n 0, 1) := by decide +kernel
theorem dX5_many_16 : decode cX5_many 16 = .ok (.getfield 35, 3) := by decide +kernel
theorem dX5_many_19 : decode cX5_many 19 = .ok (.iload_n 1, 1) := by decide +kernel
theorem dX5_many_20 : decode cX5_many 20 = .ok (.invokevirtual 125, 3) := by decide +kernel
theorem dX5_many_23 : decode cX5_many 23 = .ok (.lreturn, 1) := by decide +kernel
set_option maxRecDepth 20000 in
theorem ggX5_lines_X5_isLineAsked : GoodIn wsX5_lines wsX5_isLineAsked := goodIn_r _ [6, 7, 8, 5, 9, 10, 11, 12] (by decide +kernel) (by decide +kernel)
set_option maxRecDepth 20000 in
theorem gX5_lines_X5_isLineAsked : GoodIn wsX5_lines (va_wsS RX5 129 yX5_isLineAsked wsX5_isLineAsked) := goodIn_app (goodIn_of _ (by decide +kernel)) ggX5_lines_X5_isLineAsked
set_option maxRecDepth 20000 in
theorem ggX5_lines_X3_ofSum : GoodIn wsX5_lines wsX3_ofSum := goodIn_r _ [17, 18, 19, 20, 16, 21, 22, 23, 24, 25, 26, 27, 28, 29, 30, 31, 32, 33, 34, 35, 36, 37, 38, 39, 40, 41, 42, 43, 44, 45, 46, 47, 5, 48, 49, 50, 51, 52, 53, 54, 55, 56, 57, 58, 59, 60, 61, 62, 63, 64, 65, 66, 67, 68, 69, 70, 71, 72, 73, 74, 75, 76, 77, 78, 79, 80, 87, 88, 89, 90, 91, 92, 93, 94, 95, 96, 97, 98, 99, 100, 101, 102, 103] (by decide +kernel) (by decide +kernel)
set_option maxRecDepth 20000 in
theorem gX5_lines_X3_ofSum : GoodIn wsX5_lines (wsV RX5 133 RX3 yX3_ofSum wsX3_ofSum) := goodIn_app (goodIn_of _ (by decide +kernel)) ggX5_lines_X3_ofSum
theorem dX5_lines_0 : decode cX5_lines 0 = .ok (.iload_n 1, 1) := by decide +kernel
theorem dX5_lines_1 : decode cX5_lines 1 = .ok (.iload_n 2, 1) := by decide +kernel
theorem dX5_lines_2 : decode cX5_lines 2 = .ok (.iload_n 3, 1) := by decide +kernel
theorem dX5_lines_3 : decode cX5_lines 3 = .ok (.iload 4, 2) := by decide +kernel
theorem dX5_lines_5 : decode cX5_lines 5 = .ok (.invokestatic 129, 3) := by decide +kernel
theorem dX5_lines_8 : decode cX5_lines 8 = .ok (.ifCond .ne 7, 3) := by decide +kernel
theorem dX5_lines_11 : decode cX5_lines 11 = .ok (.ldc2_w 123, 3) := by decide +kernel
theorem dX5_lines_14 : decode cX5_lines 14 = .ok (.lreturn, 1) := by decide +kernel
theorem dX5_lines_15 : decode cX5_lines 15 = .ok (.aload_n 0, 1) := by decide +kernel
theorem dX5_lines_16 : decode cX5_lines 16 = .ok (.getfield 35, 3) := by decide +kernel
theorem dX5_lines_19 : decode cX5_lines 19 = .ok (.iload_n 1, 1) := by decide +kernel
theorem dX5_lines_20 : decode cX5_lines 20 = .ok (.iload_n 2, 1) := by decide +kernel
theorem dX5_lines_21 : decode cX5_lines 21 = .ok (.iload_n 3, 1) := by decide +kernel
theorem dX5_lines_22 : decode cX5_lines 22 = .ok (.iload 4, 2) := by decide +kernel
theorem dX5_lines_24 : decode cX5_lines 24 = .ok (.invokevirtual 133, 3) := by decide +kernel
theorem dX5_lines_27 : decode cX5_lines 27 = .ok (.lreturn, 1) := by decide +kernel
set_option maxRecDepth 20000 in
theorem ggX5_line_X5_isLineAsked : GoodIn wsX5_line wsX5_isLineAsked := goodIn_r _ [5, 6, 7, 4, 8, 9, 10, 11] (by decide +kernel) (by decide +kernel)
set_option maxRecDepth 20000 in
theorem gX5_line_X5_isLineAsked : GoodIn wsX5_line (va_wsS RX5 129 yX5_isLineAsked wsX5_isLineAsked) := goodIn_app (goodIn_of _ (by decide +kernel)) ggX5_line_X5_isLineAsked
set_option maxRecDepth 20000 in
theorem ggX5_line_X3_ofSum : GoodIn wsX5_line wsX3_ofSum := goodIn_r _ [16, 17, 18, 19, 15, 20, 21, 22, 23, 24, 25, 26, 27, 28, 29, 30, 31, 32, 33, 34, 35, 36, 37, 38, 39, 40, 41, 42, 43, 44, 45, 46, 4, 47, 48, 49, 50, 51, 52, 53, 54, 55, 56, 57, 58, 59, 60, 61, 62, 63, 64, 65, 66, 67, 68, 69, 70, 71, 72, 73, 74, 75, 76, 77, 78, 79, 90, 91, 92, 93, 94, 95, 96, 97, 98, 99, 100, 101, 102, 103, 104, 105, 106] (by decide +kernel) (by decide +kernel)
set_option maxRecDepth 20000 in
theorem gX5_line_X3_ofSum : GoodIn wsX5_line (wsV RX5 133 RX3 yX3_ofSum wsX3_ofSum) := goodIn_app (goodIn_of _ (by decide +kernel)) ggX5_line_X3_ofSum
set_option maxRecDepth 20000 in
theorem ggX5_line_X3_vocableAt : GoodIn wsX5_line wsX3_vocableAt := goodIn_r _ [83, 24, 67, 73, 72, 25, 68, 69, 70, 15, 71, 74, 75, 76, 31, 77, 78, 79, 55, 56, 57, 66, 58, 27, 59, 60, 61, 62, 63, 64, 65, 90, 91, 92, 93, 94, 95, 96, 97, 98, 99, 100, 101, 102, 103, 104, 105] (by decide +kernel) (by decide +kernel)
set_option maxRecDepth 20000 in
theorem gX5_line_X3_vocableAt : GoodIn wsX5_line (wsV RX5 137 RX3 yX3_vocableAt wsX3_vocableAt) := goodIn_app (goodIn_of _ (by decide +kernel)) ggX5_line_X3_vocableAt
theorem dX5_line_0 : decode cX5_line 0 = .ok (.iload_n 1, 1) := by decide +kernel
theorem dX5_line_1 : decode cX5_line 1 = .ok (.iload_n 2, 1) := by decide +kernel
theorem dX5_line_2 : decode cX5_line 2 = .ok (.iload_n 3, 1) := by decide +kernel
theorem dX5_line_3 : decode cX5_line 3 = .ok (.iload 4, 2) := by decide +kernel
theorem dX5_line_5 : decode cX5_line 5 = .ok (.invokestatic 129, 3) := by decide +kernel
theorem dX5_line_8 : decode cX5_line 8 = .ok (.ifCond .eq 15, 3) := by decide +kernel
theorem dX5_line_11 : decode cX5_line 11 = .ok (.lload 5, 2) := by decide +kernel
theorem dX5_line_13 : decode cX5_line 13 = .ok (.lconst 0, 1) := by decide +kernel
theorem dX5_line_14 : decode cX5_line 14 = .ok (.lcmp, 1) := by decide +kernel
theorem dX5_line_15 : decode cX5_line 15 = .ok (.ifCond .lt 8, 3) := by decide +kernel
theorem dX5_line_18 : decode cX5_line 18 = .ok (.iload 7, 2) := by decide +kernel
theorem dX5_line_20 : decode cX5_line 20 = .ok (.ifCond .ge 6, 3) := by decide +kernel
theorem dX5_line_23 : decode cX5_line 23 = .ok (.bipush (-2), 2) := by decide +kernel
theorem dX5_line_25 : decode cX5_line 25 = .ok (.ireturn, 1) := by decide +kernel
theorem dX5_line_26 : decode cX5_line 26 = .ok (.lload 5, 2) := by decide +kernel
theorem dX5_line_28 : decode cX5_line 28 = .ok (.aload_n 0, 1) := by decide +kernel
theorem dX5_line_29 : decode cX5_line 29 = .ok (.getfield 35, 3) := by decide +kernel
theorem dX5_line_32 : decode cX5_line 32 = .ok (.iload_n 1, 1) := by decide +kernel
theorem dX5_line_33 : decode cX5_line 33 = .ok (.iload_n 2, 1) := by decide +kernel
theorem dX5_line_34 : decode cX5_line 34 = .ok (.iload_n 3, 1) := by decide +kernel
theorem dX5_line_35 : decode cX5_line 35 = .ok (.iload 4, 2) := by decide +kernel
theorem dX5_line_37 : decode cX5_line 37 = .ok (.invokevirtual 133, 3) := by decide +kernel
theorem dX5_line_40 : decode cX5_line 40 = .ok (.lcmp, 1) := by decide +kernel
theorem dX5_line_41 : decode cX5_line 41 = .ok (.ifCond .lt 6, 3) := by decide +kernel
theorem dX5_line_44 : decode cX5_line 44 = .ok (.bipush (-2), 2) := by decide +kernel
theorem dX5_line_46 : decode cX5_line 46 = .ok (.ireturn, 1) := by decide +kernel
theorem dX5_line_47 : decode cX5_line 47 = .ok (.aload_n 0, 1) := by decide +kernel
theorem dX5_line_48 : decode cX5_line 48 = .ok (.getfield 35, 3) := by decide +kernel
theorem dX5_line_51 : decode cX5_line 51 = .ok (.iload_n 1, 1) := by decide +kernel
theorem dX5_line_52 : decode cX5_line 52 = .ok (.iload_n 2, 1) := by decide +kernel
theorem dX5_line_53 : decode cX5_line 53 = .ok (.lload 5, 2) := by decide +kernel
theorem dX5_line_55 : decode cX5_line 55 = .ok (.iload 7, 2) := by decide +kernel
theorem dX5_line_57 : decode cX5_line 57 = .ok (.invokevirtual 137, 3) := by decide +kernel
theorem dX5_line_60 : decode cX5_line 60 = .ok (.ireturn, 1) := by decide +kernel
set_option maxRecDepth 20000 in
theorem ggX5_doubles_X5_isLineAsked : GoodIn wsX5_doubles wsX5_isLineAsked := goodIn_r _ [6, 7, 8, 5, 9, 10, 11, 12] (by decide +kernel) (by decide +kernel)
set_option maxRecDepth 20000 in
theorem gX5_doubles_X5_isLineAsked : GoodIn wsX5_doubles (va_wsS RX5 129 yX5_isLineAsked wsX5_isLineAsked) := goodIn_app (goodIn_of _ (by decide +kernel)) ggX5_doubles_X5_isLineAsked
set_option maxRecDepth 20000 in
theorem ggX5_doubles_X3_ofTwoSums : GoodIn wsX5_doubles wsX3_ofTwoSums := goodIn_r _ [17, 18, 19, 20, 21, 22, 23, 24, 25, 26, 27, 28, 29, 30, 31, 32, 33, 34, 35, 36, 37, 38, 39, 40, 5, 41, 42, 43, 44, 45, 46, 47, 16, 48, 49, 50, 51, 52, 53, 54, 55, 56, 57, 64, 65, 66, 67, 68, 69, 70, 71, 72, 73, 74, 75, 76, 77, 78, 79, 80] (by decide +kernel) (by decide +kernel)
set_option maxRecDepth 20000 in
theorem gX5_doubles_X3_ofTwoSums : GoodIn wsX5_doubles (wsV RX5 141 RX3 yX3_ofTwoSums wsX3_ofTwoSums) := goodIn_app (goodIn_of _ (by decide +kernel)) ggX5_doubles_X3_ofTwoSums
theorem dX5_doubles_0 : decode cX5_doubles 0 = .ok (.iload_n 1, 1) := by decide +kernel
theorem dX5_doubles_1 : decode cX5_doubles 1 = .ok (.iconst 5, 1) := by decide +kernel
theorem dX5_doubles_2 : decode cX5_doubles 2 = .ok (.if_icmp .gt 27, 3) := by decide +kernel
theorem dX5_doubles_5 : decode cX5_doubles 5 = .ok (.iload_n 1, 1) := by decide +kernel
theorem dX5_doubles_6 : decode cX5_doubles 6 = .ok (.iload_n 2, 1) := by decide +kernel
theorem dX5_doubles_7 : decode cX5_doubles 7 = .ok (.iload 4, 2) := by decide +kernel
theorem dX5_doubles_9 : decode cX5_doubles 9 = .ok (.iload 5, 2) := by decide +kernel
theorem dX5_doubles_11 : decode cX5_doubles 11 = .ok (.invokestatic 129, 3) := by decide +kernel
theorem dX5_doubles_14 : decode cX5_doubles 14 = .ok (.ifCond .eq 15, 3) := by decide +kernel
theorem dX5_doubles_17 : decode cX5_doubles 17 = .ok (.iload_n 1, 1) := by decide +kernel
theorem dX5_doubles_18 : decode cX5_doubles 18 = .ok (.iload_n 3, 1) := by decide +kernel
theorem dX5_doubles_19 : decode cX5_doubles 19 = .ok (.iload 4, 2) := by decide +kernel
theorem dX5_doubles_21 : decode cX5_doubles 21 = .ok (.iload 6, 2) := by decide +kernel
theorem dX5_doubles_23 : decode cX5_doubles 23 = .ok (.invokestatic 129, 3) := by decide +kernel
theorem dX5_doubles_26 : decode cX5_doubles 26 = .ok (.ifCond .ne 7, 3) := by decide +kernel
theorem dX5_doubles_29 : decode cX5_doubles 29 = .ok (.ldc2_w 123, 3) := by decide +kernel
theorem dX5_doubles_32 : decode cX5_doubles 32 = .ok (.lreturn, 1) := by decide +kernel
theorem dX5_doubles_33 : decode cX5_doubles 33 = .ok (.aload_n 0, 1) := by decide +kernel
theorem dX5_doubles_34 : decode cX5_doubles 34 = .ok (.getfield 35, 3) := by decide +kernel
theorem dX5_doubles_37 : decode cX5_doubles 37 = .ok (.iload_n 1, 1) := by decide +kernel
theorem dX5_doubles_38 : decode cX5_doubles 38 = .ok (.iload_n 2, 1) := by decide +kernel
theorem dX5_doubles_39 : decode cX5_doubles 39 = .ok (.iload_n 3, 1) := by decide +kernel
theorem dX5_doubles_40 : decode cX5_doubles 40 = .ok (.iload 4, 2) := by decide +kernel
theorem dX5_doubles_42 : decode cX5_doubles 42 = .ok (.iload 5, 2) := by decide +kernel
theorem dX5_doubles_44 : decode cX5_doubles 44 = .ok (.iload 6, 2) := by decide +kernel
theorem dX5_doubles_46 : decode cX5_doubles 46 = .ok (.invokevirtual 141, 3) := by decide +kernel
theorem dX5_doubles_49 : decode cX5_doubles 49 = .ok (.lreturn, 1) := by decide +kernel
set_option maxRecDepth 20000 in
theorem ggX5_fit_X5_isWithin : GoodIn wsX5_fit wsX5_isWithin := goodIn_r _ [7] (by decide +kernel) (by decide +kernel)
set_option maxRecDepth 20000 in
theorem gX5_fit_X5_isWithin : GoodIn wsX5_fit (va_wsS RX5 52 yX5_isWithin wsX5_isWithin) := goodIn_app (goodIn_of _ (by decide +kernel)) ggX5_fit_X5_isWithin
set_option maxRecDepth 20000 in
theorem ggX5_fit_X2_fittingPart : GoodIn wsX5_fit wsX2_fittingPart := goodIn_r _ [12, 13, 14, 15, 16, 17, 18, 19, 20, 21, 22, 23, 24, 25, 37, 38, 39, 40, 41, 42, 43, 44, 45, 46, 47, 48, 49, 50, 51, 52, 53, 32, 33, 34, 35, 36] (by decide +kernel) (by decide +kernel)
set_option maxRecDepth 20000 in
theorem gX5_fit_X2_fittingPart : GoodIn wsX5_fit (wsV RX5 148 RX2 yX2_fittingPart wsX2_fittingPart) := goodIn_app (goodIn_of _ (by decide +kernel)) ggX5_fit_X2_fittingPart
theorem dX5_fit_0 : decode cX5_fit 0 = .ok (.iload_n 1, 1) := by decide +kernel
theorem dX5_fit_1 : decode cX5_fit 1 = .ok (.aload_n 0, 1) := by decide +kernel
theorem dX5_fit_2 : decode cX5_fit 2 = .ok (.getfield 19, 3) := by decide +kernel
theorem dX5_fit_5 : decode cX5_fit 5 = .ok (.getfield 145, 3) := by decide +kernel
theorem dX5_fit_8 : decode cX5_fit 8 = .ok (.invokestatic 52, 3) := by decide +kernel
theorem dX5_fit_11 : decode cX5_fit 11 = .ok (.ifCond .ne 5, 3) := by decide +kernel
theorem dX5_fit_14 : decode cX5_fit 14 = .ok (.iconst (-1), 1) := by decide +kernel
theorem dX5_fit_15 : decode cX5_fit 15 = .ok (.ireturn, 1) := by decide +kernel
theorem dX5_fit_16 : decode cX5_fit 16 = .ok (.aload_n 0, 1) := by decide +kernel
theorem dX5_fit_17 : decode cX5_fit 17 = .ok (.getfield 44, 3) := by decide +kernel
theorem dX5_fit_20 : decode cX5_fit 20 = .ok (.iload_n 1, 1) := by decide +kernel
theorem dX5_fit_21 : decode cX5_fit 21 = .ok (.invokevirtual 148, 3) := by decide +kernel
theorem dX5_fit_24 : decode cX5_fit 24 = .ok (.ireturn, 1) := by decide +kernel
set_option maxRecDepth 20000 in
theorem ggX5_readings_X2_howManyReadings : GoodIn wsX5_readings wsX2_howManyReadings := goodIn_r _ [8, 9, 10, 11, 12, 13, 14, 15, 16, 17, 18, 19, 20, 21, 22, 23, 7, 24, 25, 26, 27, 28, 29, 30, 31, 32, 33, 34, 35, 36, 37, 38, 39, 40, 41, 42, 43, 44, 45, 46, 47, 48, 60, 61, 62, 63, 64, 65, 66, 67, 68, 69, 70, 55, 56, 57, 58, 59, 71, 72, 73, 74, 75, 76] (by decide +kernel) (by decide +kernel)
set_option maxRecDepth 20000 in
theorem gX5_readings_X2_howManyReadings : GoodIn wsX5_readings (wsV RX5 152 RX2 yX2_howManyReadings wsX2_howManyReadings) := goodIn_app (goodIn_of _ (by decide +kernel)) ggX5_readings_X2_howManyReadings
theorem dX5_readings_0 : decode cX5_readings 0 = .ok (.aload_n 0, 1) := by decide +kernel
theorem dX5_readings_1 : decode cX5_readings 1 = .ok (.getfield 19, 3) := by decide +kernel
theorem dX5_readings_4 : decode cX5_readings 4 = .ok (.getfield 145, 3) := by decide +kernel
theorem dX5_readings_7 : decode cX5_readings 7 = .ok (.ifCond .ne 6, 3) := by decide +kernel
theorem dX5_readings_10 : decode cX5_readings 10 = .ok (.bipush (-2), 2) := by decide +kernel
theorem dX5_readings_12 : decode cX5_readings 12 = .ok (.ireturn, 1) := by decide +kernel
theorem dX5_readings_13 : decode cX5_readings 13 = .ok (.aload_n 0, 1) := by decide +kernel
theorem dX5_readings_14 : decode cX5_readings 14 = .ok (.getfield 44, 3) := by decide +kernel
theorem dX5_readings_17 : decode cX5_readings 17 = .ok (.invokevirtual 152, 3) := by decide +kernel
theorem dX5_readings_20 : decode cX5_readings 20 = .ok (.ireturn, 1) := by decide +kernel
set_option maxRecDepth 20000 in
theorem ggX5_years_X5_isCustomary : GoodIn wsX5_years wsX5_isCustomary := goodIn_r _ [10, 11, 12, 9, 13] (by decide +kernel) (by decide +kernel)
set_option maxRecDepth 20000 in
theorem gX5_years_X5_isCustomary : GoodIn wsX5_years (va_wsS RX5 67 yX5_isCustomary wsX5_isCustomary) := goodIn_app (goodIn_of _ (by decide +kernel)) ggX5_years_X5_isCustomary
set_option maxRecDepth 20000 in
theorem ggX5_years_X5_isWithin : GoodIn wsX5_years wsX5_isWithin := goodIn_r _ [13] (by decide +kernel) (by decide +kernel)
set_option maxRecDepth 20000 in
theorem gX5_years_X5_isWithin : GoodIn wsX5_years (va_wsS RX5 52 yX5_isWithin wsX5_isWithin) := goodIn_app (goodIn_of _ (by decide +kernel)) ggX5_years_X5_isWithin
set_option maxRecDepth 20000 in
theorem ggX5_years_X2_findYears : GoodIn wsX5_years wsX2_findYears := goodIn_r _ [18, 19, 20, 21, 22, 23, 24, 25, 26, 27, 28, 29, 30, 31, 32, 33, 34, 35, 36, 37, 38, 39, 40, 41, 42, 43, 44, 45, 46, 9, 47, 48, 49, 50, 51, 52, 53, 54, 55, 56, 57, 17, 58, 59, 60, 61, 62, 63, 64, 65, 66, 67, 68, 69, 70, 71, 72, 73, 74, 75, 76, 77, 78, 79, 80, 81, 82, 83, 84, 85, 86, 87, 88, 89, 90, 102, 103, 104, 105, 106, 107, 108, 109, 110, 111, 112, 97, 98, 99, 100, 101, 113, 114, 115, 116, 117, 118, 119] (by decide +kernel) (by decide +kernel)
set_option maxRecDepth 20000 in
theorem gX5_years_X2_findYears : GoodIn wsX5_years (wsV RX5 156 RX2 yX2_findYears wsX2_findYears) := goodIn_app (goodIn_of _ (by decide +kernel)) ggX5_years_X2_findYears
theorem dX5_years_0 : decode cX5_years 0 = .ok (.iload_n 1, 1) := by decide +kernel
theorem dX5_years_1 : decode cX5_years 1 = .ok (.iload_n 2, 1) := by decide +kernel
theorem dX5_years_2 : decode cX5_years 2 = .ok (.invokestatic 67, 3) := by decide +kernel
theorem dX5_years_5 : decode cX5_years 5 = .ok (.ifCond .eq 11, 3) := by decide +kernel
theorem dX5_years_8 : decode cX5_years 8 = .ok (.iload_n 3, 1) := by decide +kernel
theorem dX5_years_9 : decode cX5_years 9 = .ok (.iconst 4, 1) := by decide +kernel
theorem dX5_years_10 : decode cX5_years 10 = .ok (.invokestatic 52, 3) := by decide +kernel
theorem dX5_years_13 : decode cX5_years 13 = .ok (.ifCond .ne 5, 3) := by decide +kernel
theorem dX5_years_16 : decode cX5_years 16 = .ok (.iconst (-1), 1) := by decide +kernel
theorem dX5_years_17 : decode cX5_years 17 = .ok (.ireturn, 1) := by decide +kernel
theorem dX5_years_18 : decode cX5_years 18 = .ok (.aload_n 0, 1) := by decide +kernel
theorem dX5_years_19 : decode cX5_years 19 = .ok (.getfield 19, 3) := by decide +kernel
theorem dX5_years_22 : decode cX5_years 22 = .ok (.getfield 145, 3) := by decide +kernel
theorem dX5_years_25 : decode cX5_years 25 = .ok (.ifCond .ne 6, 3) := by decide +kernel
theorem dX5_years_28 : decode cX5_years 28 = .ok (.bipush (-2), 2) := by decide +kernel
theorem dX5_years_30 : decode cX5_years 30 = .ok (.ireturn, 1) := by decide +kernel
theorem dX5_years_31 : decode cX5_years 31 = .ok (.aload_n 0, 1) := by decide +kernel
theorem dX5_years_32 : decode cX5_years 32 = .ok (.getfield 44, 3) := by decide +kernel
theorem dX5_years_35 : decode cX5_years 35 = .ok (.iload_n 1, 1) := by decide +kernel
theorem dX5_years_36 : decode cX5_years 36 = .ok (.iload_n 2, 1) := by decide +kernel
theorem dX5_years_37 : decode cX5_years 37 = .ok (.invokevirtual 156, 3) := by decide +kernel
theorem dX5_years_40 : decode cX5_years 40 = .ok (.iload_n 3, 1) := by decide +kernel
theorem dX5_years_41 : decode cX5_years 41 = .ok (.tableswitch 51 0 2 #[27, 35, 43], 27) := by decide +kernel
theorem dX5_years_68 : decode cX5_years 68 = .ok (.aload_n 0, 1) := by decide +kernel
theorem dX5_years_69 : decode cX5_years 69 = .ok (.getfield 44, 3) := by decide +kernel
theorem dX5_years_72 : decode cX5_years 72 = .ok (.getfield 160, 3) := by decide +kernel
theorem dX5_years_75 : decode cX5_years 75 = .ok (.ireturn, 1) := by decide +kernel
theorem dX5_years_76 : decode cX5_years 76 = .ok (.aload_n 0, 1) := by decide +kernel
theorem dX5_years_77 : decode cX5_years 77 = .ok (.getfield 44, 3) := by decide +kernel
theorem dX5_years_80 : decode cX5_years 80 = .ok (.getfield 163, 3) := by decide +kernel
theorem dX5_years_83 : decode cX5_years 83 = .ok (.ireturn, 1) := by decide +kernel
theorem dX5_years_84 : decode cX5_years 84 = .ok (.aload_n 0, 1) := by decide +kernel
theorem dX5_years_85 : decode cX5_years 85 = .ok (.getfield 44, 3) := by decide +kernel
theorem dX5_years_88 : decode cX5_years 88 = .ok (.getfield 166, 3) := by decide +kernel
theorem dX5_years_91 : decode cX5_years 91 = .ok (.ireturn, 1) := by decide +kernel
theorem dX5_years_92 : decode cX5_years 92 = .ok (.aload_n 0, 1) := by decide +kernel
theorem dX5_years_93 : decode cX5_years 93 = .ok (.getfield 44, 3) := by decide +kernel
theorem dX5_years_96 : decode cX5_years 96 = .ok (.getfield 160, 3) := by decide +kernel
theorem dX5_years_99 : decode cX5_years 99 = .ok (.iconst 1, 1) := by decide +kernel
theorem dX5_years_100 : decode cX5_years 100 = .ok (.if_icmp .ne 7, 3) := by decide +kernel
theorem dX5_years_103 : decode cX5_years 103 = .ok (.iconst 1, 1) := by decide +kernel
theorem dX5_years_104 : decode cX5_years 104 = .ok (.goto 4, 3) := by decide +kernel
theorem dX5_years_107 : decode cX5_years 107 = .ok (.iconst 0, 1) := by decide +kernel
theorem dX5_years_108 : decode cX5_years 108 = .ok (.ireturn, 1) := by decide +kernel
set_option maxRecDepth 20000 in
theorem ggX5_borne_X5_sumOfDraft : GoodIn wsX5_borne wsX5_sumOfDraft := goodIn_r _ [6, 7, 8, 9, 10, 11, 12, 13, 14, 15, 16, 17, 18, 19, 20, 21, 5, 22, 23, 24, 25, 26, 27, 28, 29, 30, 31, 32, 33, 34, 35, 36, 37] (by decide +kernel) (by decide +kernel)
set_option maxRecDepth 20000 in
theorem gX5_borne_X5_sumOfDraft : GoodIn wsX5_borne (wsV RX5 93 RX5 yX5_sumOfDraft wsX5_sumOfDraft) := goodIn_app (goodIn_of _ (by decide +kernel)) ggX5_borne_X5_sumOfDraft
theorem dX5_borne_0 : decode cX5_borne 0 = .ok (.iload_n 1, 1) := by decide +kernel
theorem dX5_borne_1 : decode cX5_borne 1 = .ok (.ifCond .lt 9, 3) := by decide +kernel
theorem dX5_borne_4 : decode cX5_borne 4 = .ok (.iload_n 1, 1) := by decide +kernel
theorem dX5_borne_5 : decode cX5_borne 5 = .ok (.ldc 169, 2) := by decide +kernel
theorem dX5_borne_7 : decode cX5_borne 7 = .ok (.if_icmp .le 5, 3) := by decide +kernel
theorem dX5_borne_10 : decode cX5_borne 10 = .ok (.iconst (-1), 1) := by decide +kernel
theorem dX5_borne_11 : decode cX5_borne 11 = .ok (.ireturn, 1) := by decide +kernel
theorem dX5_borne_12 : decode cX5_borne 12 = .ok (.iconst 0, 1) := by decide +kernel
theorem dX5_borne_13 : decode cX5_borne 13 = .ok (.istore_n 2, 1) := by decide +kernel
theorem dX5_borne_14 : decode cX5_borne 14 = .ok (.iconst 0, 1) := by decide +kernel
theorem dX5_borne_15 : decode cX5_borne 15 = .ok (.istore_n 3, 1) := by decide +kernel
theorem dX5_borne_16 : decode cX5_borne 16 = .ok (.iload_n 3, 1) := by decide +kernel
theorem dX5_borne_17 : decode cX5_borne 17 = .ok (.iconst 4, 1) := by decide +kernel
theorem dX5_borne_18 : decode cX5_borne 18 = .ok (.if_icmp .ge 46, 3) := by decide +kernel
theorem dX5_borne_21 : decode cX5_borne 21 = .ok (.iconst 0, 1) := by decide +kernel
theorem dX5_borne_22 : decode cX5_borne 22 = .ok (.istore 4, 2) := by decide +kernel
theorem dX5_borne_24 : decode cX5_borne 24 = .ok (.iload 4, 2) := by decide +kernel
theorem dX5_borne_26 : decode cX5_borne 26 = .ok (.iconst 3, 1) := by decide +kernel
theorem dX5_borne_27 : decode cX5_borne 27 = .ok (.if_icmp .ge 31, 3) := by decide +kernel
theorem dX5_borne_30 : decode cX5_borne 30 = .ok (.aload_n 0, 1) := by decide +kernel
theorem dX5_borne_31 : decode cX5_borne 31 = .ok (.iload 4, 2) := by decide +kernel
theorem dX5_borne_33 : decode cX5_borne 33 = .ok (.iload_n 3, 1) := by decide +kernel
theorem dX5_borne_34 : decode cX5_borne 34 = .ok (.invokevirtual 93, 3) := by decide +kernel
theorem dX5_borne_37 : decode cX5_borne 37 = .ok (.iload_n 1, 1) := by decide +kernel
theorem dX5_borne_38 : decode cX5_borne 38 = .ok (.if_icmp .ne 14, 3) := by decide +kernel
theorem dX5_borne_41 : decode cX5_borne 41 = .ok (.iload_n 2, 1) := by decide +kernel
theorem dX5_borne_42 : decode cX5_borne 42 = .ok (.iconst 1, 1) := by decide +kernel
theorem dX5_borne_43 : decode cX5_borne 43 = .ok (.iconst 3, 1) := by decide +kernel
theorem dX5_borne_44 : decode cX5_borne 44 = .ok (.iload_n 3, 1) := by decide +kernel
theorem dX5_borne_45 : decode cX5_borne 45 = .ok (.imul, 1) := by decide +kernel
theorem dX5_borne_46 : decode cX5_borne 46 = .ok (.iload 4, 2) := by decide +kernel
theorem dX5_borne_48 : decode cX5_borne 48 = .ok (.iadd, 1) := by decide +kernel
theorem dX5_borne_49 : decode cX5_borne 49 = .ok (.ishl, 1) := by decide +kernel
theorem dX5_borne_50 : decode cX5_borne 50 = .ok (.ior, 1) := by decide +kernel
theorem dX5_borne_51 : decode cX5_borne 51 = .ok (.istore_n 2, 1) := by decide +kernel
theorem dX5_borne_52 : decode cX5_borne 52 = .ok (.iinc 4 1, 3) := by decide +kernel
theorem dX5_borne_55 : decode cX5_borne 55 = .ok (.goto (-31), 3) := by decide +kernel
theorem dX5_borne_58 : decode cX5_borne 58 = .ok (.iinc 3 1, 3) := by decide +kernel
theorem dX5_borne_61 : decode cX5_borne 61 = .ok (.goto (-45), 3) := by decide +kernel
theorem dX5_borne_64 : decode cX5_borne 64 = .ok (.iload_n 2, 1) := by decide +kernel
theorem dX5_borne_65 : decode cX5_borne 65 = .ok (.ireturn, 1) := by decide +kernel
set_option maxRecDepth 20000 in
theorem ggX5_count_X1_broken : GoodIn wsX5_count wsX1_broken := goodIn_r _ [10, 11, 12, 25, 26, 27, 28, 29] (by decide +kernel) (by decide +kernel)
set_option maxRecDepth 20000 in
theorem gX5_count_X1_broken : GoodIn wsX5_count (wsV RX5 170 RX1 yX1_broken wsX1_broken) := goodIn_app (goodIn_of _ (by decide +kernel)) ggX5_count_X1_broken
theorem dX5_count_0 : decode cX5_count 0 = .ok (.iload_n 1, 1) := by decide +kernel
theorem dX5_count_1 : decode cX5_count 1 = .ok (.tableswitch 63 0 3 #[31, 39, 47, 55], 31) := by decide +kernel
theorem dX5_count_32 : decode cX5_count 32 = .ok (.aload_n 0, 1) := by decide +kernel
theorem dX5_count_33 : decode cX5_count 33 = .ok (.getfield 26, 3) := by decide +kernel
theorem dX5_count_36 : decode cX5_count 36 = .ok (.getfield 101, 3) := by decide +kernel
theorem dX5_count_39 : decode cX5_count 39 = .ok (.ireturn, 1) := by decide +kernel
theorem dX5_count_40 : decode cX5_count 40 = .ok (.aload_n 0, 1) := by decide +kernel
theorem dX5_count_41 : decode cX5_count 41 = .ok (.getfield 19, 3) := by decide +kernel
theorem dX5_count_44 : decode cX5_count 44 = .ok (.getfield 82, 3) := by decide +kernel
theorem dX5_count_47 : decode cX5_count 47 = .ok (.ireturn, 1) := by decide +kernel
theorem dX5_count_48 : decode cX5_count 48 = .ok (.aload_n 0, 1) := by decide +kernel
theorem dX5_count_49 : decode cX5_count 49 = .ok (.getfield 19, 3) := by decide +kernel
theorem dX5_count_52 : decode cX5_count 52 = .ok (.getfield 145, 3) := by decide +kernel
theorem dX5_count_55 : decode cX5_count 55 = .ok (.ireturn, 1) := by decide +kernel
theorem dX5_count_56 : decode cX5_count 56 = .ok (.aload_n 0, 1) := by decide +kernel
theorem dX5_count_57 : decode cX5_count 57 = .ok (.getfield 19, 3) := by decide +kernel
theorem dX5_count_60 : decode cX5_count 60 = .ok (.invokevirtual 170, 3) := by decide +kernel
theorem dX5_count_63 : decode cX5_count 63 = .ok (.ireturn, 1) := by decide +kernel
theorem dX5_count_64 : decode cX5_count 64 = .ok (.iconst (-1), 1) := by decide +kernel
theorem dX5_count_65 : decode cX5_count 65 = .ok (.ireturn, 1) := by decide +kernel
theorem dX5_trace_0 : decode cX5_trace 0 = .ok (.aload_n 0, 1) := by decide +kernel
theorem dX5_trace_1 : decode cX5_trace 1 = .ok (.getfield 48, 3) := by decide +kernel
theorem dX5_trace_4 : decode cX5_trace 4 = .ok (.lreturn, 1) := by decide +kernel
set_option maxRecDepth 20000 in
theorem ggX5_sumOfDraft_X0_sumOf : GoodIn wsX5_sumOfDraft wsX0_sumOf := goodIn_r _ [9, 10, 11, 12, 8, 13, 14, 15, 16, 17, 18, 19, 20, 32] (by decide +kernel) (by decide +kernel)
set_option maxRecDepth 20000 in
theorem gX5_sumOfDraft_X0_sumOf : GoodIn wsX5_sumOfDraft (wsV RX5 176 RX0 yX0_sumOf wsX0_sumOf) := goodIn_app (goodIn_of _ (by decide +kernel)) ggX5_sumOfDraft_X0_sumOf
theorem dX5_sumOfDraft_0 : decode cX5_sumOfDraft 0 = .ok (.aload_n 0, 1) := by decide +kernel
theorem dX5_sumOfDraft_1 : decode cX5_sumOfDraft 1 = .ok (.getfield 10, 3) := by decide +kernel
theorem dX5_sumOfDraft_4 : decode cX5_sumOfDraft 4 = .ok (.iload_n 1, 1) := by decide +kernel
theorem dX5_sumOfDraft_5 : decode cX5_sumOfDraft 5 = .ok (.iload_n 2, 1) := by decide +kernel
theorem dX5_sumOfDraft_6 : decode cX5_sumOfDraft 6 = .ok (.aload_n 0, 1) := by decide +kernel
theorem dX5_sumOfDraft_7 : decode cX5_sumOfDraft 7 = .ok (.getfield 19, 3) := by decide +kernel
theorem dX5_sumOfDraft_10 : decode cX5_sumOfDraft 10 = .ok (.getfield 173, 3) := by decide +kernel
theorem dX5_sumOfDraft_13 : decode cX5_sumOfDraft 13 = .ok (.iconst 0, 1) := by decide +kernel
theorem dX5_sumOfDraft_14 : decode cX5_sumOfDraft 14 = .ok (.aload_n 0, 1) := by decide +kernel
theorem dX5_sumOfDraft_15 : decode cX5_sumOfDraft 15 = .ok (.getfield 19, 3) := by decide +kernel
theorem dX5_sumOfDraft_18 : decode cX5_sumOfDraft 18 = .ok (.getfield 82, 3) := by decide +kernel
theorem dX5_sumOfDraft_21 : decode cX5_sumOfDraft 21 = .ok (.invokevirtual 176, 3) := by decide +kernel
theorem dX5_sumOfDraft_24 : decode cX5_sumOfDraft 24 = .ok (.ireturn, 1) := by decide +kernel
theorem dX5_isWithin_0 : decode cX5_isWithin 0 = .ok (.iload_n 0, 1) := by decide +kernel
theorem dX5_isWithin_1 : decode cX5_isWithin 1 = .ok (.ifCond .lt 12, 3) := by decide +kernel
theorem dX5_isWithin_4 : decode cX5_isWithin 4 = .ok (.iload_n 0, 1) := by decide +kernel
theorem dX5_isWithin_5 : decode cX5_isWithin 5 = .ok (.iload_n 1, 1) := by decide +kernel
theorem dX5_isWithin_6 : decode cX5_isWithin 6 = .ok (.if_icmp .ge 7, 3) := by decide +kernel
theorem dX5_isWithin_9 : decode cX5_isWithin 9 = .ok (.iconst 1, 1) := by decide +kernel
theorem dX5_isWithin_10 : decode cX5_isWithin 10 = .ok (.goto 4, 3) := by decide +kernel
theorem dX5_isWithin_13 : decode cX5_isWithin 13 = .ok (.iconst 0, 1) := by decide +kernel
theorem dX5_isWithin_14 : decode cX5_isWithin 14 = .ok (.ireturn, 1) := by decide +kernel
set_option maxRecDepth 20000 in
theorem ggX5_isCustomary_X5_isWithin : GoodIn wsX5_isCustomary wsX5_isWithin := goodIn_r _ [4] (by decide +kernel) (by decide +kernel)
set_option maxRecDepth 20000 in
theorem gX5_isCustomary_X5_isWithin : GoodIn wsX5_isCustomary (va_wsS RX5 52 yX5_isWithin wsX5_isWithin) := goodIn_app (goodIn_of _ (by decide +kernel)) ggX5_isCustomary_X5_isWithin
theorem dX5_isCustomary_0 : decode cX5_isCustomary 0 = .ok (.iload_n 0, 1) := by decide +kernel
theorem dX5_isCustomary_1 : decode cX5_isCustomary 1 = .ok (.iconst 3, 1) := by decide +kernel
theorem dX5_isCustomary_2 : decode cX5_isCustomary 2 = .ok (.invokestatic 52, 3) := by decide +kernel
theorem dX5_isCustomary_5 : decode cX5_isCustomary 5 = .ok (.ifCond .eq 15, 3) := by decide +kernel
theorem dX5_isCustomary_8 : decode cX5_isCustomary 8 = .ok (.iload_n 1, 1) := by decide +kernel
theorem dX5_isCustomary_9 : decode cX5_isCustomary 9 = .ok (.iconst 4, 1) := by decide +kernel
theorem dX5_isCustomary_10 : decode cX5_isCustomary 10 = .ok (.invokestatic 52, 3) := by decide +kernel
theorem dX5_isCustomary_13 : decode cX5_isCustomary 13 = .ok (.ifCond .eq 7, 3) := by decide +kernel
theorem dX5_isCustomary_16 : decode cX5_isCustomary 16 = .ok (.iconst 1, 1) := by decide +kernel
theorem dX5_isCustomary_17 : decode cX5_isCustomary 17 = .ok (.goto 4, 3) := by decide +kernel
theorem dX5_isCustomary_20 : decode cX5_isCustomary 20 = .ok (.iconst 0, 1) := by decide +kernel
theorem dX5_isCustomary_21 : decode cX5_isCustomary 21 = .ok (.ireturn, 1) := by decide +kernel
set_option maxRecDepth 20000 in
theorem ggX5_isLineAsked_X5_isWithin : GoodIn wsX5_isLineAsked wsX5_isWithin := goodIn_r _ [4] (by decide +kernel) (by decide +kernel)
set_option maxRecDepth 20000 in
theorem gX5_isLineAsked_X5_isWithin : GoodIn wsX5_isLineAsked (va_wsS RX5 52 yX5_isWithin wsX5_isWithin) := goodIn_app (goodIn_of _ (by decide +kernel)) ggX5_isLineAsked_X5_isWithin
set_option maxRecDepth 20000 in
theorem ggX5_isLineAsked_X5_isCustomary : GoodIn wsX5_isLineAsked wsX5_isCustomary := goodIn_r _ [7, 1, 2, 3, 4] (by decide +kernel) (by decide +kernel)
set_option maxRecDepth 20000 in
theorem gX5_isLineAsked_X5_isCustomary : GoodIn wsX5_isLineAsked (va_wsS RX5 67 yX5_isCustomary wsX5_isCustomary) := goodIn_app (goodIn_of _ (by decide +kernel)) ggX5_isLineAsked_X5_isCustomary
theorem dX5_isLineAsked_0 : decode cX5_isLineAsked 0 = .ok (.iload_n 0, 1) := by decide +kernel
theorem dX5_isLineAsked_1 : decode cX5_isLineAsked 1 = .ok (.iconst 1, 1) := by decide +kernel
theorem dX5_isLineAsked_2 : decode cX5_isLineAsked 2 = .ok (.if_icmp .lt 31, 3) := by decide +kernel
theorem dX5_isLineAsked_5 : decode cX5_isLineAsked 5 = .ok (.iload_n 0, 1) := by decide +kernel
theorem dX5_isLineAsked_6 : decode cX5_isLineAsked 6 = .ok (.bipush 8, 2) := by decide +kernel
theorem dX5_isLineAsked_8 : decode cX5_isLineAsked 8 = .ok (.if_icmp .gt 25, 3) := by decide +kernel
theorem dX5_isLineAsked_11 : decode cX5_isLineAsked 11 = .ok (.iload_n 1, 1) := by decide +kernel
theorem dX5_isLineAsked_12 : decode cX5_isLineAsked 12 = .ok (.sipush 3001, 3) := by decide +kernel
theorem dX5_isLineAsked_15 : decode cX5_isLineAsked 15 = .ok (.invokestatic 52, 3) := by decide +kernel
theorem dX5_isLineAsked_18 : decode cX5_isLineAsked 18 = .ok (.ifCond .eq 15, 3) := by decide +kernel
theorem dX5_isLineAsked_21 : decode cX5_isLineAsked 21 = .ok (.iload_n 2, 1) := by decide +kernel
theorem dX5_isLineAsked_22 : decode cX5_isLineAsked 22 = .ok (.iload_n 3, 1) := by decide +kernel
theorem dX5_isLineAsked_23 : decode cX5_isLineAsked 23 = .ok (.invokestatic 67, 3) := by decide +kernel
theorem dX5_isLineAsked_26 : decode cX5_isLineAsked 26 = .ok (.ifCond .eq 7, 3) := by decide +kernel
theorem dX5_isLineAsked_29 : decode cX5_isLineAsked 29 = .ok (.iconst 1, 1) := by decide +kernel
theorem dX5_isLineAsked_30 : decode cX5_isLineAsked 30 = .ok (.goto 4, 3) := by decide +kernel
theorem dX5_isLineAsked_33 : decode cX5_isLineAsked 33 = .ok (.iconst 0, 1) := by decide +kernel
theorem dX5_isLineAsked_34 : decode cX5_isLineAsked 34 = .ok (.ireturn, 1) := by decide +kernel
theorem dX5_isValue_0 : decode cX5_isValue 0 = .ok (.getstatic 180, 3) := by decide +kernel
theorem dX5_isValue_3 : decode cX5_isValue 3 = .ok (.astore_n 1, 1) := by decide +kernel
theorem dX5_isValue_4 : decode cX5_isValue 4 = .ok (.aload_n 1, 1) := by decide +kernel
theorem dX5_isValue_5 : decode cX5_isValue 5 = .ok (.arraylength, 1) := by decide +kernel
theorem dX5_isValue_6 : decode cX5_isValue 6 = .ok (.istore_n 2, 1) := by decide +kernel
theorem dX5_isValue_7 : decode cX5_isValue 7 = .ok (.iconst 0, 1) := by decide +kernel
theorem dX5_isValue_8 : decode cX5_isValue 8 = .ok (.istore_n 3, 1) := by decide +kernel
theorem dX5_isValue_9 : decode cX5_isValue 9 = .ok (.iload_n 3, 1) := by decide +kernel
theorem dX5_isValue_10 : decode cX5_isValue 10 = .ok (.iload_n 2, 1) := by decide +kernel
theorem dX5_isValue_11 : decode cX5_isValue 11 = .ok (.if_icmp .ge 22, 3) := by decide +kernel
theorem dX5_isValue_14 : decode cX5_isValue 14 = .ok (.aload_n 1, 1) := by decide +kernel
theorem dX5_isValue_15 : decode cX5_isValue 15 = .ok (.iload_n 3, 1) := by decide +kernel
theorem dX5_isValue_16 : decode cX5_isValue 16 = .ok (.iaload, 1) := by decide +kernel
theorem dX5_isValue_17 : decode cX5_isValue 17 = .ok (.istore 4, 2) := by decide +kernel
theorem dX5_isValue_19 : decode cX5_isValue 19 = .ok (.iload 4, 2) := by decide +kernel
theorem dX5_isValue_21 : decode cX5_isValue 21 = .ok (.iload_n 0, 1) := by decide +kernel
theorem dX5_isValue_22 : decode cX5_isValue 22 = .ok (.if_icmp .ne 5, 3) := by decide +kernel
theorem dX5_isValue_25 : decode cX5_isValue 25 = .ok (.iconst 1, 1) := by decide +kernel
theorem dX5_isValue_26 : decode cX5_isValue 26 = .ok (.ireturn, 1) := by decide +kernel
theorem dX5_isValue_27 : decode cX5_isValue 27 = .ok (.iinc 3 1, 3) := by decide +kernel
theorem dX5_isValue_30 : decode cX5_isValue 30 = .ok (.goto (-21), 3) := by decide +kernel
theorem dX5_isValue_33 : decode cX5_isValue 33 = .ok (.iconst 0, 1) := by decide +kernel
theorem dX5_isValue_34 : decode cX5_isValue 34 = .ok (.ireturn, 1) := by decide +kernel
set_option maxRecDepth 20000 in
theorem ggX5_mayAllStand_X5_byteOf : GoodIn wsX5_mayAllStand wsX5_byteOf := goodIn_r _ [4] (by decide +kernel) (by decide +kernel)
set_option maxRecDepth 20000 in
theorem gX5_mayAllStand_X5_byteOf : GoodIn wsX5_mayAllStand (va_wsS RX5 183 yX5_byteOf wsX5_byteOf) := goodIn_app (goodIn_of _ (by decide +kernel)) ggX5_mayAllStand_X5_byteOf
set_option maxRecDepth 20000 in
theorem ggX5_mayAllStand_X5_isLetter : GoodIn wsX5_mayAllStand wsX5_isLetter := goodIn_r _ [7, 8, 9, 3, 10] (by decide +kernel) (by decide +kernel)
set_option maxRecDepth 20000 in
theorem gX5_mayAllStand_X5_isLetter : GoodIn wsX5_mayAllStand (va_wsS RX5 187 yX5_isLetter wsX5_isLetter) := goodIn_app (goodIn_of _ (by decide +kernel)) ggX5_mayAllStand_X5_isLetter
theorem dX5_mayAllStand_0 : decode cX5_mayAllStand 0 = .ok (.iconst 0, 1) := by decide +kernel
theorem dX5_mayAllStand_1 : decode cX5_mayAllStand 1 = .ok (.istore_n 3, 1) := by decide +kernel
theorem dX5_mayAllStand_2 : decode cX5_mayAllStand 2 = .ok (.iload_n 3, 1) := by decide +kernel
theorem dX5_mayAllStand_3 : decode cX5_mayAllStand 3 = .ok (.iload_n 2, 1) := by decide +kernel
theorem dX5_mayAllStand_4 : decode cX5_mayAllStand 4 = .ok (.if_icmp .ge 40, 3) := by decide +kernel
theorem dX5_mayAllStand_7 : decode cX5_mayAllStand 7 = .ok (.lload_n 0, 1) := by decide +kernel
theorem dX5_mayAllStand_8 : decode cX5_mayAllStand 8 = .ok (.iload_n 3, 1) := by decide +kernel
theorem dX5_mayAllStand_9 : decode cX5_mayAllStand 9 = .ok (.invokestatic 183, 3) := by decide +kernel
theorem dX5_mayAllStand_12 : decode cX5_mayAllStand 12 = .ok (.istore 4, 2) := by decide +kernel
theorem dX5_mayAllStand_14 : decode cX5_mayAllStand 14 = .ok (.iload 4, 2) := by decide +kernel
theorem dX5_mayAllStand_16 : decode cX5_mayAllStand 16 = .ok (.bipush 32, 2) := by decide +kernel
theorem dX5_mayAllStand_18 : decode cX5_mayAllStand 18 = .ok (.if_icmp .eq 20, 3) := by decide +kernel
theorem dX5_mayAllStand_21 : decode cX5_mayAllStand 21 = .ok (.iload 4, 2) := by decide +kernel
theorem dX5_mayAllStand_23 : decode cX5_mayAllStand 23 = .ok (.bipush 63, 2) := by decide +kernel
theorem dX5_mayAllStand_25 : decode cX5_mayAllStand 25 = .ok (.if_icmp .eq 13, 3) := by decide +kernel
theorem dX5_mayAllStand_28 : decode cX5_mayAllStand 28 = .ok (.iload 4, 2) := by decide +kernel
theorem dX5_mayAllStand_30 : decode cX5_mayAllStand 30 = .ok (.invokestatic 187, 3) := by decide +kernel
theorem dX5_mayAllStand_33 : decode cX5_mayAllStand 33 = .ok (.ifCond .ne 5, 3) := by decide +kernel
theorem dX5_mayAllStand_36 : decode cX5_mayAllStand 36 = .ok (.iconst 0, 1) := by decide +kernel
theorem dX5_mayAllStand_37 : decode cX5_mayAllStand 37 = .ok (.ireturn, 1) := by decide +kernel
theorem dX5_mayAllStand_38 : decode cX5_mayAllStand 38 = .ok (.iinc 3 1, 3) := by decide +kernel
theorem dX5_mayAllStand_41 : decode cX5_mayAllStand 41 = .ok (.goto (-39), 3) := by decide +kernel
theorem dX5_mayAllStand_44 : decode cX5_mayAllStand 44 = .ok (.iconst 1, 1) := by decide +kernel
theorem dX5_mayAllStand_45 : decode cX5_mayAllStand 45 = .ok (.ireturn, 1) := by decide +kernel
theorem dX5_byteOf_0 : decode cX5_byteOf 0 = .ok (.lload_n 0, 1) := by decide +kernel
theorem dX5_byteOf_1 : decode cX5_byteOf 1 = .ok (.bipush 8, 2) := by decide +kernel
theorem dX5_byteOf_3 : decode cX5_byteOf 3 = .ok (.iload_n 2, 1) := by decide +kernel
theorem dX5_byteOf_4 : decode cX5_byteOf 4 = .ok (.imul, 1) := by decide +kernel
theorem dX5_byteOf_5 : decode cX5_byteOf 5 = .ok (.lushr, 1) := by decide +kernel
theorem dX5_byteOf_6 : decode cX5_byteOf 6 = .ok (.l2i, 1) := by decide +kernel
theorem dX5_byteOf_7 : decode cX5_byteOf 7 = .ok (.sipush 255, 3) := by decide +kernel
theorem dX5_byteOf_10 : decode cX5_byteOf 10 = .ok (.iand, 1) := by decide +kernel
theorem dX5_byteOf_11 : decode cX5_byteOf 11 = .ok (.ireturn, 1) := by decide +kernel
theorem dX5_isCapital_0 : decode cX5_isCapital 0 = .ok (.iload_n 0, 1) := by decide +kernel
theorem dX5_isCapital_1 : decode cX5_isCapital 1 = .ok (.bipush 65, 2) := by decide +kernel
theorem dX5_isCapital_3 : decode cX5_isCapital 3 = .ok (.if_icmp .lt 13, 3) := by decide +kernel
theorem dX5_isCapital_6 : decode cX5_isCapital 6 = .ok (.iload_n 0, 1) := by decide +kernel
theorem dX5_isCapital_7 : decode cX5_isCapital 7 = .ok (.bipush 90, 2) := by decide +kernel
theorem dX5_isCapital_9 : decode cX5_isCapital 9 = .ok (.if_icmp .gt 7, 3) := by decide +kernel
theorem dX5_isCapital_12 : decode cX5_isCapital 12 = .ok (.iconst 1, 1) := by decide +kernel
theorem dX5_isCapital_13 : decode cX5_isCapital 13 = .ok (.goto 4, 3) := by decide +kernel
theorem dX5_isCapital_16 : decode cX5_isCapital 16 = .ok (.iconst 0, 1) := by decide +kernel
theorem dX5_isCapital_17 : decode cX5_isCapital 17 = .ok (.ireturn, 1) := by decide +kernel
set_option maxRecDepth 20000 in
theorem ggX5_isLetter_X5_isCapital : GoodIn wsX5_isLetter wsX5_isCapital := goodIn_r _ [4] (by decide +kernel) (by decide +kernel)
set_option maxRecDepth 20000 in
theorem gX5_isLetter_X5_isCapital : GoodIn wsX5_isLetter (va_wsS RX5 190 yX5_isCapital wsX5_isCapital) := goodIn_app (goodIn_of _ (by decide +kernel)) ggX5_isLetter_X5_isCapital
theorem dX5_isLetter_0 : decode cX5_isLetter 0 = .ok (.iload_n 0, 1) := by decide +kernel
theorem dX5_isLetter_1 : decode cX5_isLetter 1 = .ok (.invokestatic 190, 3) := by decide +kernel
theorem dX5_isLetter_4 : decode cX5_isLetter 4 = .ok (.ifCond .ne 15, 3) := by decide +kernel
theorem dX5_isLetter_7 : decode cX5_isLetter 7 = .ok (.iload_n 0, 1) := by decide +kernel
theorem dX5_isLetter_8 : decode cX5_isLetter 8 = .ok (.bipush 97, 2) := by decide +kernel
theorem dX5_isLetter_10 : decode cX5_isLetter 10 = .ok (.if_icmp .lt 13, 3) := by decide +kernel
theorem dX5_isLetter_13 : decode cX5_isLetter 13 = .ok (.iload_n 0, 1) := by decide +kernel
theorem dX5_isLetter_14 : decode cX5_isLetter 14 = .ok (.bipush 122, 2) := by decide +kernel
theorem dX5_isLetter_16 : decode cX5_isLetter 16 = .ok (.if_icmp .gt 7, 3) := by decide +kernel
theorem dX5_isLetter_19 : decode cX5_isLetter 19 = .ok (.iconst 1, 1) := by decide +kernel
theorem dX5_isLetter_20 : decode cX5_isLetter 20 = .ok (.goto 4, 3) := by decide +kernel
theorem dX5_isLetter_23 : decode cX5_isLetter 23 = .ok (.iconst 0, 1) := by decide +kernel
theorem dX5_isLetter_24 : decode cX5_isLetter 24 = .ok (.ireturn, 1) := by decide +kernel
