theorem dX3_init_0 : decode cX3_init 0 = .ok (.aload_n 0, 1) := by decide +kernel
theorem dX3_init_1 : decode cX3_init 1 = .ok (.invokespecial 3, 3) := by decide +kernel
theorem dX3_init_4 : decode cX3_init 4 = .ok (.aload_n 0, 1) := by decide +kernel
theorem dX3_init_5 : decode cX3_init 5 = .ok (.bipush 10, 2) := by decide +kernel
theorem dX3_init_7 : decode cX3_init 7 = .ok (.newarray .int, 2) := by decide +kernel
theorem dX3_init_9 : decode cX3_init 9 = .ok (.putfield 9, 3) := by decide +kernel
theorem dX3_init_12 : decode cX3_init 12 = .ok (.aload_n 0, 1) := by decide +kernel
theorem dX3_init_13 : decode cX3_init 13 = .ok (.bipush 10, 2) := by decide +kernel
theorem dX3_init_15 : decode cX3_init 15 = .ok (.newarray .int, 2) := by decide +kernel
theorem dX3_init_17 : decode cX3_init 17 = .ok (.putfield 15, 3) := by decide +kernel
theorem dX3_init_20 : decode cX3_init 20 = .ok (.aload_n 0, 1) := by decide +kernel
theorem dX3_init_21 : decode cX3_init 21 = .ok (.bipush 10, 2) := by decide +kernel
theorem dX3_init_23 : decode cX3_init 23 = .ok (.newarray .int, 2) := by decide +kernel
theorem dX3_init_25 : decode cX3_init 25 = .ok (.putfield 18, 3) := by decide +kernel
theorem dX3_init_28 : decode cX3_init 28 = .ok (.aload_n 0, 1) := by decide +kernel
theorem dX3_init_29 : decode cX3_init 29 = .ok (.bipush 36, 2) := by decide +kernel
theorem dX3_init_31 : decode cX3_init 31 = .ok (.newarray .long, 2) := by decide +kernel
theorem dX3_init_33 : decode cX3_init 33 = .ok (.putfield 21, 3) := by decide +kernel
theorem dX3_init_36 : decode cX3_init 36 = .ok (.aload_n 0, 1) := by decide +kernel
theorem dX3_init_37 : decode cX3_init 37 = .ok (.sipush 9003, 3) := by decide +kernel
theorem dX3_init_40 : decode cX3_init 40 = .ok (.newarray .long, 2) := by decide +kernel
theorem dX3_init_42 : decode cX3_init 42 = .ok (.putfield 25, 3) := by decide +kernel
theorem dX3_init_45 : decode cX3_init 45 = .ok (.aload_n 0, 1) := by decide +kernel
theorem dX3_init_46 : decode cX3_init 46 = .ok (.iconst 1, 1) := by decide +kernel
theorem dX3_init_47 : decode cX3_init 47 = .ok (.putfield 28, 3) := by decide +kernel
theorem dX3_init_50 : decode cX3_init 50 = .ok (.aload_n 0, 1) := by decide +kernel
theorem dX3_init_51 : decode cX3_init 51 = .ok (.aload_n 1, 1) := by decide +kernel
theorem dX3_init_52 : decode cX3_init 52 = .ok (.putfield 32, 3) := by decide +kernel
theorem dX3_init_55 : decode cX3_init 55 = .ok (.aload_n 0, 1) := by decide +kernel
theorem dX3_init_56 : decode cX3_init 56 = .ok (.aload_n 2, 1) := by decide +kernel
theorem dX3_init_57 : decode cX3_init 57 = .ok (.putfield 36, 3) := by decide +kernel
theorem dX3_init_60 : decode cX3_init 60 = .ok (.return_, 1) := by decide +kernel
theorem dX3_forget_0 : decode cX3_forget 0 = .ok (.aload_n 0, 1) := by decide +kernel
theorem dX3_forget_1 : decode cX3_forget 1 = .ok (.iconst 1, 1) := by decide +kernel
theorem dX3_forget_2 : decode cX3_forget 2 = .ok (.putfield 28, 3) := by decide +kernel
theorem dX3_forget_5 : decode cX3_forget 5 = .ok (.return_, 1) := by decide +kernel
set_option maxRecDepth 20000 in
theorem ggX3_ofFeet_X3_stepOfFeet : GoodIn wsX3_ofFeet wsX3_stepOfFeet := goodIn_r _ [6, 7, 8, 9, 1, 10, 11, 12, 13, 14, 15, 16, 17, 18, 19, 20, 21, 22, 23, 24, 25, 26, 27, 28, 29, 30, 31, 32, 33] (by decide +kernel) (by decide +kernel)
set_option maxRecDepth 20000 in
theorem gX3_ofFeet_X3_stepOfFeet : GoodIn wsX3_ofFeet (wsV RX3 40 RX3 yX3_stepOfFeet wsX3_stepOfFeet) := goodIn_app (goodIn_of _ (by decide +kernel)) ggX3_ofFeet_X3_stepOfFeet
theorem dX3_ofFeet_0 : decode cX3_ofFeet 0 = .ok (.iconst 0, 1) := by decide +kernel
theorem dX3_ofFeet_1 : decode cX3_ofFeet 1 = .ok (.istore_n 2, 1) := by decide +kernel
theorem dX3_ofFeet_2 : decode cX3_ofFeet 2 = .ok (.iload_n 2, 1) := by decide +kernel
theorem dX3_ofFeet_3 : decode cX3_ofFeet 3 = .ok (.iconst 4, 1) := by decide +kernel
theorem dX3_ofFeet_4 : decode cX3_ofFeet 4 = .ok (.if_icmp .ge 16, 3) := by decide +kernel
theorem dX3_ofFeet_7 : decode cX3_ofFeet 7 = .ok (.aload_n 0, 1) := by decide +kernel
theorem dX3_ofFeet_8 : decode cX3_ofFeet 8 = .ok (.getfield 21, 3) := by decide +kernel
theorem dX3_ofFeet_11 : decode cX3_ofFeet 11 = .ok (.iload_n 2, 1) := by decide +kernel
theorem dX3_ofFeet_12 : decode cX3_ofFeet 12 = .ok (.lconst 1, 1) := by decide +kernel
theorem dX3_ofFeet_13 : decode cX3_ofFeet 13 = .ok (.lastore, 1) := by decide +kernel
theorem dX3_ofFeet_14 : decode cX3_ofFeet 14 = .ok (.iinc 2 1, 3) := by decide +kernel
theorem dX3_ofFeet_17 : decode cX3_ofFeet 17 = .ok (.goto (-15), 3) := by decide +kernel
theorem dX3_ofFeet_20 : decode cX3_ofFeet 20 = .ok (.iconst 1, 1) := by decide +kernel
theorem dX3_ofFeet_21 : decode cX3_ofFeet 21 = .ok (.istore_n 2, 1) := by decide +kernel
theorem dX3_ofFeet_22 : decode cX3_ofFeet 22 = .ok (.iload_n 2, 1) := by decide +kernel
theorem dX3_ofFeet_23 : decode cX3_ofFeet 23 = .ok (.iload_n 1, 1) := by decide +kernel
theorem dX3_ofFeet_24 : decode cX3_ofFeet 24 = .ok (.if_icmp .gt 38, 3) := by decide +kernel
theorem dX3_ofFeet_27 : decode cX3_ofFeet 27 = .ok (.iconst 0, 1) := by decide +kernel
theorem dX3_ofFeet_28 : decode cX3_ofFeet 28 = .ok (.istore_n 3, 1) := by decide +kernel
theorem dX3_ofFeet_29 : decode cX3_ofFeet 29 = .ok (.iload_n 3, 1) := by decide +kernel
theorem dX3_ofFeet_30 : decode cX3_ofFeet 30 = .ok (.iconst 4, 1) := by decide +kernel
theorem dX3_ofFeet_31 : decode cX3_ofFeet 31 = .ok (.if_icmp .ge 25, 3) := by decide +kernel
theorem dX3_ofFeet_34 : decode cX3_ofFeet 34 = .ok (.aload_n 0, 1) := by decide +kernel
theorem dX3_ofFeet_35 : decode cX3_ofFeet 35 = .ok (.getfield 21, 3) := by decide +kernel
theorem dX3_ofFeet_38 : decode cX3_ofFeet 38 = .ok (.iload_n 2, 1) := by decide +kernel
theorem dX3_ofFeet_39 : decode cX3_ofFeet 39 = .ok (.iconst 4, 1) := by decide +kernel
theorem dX3_ofFeet_40 : decode cX3_ofFeet 40 = .ok (.imul, 1) := by decide +kernel
theorem dX3_ofFeet_41 : decode cX3_ofFeet 41 = .ok (.iload_n 3, 1) := by decide +kernel
theorem dX3_ofFeet_42 : decode cX3_ofFeet 42 = .ok (.iadd, 1) := by decide +kernel
theorem dX3_ofFeet_43 : decode cX3_ofFeet 43 = .ok (.aload_n 0, 1) := by decide +kernel
theorem dX3_ofFeet_44 : decode cX3_ofFeet 44 = .ok (.iload_n 2, 1) := by decide +kernel
theorem dX3_ofFeet_45 : decode cX3_ofFeet 45 = .ok (.iload_n 3, 1) := by decide +kernel
theorem dX3_ofFeet_46 : decode cX3_ofFeet 46 = .ok (.invokevirtual 40, 3) := by decide +kernel
theorem dX3_ofFeet_49 : decode cX3_ofFeet 49 = .ok (.lastore, 1) := by decide +kernel
theorem dX3_ofFeet_50 : decode cX3_ofFeet 50 = .ok (.iinc 3 1, 3) := by decide +kernel
theorem dX3_ofFeet_53 : decode cX3_ofFeet 53 = .ok (.goto (-24), 3) := by decide +kernel
theorem dX3_ofFeet_56 : decode cX3_ofFeet 56 = .ok (.iinc 2 1, 3) := by decide +kernel
theorem dX3_ofFeet_59 : decode cX3_ofFeet 59 = .ok (.goto (-37), 3) := by decide +kernel
theorem dX3_ofFeet_62 : decode cX3_ofFeet 62 = .ok (.aload_n 0, 1) := by decide +kernel
theorem dX3_ofFeet_63 : decode cX3_ofFeet 63 = .ok (.getfield 21, 3) := by decide +kernel
theorem dX3_ofFeet_66 : decode cX3_ofFeet 66 = .ok (.iload_n 1, 1) := by decide +kernel
theorem dX3_ofFeet_67 : decode cX3_ofFeet 67 = .ok (.iconst 4, 1) := by decide +kernel
theorem dX3_ofFeet_68 : decode cX3_ofFeet 68 = .ok (.imul, 1) := by decide +kernel
theorem dX3_ofFeet_69 : decode cX3_ofFeet 69 = .ok (.iconst 3, 1) := by decide +kernel
theorem dX3_ofFeet_70 : decode cX3_ofFeet 70 = .ok (.iadd, 1) := by decide +kernel
theorem dX3_ofFeet_71 : decode cX3_ofFeet 71 = .ok (.laload, 1) := by decide +kernel
theorem dX3_ofFeet_72 : decode cX3_ofFeet 72 = .ok (.lreturn, 1) := by decide +kernel
set_option maxRecDepth 20000 in
theorem ggX3_stepOfFeet_X4_mayCome : GoodIn wsX3_stepOfFeet wsX4_mayCome := goodIn_r _ [10, 11, 12, 23, 24, 25, 26, 27, 28] (by decide +kernel) (by decide +kernel)
set_option maxRecDepth 20000 in
theorem gX3_stepOfFeet_X4_mayCome : GoodIn wsX3_stepOfFeet (wsV RX3 53 RX4 yX4_mayCome wsX4_mayCome) := goodIn_app (goodIn_of _ (by decide +kernel)) ggX3_stepOfFeet_X4_mayCome
theorem dX3_stepOfFeet_0 : decode cX3_stepOfFeet 0 = .ok (.lconst 0, 1) := by decide +kernel
theorem dX3_stepOfFeet_1 : decode cX3_stepOfFeet 1 = .ok (.lstore_n 3, 1) := by decide +kernel
theorem dX3_stepOfFeet_2 : decode cX3_stepOfFeet 2 = .ok (.iconst 0, 1) := by decide +kernel
theorem dX3_stepOfFeet_3 : decode cX3_stepOfFeet 3 = .ok (.istore 5, 2) := by decide +kernel
theorem dX3_stepOfFeet_5 : decode cX3_stepOfFeet 5 = .ok (.iload 5, 2) := by decide +kernel
theorem dX3_stepOfFeet_7 : decode cX3_stepOfFeet 7 = .ok (.aload_n 0, 1) := by decide +kernel
theorem dX3_stepOfFeet_8 : decode cX3_stepOfFeet 8 = .ok (.getfield 32, 3) := by decide +kernel
theorem dX3_stepOfFeet_11 : decode cX3_stepOfFeet 11 = .ok (.getfield 44, 3) := by decide +kernel
theorem dX3_stepOfFeet_14 : decode cX3_stepOfFeet 14 = .ok (.if_icmp .ge 69, 3) := by decide +kernel
theorem dX3_stepOfFeet_17 : decode cX3_stepOfFeet 17 = .ok (.aload_n 0, 1) := by decide +kernel
theorem dX3_stepOfFeet_18 : decode cX3_stepOfFeet 18 = .ok (.getfield 32, 3) := by decide +kernel
theorem dX3_stepOfFeet_21 : decode cX3_stepOfFeet 21 = .ok (.getfield 50, 3) := by decide +kernel
theorem dX3_stepOfFeet_24 : decode cX3_stepOfFeet 24 = .ok (.iload 5, 2) := by decide +kernel
theorem dX3_stepOfFeet_26 : decode cX3_stepOfFeet 26 = .ok (.iaload, 1) := by decide +kernel
theorem dX3_stepOfFeet_27 : decode cX3_stepOfFeet 27 = .ok (.iload_n 1, 1) := by decide +kernel
theorem dX3_stepOfFeet_28 : decode cX3_stepOfFeet 28 = .ok (.if_icmp .gt 49, 3) := by decide +kernel
theorem dX3_stepOfFeet_31 : decode cX3_stepOfFeet 31 = .ok (.aload_n 0, 1) := by decide +kernel
theorem dX3_stepOfFeet_32 : decode cX3_stepOfFeet 32 = .ok (.getfield 32, 3) := by decide +kernel
theorem dX3_stepOfFeet_35 : decode cX3_stepOfFeet 35 = .ok (.iload_n 2, 1) := by decide +kernel
theorem dX3_stepOfFeet_36 : decode cX3_stepOfFeet 36 = .ok (.iload 5, 2) := by decide +kernel
theorem dX3_stepOfFeet_38 : decode cX3_stepOfFeet 38 = .ok (.invokevirtual 53, 3) := by decide +kernel
theorem dX3_stepOfFeet_41 : decode cX3_stepOfFeet 41 = .ok (.ifCond .eq 36, 3) := by decide +kernel
theorem dX3_stepOfFeet_44 : decode cX3_stepOfFeet 44 = .ok (.lload_n 3, 1) := by decide +kernel
theorem dX3_stepOfFeet_45 : decode cX3_stepOfFeet 45 = .ok (.aload_n 0, 1) := by decide +kernel
theorem dX3_stepOfFeet_46 : decode cX3_stepOfFeet 46 = .ok (.getfield 21, 3) := by decide +kernel
theorem dX3_stepOfFeet_49 : decode cX3_stepOfFeet 49 = .ok (.iload_n 1, 1) := by decide +kernel
theorem dX3_stepOfFeet_50 : decode cX3_stepOfFeet 50 = .ok (.aload_n 0, 1) := by decide +kernel
theorem dX3_stepOfFeet_51 : decode cX3_stepOfFeet 51 = .ok (.getfield 32, 3) := by decide +kernel
theorem dX3_stepOfFeet_54 : decode cX3_stepOfFeet 54 = .ok (.getfield 50, 3) := by decide +kernel
theorem dX3_stepOfFeet_57 : decode cX3_stepOfFeet 57 = .ok (.iload 5, 2) := by decide +kernel
theorem dX3_stepOfFeet_59 : decode cX3_stepOfFeet 59 = .ok (.iaload, 1) := by decide +kernel
theorem dX3_stepOfFeet_60 : decode cX3_stepOfFeet 60 = .ok (.isub, 1) := by decide +kernel
theorem dX3_stepOfFeet_61 : decode cX3_stepOfFeet 61 = .ok (.iconst 4, 1) := by decide +kernel
theorem dX3_stepOfFeet_62 : decode cX3_stepOfFeet 62 = .ok (.imul, 1) := by decide +kernel
theorem dX3_stepOfFeet_63 : decode cX3_stepOfFeet 63 = .ok (.aload_n 0, 1) := by decide +kernel
theorem dX3_stepOfFeet_64 : decode cX3_stepOfFeet 64 = .ok (.getfield 32, 3) := by decide +kernel
theorem dX3_stepOfFeet_67 : decode cX3_stepOfFeet 67 = .ok (.getfield 57, 3) := by decide +kernel
theorem dX3_stepOfFeet_70 : decode cX3_stepOfFeet 70 = .ok (.iload 5, 2) := by decide +kernel
theorem dX3_stepOfFeet_72 : decode cX3_stepOfFeet 72 = .ok (.iaload, 1) := by decide +kernel
theorem dX3_stepOfFeet_73 : decode cX3_stepOfFeet 73 = .ok (.iadd, 1) := by decide +kernel
theorem dX3_stepOfFeet_74 : decode cX3_stepOfFeet 74 = .ok (.laload, 1) := by decide +kernel
theorem dX3_stepOfFeet_75 : decode cX3_stepOfFeet 75 = .ok (.ladd, 1) := by decide +kernel
theorem dX3_stepOfFeet_76 : decode cX3_stepOfFeet 76 = .ok (.lstore_n 3, 1) := by decide +kernel
theorem dX3_stepOfFeet_77 : decode cX3_stepOfFeet 77 = .ok (.iinc 5 1, 3) := by decide +kernel
theorem dX3_stepOfFeet_80 : decode cX3_stepOfFeet 80 = .ok (.goto (-75), 3) := by decide +kernel
theorem dX3_stepOfFeet_83 : decode cX3_stepOfFeet 83 = .ok (.lload_n 3, 1) := by decide +kernel
theorem dX3_stepOfFeet_84 : decode cX3_stepOfFeet 84 = .ok (.lreturn, 1) := by decide +kernel
set_option maxRecDepth 20000 in
theorem ggX3_ofSum_X3_beginRound : GoodIn wsX3_ofSum wsX3_beginRound := goodIn_r _ [5, 6, 7, 8, 9, 10, 11, 12, 13, 14, 15, 16, 17, 18, 19, 20, 21, 22, 23, 24, 25, 26, 27, 28, 29, 30, 31, 32, 33, 34, 35, 36, 37, 38, 39, 40, 66, 67, 68, 69, 70, 71, 72, 73, 74, 75, 76, 77, 78, 79, 80, 81, 82] (by decide +kernel) (by decide +kernel)
set_option maxRecDepth 20000 in
theorem gX3_ofSum_X3_beginRound : GoodIn wsX3_ofSum (wsV RX3 60 RX3 yX3_beginRound wsX3_beginRound) := goodIn_app (goodIn_of _ (by decide +kernel)) ggX3_ofSum_X3_beginRound
set_option maxRecDepth 20000 in
theorem ggX3_ofSum_X3_waysOn : GoodIn wsX3_ofSum wsX3_waysOn := goodIn_r _ [44, 12, 45, 46, 47, 4, 48, 49, 50, 51, 52, 9, 53, 54, 55, 56, 57, 58, 10, 59, 60, 61, 62, 16, 63, 64, 65, 41, 42, 43, 66, 67, 68, 69, 70, 71, 72, 73, 74, 75, 76, 77, 78, 79, 80, 81] (by decide +kernel) (by decide +kernel)
set_option maxRecDepth 20000 in
theorem gX3_ofSum_X3_waysOn : GoodIn wsX3_ofSum (wsV RX3 64 RX3 yX3_waysOn wsX3_waysOn) := goodIn_app (goodIn_of _ (by decide +kernel)) ggX3_ofSum_X3_waysOn
theorem dX3_ofSum_0 : decode cX3_ofSum 0 = .ok (.aload_n 0, 1) := by decide +kernel
theorem dX3_ofSum_1 : decode cX3_ofSum 1 = .ok (.iload_n 3, 1) := by decide +kernel
theorem dX3_ofSum_2 : decode cX3_ofSum 2 = .ok (.iload 4, 2) := by decide +kernel
theorem dX3_ofSum_4 : decode cX3_ofSum 4 = .ok (.invokevirtual 60, 3) := by decide +kernel
theorem dX3_ofSum_7 : decode cX3_ofSum 7 = .ok (.aload_n 0, 1) := by decide +kernel
theorem dX3_ofSum_8 : decode cX3_ofSum 8 = .ok (.iconst 3, 1) := by decide +kernel
theorem dX3_ofSum_9 : decode cX3_ofSum 9 = .ok (.iload_n 1, 1) := by decide +kernel
theorem dX3_ofSum_10 : decode cX3_ofSum 10 = .ok (.iload_n 2, 1) := by decide +kernel
theorem dX3_ofSum_11 : decode cX3_ofSum 11 = .ok (.invokevirtual 64, 3) := by decide +kernel
theorem dX3_ofSum_14 : decode cX3_ofSum 14 = .ok (.lreturn, 1) := by decide +kernel
set_option maxRecDepth 20000 in
theorem ggX3_beginRound_X4_putSums : GoodIn wsX3_beginRound wsX4_putSums := goodIn_r _ [12, 13, 14, 15, 16, 17, 18, 19, 20, 21, 22, 23, 24, 25, 26, 27, 28, 29, 30, 31, 46, 47, 48, 49, 50, 51, 52] (by decide +kernel) (by decide +kernel)
set_option maxRecDepth 20000 in
theorem gX3_beginRound_X4_putSums : GoodIn wsX3_beginRound (wsV RX3 74 RX4 yX4_putSums wsX4_putSums) := goodIn_app (goodIn_of _ (by decide +kernel)) ggX3_beginRound_X4_putSums
set_option maxRecDepth 20000 in
theorem ggX3_beginRound_J7_fill_d0a16 : GoodIn wsX3_beginRound wsJ7_fill_d0a16 := goodIn_r _ [35] (by decide +kernel) (by decide +kernel)
set_option maxRecDepth 20000 in
theorem gX3_beginRound_J7_fill_d0a16 : GoodIn wsX3_beginRound (va_wsS RX3 78 yJ7_fill_d0a16 wsJ7_fill_d0a16) := goodIn_app (goodIn_of _ (by decide +kernel)) ggX3_beginRound_J7_fill_d0a16
theorem dX3_beginRound_0 : decode cX3_beginRound 0 = .ok (.aload_n 0, 1) := by decide +kernel
theorem dX3_beginRound_1 : decode cX3_beginRound 1 = .ok (.getfield 28, 3) := by decide +kernel
theorem dX3_beginRound_4 : decode cX3_beginRound 4 = .ok (.ifCond .ne 20, 3) := by decide +kernel
theorem dX3_beginRound_7 : decode cX3_beginRound 7 = .ok (.iload_n 1, 1) := by decide +kernel
theorem dX3_beginRound_8 : decode cX3_beginRound 8 = .ok (.aload_n 0, 1) := by decide +kernel
theorem dX3_beginRound_9 : decode cX3_beginRound 9 = .ok (.getfield 68, 3) := by decide +kernel
theorem dX3_beginRound_12 : decode cX3_beginRound 12 = .ok (.if_icmp .ne 12, 3) := by decide +kernel
theorem dX3_beginRound_15 : decode cX3_beginRound 15 = .ok (.iload_n 2, 1) := by decide +kernel
theorem dX3_beginRound_16 : decode cX3_beginRound 16 = .ok (.aload_n 0, 1) := by decide +kernel
theorem dX3_beginRound_17 : decode cX3_beginRound 17 = .ok (.getfield 71, 3) := by decide +kernel
theorem dX3_beginRound_20 : decode cX3_beginRound 20 = .ok (.if_icmp .ne 4, 3) := by decide +kernel
theorem dX3_beginRound_23 : decode cX3_beginRound 23 = .ok (.return_, 1) := by decide +kernel
theorem dX3_beginRound_24 : decode cX3_beginRound 24 = .ok (.aload_n 0, 1) := by decide +kernel
theorem dX3_beginRound_25 : decode cX3_beginRound 25 = .ok (.getfield 32, 3) := by decide +kernel
theorem dX3_beginRound_28 : decode cX3_beginRound 28 = .ok (.aload_n 0, 1) := by decide +kernel
theorem dX3_beginRound_29 : decode cX3_beginRound 29 = .ok (.getfield 9, 3) := by decide +kernel
theorem dX3_beginRound_32 : decode cX3_beginRound 32 = .ok (.aload_n 0, 1) := by decide +kernel
theorem dX3_beginRound_33 : decode cX3_beginRound 33 = .ok (.getfield 36, 3) := by decide +kernel
theorem dX3_beginRound_36 : decode cX3_beginRound 36 = .ok (.iload_n 1, 1) := by decide +kernel
theorem dX3_beginRound_37 : decode cX3_beginRound 37 = .ok (.iload_n 2, 1) := by decide +kernel
theorem dX3_beginRound_38 : decode cX3_beginRound 38 = .ok (.invokevirtual 74, 3) := by decide +kernel
theorem dX3_beginRound_41 : decode cX3_beginRound 41 = .ok (.aload_n 0, 1) := by decide +kernel
theorem dX3_beginRound_42 : decode cX3_beginRound 42 = .ok (.iload_n 1, 1) := by decide +kernel
theorem dX3_beginRound_43 : decode cX3_beginRound 43 = .ok (.putfield 68, 3) := by decide +kernel
theorem dX3_beginRound_46 : decode cX3_beginRound 46 = .ok (.aload_n 0, 1) := by decide +kernel
theorem dX3_beginRound_47 : decode cX3_beginRound 47 = .ok (.iload_n 2, 1) := by decide +kernel
theorem dX3_beginRound_48 : decode cX3_beginRound 48 = .ok (.putfield 71, 3) := by decide +kernel
theorem dX3_beginRound_51 : decode cX3_beginRound 51 = .ok (.aload_n 0, 1) := by decide +kernel
theorem dX3_beginRound_52 : decode cX3_beginRound 52 = .ok (.iconst 0, 1) := by decide +kernel
theorem dX3_beginRound_53 : decode cX3_beginRound 53 = .ok (.putfield 28, 3) := by decide +kernel
theorem dX3_beginRound_56 : decode cX3_beginRound 56 = .ok (.aload_n 0, 1) := by decide +kernel
theorem dX3_beginRound_57 : decode cX3_beginRound 57 = .ok (.getfield 25, 3) := by decide +kernel
theorem dX3_beginRound_60 : decode cX3_beginRound 60 = .ok (.lconst 0, 1) := by decide +kernel
theorem dX3_beginRound_61 : decode cX3_beginRound 61 = .ok (.invokestatic 78, 3) := by decide +kernel
theorem dX3_beginRound_64 : decode cX3_beginRound 64 = .ok (.return_, 1) := by decide +kernel
set_option maxRecDepth 20000 in
theorem ggX3_waysOn_X3_placeKept : GoodIn wsX3_waysOn wsX3_placeKept := goodIn_r _ [6] (by decide +kernel) (by decide +kernel)
set_option maxRecDepth 20000 in
theorem gX3_waysOn_X3_placeKept : GoodIn wsX3_waysOn (va_wsS RX3 84 yX3_placeKept wsX3_placeKept) := goodIn_app (goodIn_of _ (by decide +kernel)) ggX3_waysOn_X3_placeKept
set_option maxRecDepth 20000 in
theorem ggX3_waysOn_X3_countWaysOn : GoodIn wsX3_waysOn wsX3_countWaysOn := goodIn_r _ [10, 11, 12, 13, 14, 15, 5, 0, 1, 2, 3, 4, 6, 7, 8, 9, 16, 17, 18, 19, 20, 21, 22, 23, 24, 25, 26, 27, 28, 29, 30, 31, 32, 33, 34, 35, 36, 37, 38, 39, 40, 41, 42, 43, 44, 45] (by decide +kernel) (by decide +kernel)
set_option maxRecDepth 20000 in
theorem gX3_waysOn_X3_countWaysOn : GoodIn wsX3_waysOn (wsV RX3 88 RX3 yX3_countWaysOn wsX3_countWaysOn) := goodIn_app (goodIn_of _ (by decide +kernel)) ggX3_waysOn_X3_countWaysOn
theorem dX3_waysOn_0 : decode cX3_waysOn 0 = .ok (.iload_n 2, 1) := by decide +kernel
theorem dX3_waysOn_1 : decode cX3_waysOn 1 = .ok (.iconst 1, 1) := by decide +kernel
theorem dX3_waysOn_2 : decode cX3_waysOn 2 = .ok (.if_icmp .lt 9, 3) := by decide +kernel
theorem dX3_waysOn_5 : decode cX3_waysOn 5 = .ok (.iload_n 2, 1) := by decide +kernel
theorem dX3_waysOn_6 : decode cX3_waysOn 6 = .ok (.bipush 8, 2) := by decide +kernel
theorem dX3_waysOn_8 : decode cX3_waysOn 8 = .ok (.if_icmp .le 17, 3) := by decide +kernel
theorem dX3_waysOn_11 : decode cX3_waysOn 11 = .ok (.iload_n 2, 1) := by decide +kernel
theorem dX3_waysOn_12 : decode cX3_waysOn 12 = .ok (.ifCond .ne 11, 3) := by decide +kernel
theorem dX3_waysOn_15 : decode cX3_waysOn 15 = .ok (.iload_n 3, 1) := by decide +kernel
theorem dX3_waysOn_16 : decode cX3_waysOn 16 = .ok (.ifCond .ne 7, 3) := by decide +kernel
theorem dX3_waysOn_19 : decode cX3_waysOn 19 = .ok (.lconst 1, 1) := by decide +kernel
theorem dX3_waysOn_20 : decode cX3_waysOn 20 = .ok (.goto 4, 3) := by decide +kernel
theorem dX3_waysOn_23 : decode cX3_waysOn 23 = .ok (.lconst 0, 1) := by decide +kernel
theorem dX3_waysOn_24 : decode cX3_waysOn 24 = .ok (.lreturn, 1) := by decide +kernel
theorem dX3_waysOn_25 : decode cX3_waysOn 25 = .ok (.iload_n 1, 1) := by decide +kernel
theorem dX3_waysOn_26 : decode cX3_waysOn 26 = .ok (.iload_n 2, 1) := by decide +kernel
theorem dX3_waysOn_27 : decode cX3_waysOn 27 = .ok (.iload_n 3, 1) := by decide +kernel
theorem dX3_waysOn_28 : decode cX3_waysOn 28 = .ok (.invokestatic 84, 3) := by decide +kernel
theorem dX3_waysOn_31 : decode cX3_waysOn 31 = .ok (.istore 4, 2) := by decide +kernel
theorem dX3_waysOn_33 : decode cX3_waysOn 33 = .ok (.iload 4, 2) := by decide +kernel
theorem dX3_waysOn_35 : decode cX3_waysOn 35 = .ok (.ifCond .lt 13, 3) := by decide +kernel
theorem dX3_waysOn_38 : decode cX3_waysOn 38 = .ok (.iload 4, 2) := by decide +kernel
theorem dX3_waysOn_40 : decode cX3_waysOn 40 = .ok (.aload_n 0, 1) := by decide +kernel
theorem dX3_waysOn_41 : decode cX3_waysOn 41 = .ok (.getfield 25, 3) := by decide +kernel
theorem dX3_waysOn_44 : decode cX3_waysOn 44 = .ok (.arraylength, 1) := by decide +kernel
theorem dX3_waysOn_45 : decode cX3_waysOn 45 = .ok (.if_icmp .lt 11, 3) := by decide +kernel
theorem dX3_waysOn_48 : decode cX3_waysOn 48 = .ok (.aload_n 0, 1) := by decide +kernel
theorem dX3_waysOn_49 : decode cX3_waysOn 49 = .ok (.iload_n 1, 1) := by decide +kernel
theorem dX3_waysOn_50 : decode cX3_waysOn 50 = .ok (.iload_n 2, 1) := by decide +kernel
theorem dX3_waysOn_51 : decode cX3_waysOn 51 = .ok (.iload_n 3, 1) := by decide +kernel
theorem dX3_waysOn_52 : decode cX3_waysOn 52 = .ok (.invokevirtual 88, 3) := by decide +kernel
theorem dX3_waysOn_55 : decode cX3_waysOn 55 = .ok (.lreturn, 1) := by decide +kernel
theorem dX3_waysOn_56 : decode cX3_waysOn 56 = .ok (.iload_n 2, 1) := by decide +kernel
theorem dX3_waysOn_57 : decode cX3_waysOn 57 = .ok (.iconst 1, 1) := by decide +kernel
theorem dX3_waysOn_58 : decode cX3_waysOn 58 = .ok (.isub, 1) := by decide +kernel
theorem dX3_waysOn_59 : decode cX3_waysOn 59 = .ok (.bipush 16, 2) := by decide +kernel
theorem dX3_waysOn_61 : decode cX3_waysOn 61 = .ok (.imul, 1) := by decide +kernel
theorem dX3_waysOn_62 : decode cX3_waysOn 62 = .ok (.istore 5, 2) := by decide +kernel
theorem dX3_waysOn_64 : decode cX3_waysOn 64 = .ok (.aload_n 0, 1) := by decide +kernel
theorem dX3_waysOn_65 : decode cX3_waysOn 65 = .ok (.getfield 25, 3) := by decide +kernel
theorem dX3_waysOn_68 : decode cX3_waysOn 68 = .ok (.iload 4, 2) := by decide +kernel
theorem dX3_waysOn_70 : decode cX3_waysOn 70 = .ok (.laload, 1) := by decide +kernel
theorem dX3_waysOn_71 : decode cX3_waysOn 71 = .ok (.iload 5, 2) := by decide +kernel
theorem dX3_waysOn_73 : decode cX3_waysOn 73 = .ok (.lushr, 1) := by decide +kernel
theorem dX3_waysOn_74 : decode cX3_waysOn 74 = .ok (.ldc2_w 91, 3) := by decide +kernel
theorem dX3_waysOn_77 : decode cX3_waysOn 77 = .ok (.land, 1) := by decide +kernel
theorem dX3_waysOn_78 : decode cX3_waysOn 78 = .ok (.lstore 6, 2) := by decide +kernel
theorem dX3_waysOn_80 : decode cX3_waysOn 80 = .ok (.lload 6, 2) := by decide +kernel
theorem dX3_waysOn_82 : decode cX3_waysOn 82 = .ok (.lconst 0, 1) := by decide +kernel
theorem dX3_waysOn_83 : decode cX3_waysOn 83 = .ok (.lcmp, 1) := by decide +kernel
theorem dX3_waysOn_84 : decode cX3_waysOn 84 = .ok (.ifCond .le 8, 3) := by decide +kernel
theorem dX3_waysOn_87 : decode cX3_waysOn 87 = .ok (.lload 6, 2) := by decide +kernel
theorem dX3_waysOn_89 : decode cX3_waysOn 89 = .ok (.lconst 1, 1) := by decide +kernel
theorem dX3_waysOn_90 : decode cX3_waysOn 90 = .ok (.lsub, 1) := by decide +kernel
theorem dX3_waysOn_91 : decode cX3_waysOn 91 = .ok (.lreturn, 1) := by decide +kernel
theorem dX3_waysOn_92 : decode cX3_waysOn 92 = .ok (.aload_n 0, 1) := by decide +kernel
theorem dX3_waysOn_93 : decode cX3_waysOn 93 = .ok (.iload_n 1, 1) := by decide +kernel
theorem dX3_waysOn_94 : decode cX3_waysOn 94 = .ok (.iload_n 2, 1) := by decide +kernel
theorem dX3_waysOn_95 : decode cX3_waysOn 95 = .ok (.iload_n 3, 1) := by decide +kernel
theorem dX3_waysOn_96 : decode cX3_waysOn 96 = .ok (.invokevirtual 88, 3) := by decide +kernel
theorem dX3_waysOn_99 : decode cX3_waysOn 99 = .ok (.lstore 8, 2) := by decide +kernel
theorem dX3_waysOn_101 : decode cX3_waysOn 101 = .ok (.aload_n 0, 1) := by decide +kernel
theorem dX3_waysOn_102 : decode cX3_waysOn 102 = .ok (.getfield 25, 3) := by decide +kernel
theorem dX3_waysOn_105 : decode cX3_waysOn 105 = .ok (.iload 4, 2) := by decide +kernel
theorem dX3_waysOn_107 : decode cX3_waysOn 107 = .ok (.dup2, 1) := by decide +kernel
theorem dX3_waysOn_108 : decode cX3_waysOn 108 = .ok (.laload, 1) := by decide +kernel
theorem dX3_waysOn_109 : decode cX3_waysOn 109 = .ok (.lload 8, 2) := by decide +kernel
theorem dX3_waysOn_111 : decode cX3_waysOn 111 = .ok (.lconst 1, 1) := by decide +kernel
theorem dX3_waysOn_112 : decode cX3_waysOn 112 = .ok (.ladd, 1) := by decide +kernel
theorem dX3_waysOn_113 : decode cX3_waysOn 113 = .ok (.iload 5, 2) := by decide +kernel
theorem dX3_waysOn_115 : decode cX3_waysOn 115 = .ok (.lshl, 1) := by decide +kernel
theorem dX3_waysOn_116 : decode cX3_waysOn 116 = .ok (.lor, 1) := by decide +kernel
theorem dX3_waysOn_117 : decode cX3_waysOn 117 = .ok (.lastore, 1) := by decide +kernel
theorem dX3_waysOn_118 : decode cX3_waysOn 118 = .ok (.lload 8, 2) := by decide +kernel
theorem dX3_waysOn_120 : decode cX3_waysOn 120 = .ok (.lreturn, 1) := by decide +kernel
set_option maxRecDepth 20000 in
theorem ggX3_countWaysOn_X3_waysWith : GoodIn wsX3_countWaysOn wsX3_waysWith := goodIn_r _ [16, 1, 17, 18, 19, 20, 21, 22, 23, 24, 25, 26, 27, 28, 29, 6, 0, 2, 3, 4, 5, 7, 8, 9, 10, 11, 12, 13, 14, 15, 30, 31, 32, 33, 34, 35, 36, 37, 38, 39, 40, 41, 42, 43, 44, 45] (by decide +kernel) (by decide +kernel)
set_option maxRecDepth 20000 in
theorem gX3_countWaysOn_X3_waysWith : GoodIn wsX3_countWaysOn (wsV RX3 93 RX3 yX3_waysWith wsX3_waysWith) := goodIn_app (goodIn_of _ (by decide +kernel)) ggX3_countWaysOn_X3_waysWith
theorem dX3_countWaysOn_0 : decode cX3_countWaysOn 0 = .ok (.lconst 0, 1) := by decide +kernel
theorem dX3_countWaysOn_1 : decode cX3_countWaysOn 1 = .ok (.lstore 4, 2) := by decide +kernel
theorem dX3_countWaysOn_3 : decode cX3_countWaysOn 3 = .ok (.iconst 0, 1) := by decide +kernel
theorem dX3_countWaysOn_4 : decode cX3_countWaysOn 4 = .ok (.istore 6, 2) := by decide +kernel
theorem dX3_countWaysOn_6 : decode cX3_countWaysOn 6 = .ok (.iload 6, 2) := by decide +kernel
theorem dX3_countWaysOn_8 : decode cX3_countWaysOn 8 = .ok (.aload_n 0, 1) := by decide +kernel
theorem dX3_countWaysOn_9 : decode cX3_countWaysOn 9 = .ok (.getfield 32, 3) := by decide +kernel
theorem dX3_countWaysOn_12 : decode cX3_countWaysOn 12 = .ok (.getfield 44, 3) := by decide +kernel
theorem dX3_countWaysOn_15 : decode cX3_countWaysOn 15 = .ok (.if_icmp .ge 23, 3) := by decide +kernel
theorem dX3_countWaysOn_18 : decode cX3_countWaysOn 18 = .ok (.lload 4, 2) := by decide +kernel
theorem dX3_countWaysOn_20 : decode cX3_countWaysOn 20 = .ok (.aload_n 0, 1) := by decide +kernel
theorem dX3_countWaysOn_21 : decode cX3_countWaysOn 21 = .ok (.iload 6, 2) := by decide +kernel
theorem dX3_countWaysOn_23 : decode cX3_countWaysOn 23 = .ok (.iload_n 1, 1) := by decide +kernel
theorem dX3_countWaysOn_24 : decode cX3_countWaysOn 24 = .ok (.iload_n 2, 1) := by decide +kernel
theorem dX3_countWaysOn_25 : decode cX3_countWaysOn 25 = .ok (.iload_n 3, 1) := by decide +kernel
theorem dX3_countWaysOn_26 : decode cX3_countWaysOn 26 = .ok (.invokevirtual 93, 3) := by decide +kernel
theorem dX3_countWaysOn_29 : decode cX3_countWaysOn 29 = .ok (.ladd, 1) := by decide +kernel
theorem dX3_countWaysOn_30 : decode cX3_countWaysOn 30 = .ok (.lstore 4, 2) := by decide +kernel
theorem dX3_countWaysOn_32 : decode cX3_countWaysOn 32 = .ok (.iinc 6 1, 3) := by decide +kernel
theorem dX3_countWaysOn_35 : decode cX3_countWaysOn 35 = .ok (.goto (-29), 3) := by decide +kernel
theorem dX3_countWaysOn_38 : decode cX3_countWaysOn 38 = .ok (.lload 4, 2) := by decide +kernel
theorem dX3_countWaysOn_40 : decode cX3_countWaysOn 40 = .ok (.lreturn, 1) := by decide +kernel
set_option maxRecDepth 20000 in
theorem ggX3_waysWith_X4_mayCome : GoodIn wsX3_waysWith wsX4_mayCome := goodIn_r _ [9, 10, 11, 40, 41, 42, 43, 44, 45] (by decide +kernel) (by decide +kernel)
set_option maxRecDepth 20000 in
theorem gX3_waysWith_X4_mayCome : GoodIn wsX3_waysWith (wsV RX3 53 RX4 yX4_mayCome wsX4_mayCome) := goodIn_app (goodIn_of _ (by decide +kernel)) ggX3_waysWith_X4_mayCome
set_option maxRecDepth 20000 in
theorem ggX3_waysWith_X3_waysOn : GoodIn wsX3_waysWith wsX3_waysOn := goodIn_r _ [21, 22, 23, 24, 25, 15, 26, 27, 28, 29, 16, 1, 17, 18, 19, 20, 0, 2, 3, 4, 5, 6, 7, 8, 9, 10, 11, 12, 13, 14, 30, 31, 32, 33, 34, 35, 36, 37, 38, 39, 40, 41, 42, 43, 44, 45] (by decide +kernel) (by decide +kernel)
set_option maxRecDepth 20000 in
theorem gX3_waysWith_X3_waysOn : GoodIn wsX3_waysWith (wsV RX3 64 RX3 yX3_waysOn wsX3_waysOn) := goodIn_app (goodIn_of _ (by decide +kernel)) ggX3_waysWith_X3_waysOn
theorem dX3_waysWith_0 : decode cX3_waysWith 0 = .ok (.iload_n 3, 1) := by decide +kernel
theorem dX3_waysWith_1 : decode cX3_waysWith 1 = .ok (.aload_n 0, 1) := by decide +kernel
theorem dX3_waysWith_2 : decode cX3_waysWith 2 = .ok (.getfield 32, 3) := by decide +kernel
theorem dX3_waysWith_5 : decode cX3_waysWith 5 = .ok (.getfield 50, 3) := by decide +kernel
theorem dX3_waysWith_8 : decode cX3_waysWith 8 = .ok (.iload_n 1, 1) := by decide +kernel
theorem dX3_waysWith_9 : decode cX3_waysWith 9 = .ok (.iaload, 1) := by decide +kernel
theorem dX3_waysWith_10 : decode cX3_waysWith 10 = .ok (.isub, 1) := by decide +kernel
theorem dX3_waysWith_11 : decode cX3_waysWith 11 = .ok (.istore 5, 2) := by decide +kernel
theorem dX3_waysWith_13 : decode cX3_waysWith 13 = .ok (.iload 4, 2) := by decide +kernel
theorem dX3_waysWith_15 : decode cX3_waysWith 15 = .ok (.aload_n 0, 1) := by decide +kernel
theorem dX3_waysWith_16 : decode cX3_waysWith 16 = .ok (.getfield 9, 3) := by decide +kernel
theorem dX3_waysWith_19 : decode cX3_waysWith 19 = .ok (.iload_n 1, 1) := by decide +kernel
theorem dX3_waysWith_20 : decode cX3_waysWith 20 = .ok (.iaload, 1) := by decide +kernel
theorem dX3_waysWith_21 : decode cX3_waysWith 21 = .ok (.isub, 1) := by decide +kernel
theorem dX3_waysWith_22 : decode cX3_waysWith 22 = .ok (.istore 6, 2) := by decide +kernel
theorem dX3_waysWith_24 : decode cX3_waysWith 24 = .ok (.iload 5, 2) := by decide +kernel
theorem dX3_waysWith_26 : decode cX3_waysWith 26 = .ok (.ifCond .lt 20, 3) := by decide +kernel
theorem dX3_waysWith_29 : decode cX3_waysWith 29 = .ok (.iload 6, 2) := by decide +kernel
theorem dX3_waysWith_31 : decode cX3_waysWith 31 = .ok (.ifCond .lt 15, 3) := by decide +kernel
theorem dX3_waysWith_34 : decode cX3_waysWith 34 = .ok (.aload_n 0, 1) := by decide +kernel
theorem dX3_waysWith_35 : decode cX3_waysWith 35 = .ok (.getfield 32, 3) := by decide +kernel
theorem dX3_waysWith_38 : decode cX3_waysWith 38 = .ok (.iload_n 2, 1) := by decide +kernel
theorem dX3_waysWith_39 : decode cX3_waysWith 39 = .ok (.iload_n 1, 1) := by decide +kernel
theorem dX3_waysWith_40 : decode cX3_waysWith 40 = .ok (.invokevirtual 53, 3) := by decide +kernel
theorem dX3_waysWith_43 : decode cX3_waysWith 43 = .ok (.ifCond .ne 5, 3) := by decide +kernel
theorem dX3_waysWith_46 : decode cX3_waysWith 46 = .ok (.lconst 0, 1) := by decide +kernel
theorem dX3_waysWith_47 : decode cX3_waysWith 47 = .ok (.lreturn, 1) := by decide +kernel
theorem dX3_waysWith_48 : decode cX3_waysWith 48 = .ok (.aload_n 0, 1) := by decide +kernel
theorem dX3_waysWith_49 : decode cX3_waysWith 49 = .ok (.aload_n 0, 1) := by decide +kernel
theorem dX3_waysWith_50 : decode cX3_waysWith 50 = .ok (.getfield 32, 3) := by decide +kernel
theorem dX3_waysWith_53 : decode cX3_waysWith 53 = .ok (.getfield 57, 3) := by decide +kernel
theorem dX3_waysWith_56 : decode cX3_waysWith 56 = .ok (.iload_n 1, 1) := by decide +kernel
theorem dX3_waysWith_57 : decode cX3_waysWith 57 = .ok (.iaload, 1) := by decide +kernel
theorem dX3_waysWith_58 : decode cX3_waysWith 58 = .ok (.iload 5, 2) := by decide +kernel
theorem dX3_waysWith_60 : decode cX3_waysWith 60 = .ok (.iload 6, 2) := by decide +kernel
theorem dX3_waysWith_62 : decode cX3_waysWith 62 = .ok (.invokevirtual 64, 3) := by decide +kernel
theorem dX3_waysWith_65 : decode cX3_waysWith 65 = .ok (.lreturn, 1) := by decide +kernel
theorem dX3_placeKept_0 : decode cX3_placeKept 0 = .ok (.iload_n 0, 1) := by decide +kernel
theorem dX3_placeKept_1 : decode cX3_placeKept 1 = .ok (.iconst 3, 1) := by decide +kernel
theorem dX3_placeKept_2 : decode cX3_placeKept 2 = .ok (.if_icmp .ge 8, 3) := by decide +kernel
theorem dX3_placeKept_5 : decode cX3_placeKept 5 = .ok (.iload_n 1, 1) := by decide +kernel
theorem dX3_placeKept_6 : decode cX3_placeKept 6 = .ok (.iconst 4, 1) := by decide +kernel
theorem dX3_placeKept_7 : decode cX3_placeKept 7 = .ok (.if_icmp .le 5, 3) := by decide +kernel
theorem dX3_placeKept_10 : decode cX3_placeKept 10 = .ok (.iconst (-1), 1) := by decide +kernel
theorem dX3_placeKept_11 : decode cX3_placeKept 11 = .ok (.ireturn, 1) := by decide +kernel
theorem dX3_placeKept_12 : decode cX3_placeKept 12 = .ok (.iload_n 0, 1) := by decide +kernel
theorem dX3_placeKept_13 : decode cX3_placeKept 13 = .ok (.sipush 3001, 3) := by decide +kernel
theorem dX3_placeKept_16 : decode cX3_placeKept 16 = .ok (.imul, 1) := by decide +kernel
theorem dX3_placeKept_17 : decode cX3_placeKept 17 = .ok (.iload_n 2, 1) := by decide +kernel
theorem dX3_placeKept_18 : decode cX3_placeKept 18 = .ok (.iadd, 1) := by decide +kernel
theorem dX3_placeKept_19 : decode cX3_placeKept 19 = .ok (.ireturn, 1) := by decide +kernel
set_option maxRecDepth 20000 in
theorem ggX3_vocableAt_X3_waysWith : GoodIn wsX3_vocableAt wsX3_waysWith := goodIn_r _ [10, 1, 4, 5, 3, 11, 12, 13, 14, 15, 16, 17, 18, 19, 20, 9, 21, 2, 6, 7, 8, 22, 23, 24, 25, 26, 27, 28, 29, 30, 31, 32, 33, 34, 35, 36, 37, 38, 39, 40, 41, 42, 43, 44, 45, 46] (by decide +kernel) (by decide +kernel)
set_option maxRecDepth 20000 in
theorem gX3_vocableAt_X3_waysWith : GoodIn wsX3_vocableAt (wsV RX3 93 RX3 yX3_waysWith wsX3_waysWith) := goodIn_app (goodIn_of _ (by decide +kernel)) ggX3_vocableAt_X3_waysWith
theorem dX3_vocableAt_0 : decode cX3_vocableAt 0 = .ok (.iconst 3, 1) := by decide +kernel
theorem dX3_vocableAt_1 : decode cX3_vocableAt 1 = .ok (.istore 6, 2) := by decide +kernel
theorem dX3_vocableAt_3 : decode cX3_vocableAt 3 = .ok (.iload_n 1, 1) := by decide +kernel
theorem dX3_vocableAt_4 : decode cX3_vocableAt 4 = .ok (.istore 7, 2) := by decide +kernel
theorem dX3_vocableAt_6 : decode cX3_vocableAt 6 = .ok (.iload_n 2, 1) := by decide +kernel
theorem dX3_vocableAt_7 : decode cX3_vocableAt 7 = .ok (.istore 8, 2) := by decide +kernel
theorem dX3_vocableAt_9 : decode cX3_vocableAt 9 = .ok (.lload_n 3, 1) := by decide +kernel
theorem dX3_vocableAt_10 : decode cX3_vocableAt 10 = .ok (.lstore 9, 2) := by decide +kernel
theorem dX3_vocableAt_12 : decode cX3_vocableAt 12 = .ok (.iconst 0, 1) := by decide +kernel
theorem dX3_vocableAt_13 : decode cX3_vocableAt 13 = .ok (.istore 11, 2) := by decide +kernel
theorem dX3_vocableAt_15 : decode cX3_vocableAt 15 = .ok (.iload 11, 2) := by decide +kernel
theorem dX3_vocableAt_17 : decode cX3_vocableAt 17 = .ok (.bipush 8, 2) := by decide +kernel
theorem dX3_vocableAt_19 : decode cX3_vocableAt 19 = .ok (.if_icmp .ge 129, 3) := by decide +kernel
theorem dX3_vocableAt_22 : decode cX3_vocableAt 22 = .ok (.iload 7, 2) := by decide +kernel
theorem dX3_vocableAt_24 : decode cX3_vocableAt 24 = .ok (.ifCond .le 124, 3) := by decide +kernel
theorem dX3_vocableAt_27 : decode cX3_vocableAt 27 = .ok (.iconst 0, 1) := by decide +kernel
theorem dX3_vocableAt_28 : decode cX3_vocableAt 28 = .ok (.istore 12, 2) := by decide +kernel
theorem dX3_vocableAt_30 : decode cX3_vocableAt 30 = .ok (.aload_n 0, 1) := by decide +kernel
theorem dX3_vocableAt_31 : decode cX3_vocableAt 31 = .ok (.iload 12, 2) := by decide +kernel
theorem dX3_vocableAt_33 : decode cX3_vocableAt 33 = .ok (.iload 6, 2) := by decide +kernel
theorem dX3_vocableAt_35 : decode cX3_vocableAt 35 = .ok (.iload 7, 2) := by decide +kernel
theorem dX3_vocableAt_37 : decode cX3_vocableAt 37 = .ok (.iload 8, 2) := by decide +kernel
theorem dX3_vocableAt_39 : decode cX3_vocableAt 39 = .ok (.invokevirtual 93, 3) := by decide +kernel
theorem dX3_vocableAt_42 : decode cX3_vocableAt 42 = .ok (.lstore 13, 2) := by decide +kernel
theorem dX3_vocableAt_44 : decode cX3_vocableAt 44 = .ok (.iload 12, 2) := by decide +kernel
theorem dX3_vocableAt_46 : decode cX3_vocableAt 46 = .ok (.aload_n 0, 1) := by decide +kernel
theorem dX3_vocableAt_47 : decode cX3_vocableAt 47 = .ok (.getfield 32, 3) := by decide +kernel
theorem dX3_vocableAt_50 : decode cX3_vocableAt 50 = .ok (.getfield 44, 3) := by decide +kernel
theorem dX3_vocableAt_53 : decode cX3_vocableAt 53 = .ok (.iconst 1, 1) := by decide +kernel
theorem dX3_vocableAt_54 : decode cX3_vocableAt 54 = .ok (.isub, 1) := by decide +kernel
theorem dX3_vocableAt_55 : decode cX3_vocableAt 55 = .ok (.if_icmp .ge 38, 3) := by decide +kernel
theorem dX3_vocableAt_58 : decode cX3_vocableAt 58 = .ok (.lload 9, 2) := by decide +kernel
theorem dX3_vocableAt_60 : decode cX3_vocableAt 60 = .ok (.lload 13, 2) := by decide +kernel
theorem dX3_vocableAt_62 : decode cX3_vocableAt 62 = .ok (.lcmp, 1) := by decide +kernel
theorem dX3_vocableAt_63 : decode cX3_vocableAt 63 = .ok (.ifCond .lt 30, 3) := by decide +kernel
theorem dX3_vocableAt_66 : decode cX3_vocableAt 66 = .ok (.lload 9, 2) := by decide +kernel
theorem dX3_vocableAt_68 : decode cX3_vocableAt 68 = .ok (.lload 13, 2) := by decide +kernel
theorem dX3_vocableAt_70 : decode cX3_vocableAt 70 = .ok (.lsub, 1) := by decide +kernel
theorem dX3_vocableAt_71 : decode cX3_vocableAt 71 = .ok (.lstore 9, 2) := by decide +kernel
theorem dX3_vocableAt_73 : decode cX3_vocableAt 73 = .ok (.iinc 12 1, 3) := by decide +kernel
theorem dX3_vocableAt_76 : decode cX3_vocableAt 76 = .ok (.aload_n 0, 1) := by decide +kernel
theorem dX3_vocableAt_77 : decode cX3_vocableAt 77 = .ok (.iload 12, 2) := by decide +kernel
theorem dX3_vocableAt_79 : decode cX3_vocableAt 79 = .ok (.iload 6, 2) := by decide +kernel
theorem dX3_vocableAt_81 : decode cX3_vocableAt 81 = .ok (.iload 7, 2) := by decide +kernel
theorem dX3_vocableAt_83 : decode cX3_vocableAt 83 = .ok (.iload 8, 2) := by decide +kernel
theorem dX3_vocableAt_85 : decode cX3_vocableAt 85 = .ok (.invokevirtual 93, 3) := by decide +kernel
theorem dX3_vocableAt_88 : decode cX3_vocableAt 88 = .ok (.lstore 13, 2) := by decide +kernel
theorem dX3_vocableAt_90 : decode cX3_vocableAt 90 = .ok (.goto (-46), 3) := by decide +kernel
theorem dX3_vocableAt_93 : decode cX3_vocableAt 93 = .ok (.iload 11, 2) := by decide +kernel
theorem dX3_vocableAt_95 : decode cX3_vocableAt 95 = .ok (.iload 5, 2) := by decide +kernel
theorem dX3_vocableAt_97 : decode cX3_vocableAt 97 = .ok (.if_icmp .ne 6, 3) := by decide +kernel
theorem dX3_vocableAt_100 : decode cX3_vocableAt 100 = .ok (.iload 12, 2) := by decide +kernel
theorem dX3_vocableAt_102 : decode cX3_vocableAt 102 = .ok (.ireturn, 1) := by decide +kernel
theorem dX3_vocableAt_103 : decode cX3_vocableAt 103 = .ok (.aload_n 0, 1) := by decide +kernel
theorem dX3_vocableAt_104 : decode cX3_vocableAt 104 = .ok (.getfield 32, 3) := by decide +kernel
theorem dX3_vocableAt_107 : decode cX3_vocableAt 107 = .ok (.getfield 57, 3) := by decide +kernel
theorem dX3_vocableAt_110 : decode cX3_vocableAt 110 = .ok (.iload 12, 2) := by decide +kernel
theorem dX3_vocableAt_112 : decode cX3_vocableAt 112 = .ok (.iaload, 1) := by decide +kernel
theorem dX3_vocableAt_113 : decode cX3_vocableAt 113 = .ok (.istore 6, 2) := by decide +kernel
theorem dX3_vocableAt_115 : decode cX3_vocableAt 115 = .ok (.iload 7, 2) := by decide +kernel
theorem dX3_vocableAt_117 : decode cX3_vocableAt 117 = .ok (.aload_n 0, 1) := by decide +kernel
theorem dX3_vocableAt_118 : decode cX3_vocableAt 118 = .ok (.getfield 32, 3) := by decide +kernel
theorem dX3_vocableAt_121 : decode cX3_vocableAt 121 = .ok (.getfield 50, 3) := by decide +kernel
theorem dX3_vocableAt_124 : decode cX3_vocableAt 124 = .ok (.iload 12, 2) := by decide +kernel
theorem dX3_vocableAt_126 : decode cX3_vocableAt 126 = .ok (.iaload, 1) := by decide +kernel
theorem dX3_vocableAt_127 : decode cX3_vocableAt 127 = .ok (.isub, 1) := by decide +kernel
theorem dX3_vocableAt_128 : decode cX3_vocableAt 128 = .ok (.istore 7, 2) := by decide +kernel
theorem dX3_vocableAt_130 : decode cX3_vocableAt 130 = .ok (.iload 8, 2) := by decide +kernel
theorem dX3_vocableAt_132 : decode cX3_vocableAt 132 = .ok (.aload_n 0, 1) := by decide +kernel
theorem dX3_vocableAt_133 : decode cX3_vocableAt 133 = .ok (.getfield 9, 3) := by decide +kernel
theorem dX3_vocableAt_136 : decode cX3_vocableAt 136 = .ok (.iload 12, 2) := by decide +kernel
theorem dX3_vocableAt_138 : decode cX3_vocableAt 138 = .ok (.iaload, 1) := by decide +kernel
theorem dX3_vocableAt_139 : decode cX3_vocableAt 139 = .ok (.isub, 1) := by decide +kernel
theorem dX3_vocableAt_140 : decode cX3_vocableAt 140 = .ok (.istore 8, 2) := by decide +kernel
theorem dX3_vocableAt_142 : decode cX3_vocableAt 142 = .ok (.iinc 11 1, 3) := by decide +kernel
theorem dX3_vocableAt_145 : decode cX3_vocableAt 145 = .ok (.goto (-130), 3) := by decide +kernel
theorem dX3_vocableAt_148 : decode cX3_vocableAt 148 = .ok (.bipush (-9), 2) := by decide +kernel
theorem dX3_vocableAt_150 : decode cX3_vocableAt 150 = .ok (.ireturn, 1) := by decide +kernel
set_option maxRecDepth 20000 in
theorem ggX3_ofTwoSums_X4_putSums : GoodIn wsX3_ofTwoSums wsX4_putSums := goodIn_r _ [9, 10, 11, 12, 13, 14, 15, 16, 17, 18, 19, 20, 21, 22, 23, 24, 25, 26, 27, 28, 53, 54, 55, 56, 57, 58, 59] (by decide +kernel) (by decide +kernel)
set_option maxRecDepth 20000 in
theorem gX3_ofTwoSums_X4_putSums : GoodIn wsX3_ofTwoSums (wsV RX3 74 RX4 yX4_putSums wsX4_putSums) := goodIn_app (goodIn_of _ (by decide +kernel)) ggX3_ofTwoSums_X4_putSums
set_option maxRecDepth 20000 in
theorem ggX3_ofTwoSums_X3_doubleWaysOn : GoodIn wsX3_ofTwoSums wsX3_doubleWaysOn := goodIn_r _ [33, 1, 34, 35, 36, 2, 4, 37, 38, 39, 8, 40, 41, 42, 29, 30, 31, 32, 43, 44, 45, 46, 47, 48, 49, 50, 51, 52, 53, 54, 55, 56, 57, 58] (by decide +kernel) (by decide +kernel)
set_option maxRecDepth 20000 in
theorem gX3_ofTwoSums_X3_doubleWaysOn : GoodIn wsX3_ofTwoSums (wsV RX3 97 RX3 yX3_doubleWaysOn wsX3_doubleWaysOn) := goodIn_app (goodIn_of _ (by decide +kernel)) ggX3_ofTwoSums_X3_doubleWaysOn
theorem dX3_ofTwoSums_0 : decode cX3_ofTwoSums 0 = .ok (.aload_n 0, 1) := by decide +kernel
theorem dX3_ofTwoSums_1 : decode cX3_ofTwoSums 1 = .ok (.getfield 32, 3) := by decide +kernel
theorem dX3_ofTwoSums_4 : decode cX3_ofTwoSums 4 = .ok (.aload_n 0, 1) := by decide +kernel
theorem dX3_ofTwoSums_5 : decode cX3_ofTwoSums 5 = .ok (.getfield 15, 3) := by decide +kernel
theorem dX3_ofTwoSums_8 : decode cX3_ofTwoSums 8 = .ok (.aload_n 0, 1) := by decide +kernel
theorem dX3_ofTwoSums_9 : decode cX3_ofTwoSums 9 = .ok (.getfield 36, 3) := by decide +kernel
theorem dX3_ofTwoSums_12 : decode cX3_ofTwoSums 12 = .ok (.iload 4, 2) := by decide +kernel
theorem dX3_ofTwoSums_14 : decode cX3_ofTwoSums 14 = .ok (.iload 5, 2) := by decide +kernel
theorem dX3_ofTwoSums_16 : decode cX3_ofTwoSums 16 = .ok (.invokevirtual 74, 3) := by decide +kernel
theorem dX3_ofTwoSums_19 : decode cX3_ofTwoSums 19 = .ok (.aload_n 0, 1) := by decide +kernel
theorem dX3_ofTwoSums_20 : decode cX3_ofTwoSums 20 = .ok (.getfield 32, 3) := by decide +kernel
theorem dX3_ofTwoSums_23 : decode cX3_ofTwoSums 23 = .ok (.aload_n 0, 1) := by decide +kernel
theorem dX3_ofTwoSums_24 : decode cX3_ofTwoSums 24 = .ok (.getfield 18, 3) := by decide +kernel
theorem dX3_ofTwoSums_27 : decode cX3_ofTwoSums 27 = .ok (.aload_n 0, 1) := by decide +kernel
theorem dX3_ofTwoSums_28 : decode cX3_ofTwoSums 28 = .ok (.getfield 36, 3) := by decide +kernel
theorem dX3_ofTwoSums_31 : decode cX3_ofTwoSums 31 = .ok (.iload 4, 2) := by decide +kernel
theorem dX3_ofTwoSums_33 : decode cX3_ofTwoSums 33 = .ok (.iload 6, 2) := by decide +kernel
theorem dX3_ofTwoSums_35 : decode cX3_ofTwoSums 35 = .ok (.invokevirtual 74, 3) := by decide +kernel
theorem dX3_ofTwoSums_38 : decode cX3_ofTwoSums 38 = .ok (.aload_n 0, 1) := by decide +kernel
theorem dX3_ofTwoSums_39 : decode cX3_ofTwoSums 39 = .ok (.iconst 3, 1) := by decide +kernel
theorem dX3_ofTwoSums_40 : decode cX3_ofTwoSums 40 = .ok (.iload_n 1, 1) := by decide +kernel
theorem dX3_ofTwoSums_41 : decode cX3_ofTwoSums 41 = .ok (.iload_n 2, 1) := by decide +kernel
theorem dX3_ofTwoSums_42 : decode cX3_ofTwoSums 42 = .ok (.iload_n 3, 1) := by decide +kernel
theorem dX3_ofTwoSums_43 : decode cX3_ofTwoSums 43 = .ok (.invokevirtual 97, 3) := by decide +kernel
theorem dX3_ofTwoSums_46 : decode cX3_ofTwoSums 46 = .ok (.lreturn, 1) := by decide +kernel
set_option maxRecDepth 20000 in
theorem ggX3_doubleWaysOn_X4_mayCome : GoodIn wsX3_doubleWaysOn wsX4_mayCome := goodIn_r _ [11, 12, 13, 28, 29, 30, 31, 32, 33] (by decide +kernel) (by decide +kernel)
set_option maxRecDepth 20000 in
theorem gX3_doubleWaysOn_X4_mayCome : GoodIn wsX3_doubleWaysOn (wsV RX3 53 RX4 yX4_mayCome wsX4_mayCome) := goodIn_app (goodIn_of _ (by decide +kernel)) ggX3_doubleWaysOn_X4_mayCome
set_option maxRecDepth 20000 in
theorem ggX3_doubleWaysOn_X3_doubleWaysOn : GoodIn wsX3_doubleWaysOn wsX3_doubleWaysOn := goodIn_r _ [0, 1, 2, 3, 4, 5, 6, 7, 8, 9, 10, 11, 12, 13, 14, 15, 16, 17, 18, 19, 20, 21, 22, 23, 24, 25, 26, 27, 28, 29, 30, 31, 32, 33] (by decide +kernel) (by decide +kernel)
set_option maxRecDepth 20000 in
theorem gX3_doubleWaysOn_X3_doubleWaysOn : GoodIn wsX3_doubleWaysOn (wsV RX3 97 RX3 yX3_doubleWaysOn wsX3_doubleWaysOn) := goodIn_app (goodIn_of _ (by decide +kernel)) ggX3_doubleWaysOn_X3_doubleWaysOn
theorem dX3_doubleWaysOn_0 : decode cX3_doubleWaysOn 0 = .ok (.iload_n 2, 1) := by decide +kernel
theorem dX3_doubleWaysOn_1 : decode cX3_doubleWaysOn 1 = .ok (.iconst 1, 1) := by decide +kernel
theorem dX3_doubleWaysOn_2 : decode cX3_doubleWaysOn 2 = .ok (.if_icmp .lt 17, 3) := by decide +kernel
theorem dX3_doubleWaysOn_5 : decode cX3_doubleWaysOn 5 = .ok (.iload_n 2, 1) := by decide +kernel
theorem dX3_doubleWaysOn_6 : decode cX3_doubleWaysOn 6 = .ok (.iconst 5, 1) := by decide +kernel
theorem dX3_doubleWaysOn_7 : decode cX3_doubleWaysOn 7 = .ok (.if_icmp .gt 12, 3) := by decide +kernel
theorem dX3_doubleWaysOn_10 : decode cX3_doubleWaysOn 10 = .ok (.iload_n 3, 1) := by decide +kernel
theorem dX3_doubleWaysOn_11 : decode cX3_doubleWaysOn 11 = .ok (.ifCond .lt 8, 3) := by decide +kernel
theorem dX3_doubleWaysOn_14 : decode cX3_doubleWaysOn 14 = .ok (.iload 4, 2) := by decide +kernel
theorem dX3_doubleWaysOn_16 : decode cX3_doubleWaysOn 16 = .ok (.ifCond .ge 22, 3) := by decide +kernel
theorem dX3_doubleWaysOn_19 : decode cX3_doubleWaysOn 19 = .ok (.iload_n 2, 1) := by decide +kernel
theorem dX3_doubleWaysOn_20 : decode cX3_doubleWaysOn 20 = .ok (.ifCond .ne 16, 3) := by decide +kernel
theorem dX3_doubleWaysOn_23 : decode cX3_doubleWaysOn 23 = .ok (.iload_n 3, 1) := by decide +kernel
theorem dX3_doubleWaysOn_24 : decode cX3_doubleWaysOn 24 = .ok (.ifCond .ne 12, 3) := by decide +kernel
theorem dX3_doubleWaysOn_27 : decode cX3_doubleWaysOn 27 = .ok (.iload 4, 2) := by decide +kernel
theorem dX3_doubleWaysOn_29 : decode cX3_doubleWaysOn 29 = .ok (.ifCond .ne 7, 3) := by decide +kernel
theorem dX3_doubleWaysOn_32 : decode cX3_doubleWaysOn 32 = .ok (.lconst 1, 1) := by decide +kernel
theorem dX3_doubleWaysOn_33 : decode cX3_doubleWaysOn 33 = .ok (.goto 4, 3) := by decide +kernel
theorem dX3_doubleWaysOn_36 : decode cX3_doubleWaysOn 36 = .ok (.lconst 0, 1) := by decide +kernel
theorem dX3_doubleWaysOn_37 : decode cX3_doubleWaysOn 37 = .ok (.lreturn, 1) := by decide +kernel
theorem dX3_doubleWaysOn_38 : decode cX3_doubleWaysOn 38 = .ok (.lconst 0, 1) := by decide +kernel
theorem dX3_doubleWaysOn_39 : decode cX3_doubleWaysOn 39 = .ok (.lstore 5, 2) := by decide +kernel
theorem dX3_doubleWaysOn_41 : decode cX3_doubleWaysOn 41 = .ok (.iconst 0, 1) := by decide +kernel
theorem dX3_doubleWaysOn_42 : decode cX3_doubleWaysOn 42 = .ok (.istore 7, 2) := by decide +kernel
theorem dX3_doubleWaysOn_44 : decode cX3_doubleWaysOn 44 = .ok (.iload 7, 2) := by decide +kernel
theorem dX3_doubleWaysOn_46 : decode cX3_doubleWaysOn 46 = .ok (.aload_n 0, 1) := by decide +kernel
theorem dX3_doubleWaysOn_47 : decode cX3_doubleWaysOn 47 = .ok (.getfield 32, 3) := by decide +kernel
theorem dX3_doubleWaysOn_50 : decode cX3_doubleWaysOn 50 = .ok (.getfield 44, 3) := by decide +kernel
theorem dX3_doubleWaysOn_53 : decode cX3_doubleWaysOn 53 = .ok (.if_icmp .ge 72, 3) := by decide +kernel
theorem dX3_doubleWaysOn_56 : decode cX3_doubleWaysOn 56 = .ok (.aload_n 0, 1) := by decide +kernel
theorem dX3_doubleWaysOn_57 : decode cX3_doubleWaysOn 57 = .ok (.getfield 32, 3) := by decide +kernel
theorem dX3_doubleWaysOn_60 : decode cX3_doubleWaysOn 60 = .ok (.iload_n 1, 1) := by decide +kernel
theorem dX3_doubleWaysOn_61 : decode cX3_doubleWaysOn 61 = .ok (.iload 7, 2) := by decide +kernel
theorem dX3_doubleWaysOn_63 : decode cX3_doubleWaysOn 63 = .ok (.invokevirtual 53, 3) := by decide +kernel
theorem dX3_doubleWaysOn_66 : decode cX3_doubleWaysOn 66 = .ok (.ifCond .eq 53, 3) := by decide +kernel
theorem dX3_doubleWaysOn_69 : decode cX3_doubleWaysOn 69 = .ok (.lload 5, 2) := by decide +kernel
theorem dX3_doubleWaysOn_71 : decode cX3_doubleWaysOn 71 = .ok (.aload_n 0, 1) := by decide +kernel
theorem dX3_doubleWaysOn_72 : decode cX3_doubleWaysOn 72 = .ok (.aload_n 0, 1) := by decide +kernel
theorem dX3_doubleWaysOn_73 : decode cX3_doubleWaysOn 73 = .ok (.getfield 32, 3) := by decide +kernel
theorem dX3_doubleWaysOn_76 : decode cX3_doubleWaysOn 76 = .ok (.getfield 57, 3) := by decide +kernel
theorem dX3_doubleWaysOn_79 : decode cX3_doubleWaysOn 79 = .ok (.iload 7, 2) := by decide +kernel
theorem dX3_doubleWaysOn_81 : decode cX3_doubleWaysOn 81 = .ok (.iaload, 1) := by decide +kernel
theorem dX3_doubleWaysOn_82 : decode cX3_doubleWaysOn 82 = .ok (.iload_n 2, 1) := by decide +kernel
theorem dX3_doubleWaysOn_83 : decode cX3_doubleWaysOn 83 = .ok (.aload_n 0, 1) := by decide +kernel
theorem dX3_doubleWaysOn_84 : decode cX3_doubleWaysOn 84 = .ok (.getfield 32, 3) := by decide +kernel
theorem dX3_doubleWaysOn_87 : decode cX3_doubleWaysOn 87 = .ok (.getfield 50, 3) := by decide +kernel
theorem dX3_doubleWaysOn_90 : decode cX3_doubleWaysOn 90 = .ok (.iload 7, 2) := by decide +kernel
theorem dX3_doubleWaysOn_92 : decode cX3_doubleWaysOn 92 = .ok (.iaload, 1) := by decide +kernel
theorem dX3_doubleWaysOn_93 : decode cX3_doubleWaysOn 93 = .ok (.isub, 1) := by decide +kernel
theorem dX3_doubleWaysOn_94 : decode cX3_doubleWaysOn 94 = .ok (.iload_n 3, 1) := by decide +kernel
theorem dX3_doubleWaysOn_95 : decode cX3_doubleWaysOn 95 = .ok (.aload_n 0, 1) := by decide +kernel
theorem dX3_doubleWaysOn_96 : decode cX3_doubleWaysOn 96 = .ok (.getfield 15, 3) := by decide +kernel
theorem dX3_doubleWaysOn_99 : decode cX3_doubleWaysOn 99 = .ok (.iload 7, 2) := by decide +kernel
theorem dX3_doubleWaysOn_101 : decode cX3_doubleWaysOn 101 = .ok (.iaload, 1) := by decide +kernel
theorem dX3_doubleWaysOn_102 : decode cX3_doubleWaysOn 102 = .ok (.isub, 1) := by decide +kernel
theorem dX3_doubleWaysOn_103 : decode cX3_doubleWaysOn 103 = .ok (.iload 4, 2) := by decide +kernel
theorem dX3_doubleWaysOn_105 : decode cX3_doubleWaysOn 105 = .ok (.aload_n 0, 1) := by decide +kernel
theorem dX3_doubleWaysOn_106 : decode cX3_doubleWaysOn 106 = .ok (.getfield 18, 3) := by decide +kernel
theorem dX3_doubleWaysOn_109 : decode cX3_doubleWaysOn 109 = .ok (.iload 7, 2) := by decide +kernel
theorem dX3_doubleWaysOn_111 : decode cX3_doubleWaysOn 111 = .ok (.iaload, 1) := by decide +kernel
theorem dX3_doubleWaysOn_112 : decode cX3_doubleWaysOn 112 = .ok (.isub, 1) := by decide +kernel
theorem dX3_doubleWaysOn_113 : decode cX3_doubleWaysOn 113 = .ok (.invokevirtual 97, 3) := by decide +kernel
theorem dX3_doubleWaysOn_116 : decode cX3_doubleWaysOn 116 = .ok (.ladd, 1) := by decide +kernel
theorem dX3_doubleWaysOn_117 : decode cX3_doubleWaysOn 117 = .ok (.lstore 5, 2) := by decide +kernel
theorem dX3_doubleWaysOn_119 : decode cX3_doubleWaysOn 119 = .ok (.iinc 7 1, 3) := by decide +kernel
theorem dX3_doubleWaysOn_122 : decode cX3_doubleWaysOn 122 = .ok (.goto (-78), 3) := by decide +kernel
theorem dX3_doubleWaysOn_125 : decode cX3_doubleWaysOn 125 = .ok (.lload 5, 2) := by decide +kernel
theorem dX3_doubleWaysOn_127 : decode cX3_doubleWaysOn 127 = .ok (.lreturn, 1) := by decide +kernel
set_option maxRecDepth 20000 in
theorem ggX4_init_J7_fill_53178 : GoodIn wsX4_init wsJ7_fill_53178 := goodIn_r _ [13] (by decide +kernel) (by decide +kernel)
set_option maxRecDepth 20000 in
theorem gX4_init_J7_fill_53178 : GoodIn wsX4_init (va_wsS RX4 27 yJ7_fill_53178 wsJ7_fill_53178) := goodIn_app (goodIn_of _ (by decide +kernel)) ggX4_init_J7_fill_53178
theorem dX4_init_0 : decode cX4_init 0 = .ok (.aload_n 0, 1) := by decide +kernel
theorem dX4_init_1 : decode cX4_init 1 = .ok (.invokespecial 3, 3) := by decide +kernel
theorem dX4_init_4 : decode cX4_init 4 = .ok (.aload_n 0, 1) := by decide +kernel
theorem dX4_init_5 : decode cX4_init 5 = .ok (.bipush 80, 2) := by decide +kernel
theorem dX4_init_7 : decode cX4_init 7 = .ok (.newarray .int, 2) := by decide +kernel
theorem dX4_init_9 : decode cX4_init 9 = .ok (.putfield 9, 3) := by decide +kernel
theorem dX4_init_12 : decode cX4_init 12 = .ok (.aload_n 0, 1) := by decide +kernel
theorem dX4_init_13 : decode cX4_init 13 = .ok (.bipush 10, 2) := by decide +kernel
theorem dX4_init_15 : decode cX4_init 15 = .ok (.newarray .int, 2) := by decide +kernel
theorem dX4_init_17 : decode cX4_init 17 = .ok (.putfield 15, 3) := by decide +kernel
theorem dX4_init_20 : decode cX4_init 20 = .ok (.aload_n 0, 1) := by decide +kernel
theorem dX4_init_21 : decode cX4_init 21 = .ok (.bipush 10, 2) := by decide +kernel
theorem dX4_init_23 : decode cX4_init 23 = .ok (.newarray .int, 2) := by decide +kernel
theorem dX4_init_25 : decode cX4_init 25 = .ok (.putfield 18, 3) := by decide +kernel
theorem dX4_init_28 : decode cX4_init 28 = .ok (.aload_n 0, 1) := by decide +kernel
theorem dX4_init_29 : decode cX4_init 29 = .ok (.bipush 10, 2) := by decide +kernel
theorem dX4_init_31 : decode cX4_init 31 = .ok (.newarray .int, 2) := by decide +kernel
theorem dX4_init_33 : decode cX4_init 33 = .ok (.putfield 21, 3) := by decide +kernel
theorem dX4_init_36 : decode cX4_init 36 = .ok (.aload_n 0, 1) := by decide +kernel
theorem dX4_init_37 : decode cX4_init 37 = .ok (.iconst 4, 1) := by decide +kernel
theorem dX4_init_38 : decode cX4_init 38 = .ok (.newarray .int, 2) := by decide +kernel
theorem dX4_init_40 : decode cX4_init 40 = .ok (.putfield 24, 3) := by decide +kernel
theorem dX4_init_43 : decode cX4_init 43 = .ok (.aload_n 0, 1) := by decide +kernel
theorem dX4_init_44 : decode cX4_init 44 = .ok (.getfield 24, 3) := by decide +kernel
theorem dX4_init_47 : decode cX4_init 47 = .ok (.bipush 7, 2) := by decide +kernel
theorem dX4_init_49 : decode cX4_init 49 = .ok (.invokestatic 27, 3) := by decide +kernel
theorem dX4_init_52 : decode cX4_init 52 = .ok (.return_, 1) := by decide +kernel
theorem dX4_take_0 : decode cX4_take 0 = .ok (.aload_n 1, 1) := by decide +kernel
theorem dX4_take_1 : decode cX4_take 1 = .ok (.getfield 33, 3) := by decide +kernel
theorem dX4_take_4 : decode cX4_take 4 = .ok (.iconst 0, 1) := by decide +kernel
theorem dX4_take_5 : decode cX4_take 5 = .ok (.aload_n 0, 1) := by decide +kernel
theorem dX4_take_6 : decode cX4_take 6 = .ok (.getfield 9, 3) := by decide +kernel
theorem dX4_take_9 : decode cX4_take 9 = .ok (.aload_n 0, 1) := by decide +kernel
theorem dX4_take_10 : decode cX4_take 10 = .ok (.getfield 38, 3) := by decide +kernel
theorem dX4_take_13 : decode cX4_take 13 = .ok (.bipush 8, 2) := by decide +kernel
theorem dX4_take_15 : decode cX4_take 15 = .ok (.imul, 1) := by decide +kernel
theorem dX4_take_16 : decode cX4_take 16 = .ok (.aload_n 1, 1) := by decide +kernel
theorem dX4_take_17 : decode cX4_take 17 = .ok (.getfield 42, 3) := by decide +kernel
theorem dX4_take_20 : decode cX4_take 20 = .ok (.invokestatic 45, 3) := by decide +kernel
theorem dX4_take_23 : decode cX4_take 23 = .ok (.aload_n 0, 1) := by decide +kernel
theorem dX4_take_24 : decode cX4_take 24 = .ok (.getfield 15, 3) := by decide +kernel
theorem dX4_take_27 : decode cX4_take 27 = .ok (.aload_n 0, 1) := by decide +kernel
theorem dX4_take_28 : decode cX4_take 28 = .ok (.getfield 38, 3) := by decide +kernel
theorem dX4_take_31 : decode cX4_take 31 = .ok (.aload_n 1, 1) := by decide +kernel
theorem dX4_take_32 : decode cX4_take 32 = .ok (.getfield 42, 3) := by decide +kernel
theorem dX4_take_35 : decode cX4_take 35 = .ok (.iastore, 1) := by decide +kernel
theorem dX4_take_36 : decode cX4_take 36 = .ok (.aload_n 0, 1) := by decide +kernel
theorem dX4_take_37 : decode cX4_take 37 = .ok (.getfield 18, 3) := by decide +kernel
theorem dX4_take_40 : decode cX4_take 40 = .ok (.aload_n 0, 1) := by decide +kernel
theorem dX4_take_41 : decode cX4_take 41 = .ok (.getfield 38, 3) := by decide +kernel
theorem dX4_take_44 : decode cX4_take 44 = .ok (.iload_n 2, 1) := by decide +kernel
theorem dX4_take_45 : decode cX4_take 45 = .ok (.iastore, 1) := by decide +kernel
theorem dX4_take_46 : decode cX4_take 46 = .ok (.aload_n 0, 1) := by decide +kernel
theorem dX4_take_47 : decode cX4_take 47 = .ok (.getfield 21, 3) := by decide +kernel
theorem dX4_take_50 : decode cX4_take 50 = .ok (.aload_n 0, 1) := by decide +kernel
theorem dX4_take_51 : decode cX4_take 51 = .ok (.getfield 38, 3) := by decide +kernel
theorem dX4_take_54 : decode cX4_take 54 = .ok (.iload_n 3, 1) := by decide +kernel
theorem dX4_take_55 : decode cX4_take 55 = .ok (.iastore, 1) := by decide +kernel
theorem dX4_take_56 : decode cX4_take 56 = .ok (.aload_n 0, 1) := by decide +kernel
theorem dX4_take_57 : decode cX4_take 57 = .ok (.dup, 1) := by decide +kernel
theorem dX4_take_58 : decode cX4_take 58 = .ok (.getfield 38, 3) := by decide +kernel
theorem dX4_take_61 : decode cX4_take 61 = .ok (.iconst 1, 1) := by decide +kernel
theorem dX4_take_62 : decode cX4_take 62 = .ok (.iadd, 1) := by decide +kernel
theorem dX4_take_63 : decode cX4_take 63 = .ok (.putfield 38, 3) := by decide +kernel
theorem dX4_take_66 : decode cX4_take 66 = .ok (.return_, 1) := by decide +kernel
theorem dX4_mayCome_0 : decode cX4_mayCome 0 = .ok (.aload_n 0, 1) := by decide +kernel
theorem dX4_mayCome_1 : decode cX4_mayCome 1 = .ok (.getfield 24, 3) := by decide +kernel
theorem dX4_mayCome_4 : decode cX4_mayCome 4 = .ok (.iload_n 1, 1) := by decide +kernel
theorem dX4_mayCome_5 : decode cX4_mayCome 5 = .ok (.iaload, 1) := by decide +kernel
theorem dX4_mayCome_6 : decode cX4_mayCome 6 = .ok (.aload_n 0, 1) := by decide +kernel
theorem dX4_mayCome_7 : decode cX4_mayCome 7 = .ok (.getfield 21, 3) := by decide +kernel
theorem dX4_mayCome_10 : decode cX4_mayCome 10 = .ok (.iload_n 2, 1) := by decide +kernel
theorem dX4_mayCome_11 : decode cX4_mayCome 11 = .ok (.iaload, 1) := by decide +kernel
theorem dX4_mayCome_12 : decode cX4_mayCome 12 = .ok (.ishr, 1) := by decide +kernel
theorem dX4_mayCome_13 : decode cX4_mayCome 13 = .ok (.iconst 1, 1) := by decide +kernel
theorem dX4_mayCome_14 : decode cX4_mayCome 14 = .ok (.iand, 1) := by decide +kernel
theorem dX4_mayCome_15 : decode cX4_mayCome 15 = .ok (.iconst 1, 1) := by decide +kernel
theorem dX4_mayCome_16 : decode cX4_mayCome 16 = .ok (.if_icmp .ne 7, 3) := by decide +kernel
theorem dX4_mayCome_19 : decode cX4_mayCome 19 = .ok (.iconst 1, 1) := by decide +kernel
theorem dX4_mayCome_20 : decode cX4_mayCome 20 = .ok (.goto 4, 3) := by decide +kernel
theorem dX4_mayCome_23 : decode cX4_mayCome 23 = .ok (.iconst 0, 1) := by decide +kernel
theorem dX4_mayCome_24 : decode cX4_mayCome 24 = .ok (.ireturn, 1) := by decide +kernel
theorem dX4_fitsPart_0 : decode cX4_fitsPart 0 = .ok (.aload_n 2, 1) := by decide +kernel
theorem dX4_fitsPart_1 : decode cX4_fitsPart 1 = .ok (.getfield 51, 3) := by decide +kernel
theorem dX4_fitsPart_4 : decode cX4_fitsPart 4 = .ok (.iload_n 3, 1) := by decide +kernel
theorem dX4_fitsPart_5 : decode cX4_fitsPart 5 = .ok (.iaload, 1) := by decide +kernel
theorem dX4_fitsPart_6 : decode cX4_fitsPart 6 = .ok (.istore 4, 2) := by decide +kernel
theorem dX4_fitsPart_8 : decode cX4_fitsPart 8 = .ok (.aload_n 2, 1) := by decide +kernel
theorem dX4_fitsPart_9 : decode cX4_fitsPart 9 = .ok (.getfield 54, 3) := by decide +kernel
theorem dX4_fitsPart_12 : decode cX4_fitsPart 12 = .ok (.iload_n 3, 1) := by decide +kernel
theorem dX4_fitsPart_13 : decode cX4_fitsPart 13 = .ok (.iaload, 1) := by decide +kernel
theorem dX4_fitsPart_14 : decode cX4_fitsPart 14 = .ok (.iload 4, 2) := by decide +kernel
theorem dX4_fitsPart_16 : decode cX4_fitsPart 16 = .ok (.isub, 1) := by decide +kernel
theorem dX4_fitsPart_17 : decode cX4_fitsPart 17 = .ok (.istore 5, 2) := by decide +kernel
theorem dX4_fitsPart_19 : decode cX4_fitsPart 19 = .ok (.iload 5, 2) := by decide +kernel
theorem dX4_fitsPart_21 : decode cX4_fitsPart 21 = .ok (.aload_n 0, 1) := by decide +kernel
theorem dX4_fitsPart_22 : decode cX4_fitsPart 22 = .ok (.getfield 15, 3) := by decide +kernel
theorem dX4_fitsPart_25 : decode cX4_fitsPart 25 = .ok (.iload_n 1, 1) := by decide +kernel
theorem dX4_fitsPart_26 : decode cX4_fitsPart 26 = .ok (.iaload, 1) := by decide +kernel
theorem dX4_fitsPart_27 : decode cX4_fitsPart 27 = .ok (.if_icmp .eq 5, 3) := by decide +kernel
theorem dX4_fitsPart_30 : decode cX4_fitsPart 30 = .ok (.iconst 0, 1) := by decide +kernel
theorem dX4_fitsPart_31 : decode cX4_fitsPart 31 = .ok (.ireturn, 1) := by decide +kernel
theorem dX4_fitsPart_32 : decode cX4_fitsPart 32 = .ok (.iconst 0, 1) := by decide +kernel
theorem dX4_fitsPart_33 : decode cX4_fitsPart 33 = .ok (.istore 6, 2) := by decide +kernel
theorem dX4_fitsPart_35 : decode cX4_fitsPart 35 = .ok (.iload 6, 2) := by decide +kernel
theorem dX4_fitsPart_37 : decode cX4_fitsPart 37 = .ok (.iload 5, 2) := by decide +kernel
theorem dX4_fitsPart_39 : decode cX4_fitsPart 39 = .ok (.if_icmp .ge 47, 3) := by decide +kernel
theorem dX4_fitsPart_42 : decode cX4_fitsPart 42 = .ok (.aload_n 2, 1) := by decide +kernel
theorem dX4_fitsPart_43 : decode cX4_fitsPart 43 = .ok (.getfield 33, 3) := by decide +kernel
theorem dX4_fitsPart_46 : decode cX4_fitsPart 46 = .ok (.iload 4, 2) := by decide +kernel
theorem dX4_fitsPart_48 : decode cX4_fitsPart 48 = .ok (.iload 6, 2) := by decide +kernel
theorem dX4_fitsPart_50 : decode cX4_fitsPart 50 = .ok (.iadd, 1) := by decide +kernel
theorem dX4_fitsPart_51 : decode cX4_fitsPart 51 = .ok (.iaload, 1) := by decide +kernel
theorem dX4_fitsPart_52 : decode cX4_fitsPart 52 = .ok (.istore 7, 2) := by decide +kernel
theorem dX4_fitsPart_54 : decode cX4_fitsPart 54 = .ok (.iload 7, 2) := by decide +kernel
theorem dX4_fitsPart_56 : decode cX4_fitsPart 56 = .ok (.bipush 63, 2) := by decide +kernel
theorem dX4_fitsPart_58 : decode cX4_fitsPart 58 = .ok (.if_icmp .eq 22, 3) := by decide +kernel
theorem dX4_fitsPart_61 : decode cX4_fitsPart 61 = .ok (.iload 7, 2) := by decide +kernel
theorem dX4_fitsPart_63 : decode cX4_fitsPart 63 = .ok (.aload_n 0, 1) := by decide +kernel
theorem dX4_fitsPart_64 : decode cX4_fitsPart 64 = .ok (.getfield 9, 3) := by decide +kernel
theorem dX4_fitsPart_67 : decode cX4_fitsPart 67 = .ok (.iload_n 1, 1) := by decide +kernel
theorem dX4_fitsPart_68 : decode cX4_fitsPart 68 = .ok (.bipush 8, 2) := by decide +kernel
theorem dX4_fitsPart_70 : decode cX4_fitsPart 70 = .ok (.imul, 1) := by decide +kernel
theorem dX4_fitsPart_71 : decode cX4_fitsPart 71 = .ok (.iload 6, 2) := by decide +kernel
theorem dX4_fitsPart_73 : decode cX4_fitsPart 73 = .ok (.iadd, 1) := by decide +kernel
theorem dX4_fitsPart_74 : decode cX4_fitsPart 74 = .ok (.iaload, 1) := by decide +kernel
theorem dX4_fitsPart_75 : decode cX4_fitsPart 75 = .ok (.if_icmp .eq 5, 3) := by decide +kernel
theorem dX4_fitsPart_78 : decode cX4_fitsPart 78 = .ok (.iconst 0, 1) := by decide +kernel
theorem dX4_fitsPart_79 : decode cX4_fitsPart 79 = .ok (.ireturn, 1) := by decide +kernel
theorem dX4_fitsPart_80 : decode cX4_fitsPart 80 = .ok (.iinc 6 1, 3) := by decide +kernel
theorem dX4_fitsPart_83 : decode cX4_fitsPart 83 = .ok (.goto (-48), 3) := by decide +kernel
theorem dX4_fitsPart_86 : decode cX4_fitsPart 86 = .ok (.iconst 1, 1) := by decide +kernel
theorem dX4_fitsPart_87 : decode cX4_fitsPart 87 = .ok (.ireturn, 1) := by decide +kernel
set_option maxRecDepth 20000 in
theorem ggX4_putSums_X0_sumOf : GoodIn wsX4_putSums wsX0_sumOf := goodIn_r _ [8, 9, 10, 11, 7, 12, 13, 14, 15, 16, 17, 18, 19, 26] (by decide +kernel) (by decide +kernel)
set_option maxRecDepth 20000 in
theorem gX4_putSums_X0_sumOf : GoodIn wsX4_putSums (wsV RX4 57 RX0 yX0_sumOf wsX0_sumOf) := goodIn_app (goodIn_of _ (by decide +kernel)) ggX4_putSums_X0_sumOf
theorem dX4_putSums_0 : decode cX4_putSums 0 = .ok (.iconst 0, 1) := by decide +kernel
theorem dX4_putSums_1 : decode cX4_putSums 1 = .ok (.istore 5, 2) := by decide +kernel
theorem dX4_putSums_3 : decode cX4_putSums 3 = .ok (.iload 5, 2) := by decide +kernel
theorem dX4_putSums_5 : decode cX4_putSums 5 = .ok (.aload_n 0, 1) := by decide +kernel
theorem dX4_putSums_6 : decode cX4_putSums 6 = .ok (.getfield 38, 3) := by decide +kernel
theorem dX4_putSums_9 : decode cX4_putSums 9 = .ok (.if_icmp .ge 43, 3) := by decide +kernel
theorem dX4_putSums_12 : decode cX4_putSums 12 = .ok (.iload 5, 2) := by decide +kernel
theorem dX4_putSums_14 : decode cX4_putSums 14 = .ok (.bipush 8, 2) := by decide +kernel
theorem dX4_putSums_16 : decode cX4_putSums 16 = .ok (.imul, 1) := by decide +kernel
theorem dX4_putSums_17 : decode cX4_putSums 17 = .ok (.istore 6, 2) := by decide +kernel
theorem dX4_putSums_19 : decode cX4_putSums 19 = .ok (.aload_n 1, 1) := by decide +kernel
theorem dX4_putSums_20 : decode cX4_putSums 20 = .ok (.iload 5, 2) := by decide +kernel
theorem dX4_putSums_22 : decode cX4_putSums 22 = .ok (.aload_n 2, 1) := by decide +kernel
theorem dX4_putSums_23 : decode cX4_putSums 23 = .ok (.iload_n 3, 1) := by decide +kernel
theorem dX4_putSums_24 : decode cX4_putSums 24 = .ok (.iload 4, 2) := by decide +kernel
theorem dX4_putSums_26 : decode cX4_putSums 26 = .ok (.aload_n 0, 1) := by decide +kernel
theorem dX4_putSums_27 : decode cX4_putSums 27 = .ok (.getfield 9, 3) := by decide +kernel
theorem dX4_putSums_30 : decode cX4_putSums 30 = .ok (.iload 6, 2) := by decide +kernel
theorem dX4_putSums_32 : decode cX4_putSums 32 = .ok (.iload 6, 2) := by decide +kernel
theorem dX4_putSums_34 : decode cX4_putSums 34 = .ok (.aload_n 0, 1) := by decide +kernel
theorem dX4_putSums_35 : decode cX4_putSums 35 = .ok (.getfield 15, 3) := by decide +kernel
theorem dX4_putSums_38 : decode cX4_putSums 38 = .ok (.iload 5, 2) := by decide +kernel
theorem dX4_putSums_40 : decode cX4_putSums 40 = .ok (.iaload, 1) := by decide +kernel
theorem dX4_putSums_41 : decode cX4_putSums 41 = .ok (.iadd, 1) := by decide +kernel
theorem dX4_putSums_42 : decode cX4_putSums 42 = .ok (.invokevirtual 57, 3) := by decide +kernel
theorem dX4_putSums_45 : decode cX4_putSums 45 = .ok (.iastore, 1) := by decide +kernel
theorem dX4_putSums_46 : decode cX4_putSums 46 = .ok (.iinc 5 1, 3) := by decide +kernel
theorem dX4_putSums_49 : decode cX4_putSums 49 = .ok (.goto (-46), 3) := by decide +kernel
theorem dX4_putSums_52 : decode cX4_putSums 52 = .ok (.return_, 1) := by decide +kernel
