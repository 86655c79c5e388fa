theorem dX0_init_0 : decode cX0_init 0 = .ok (.aload_n 0, 1) := by decide +kernel
theorem dX0_init_1 : decode cX0_init 1 = .ok (.invokespecial 3, 3) := by decide +kernel
theorem dX0_init_4 : decode cX0_init 4 = .ok (.aload_n 0, 1) := by decide +kernel
theorem dX0_init_5 : decode cX0_init 5 = .ok (.bipush 104, 2) := by decide +kernel
theorem dX0_init_7 : decode cX0_init 7 = .ok (.newarray .int, 2) := by decide +kernel
theorem dX0_init_9 : decode cX0_init 9 = .ok (.putfield 9, 3) := by decide +kernel
theorem dX0_init_12 : decode cX0_init 12 = .ok (.iconst 0, 1) := by decide +kernel
theorem dX0_init_13 : decode cX0_init 13 = .ok (.istore_n 1, 1) := by decide +kernel
theorem dX0_init_14 : decode cX0_init 14 = .ok (.iload_n 1, 1) := by decide +kernel
theorem dX0_init_15 : decode cX0_init 15 = .ok (.iconst 4, 1) := by decide +kernel
theorem dX0_init_16 : decode cX0_init 16 = .ok (.if_icmp .ge 26, 3) := by decide +kernel
theorem dX0_init_19 : decode cX0_init 19 = .ok (.getstatic 15, 3) := by decide +kernel
theorem dX0_init_22 : decode cX0_init 22 = .ok (.iconst 0, 1) := by decide +kernel
theorem dX0_init_23 : decode cX0_init 23 = .ok (.aload_n 0, 1) := by decide +kernel
theorem dX0_init_24 : decode cX0_init 24 = .ok (.getfield 9, 3) := by decide +kernel
theorem dX0_init_27 : decode cX0_init 27 = .ok (.iload_n 1, 1) := by decide +kernel
theorem dX0_init_28 : decode cX0_init 28 = .ok (.bipush 26, 2) := by decide +kernel
theorem dX0_init_30 : decode cX0_init 30 = .ok (.imul, 1) := by decide +kernel
theorem dX0_init_31 : decode cX0_init 31 = .ok (.bipush 26, 2) := by decide +kernel
theorem dX0_init_33 : decode cX0_init 33 = .ok (.invokestatic 18, 3) := by decide +kernel
theorem dX0_init_36 : decode cX0_init 36 = .ok (.iinc 1 1, 3) := by decide +kernel
theorem dX0_init_39 : decode cX0_init 39 = .ok (.goto (-25), 3) := by decide +kernel
theorem dX0_init_42 : decode cX0_init 42 = .ok (.return_, 1) := by decide +kernel
theorem dX0_replace_0 : decode cX0_replace 0 = .ok (.iload_n 1, 1) := by decide +kernel
theorem dX0_replace_1 : decode cX0_replace 1 = .ok (.bipush 26, 2) := by decide +kernel
theorem dX0_replace_3 : decode cX0_replace 3 = .ok (.imul, 1) := by decide +kernel
theorem dX0_replace_4 : decode cX0_replace 4 = .ok (.iload_n 2, 1) := by decide +kernel
theorem dX0_replace_5 : decode cX0_replace 5 = .ok (.iadd, 1) := by decide +kernel
theorem dX0_replace_6 : decode cX0_replace 6 = .ok (.bipush 97, 2) := by decide +kernel
theorem dX0_replace_8 : decode cX0_replace 8 = .ok (.isub, 1) := by decide +kernel
theorem dX0_replace_9 : decode cX0_replace 9 = .ok (.istore 4, 2) := by decide +kernel
theorem dX0_replace_11 : decode cX0_replace 11 = .ok (.aload_n 0, 1) := by decide +kernel
theorem dX0_replace_12 : decode cX0_replace 12 = .ok (.getfield 9, 3) := by decide +kernel
theorem dX0_replace_15 : decode cX0_replace 15 = .ok (.iload 4, 2) := by decide +kernel
theorem dX0_replace_17 : decode cX0_replace 17 = .ok (.iaload, 1) := by decide +kernel
theorem dX0_replace_18 : decode cX0_replace 18 = .ok (.istore 5, 2) := by decide +kernel
theorem dX0_replace_20 : decode cX0_replace 20 = .ok (.aload_n 0, 1) := by decide +kernel
theorem dX0_replace_21 : decode cX0_replace 21 = .ok (.getfield 9, 3) := by decide +kernel
theorem dX0_replace_24 : decode cX0_replace 24 = .ok (.iload 4, 2) := by decide +kernel
theorem dX0_replace_26 : decode cX0_replace 26 = .ok (.iload_n 3, 1) := by decide +kernel
theorem dX0_replace_27 : decode cX0_replace 27 = .ok (.iastore, 1) := by decide +kernel
theorem dX0_replace_28 : decode cX0_replace 28 = .ok (.iload 5, 2) := by decide +kernel
theorem dX0_replace_30 : decode cX0_replace 30 = .ok (.ireturn, 1) := by decide +kernel
set_option maxRecDepth 20000 in
theorem ggX0_worthOf_X5_isLetter : GoodIn wsX0_worthOf wsX5_isLetter := goodIn_r _ [4, 5, 6, 3, 7] (by decide +kernel) (by decide +kernel)
set_option maxRecDepth 20000 in
theorem gX0_worthOf_X5_isLetter_n24 : GoodIn wsX0_worthOf (wsX5_isLetter) := ggX0_worthOf_X5_isLetter
set_option maxRecDepth 20000 in
theorem ggX0_worthOf_X5_isCapital : GoodIn wsX0_worthOf wsX5_isCapital := goodIn_r _ [7] (by decide +kernel) (by decide +kernel)
set_option maxRecDepth 20000 in
theorem gX0_worthOf_X5_isCapital_n28 : GoodIn wsX0_worthOf (wsX5_isCapital) := ggX0_worthOf_X5_isCapital
theorem dX0_worthOf_0 : decode cX0_worthOf 0 = .ok (.iload_n 3, 1) := by decide +kernel
theorem dX0_worthOf_1 : decode cX0_worthOf 1 = .ok (.invokestatic 24, 3) := by decide +kernel
theorem dX0_worthOf_4 : decode cX0_worthOf 4 = .ok (.ifCond .ne 5, 3) := by decide +kernel
theorem dX0_worthOf_7 : decode cX0_worthOf 7 = .ok (.iconst 0, 1) := by decide +kernel
theorem dX0_worthOf_8 : decode cX0_worthOf 8 = .ok (.ireturn, 1) := by decide +kernel
theorem dX0_worthOf_9 : decode cX0_worthOf 9 = .ok (.iload_n 1, 1) := by decide +kernel
theorem dX0_worthOf_10 : decode cX0_worthOf 10 = .ok (.iconst 1, 1) := by decide +kernel
theorem dX0_worthOf_11 : decode cX0_worthOf 11 = .ok (.if_icmp .lt 12, 3) := by decide +kernel
theorem dX0_worthOf_14 : decode cX0_worthOf 14 = .ok (.iload_n 3, 1) := by decide +kernel
theorem dX0_worthOf_15 : decode cX0_worthOf 15 = .ok (.invokestatic 28, 3) := by decide +kernel
theorem dX0_worthOf_18 : decode cX0_worthOf 18 = .ok (.ifCond .ne 5, 3) := by decide +kernel
theorem dX0_worthOf_21 : decode cX0_worthOf 21 = .ok (.iconst 0, 1) := by decide +kernel
theorem dX0_worthOf_22 : decode cX0_worthOf 22 = .ok (.ireturn, 1) := by decide +kernel
theorem dX0_worthOf_23 : decode cX0_worthOf 23 = .ok (.iload_n 1, 1) := by decide +kernel
theorem dX0_worthOf_24 : decode cX0_worthOf 24 = .ok (.iconst 2, 1) := by decide +kernel
theorem dX0_worthOf_25 : decode cX0_worthOf 25 = .ok (.if_icmp .lt 11, 3) := by decide +kernel
theorem dX0_worthOf_28 : decode cX0_worthOf 28 = .ok (.iload_n 3, 1) := by decide +kernel
theorem dX0_worthOf_29 : decode cX0_worthOf 29 = .ok (.iload 4, 2) := by decide +kernel
theorem dX0_worthOf_31 : decode cX0_worthOf 31 = .ok (.if_icmp .ne 5, 3) := by decide +kernel
theorem dX0_worthOf_34 : decode cX0_worthOf 34 = .ok (.iconst 0, 1) := by decide +kernel
theorem dX0_worthOf_35 : decode cX0_worthOf 35 = .ok (.ireturn, 1) := by decide +kernel
theorem dX0_worthOf_36 : decode cX0_worthOf 36 = .ok (.aload_n 0, 1) := by decide +kernel
theorem dX0_worthOf_37 : decode cX0_worthOf 37 = .ok (.getfield 9, 3) := by decide +kernel
theorem dX0_worthOf_40 : decode cX0_worthOf 40 = .ok (.iload_n 2, 1) := by decide +kernel
theorem dX0_worthOf_41 : decode cX0_worthOf 41 = .ok (.bipush 26, 2) := by decide +kernel
theorem dX0_worthOf_43 : decode cX0_worthOf 43 = .ok (.imul, 1) := by decide +kernel
theorem dX0_worthOf_44 : decode cX0_worthOf 44 = .ok (.iload_n 3, 1) := by decide +kernel
theorem dX0_worthOf_45 : decode cX0_worthOf 45 = .ok (.iadd, 1) := by decide +kernel
theorem dX0_worthOf_46 : decode cX0_worthOf 46 = .ok (.iload_n 3, 1) := by decide +kernel
theorem dX0_worthOf_47 : decode cX0_worthOf 47 = .ok (.invokestatic 28, 3) := by decide +kernel
theorem dX0_worthOf_50 : decode cX0_worthOf 50 = .ok (.ifCond .eq 8, 3) := by decide +kernel
theorem dX0_worthOf_53 : decode cX0_worthOf 53 = .ok (.bipush 65, 2) := by decide +kernel
theorem dX0_worthOf_55 : decode cX0_worthOf 55 = .ok (.goto 5, 3) := by decide +kernel
theorem dX0_worthOf_58 : decode cX0_worthOf 58 = .ok (.bipush 97, 2) := by decide +kernel
theorem dX0_worthOf_60 : decode cX0_worthOf 60 = .ok (.isub, 1) := by decide +kernel
theorem dX0_worthOf_61 : decode cX0_worthOf 61 = .ok (.iaload, 1) := by decide +kernel
theorem dX0_worthOf_62 : decode cX0_worthOf 62 = .ok (.ireturn, 1) := by decide +kernel
set_option maxRecDepth 20000 in
theorem ggX0_sumOf_X0_worthOf : GoodIn wsX0_sumOf wsX0_worthOf := goodIn_r _ [5, 6, 7, 8, 9, 10, 11, 12, 13] (by decide +kernel) (by decide +kernel)
set_option maxRecDepth 20000 in
theorem gX0_sumOf_X0_worthOf : GoodIn wsX0_sumOf (wsV RX0 31 RX0 yX0_worthOf wsX0_worthOf) := goodIn_app (goodIn_of _ (by decide +kernel)) ggX0_sumOf_X0_worthOf
theorem dX0_sumOf_0 : decode cX0_sumOf 0 = .ok (.iconst 0, 1) := by decide +kernel
theorem dX0_sumOf_1 : decode cX0_sumOf 1 = .ok (.istore 6, 2) := by decide +kernel
theorem dX0_sumOf_3 : decode cX0_sumOf 3 = .ok (.bipush 32, 2) := by decide +kernel
theorem dX0_sumOf_5 : decode cX0_sumOf 5 = .ok (.istore 7, 2) := by decide +kernel
theorem dX0_sumOf_7 : decode cX0_sumOf 7 = .ok (.iload 4, 2) := by decide +kernel
theorem dX0_sumOf_9 : decode cX0_sumOf 9 = .ok (.istore 8, 2) := by decide +kernel
theorem dX0_sumOf_11 : decode cX0_sumOf 11 = .ok (.iload 8, 2) := by decide +kernel
theorem dX0_sumOf_13 : decode cX0_sumOf 13 = .ok (.iload 5, 2) := by decide +kernel
theorem dX0_sumOf_15 : decode cX0_sumOf 15 = .ok (.if_icmp .ge 32, 3) := by decide +kernel
theorem dX0_sumOf_18 : decode cX0_sumOf 18 = .ok (.iload 6, 2) := by decide +kernel
theorem dX0_sumOf_20 : decode cX0_sumOf 20 = .ok (.aload_n 0, 1) := by decide +kernel
theorem dX0_sumOf_21 : decode cX0_sumOf 21 = .ok (.iload_n 1, 1) := by decide +kernel
theorem dX0_sumOf_22 : decode cX0_sumOf 22 = .ok (.iload_n 2, 1) := by decide +kernel
theorem dX0_sumOf_23 : decode cX0_sumOf 23 = .ok (.aload_n 3, 1) := by decide +kernel
theorem dX0_sumOf_24 : decode cX0_sumOf 24 = .ok (.iload 8, 2) := by decide +kernel
theorem dX0_sumOf_26 : decode cX0_sumOf 26 = .ok (.iaload, 1) := by decide +kernel
theorem dX0_sumOf_27 : decode cX0_sumOf 27 = .ok (.iload 7, 2) := by decide +kernel
theorem dX0_sumOf_29 : decode cX0_sumOf 29 = .ok (.invokevirtual 31, 3) := by decide +kernel
theorem dX0_sumOf_32 : decode cX0_sumOf 32 = .ok (.iadd, 1) := by decide +kernel
theorem dX0_sumOf_33 : decode cX0_sumOf 33 = .ok (.istore 6, 2) := by decide +kernel
theorem dX0_sumOf_35 : decode cX0_sumOf 35 = .ok (.aload_n 3, 1) := by decide +kernel
theorem dX0_sumOf_36 : decode cX0_sumOf 36 = .ok (.iload 8, 2) := by decide +kernel
theorem dX0_sumOf_38 : decode cX0_sumOf 38 = .ok (.iaload, 1) := by decide +kernel
theorem dX0_sumOf_39 : decode cX0_sumOf 39 = .ok (.istore 7, 2) := by decide +kernel
theorem dX0_sumOf_41 : decode cX0_sumOf 41 = .ok (.iinc 8 1, 3) := by decide +kernel
theorem dX0_sumOf_44 : decode cX0_sumOf 44 = .ok (.goto (-33), 3) := by decide +kernel
theorem dX0_sumOf_47 : decode cX0_sumOf 47 = .ok (.iload 6, 2) := by decide +kernel
theorem dX0_sumOf_49 : decode cX0_sumOf 49 = .ok (.ireturn, 1) := by decide +kernel
theorem dX1_init_0 : decode cX1_init 0 = .ok (.aload_n 0, 1) := by decide +kernel
theorem dX1_init_1 : decode cX1_init 1 = .ok (.invokespecial 3, 3) := by decide +kernel
theorem dX1_init_4 : decode cX1_init 4 = .ok (.aload_n 0, 1) := by decide +kernel
theorem dX1_init_5 : decode cX1_init 5 = .ok (.bipush 40, 2) := by decide +kernel
theorem dX1_init_7 : decode cX1_init 7 = .ok (.newarray .int, 2) := by decide +kernel
theorem dX1_init_9 : decode cX1_init 9 = .ok (.putfield 9, 3) := by decide +kernel
theorem dX1_init_12 : decode cX1_init 12 = .ok (.aload_n 0, 1) := by decide +kernel
theorem dX1_init_13 : decode cX1_init 13 = .ok (.bipush 20, 2) := by decide +kernel
theorem dX1_init_15 : decode cX1_init 15 = .ok (.newarray .int, 2) := by decide +kernel
theorem dX1_init_17 : decode cX1_init 17 = .ok (.putfield 15, 3) := by decide +kernel
theorem dX1_init_20 : decode cX1_init 20 = .ok (.aload_n 0, 1) := by decide +kernel
theorem dX1_init_21 : decode cX1_init 21 = .ok (.bipush 20, 2) := by decide +kernel
theorem dX1_init_23 : decode cX1_init 23 = .ok (.newarray .int, 2) := by decide +kernel
theorem dX1_init_25 : decode cX1_init 25 = .ok (.putfield 18, 3) := by decide +kernel
theorem dX1_init_28 : decode cX1_init 28 = .ok (.return_, 1) := by decide +kernel
set_option maxRecDepth 20000 in
theorem ggX1_append_X5_byteOf : GoodIn wsX1_append wsX5_byteOf := goodIn_r _ [5] (by decide +kernel) (by decide +kernel)
set_option maxRecDepth 20000 in
theorem gX1_append_X5_byteOf_n25 : GoodIn wsX1_append (wsX5_byteOf) := ggX1_append_X5_byteOf
set_option maxRecDepth 20000 in
theorem ggX1_append_X1_findParts : GoodIn wsX1_append wsX1_findParts := goodIn_r _ [10, 11, 2, 1, 12, 13, 14, 15, 16, 17, 18] (by decide +kernel) (by decide +kernel)
set_option maxRecDepth 20000 in
theorem gX1_append_X1_findParts : GoodIn wsX1_append (wsV RX1 29 RX1 yX1_findParts wsX1_findParts) := goodIn_app (goodIn_of _ (by decide +kernel)) ggX1_append_X1_findParts
theorem dX1_append_0 : decode cX1_append 0 = .ok (.iload_n 3, 1) := by decide +kernel
theorem dX1_append_1 : decode cX1_append 1 = .ok (.iconst 1, 1) := by decide +kernel
theorem dX1_append_2 : decode cX1_append 2 = .ok (.isub, 1) := by decide +kernel
theorem dX1_append_3 : decode cX1_append 3 = .ok (.istore 4, 2) := by decide +kernel
theorem dX1_append_5 : decode cX1_append 5 = .ok (.iload 4, 2) := by decide +kernel
theorem dX1_append_7 : decode cX1_append 7 = .ok (.ifCond .lt 34, 3) := by decide +kernel
theorem dX1_append_10 : decode cX1_append 10 = .ok (.aload_n 0, 1) := by decide +kernel
theorem dX1_append_11 : decode cX1_append 11 = .ok (.getfield 9, 3) := by decide +kernel
theorem dX1_append_14 : decode cX1_append 14 = .ok (.aload_n 0, 1) := by decide +kernel
theorem dX1_append_15 : decode cX1_append 15 = .ok (.getfield 21, 3) := by decide +kernel
theorem dX1_append_18 : decode cX1_append 18 = .ok (.lload_n 1, 1) := by decide +kernel
theorem dX1_append_19 : decode cX1_append 19 = .ok (.iload 4, 2) := by decide +kernel
theorem dX1_append_21 : decode cX1_append 21 = .ok (.invokestatic 25, 3) := by decide +kernel
theorem dX1_append_24 : decode cX1_append 24 = .ok (.iastore, 1) := by decide +kernel
theorem dX1_append_25 : decode cX1_append 25 = .ok (.aload_n 0, 1) := by decide +kernel
theorem dX1_append_26 : decode cX1_append 26 = .ok (.dup, 1) := by decide +kernel
theorem dX1_append_27 : decode cX1_append 27 = .ok (.getfield 21, 3) := by decide +kernel
theorem dX1_append_30 : decode cX1_append 30 = .ok (.iconst 1, 1) := by decide +kernel
theorem dX1_append_31 : decode cX1_append 31 = .ok (.iadd, 1) := by decide +kernel
theorem dX1_append_32 : decode cX1_append 32 = .ok (.putfield 21, 3) := by decide +kernel
theorem dX1_append_35 : decode cX1_append 35 = .ok (.iinc 4 (-1), 3) := by decide +kernel
theorem dX1_append_38 : decode cX1_append 38 = .ok (.goto (-33), 3) := by decide +kernel
theorem dX1_append_41 : decode cX1_append 41 = .ok (.aload_n 0, 1) := by decide +kernel
theorem dX1_append_42 : decode cX1_append 42 = .ok (.invokevirtual 29, 3) := by decide +kernel
theorem dX1_append_45 : decode cX1_append 45 = .ok (.return_, 1) := by decide +kernel
theorem dX1_wipe_0 : decode cX1_wipe 0 = .ok (.aload_n 0, 1) := by decide +kernel
theorem dX1_wipe_1 : decode cX1_wipe 1 = .ok (.iconst 0, 1) := by decide +kernel
theorem dX1_wipe_2 : decode cX1_wipe 2 = .ok (.putfield 21, 3) := by decide +kernel
theorem dX1_wipe_5 : decode cX1_wipe 5 = .ok (.aload_n 0, 1) := by decide +kernel
theorem dX1_wipe_6 : decode cX1_wipe 6 = .ok (.iconst 0, 1) := by decide +kernel
theorem dX1_wipe_7 : decode cX1_wipe 7 = .ok (.putfield 32, 3) := by decide +kernel
theorem dX1_wipe_10 : decode cX1_wipe 10 = .ok (.return_, 1) := by decide +kernel
set_option maxRecDepth 20000 in
theorem ggX1_isWord_X5_isLetter : GoodIn wsX1_isWord wsX5_isLetter := goodIn_r _ [5, 6, 7, 4, 8] (by decide +kernel) (by decide +kernel)
set_option maxRecDepth 20000 in
theorem gX1_isWord_X5_isLetter_n35 : GoodIn wsX1_isWord (wsX5_isLetter) := ggX1_isWord_X5_isLetter
theorem dX1_isWord_0 : decode cX1_isWord 0 = .ok (.aload_n 0, 1) := by decide +kernel
theorem dX1_isWord_1 : decode cX1_isWord 1 = .ok (.getfield 21, 3) := by decide +kernel
theorem dX1_isWord_4 : decode cX1_isWord 4 = .ok (.iconst 1, 1) := by decide +kernel
theorem dX1_isWord_5 : decode cX1_isWord 5 = .ok (.if_icmp .lt 12, 3) := by decide +kernel
theorem dX1_isWord_8 : decode cX1_isWord 8 = .ok (.aload_n 0, 1) := by decide +kernel
theorem dX1_isWord_9 : decode cX1_isWord 9 = .ok (.getfield 21, 3) := by decide +kernel
theorem dX1_isWord_12 : decode cX1_isWord 12 = .ok (.bipush 8, 2) := by decide +kernel
theorem dX1_isWord_14 : decode cX1_isWord 14 = .ok (.if_icmp .le 5, 3) := by decide +kernel
theorem dX1_isWord_17 : decode cX1_isWord 17 = .ok (.iconst 0, 1) := by decide +kernel
theorem dX1_isWord_18 : decode cX1_isWord 18 = .ok (.ireturn, 1) := by decide +kernel
theorem dX1_isWord_19 : decode cX1_isWord 19 = .ok (.iconst 0, 1) := by decide +kernel
theorem dX1_isWord_20 : decode cX1_isWord 20 = .ok (.istore_n 1, 1) := by decide +kernel
theorem dX1_isWord_21 : decode cX1_isWord 21 = .ok (.iload_n 1, 1) := by decide +kernel
theorem dX1_isWord_22 : decode cX1_isWord 22 = .ok (.aload_n 0, 1) := by decide +kernel
theorem dX1_isWord_23 : decode cX1_isWord 23 = .ok (.getfield 21, 3) := by decide +kernel
theorem dX1_isWord_26 : decode cX1_isWord 26 = .ok (.if_icmp .ge 23, 3) := by decide +kernel
theorem dX1_isWord_29 : decode cX1_isWord 29 = .ok (.aload_n 0, 1) := by decide +kernel
theorem dX1_isWord_30 : decode cX1_isWord 30 = .ok (.getfield 9, 3) := by decide +kernel
theorem dX1_isWord_33 : decode cX1_isWord 33 = .ok (.iload_n 1, 1) := by decide +kernel
theorem dX1_isWord_34 : decode cX1_isWord 34 = .ok (.iaload, 1) := by decide +kernel
theorem dX1_isWord_35 : decode cX1_isWord 35 = .ok (.invokestatic 35, 3) := by decide +kernel
theorem dX1_isWord_38 : decode cX1_isWord 38 = .ok (.ifCond .ne 5, 3) := by decide +kernel
theorem dX1_isWord_41 : decode cX1_isWord 41 = .ok (.iconst 0, 1) := by decide +kernel
theorem dX1_isWord_42 : decode cX1_isWord 42 = .ok (.ireturn, 1) := by decide +kernel
theorem dX1_isWord_43 : decode cX1_isWord 43 = .ok (.iinc 1 1, 3) := by decide +kernel
theorem dX1_isWord_46 : decode cX1_isWord 46 = .ok (.goto (-25), 3) := by decide +kernel
theorem dX1_isWord_49 : decode cX1_isWord 49 = .ok (.iconst 1, 1) := by decide +kernel
theorem dX1_isWord_50 : decode cX1_isWord 50 = .ok (.ireturn, 1) := by decide +kernel
theorem dX1_broken_0 : decode cX1_broken 0 = .ok (.iconst 0, 1) := by decide +kernel
theorem dX1_broken_1 : decode cX1_broken 1 = .ok (.istore_n 1, 1) := by decide +kernel
theorem dX1_broken_2 : decode cX1_broken 2 = .ok (.iconst 0, 1) := by decide +kernel
theorem dX1_broken_3 : decode cX1_broken 3 = .ok (.istore_n 2, 1) := by decide +kernel
theorem dX1_broken_4 : decode cX1_broken 4 = .ok (.iload_n 2, 1) := by decide +kernel
theorem dX1_broken_5 : decode cX1_broken 5 = .ok (.aload_n 0, 1) := by decide +kernel
theorem dX1_broken_6 : decode cX1_broken 6 = .ok (.getfield 21, 3) := by decide +kernel
theorem dX1_broken_9 : decode cX1_broken 9 = .ok (.if_icmp .ge 23, 3) := by decide +kernel
theorem dX1_broken_12 : decode cX1_broken 12 = .ok (.aload_n 0, 1) := by decide +kernel
theorem dX1_broken_13 : decode cX1_broken 13 = .ok (.getfield 9, 3) := by decide +kernel
theorem dX1_broken_16 : decode cX1_broken 16 = .ok (.iload_n 2, 1) := by decide +kernel
theorem dX1_broken_17 : decode cX1_broken 17 = .ok (.iaload, 1) := by decide +kernel
theorem dX1_broken_18 : decode cX1_broken 18 = .ok (.bipush 63, 2) := by decide +kernel
theorem dX1_broken_20 : decode cX1_broken 20 = .ok (.if_icmp .ne 6, 3) := by decide +kernel
theorem dX1_broken_23 : decode cX1_broken 23 = .ok (.iinc 1 1, 3) := by decide +kernel
theorem dX1_broken_26 : decode cX1_broken 26 = .ok (.iinc 2 1, 3) := by decide +kernel
theorem dX1_broken_29 : decode cX1_broken 29 = .ok (.goto (-25), 3) := by decide +kernel
theorem dX1_broken_32 : decode cX1_broken 32 = .ok (.iload_n 1, 1) := by decide +kernel
theorem dX1_broken_33 : decode cX1_broken 33 = .ok (.ireturn, 1) := by decide +kernel
theorem dX1_findParts_0 : decode cX1_findParts 0 = .ok (.aload_n 0, 1) := by decide +kernel
theorem dX1_findParts_1 : decode cX1_findParts 1 = .ok (.iconst 0, 1) := by decide +kernel
theorem dX1_findParts_2 : decode cX1_findParts 2 = .ok (.putfield 32, 3) := by decide +kernel
theorem dX1_findParts_5 : decode cX1_findParts 5 = .ok (.bipush 32, 2) := by decide +kernel
theorem dX1_findParts_7 : decode cX1_findParts 7 = .ok (.istore_n 1, 1) := by decide +kernel
theorem dX1_findParts_8 : decode cX1_findParts 8 = .ok (.iconst 0, 1) := by decide +kernel
theorem dX1_findParts_9 : decode cX1_findParts 9 = .ok (.istore_n 2, 1) := by decide +kernel
theorem dX1_findParts_10 : decode cX1_findParts 10 = .ok (.iload_n 2, 1) := by decide +kernel
theorem dX1_findParts_11 : decode cX1_findParts 11 = .ok (.aload_n 0, 1) := by decide +kernel
theorem dX1_findParts_12 : decode cX1_findParts 12 = .ok (.getfield 21, 3) := by decide +kernel
theorem dX1_findParts_15 : decode cX1_findParts 15 = .ok (.if_icmp .ge 94, 3) := by decide +kernel
theorem dX1_findParts_18 : decode cX1_findParts 18 = .ok (.aload_n 0, 1) := by decide +kernel
theorem dX1_findParts_19 : decode cX1_findParts 19 = .ok (.getfield 9, 3) := by decide +kernel
theorem dX1_findParts_22 : decode cX1_findParts 22 = .ok (.iload_n 2, 1) := by decide +kernel
theorem dX1_findParts_23 : decode cX1_findParts 23 = .ok (.iaload, 1) := by decide +kernel
theorem dX1_findParts_24 : decode cX1_findParts 24 = .ok (.bipush 32, 2) := by decide +kernel
theorem dX1_findParts_26 : decode cX1_findParts 26 = .ok (.if_icmp .eq 38, 3) := by decide +kernel
theorem dX1_findParts_29 : decode cX1_findParts 29 = .ok (.iload_n 1, 1) := by decide +kernel
theorem dX1_findParts_30 : decode cX1_findParts 30 = .ok (.bipush 32, 2) := by decide +kernel
theorem dX1_findParts_32 : decode cX1_findParts 32 = .ok (.if_icmp .ne 32, 3) := by decide +kernel
theorem dX1_findParts_35 : decode cX1_findParts 35 = .ok (.aload_n 0, 1) := by decide +kernel
theorem dX1_findParts_36 : decode cX1_findParts 36 = .ok (.getfield 32, 3) := by decide +kernel
theorem dX1_findParts_39 : decode cX1_findParts 39 = .ok (.bipush 20, 2) := by decide +kernel
theorem dX1_findParts_41 : decode cX1_findParts 41 = .ok (.if_icmp .ge 23, 3) := by decide +kernel
theorem dX1_findParts_44 : decode cX1_findParts 44 = .ok (.aload_n 0, 1) := by decide +kernel
theorem dX1_findParts_45 : decode cX1_findParts 45 = .ok (.getfield 15, 3) := by decide +kernel
theorem dX1_findParts_48 : decode cX1_findParts 48 = .ok (.aload_n 0, 1) := by decide +kernel
theorem dX1_findParts_49 : decode cX1_findParts 49 = .ok (.getfield 32, 3) := by decide +kernel
theorem dX1_findParts_52 : decode cX1_findParts 52 = .ok (.iload_n 2, 1) := by decide +kernel
theorem dX1_findParts_53 : decode cX1_findParts 53 = .ok (.iastore, 1) := by decide +kernel
theorem dX1_findParts_54 : decode cX1_findParts 54 = .ok (.aload_n 0, 1) := by decide +kernel
theorem dX1_findParts_55 : decode cX1_findParts 55 = .ok (.dup, 1) := by decide +kernel
theorem dX1_findParts_56 : decode cX1_findParts 56 = .ok (.getfield 32, 3) := by decide +kernel
theorem dX1_findParts_59 : decode cX1_findParts 59 = .ok (.iconst 1, 1) := by decide +kernel
theorem dX1_findParts_60 : decode cX1_findParts 60 = .ok (.iadd, 1) := by decide +kernel
theorem dX1_findParts_61 : decode cX1_findParts 61 = .ok (.putfield 32, 3) := by decide +kernel
theorem dX1_findParts_64 : decode cX1_findParts 64 = .ok (.aload_n 0, 1) := by decide +kernel
theorem dX1_findParts_65 : decode cX1_findParts 65 = .ok (.getfield 9, 3) := by decide +kernel
theorem dX1_findParts_68 : decode cX1_findParts 68 = .ok (.iload_n 2, 1) := by decide +kernel
theorem dX1_findParts_69 : decode cX1_findParts 69 = .ok (.iaload, 1) := by decide +kernel
theorem dX1_findParts_70 : decode cX1_findParts 70 = .ok (.bipush 32, 2) := by decide +kernel
theorem dX1_findParts_72 : decode cX1_findParts 72 = .ok (.if_icmp .eq 24, 3) := by decide +kernel
theorem dX1_findParts_75 : decode cX1_findParts 75 = .ok (.aload_n 0, 1) := by decide +kernel
theorem dX1_findParts_76 : decode cX1_findParts 76 = .ok (.getfield 32, 3) := by decide +kernel
theorem dX1_findParts_79 : decode cX1_findParts 79 = .ok (.ifCond .le 17, 3) := by decide +kernel
theorem dX1_findParts_82 : decode cX1_findParts 82 = .ok (.aload_n 0, 1) := by decide +kernel
theorem dX1_findParts_83 : decode cX1_findParts 83 = .ok (.getfield 18, 3) := by decide +kernel
theorem dX1_findParts_86 : decode cX1_findParts 86 = .ok (.aload_n 0, 1) := by decide +kernel
theorem dX1_findParts_87 : decode cX1_findParts 87 = .ok (.getfield 32, 3) := by decide +kernel
theorem dX1_findParts_90 : decode cX1_findParts 90 = .ok (.iconst 1, 1) := by decide +kernel
theorem dX1_findParts_91 : decode cX1_findParts 91 = .ok (.isub, 1) := by decide +kernel
theorem dX1_findParts_92 : decode cX1_findParts 92 = .ok (.iload_n 2, 1) := by decide +kernel
theorem dX1_findParts_93 : decode cX1_findParts 93 = .ok (.iconst 1, 1) := by decide +kernel
theorem dX1_findParts_94 : decode cX1_findParts 94 = .ok (.iadd, 1) := by decide +kernel
theorem dX1_findParts_95 : decode cX1_findParts 95 = .ok (.iastore, 1) := by decide +kernel
theorem dX1_findParts_96 : decode cX1_findParts 96 = .ok (.aload_n 0, 1) := by decide +kernel
theorem dX1_findParts_97 : decode cX1_findParts 97 = .ok (.getfield 9, 3) := by decide +kernel
theorem dX1_findParts_100 : decode cX1_findParts 100 = .ok (.iload_n 2, 1) := by decide +kernel
theorem dX1_findParts_101 : decode cX1_findParts 101 = .ok (.iaload, 1) := by decide +kernel
theorem dX1_findParts_102 : decode cX1_findParts 102 = .ok (.istore_n 1, 1) := by decide +kernel
theorem dX1_findParts_103 : decode cX1_findParts 103 = .ok (.iinc 2 1, 3) := by decide +kernel
theorem dX1_findParts_106 : decode cX1_findParts 106 = .ok (.goto (-96), 3) := by decide +kernel
theorem dX1_findParts_109 : decode cX1_findParts 109 = .ok (.return_, 1) := by decide +kernel
theorem dX2_init_0 : decode cX2_init 0 = .ok (.aload_n 0, 1) := by decide +kernel
theorem dX2_init_1 : decode cX2_init 1 = .ok (.invokespecial 5, 3) := by decide +kernel
theorem dX2_init_4 : decode cX2_init 4 = .ok (.aload_n 0, 1) := by decide +kernel
theorem dX2_init_5 : decode cX2_init 5 = .ok (.bipush 10, 2) := by decide +kernel
theorem dX2_init_7 : decode cX2_init 7 = .ok (.newarray .int, 2) := by decide +kernel
theorem dX2_init_9 : decode cX2_init 9 = .ok (.putfield 11, 3) := by decide +kernel
theorem dX2_init_12 : decode cX2_init 12 = .ok (.aload_n 0, 1) := by decide +kernel
theorem dX2_init_13 : decode cX2_init 13 = .ok (.iconst 4, 1) := by decide +kernel
theorem dX2_init_14 : decode cX2_init 14 = .ok (.newarray .long, 2) := by decide +kernel
theorem dX2_init_16 : decode cX2_init 16 = .ok (.putfield 15, 3) := by decide +kernel
theorem dX2_init_19 : decode cX2_init 19 = .ok (.aload_n 0, 1) := by decide +kernel
theorem dX2_init_20 : decode cX2_init 20 = .ok (.iconst 4, 1) := by decide +kernel
theorem dX2_init_21 : decode cX2_init 21 = .ok (.newarray .long, 2) := by decide +kernel
theorem dX2_init_23 : decode cX2_init 23 = .ok (.putfield 19, 3) := by decide +kernel
theorem dX2_init_26 : decode cX2_init 26 = .ok (.aload_n 0, 1) := by decide +kernel
theorem dX2_init_27 : decode cX2_init 27 = .ok (.sipush 188, 3) := by decide +kernel
theorem dX2_init_30 : decode cX2_init 30 = .ok (.newarray .long, 2) := by decide +kernel
theorem dX2_init_32 : decode cX2_init 32 = .ok (.putfield 22, 3) := by decide +kernel
theorem dX2_init_35 : decode cX2_init 35 = .ok (.aload_n 0, 1) := by decide +kernel
theorem dX2_init_36 : decode cX2_init 36 = .ok (.sipush 188, 3) := by decide +kernel
theorem dX2_init_39 : decode cX2_init 39 = .ok (.newarray .long, 2) := by decide +kernel
theorem dX2_init_41 : decode cX2_init 41 = .ok (.putfield 25, 3) := by decide +kernel
theorem dX2_init_44 : decode cX2_init 44 = .ok (.aload_n 0, 1) := by decide +kernel
theorem dX2_init_45 : decode cX2_init 45 = .ok (.aload_n 1, 1) := by decide +kernel
theorem dX2_init_46 : decode cX2_init 46 = .ok (.putfield 28, 3) := by decide +kernel
theorem dX2_init_49 : decode cX2_init 49 = .ok (.aload_n 0, 1) := by decide +kernel
theorem dX2_init_50 : decode cX2_init 50 = .ok (.aload_n 2, 1) := by decide +kernel
theorem dX2_init_51 : decode cX2_init 51 = .ok (.putfield 32, 3) := by decide +kernel
theorem dX2_init_54 : decode cX2_init 54 = .ok (.aload_n 0, 1) := by decide +kernel
theorem dX2_init_55 : decode cX2_init 55 = .ok (.aload_n 3, 1) := by decide +kernel
theorem dX2_init_56 : decode cX2_init 56 = .ok (.putfield 36, 3) := by decide +kernel
theorem dX2_init_59 : decode cX2_init 59 = .ok (.return_, 1) := by decide +kernel
set_option maxRecDepth 20000 in
theorem ggX2_fittingPart_X4_fitsPart : GoodIn wsX2_fittingPart wsX4_fitsPart := goodIn_r _ [8, 9, 10, 11, 12, 13, 31, 32, 33, 34, 35, 25, 26, 27, 28, 29, 30] (by decide +kernel) (by decide +kernel)
set_option maxRecDepth 20000 in
theorem gX2_fittingPart_X4_fitsPart : GoodIn wsX2_fittingPart (wsV RX2 46 RX4 yX4_fitsPart wsX4_fitsPart) := goodIn_app (goodIn_of _ (by decide +kernel)) ggX2_fittingPart_X4_fitsPart
theorem dX2_fittingPart_0 : decode cX2_fittingPart 0 = .ok (.iconst 0, 1) := by decide +kernel
theorem dX2_fittingPart_1 : decode cX2_fittingPart 1 = .ok (.istore_n 2, 1) := by decide +kernel
theorem dX2_fittingPart_2 : decode cX2_fittingPart 2 = .ok (.iconst 0, 1) := by decide +kernel
theorem dX2_fittingPart_3 : decode cX2_fittingPart 3 = .ok (.istore_n 3, 1) := by decide +kernel
theorem dX2_fittingPart_4 : decode cX2_fittingPart 4 = .ok (.iload_n 3, 1) := by decide +kernel
theorem dX2_fittingPart_5 : decode cX2_fittingPart 5 = .ok (.aload_n 0, 1) := by decide +kernel
theorem dX2_fittingPart_6 : decode cX2_fittingPart 6 = .ok (.getfield 32, 3) := by decide +kernel
theorem dX2_fittingPart_9 : decode cX2_fittingPart 9 = .ok (.getfield 40, 3) := by decide +kernel
theorem dX2_fittingPart_12 : decode cX2_fittingPart 12 = .ok (.if_icmp .ge 28, 3) := by decide +kernel
theorem dX2_fittingPart_15 : decode cX2_fittingPart 15 = .ok (.aload_n 0, 1) := by decide +kernel
theorem dX2_fittingPart_16 : decode cX2_fittingPart 16 = .ok (.getfield 32, 3) := by decide +kernel
theorem dX2_fittingPart_19 : decode cX2_fittingPart 19 = .ok (.iload_n 3, 1) := by decide +kernel
theorem dX2_fittingPart_20 : decode cX2_fittingPart 20 = .ok (.aload_n 0, 1) := by decide +kernel
theorem dX2_fittingPart_21 : decode cX2_fittingPart 21 = .ok (.getfield 28, 3) := by decide +kernel
theorem dX2_fittingPart_24 : decode cX2_fittingPart 24 = .ok (.iload_n 1, 1) := by decide +kernel
theorem dX2_fittingPart_25 : decode cX2_fittingPart 25 = .ok (.invokevirtual 46, 3) := by decide +kernel
theorem dX2_fittingPart_28 : decode cX2_fittingPart 28 = .ok (.ifCond .eq 6, 3) := by decide +kernel
theorem dX2_fittingPart_31 : decode cX2_fittingPart 31 = .ok (.iinc 2 1, 3) := by decide +kernel
theorem dX2_fittingPart_34 : decode cX2_fittingPart 34 = .ok (.iinc 3 1, 3) := by decide +kernel
theorem dX2_fittingPart_37 : decode cX2_fittingPart 37 = .ok (.goto (-33), 3) := by decide +kernel
theorem dX2_fittingPart_40 : decode cX2_fittingPart 40 = .ok (.iload_n 2, 1) := by decide +kernel
theorem dX2_fittingPart_41 : decode cX2_fittingPart 41 = .ok (.ireturn, 1) := by decide +kernel
set_option maxRecDepth 20000 in
theorem ggX2_howManyReadings_J7_fill_d0a16 : GoodIn wsX2_howManyReadings wsJ7_fill_d0a16 := goodIn_r _ [12] (by decide +kernel) (by decide +kernel)
set_option maxRecDepth 20000 in
theorem gX2_howManyReadings_J7_fill_d0a16 : GoodIn wsX2_howManyReadings (va_wsS RX2 50 yJ7_fill_d0a16 wsJ7_fill_d0a16) := goodIn_app (goodIn_of _ (by decide +kernel)) ggX2_howManyReadings_J7_fill_d0a16
set_option maxRecDepth 20000 in
theorem ggX2_howManyReadings_X2_readPart : GoodIn wsX2_howManyReadings wsX2_readPart := goodIn_r _ [17, 18, 19, 20, 2, 21, 1, 4, 5, 6, 7, 8, 9, 10, 11, 12, 22, 23, 24, 25, 26, 27, 28, 29, 30, 31, 32, 33, 34, 16, 35, 36, 37, 38, 39, 40, 41, 42, 43, 44, 45, 46, 47, 48, 49, 50, 51, 52, 58, 59, 60, 61, 62, 63, 53, 54, 55, 56, 57] (by decide +kernel) (by decide +kernel)
set_option maxRecDepth 20000 in
theorem gX2_howManyReadings_X2_readPart : GoodIn wsX2_howManyReadings (wsV RX2 61 RX2 yX2_readPart wsX2_readPart) := goodIn_app (goodIn_of _ (by decide +kernel)) ggX2_howManyReadings_X2_readPart
theorem dX2_howManyReadings_0 : decode cX2_howManyReadings 0 = .ok (.aload_n 0, 1) := by decide +kernel
theorem dX2_howManyReadings_1 : decode cX2_howManyReadings 1 = .ok (.getfield 15, 3) := by decide +kernel
theorem dX2_howManyReadings_4 : decode cX2_howManyReadings 4 = .ok (.lconst 0, 1) := by decide +kernel
theorem dX2_howManyReadings_5 : decode cX2_howManyReadings 5 = .ok (.invokestatic 50, 3) := by decide +kernel
theorem dX2_howManyReadings_8 : decode cX2_howManyReadings 8 = .ok (.aload_n 0, 1) := by decide +kernel
theorem dX2_howManyReadings_9 : decode cX2_howManyReadings 9 = .ok (.getfield 15, 3) := by decide +kernel
theorem dX2_howManyReadings_12 : decode cX2_howManyReadings 12 = .ok (.iconst 3, 1) := by decide +kernel
theorem dX2_howManyReadings_13 : decode cX2_howManyReadings 13 = .ok (.lconst 1, 1) := by decide +kernel
theorem dX2_howManyReadings_14 : decode cX2_howManyReadings 14 = .ok (.lastore, 1) := by decide +kernel
theorem dX2_howManyReadings_15 : decode cX2_howManyReadings 15 = .ok (.iconst 0, 1) := by decide +kernel
theorem dX2_howManyReadings_16 : decode cX2_howManyReadings 16 = .ok (.istore_n 1, 1) := by decide +kernel
theorem dX2_howManyReadings_17 : decode cX2_howManyReadings 17 = .ok (.iload_n 1, 1) := by decide +kernel
theorem dX2_howManyReadings_18 : decode cX2_howManyReadings 18 = .ok (.aload_n 0, 1) := by decide +kernel
theorem dX2_howManyReadings_19 : decode cX2_howManyReadings 19 = .ok (.getfield 28, 3) := by decide +kernel
theorem dX2_howManyReadings_22 : decode cX2_howManyReadings 22 = .ok (.getfield 56, 3) := by decide +kernel
theorem dX2_howManyReadings_25 : decode cX2_howManyReadings 25 = .ok (.if_icmp .ge 14, 3) := by decide +kernel
theorem dX2_howManyReadings_28 : decode cX2_howManyReadings 28 = .ok (.aload_n 0, 1) := by decide +kernel
theorem dX2_howManyReadings_29 : decode cX2_howManyReadings 29 = .ok (.iload_n 1, 1) := by decide +kernel
theorem dX2_howManyReadings_30 : decode cX2_howManyReadings 30 = .ok (.invokevirtual 61, 3) := by decide +kernel
theorem dX2_howManyReadings_33 : decode cX2_howManyReadings 33 = .ok (.iinc 1 1, 3) := by decide +kernel
theorem dX2_howManyReadings_36 : decode cX2_howManyReadings 36 = .ok (.goto (-19), 3) := by decide +kernel
theorem dX2_howManyReadings_39 : decode cX2_howManyReadings 39 = .ok (.lconst 0, 1) := by decide +kernel
theorem dX2_howManyReadings_40 : decode cX2_howManyReadings 40 = .ok (.lstore_n 1, 1) := by decide +kernel
theorem dX2_howManyReadings_41 : decode cX2_howManyReadings 41 = .ok (.aload_n 0, 1) := by decide +kernel
theorem dX2_howManyReadings_42 : decode cX2_howManyReadings 42 = .ok (.getfield 15, 3) := by decide +kernel
theorem dX2_howManyReadings_45 : decode cX2_howManyReadings 45 = .ok (.astore_n 3, 1) := by decide +kernel
theorem dX2_howManyReadings_46 : decode cX2_howManyReadings 46 = .ok (.aload_n 3, 1) := by decide +kernel
theorem dX2_howManyReadings_47 : decode cX2_howManyReadings 47 = .ok (.arraylength, 1) := by decide +kernel
theorem dX2_howManyReadings_48 : decode cX2_howManyReadings 48 = .ok (.istore 4, 2) := by decide +kernel
theorem dX2_howManyReadings_50 : decode cX2_howManyReadings 50 = .ok (.iconst 0, 1) := by decide +kernel
theorem dX2_howManyReadings_51 : decode cX2_howManyReadings 51 = .ok (.istore 5, 2) := by decide +kernel
theorem dX2_howManyReadings_53 : decode cX2_howManyReadings 53 = .ok (.iload 5, 2) := by decide +kernel
theorem dX2_howManyReadings_55 : decode cX2_howManyReadings 55 = .ok (.iload 4, 2) := by decide +kernel
theorem dX2_howManyReadings_57 : decode cX2_howManyReadings 57 = .ok (.if_icmp .ge 20, 3) := by decide +kernel
theorem dX2_howManyReadings_60 : decode cX2_howManyReadings 60 = .ok (.aload_n 3, 1) := by decide +kernel
theorem dX2_howManyReadings_61 : decode cX2_howManyReadings 61 = .ok (.iload 5, 2) := by decide +kernel
theorem dX2_howManyReadings_63 : decode cX2_howManyReadings 63 = .ok (.laload, 1) := by decide +kernel
theorem dX2_howManyReadings_64 : decode cX2_howManyReadings 64 = .ok (.lstore 6, 2) := by decide +kernel
theorem dX2_howManyReadings_66 : decode cX2_howManyReadings 66 = .ok (.lload_n 1, 1) := by decide +kernel
theorem dX2_howManyReadings_67 : decode cX2_howManyReadings 67 = .ok (.lload 6, 2) := by decide +kernel
theorem dX2_howManyReadings_69 : decode cX2_howManyReadings 69 = .ok (.ladd, 1) := by decide +kernel
theorem dX2_howManyReadings_70 : decode cX2_howManyReadings 70 = .ok (.lstore_n 1, 1) := by decide +kernel
theorem dX2_howManyReadings_71 : decode cX2_howManyReadings 71 = .ok (.iinc 5 1, 3) := by decide +kernel
theorem dX2_howManyReadings_74 : decode cX2_howManyReadings 74 = .ok (.goto (-21), 3) := by decide +kernel
theorem dX2_howManyReadings_77 : decode cX2_howManyReadings 77 = .ok (.lload_n 1, 1) := by decide +kernel
theorem dX2_howManyReadings_78 : decode cX2_howManyReadings 78 = .ok (.ldc2_w 65, 3) := by decide +kernel
theorem dX2_howManyReadings_81 : decode cX2_howManyReadings 81 = .ok (.invokestatic 67, 3) := by decide +kernel
theorem dX2_howManyReadings_84 : decode cX2_howManyReadings 84 = .ok (.l2i, 1) := by decide +kernel
theorem dX2_howManyReadings_85 : decode cX2_howManyReadings 85 = .ok (.ireturn, 1) := by decide +kernel
set_option maxRecDepth 20000 in
theorem ggX2_readPart_J7_fill_d0a16 : GoodIn wsX2_readPart wsJ7_fill_d0a16 := goodIn_r _ [15] (by decide +kernel) (by decide +kernel)
set_option maxRecDepth 20000 in
theorem gX2_readPart_J7_fill_d0a16 : GoodIn wsX2_readPart (va_wsS RX2 50 yJ7_fill_d0a16 wsJ7_fill_d0a16) := goodIn_app (goodIn_of _ (by decide +kernel)) ggX2_readPart_J7_fill_d0a16
set_option maxRecDepth 20000 in
theorem ggX2_readPart_X4_fitsPart : GoodIn wsX2_readPart wsX4_fitsPart := goodIn_r _ [20, 21, 22, 23, 24, 25, 54, 55, 56, 57, 58, 48, 49, 50, 51, 52, 53] (by decide +kernel) (by decide +kernel)
set_option maxRecDepth 20000 in
theorem gX2_readPart_X4_fitsPart : GoodIn wsX2_readPart (wsV RX2 46 RX4 yX4_fitsPart wsX4_fitsPart) := goodIn_app (goodIn_of _ (by decide +kernel)) ggX2_readPart_X4_fitsPart
set_option maxRecDepth 20000 in
theorem ggX2_readPart_X2_waysTo : GoodIn wsX2_readPart wsX2_waysTo := goodIn_r _ [30, 2, 6, 31, 32, 33, 19, 34, 35, 36, 37, 38, 39, 40, 41, 42, 43, 44, 45, 46, 47, 48, 49, 50, 51, 52, 53] (by decide +kernel) (by decide +kernel)
set_option maxRecDepth 20000 in
theorem gX2_readPart_X2_waysTo : GoodIn wsX2_readPart (wsV RX2 76 RX2 yX2_waysTo wsX2_waysTo) := goodIn_app (goodIn_of _ (by decide +kernel)) ggX2_readPart_X2_waysTo
theorem dX2_readPart_0 : decode cX2_readPart 0 = .ok (.aload_n 0, 1) := by decide +kernel
theorem dX2_readPart_1 : decode cX2_readPart 1 = .ok (.getfield 19, 3) := by decide +kernel
theorem dX2_readPart_4 : decode cX2_readPart 4 = .ok (.lconst 0, 1) := by decide +kernel
theorem dX2_readPart_5 : decode cX2_readPart 5 = .ok (.invokestatic 50, 3) := by decide +kernel
theorem dX2_readPart_8 : decode cX2_readPart 8 = .ok (.iconst 0, 1) := by decide +kernel
theorem dX2_readPart_9 : decode cX2_readPart 9 = .ok (.istore_n 2, 1) := by decide +kernel
theorem dX2_readPart_10 : decode cX2_readPart 10 = .ok (.iload_n 2, 1) := by decide +kernel
theorem dX2_readPart_11 : decode cX2_readPart 11 = .ok (.aload_n 0, 1) := by decide +kernel
theorem dX2_readPart_12 : decode cX2_readPart 12 = .ok (.getfield 32, 3) := by decide +kernel
theorem dX2_readPart_15 : decode cX2_readPart 15 = .ok (.getfield 40, 3) := by decide +kernel
theorem dX2_readPart_18 : decode cX2_readPart 18 = .ok (.if_icmp .ge 47, 3) := by decide +kernel
theorem dX2_readPart_21 : decode cX2_readPart 21 = .ok (.aload_n 0, 1) := by decide +kernel
theorem dX2_readPart_22 : decode cX2_readPart 22 = .ok (.getfield 32, 3) := by decide +kernel
theorem dX2_readPart_25 : decode cX2_readPart 25 = .ok (.iload_n 2, 1) := by decide +kernel
theorem dX2_readPart_26 : decode cX2_readPart 26 = .ok (.aload_n 0, 1) := by decide +kernel
theorem dX2_readPart_27 : decode cX2_readPart 27 = .ok (.getfield 28, 3) := by decide +kernel
theorem dX2_readPart_30 : decode cX2_readPart 30 = .ok (.iload_n 1, 1) := by decide +kernel
theorem dX2_readPart_31 : decode cX2_readPart 31 = .ok (.invokevirtual 46, 3) := by decide +kernel
theorem dX2_readPart_34 : decode cX2_readPart 34 = .ok (.ifCond .eq 25, 3) := by decide +kernel
theorem dX2_readPart_37 : decode cX2_readPart 37 = .ok (.aload_n 0, 1) := by decide +kernel
theorem dX2_readPart_38 : decode cX2_readPart 38 = .ok (.getfield 19, 3) := by decide +kernel
theorem dX2_readPart_41 : decode cX2_readPart 41 = .ok (.aload_n 0, 1) := by decide +kernel
theorem dX2_readPart_42 : decode cX2_readPart 42 = .ok (.getfield 32, 3) := by decide +kernel
theorem dX2_readPart_45 : decode cX2_readPart 45 = .ok (.getfield 73, 3) := by decide +kernel
theorem dX2_readPart_48 : decode cX2_readPart 48 = .ok (.iload_n 2, 1) := by decide +kernel
theorem dX2_readPart_49 : decode cX2_readPart 49 = .ok (.iaload, 1) := by decide +kernel
theorem dX2_readPart_50 : decode cX2_readPart 50 = .ok (.dup2, 1) := by decide +kernel
theorem dX2_readPart_51 : decode cX2_readPart 51 = .ok (.laload, 1) := by decide +kernel
theorem dX2_readPart_52 : decode cX2_readPart 52 = .ok (.aload_n 0, 1) := by decide +kernel
theorem dX2_readPart_53 : decode cX2_readPart 53 = .ok (.iload_n 2, 1) := by decide +kernel
theorem dX2_readPart_54 : decode cX2_readPart 54 = .ok (.invokevirtual 76, 3) := by decide +kernel
theorem dX2_readPart_57 : decode cX2_readPart 57 = .ok (.ladd, 1) := by decide +kernel
theorem dX2_readPart_58 : decode cX2_readPart 58 = .ok (.lastore, 1) := by decide +kernel
theorem dX2_readPart_59 : decode cX2_readPart 59 = .ok (.iinc 2 1, 3) := by decide +kernel
theorem dX2_readPart_62 : decode cX2_readPart 62 = .ok (.goto (-52), 3) := by decide +kernel
theorem dX2_readPart_65 : decode cX2_readPart 65 = .ok (.iconst 0, 1) := by decide +kernel
theorem dX2_readPart_66 : decode cX2_readPart 66 = .ok (.istore_n 2, 1) := by decide +kernel
theorem dX2_readPart_67 : decode cX2_readPart 67 = .ok (.iload_n 2, 1) := by decide +kernel
theorem dX2_readPart_68 : decode cX2_readPart 68 = .ok (.iconst 4, 1) := by decide +kernel
theorem dX2_readPart_69 : decode cX2_readPart 69 = .ok (.if_icmp .ge 27, 3) := by decide +kernel
theorem dX2_readPart_72 : decode cX2_readPart 72 = .ok (.aload_n 0, 1) := by decide +kernel
theorem dX2_readPart_73 : decode cX2_readPart 73 = .ok (.getfield 15, 3) := by decide +kernel
theorem dX2_readPart_76 : decode cX2_readPart 76 = .ok (.iload_n 2, 1) := by decide +kernel
theorem dX2_readPart_77 : decode cX2_readPart 77 = .ok (.aload_n 0, 1) := by decide +kernel
theorem dX2_readPart_78 : decode cX2_readPart 78 = .ok (.getfield 19, 3) := by decide +kernel
theorem dX2_readPart_81 : decode cX2_readPart 81 = .ok (.iload_n 2, 1) := by decide +kernel
theorem dX2_readPart_82 : decode cX2_readPart 82 = .ok (.laload, 1) := by decide +kernel
theorem dX2_readPart_83 : decode cX2_readPart 83 = .ok (.ldc2_w 65, 3) := by decide +kernel
theorem dX2_readPart_86 : decode cX2_readPart 86 = .ok (.invokestatic 67, 3) := by decide +kernel
theorem dX2_readPart_89 : decode cX2_readPart 89 = .ok (.lastore, 1) := by decide +kernel
theorem dX2_readPart_90 : decode cX2_readPart 90 = .ok (.iinc 2 1, 3) := by decide +kernel
theorem dX2_readPart_93 : decode cX2_readPart 93 = .ok (.goto (-26), 3) := by decide +kernel
theorem dX2_readPart_96 : decode cX2_readPart 96 = .ok (.return_, 1) := by decide +kernel
set_option maxRecDepth 20000 in
theorem ggX2_waysTo_X4_mayCome : GoodIn wsX2_waysTo wsX4_mayCome := goodIn_r _ [7, 8, 9, 21, 22, 23, 24, 25, 26] (by decide +kernel) (by decide +kernel)
set_option maxRecDepth 20000 in
theorem gX2_waysTo_X4_mayCome : GoodIn wsX2_waysTo (wsV RX2 80 RX4 yX4_mayCome wsX4_mayCome) := goodIn_app (goodIn_of _ (by decide +kernel)) ggX2_waysTo_X4_mayCome
theorem dX2_waysTo_0 : decode cX2_waysTo 0 = .ok (.lconst 0, 1) := by decide +kernel
theorem dX2_waysTo_1 : decode cX2_waysTo 1 = .ok (.lstore_n 2, 1) := by decide +kernel
theorem dX2_waysTo_2 : decode cX2_waysTo 2 = .ok (.iconst 0, 1) := by decide +kernel
theorem dX2_waysTo_3 : decode cX2_waysTo 3 = .ok (.istore 4, 2) := by decide +kernel
theorem dX2_waysTo_5 : decode cX2_waysTo 5 = .ok (.iload 4, 2) := by decide +kernel
theorem dX2_waysTo_7 : decode cX2_waysTo 7 = .ok (.iconst 4, 1) := by decide +kernel
theorem dX2_waysTo_8 : decode cX2_waysTo 8 = .ok (.if_icmp .ge 32, 3) := by decide +kernel
theorem dX2_waysTo_11 : decode cX2_waysTo 11 = .ok (.aload_n 0, 1) := by decide +kernel
theorem dX2_waysTo_12 : decode cX2_waysTo 12 = .ok (.getfield 32, 3) := by decide +kernel
theorem dX2_waysTo_15 : decode cX2_waysTo 15 = .ok (.iload 4, 2) := by decide +kernel
theorem dX2_waysTo_17 : decode cX2_waysTo 17 = .ok (.iload_n 1, 1) := by decide +kernel
theorem dX2_waysTo_18 : decode cX2_waysTo 18 = .ok (.invokevirtual 80, 3) := by decide +kernel
theorem dX2_waysTo_21 : decode cX2_waysTo 21 = .ok (.ifCond .eq 13, 3) := by decide +kernel
theorem dX2_waysTo_24 : decode cX2_waysTo 24 = .ok (.lload_n 2, 1) := by decide +kernel
theorem dX2_waysTo_25 : decode cX2_waysTo 25 = .ok (.aload_n 0, 1) := by decide +kernel
theorem dX2_waysTo_26 : decode cX2_waysTo 26 = .ok (.getfield 15, 3) := by decide +kernel
theorem dX2_waysTo_29 : decode cX2_waysTo 29 = .ok (.iload 4, 2) := by decide +kernel
theorem dX2_waysTo_31 : decode cX2_waysTo 31 = .ok (.laload, 1) := by decide +kernel
theorem dX2_waysTo_32 : decode cX2_waysTo 32 = .ok (.ladd, 1) := by decide +kernel
theorem dX2_waysTo_33 : decode cX2_waysTo 33 = .ok (.lstore_n 2, 1) := by decide +kernel
theorem dX2_waysTo_34 : decode cX2_waysTo 34 = .ok (.iinc 4 1, 3) := by decide +kernel
theorem dX2_waysTo_37 : decode cX2_waysTo 37 = .ok (.goto (-32), 3) := by decide +kernel
theorem dX2_waysTo_40 : decode cX2_waysTo 40 = .ok (.lload_n 2, 1) := by decide +kernel
theorem dX2_waysTo_41 : decode cX2_waysTo 41 = .ok (.lreturn, 1) := by decide +kernel
set_option maxRecDepth 20000 in
theorem ggX2_findYears_X4_putSums : GoodIn wsX2_findYears wsX4_putSums := goodIn_r _ [14, 15, 16, 17, 18, 19, 20, 21, 22, 23, 24, 25, 26, 27, 28, 29, 30, 31, 32, 33, 91, 92, 93, 94, 95, 96, 97] (by decide +kernel) (by decide +kernel)
set_option maxRecDepth 20000 in
theorem gX2_findYears_X4_putSums : GoodIn wsX2_findYears (wsV RX2 84 RX4 yX4_putSums wsX4_putSums) := goodIn_app (goodIn_of _ (by decide +kernel)) ggX2_findYears_X4_putSums
set_option maxRecDepth 20000 in
theorem ggX2_findYears_J7_fill_d0a16 : GoodIn wsX2_findYears wsJ7_fill_d0a16 := goodIn_r _ [37] (by decide +kernel) (by decide +kernel)
set_option maxRecDepth 20000 in
theorem gX2_findYears_J7_fill_d0a16 : GoodIn wsX2_findYears (va_wsS RX2 50 yJ7_fill_d0a16 wsJ7_fill_d0a16) := goodIn_app (goodIn_of _ (by decide +kernel)) ggX2_findYears_J7_fill_d0a16
set_option maxRecDepth 20000 in
theorem ggX2_findYears_X2_reachOverPart : GoodIn wsX2_findYears wsX2_reachOverPart := goodIn_r _ [42, 43, 1, 44, 5, 4, 45, 46, 47, 48, 34, 35, 36, 37, 49, 50, 51, 13, 52, 53, 54, 17, 55, 16, 56, 57, 58, 41, 59, 60, 2, 61, 62, 63, 64, 65, 66, 67, 68, 69, 70, 75, 76, 77, 78, 79, 80, 81, 82, 83, 84, 85, 91, 92, 93, 94, 95, 96, 86, 87, 88, 89, 90] (by decide +kernel) (by decide +kernel)
set_option maxRecDepth 20000 in
theorem gX2_findYears_X2_reachOverPart : GoodIn wsX2_findYears (wsV RX2 88 RX2 yX2_reachOverPart wsX2_reachOverPart) := goodIn_app (goodIn_of _ (by decide +kernel)) ggX2_findYears_X2_reachOverPart
set_option maxRecDepth 20000 in
theorem ggX2_findYears_X2_takeYears : GoodIn wsX2_findYears wsX2_takeYears := goodIn_r _ [74, 4, 7, 8, 9, 75, 76, 77, 78, 79, 80, 81, 82, 83, 84, 85] (by decide +kernel) (by decide +kernel)
set_option maxRecDepth 20000 in
theorem gX2_findYears_X2_takeYears : GoodIn wsX2_findYears (wsV RX2 100 RX2 yX2_takeYears wsX2_takeYears) := goodIn_app (goodIn_of _ (by decide +kernel)) ggX2_findYears_X2_takeYears
theorem dX2_findYears_0 : decode cX2_findYears 0 = .ok (.aload_n 0, 1) := by decide +kernel
theorem dX2_findYears_1 : decode cX2_findYears 1 = .ok (.getfield 32, 3) := by decide +kernel
theorem dX2_findYears_4 : decode cX2_findYears 4 = .ok (.aload_n 0, 1) := by decide +kernel
theorem dX2_findYears_5 : decode cX2_findYears 5 = .ok (.getfield 11, 3) := by decide +kernel
theorem dX2_findYears_8 : decode cX2_findYears 8 = .ok (.aload_n 0, 1) := by decide +kernel
theorem dX2_findYears_9 : decode cX2_findYears 9 = .ok (.getfield 36, 3) := by decide +kernel
theorem dX2_findYears_12 : decode cX2_findYears 12 = .ok (.iload_n 1, 1) := by decide +kernel
theorem dX2_findYears_13 : decode cX2_findYears 13 = .ok (.iload_n 2, 1) := by decide +kernel
theorem dX2_findYears_14 : decode cX2_findYears 14 = .ok (.invokevirtual 84, 3) := by decide +kernel
theorem dX2_findYears_17 : decode cX2_findYears 17 = .ok (.aload_n 0, 1) := by decide +kernel
theorem dX2_findYears_18 : decode cX2_findYears 18 = .ok (.getfield 22, 3) := by decide +kernel
theorem dX2_findYears_21 : decode cX2_findYears 21 = .ok (.lconst 0, 1) := by decide +kernel
theorem dX2_findYears_22 : decode cX2_findYears 22 = .ok (.invokestatic 50, 3) := by decide +kernel
theorem dX2_findYears_25 : decode cX2_findYears 25 = .ok (.aload_n 0, 1) := by decide +kernel
theorem dX2_findYears_26 : decode cX2_findYears 26 = .ok (.getfield 22, 3) := by decide +kernel
theorem dX2_findYears_29 : decode cX2_findYears 29 = .ok (.sipush 141, 3) := by decide +kernel
theorem dX2_findYears_32 : decode cX2_findYears 32 = .ok (.lconst 1, 1) := by decide +kernel
theorem dX2_findYears_33 : decode cX2_findYears 33 = .ok (.lastore, 1) := by decide +kernel
theorem dX2_findYears_34 : decode cX2_findYears 34 = .ok (.iconst 0, 1) := by decide +kernel
theorem dX2_findYears_35 : decode cX2_findYears 35 = .ok (.istore_n 3, 1) := by decide +kernel
theorem dX2_findYears_36 : decode cX2_findYears 36 = .ok (.iload_n 3, 1) := by decide +kernel
theorem dX2_findYears_37 : decode cX2_findYears 37 = .ok (.aload_n 0, 1) := by decide +kernel
theorem dX2_findYears_38 : decode cX2_findYears 38 = .ok (.getfield 28, 3) := by decide +kernel
theorem dX2_findYears_41 : decode cX2_findYears 41 = .ok (.getfield 56, 3) := by decide +kernel
theorem dX2_findYears_44 : decode cX2_findYears 44 = .ok (.if_icmp .ge 14, 3) := by decide +kernel
theorem dX2_findYears_47 : decode cX2_findYears 47 = .ok (.aload_n 0, 1) := by decide +kernel
theorem dX2_findYears_48 : decode cX2_findYears 48 = .ok (.iload_n 3, 1) := by decide +kernel
theorem dX2_findYears_49 : decode cX2_findYears 49 = .ok (.invokevirtual 88, 3) := by decide +kernel
theorem dX2_findYears_52 : decode cX2_findYears 52 = .ok (.iinc 3 1, 3) := by decide +kernel
theorem dX2_findYears_55 : decode cX2_findYears 55 = .ok (.goto (-19), 3) := by decide +kernel
theorem dX2_findYears_58 : decode cX2_findYears 58 = .ok (.aload_n 0, 1) := by decide +kernel
theorem dX2_findYears_59 : decode cX2_findYears 59 = .ok (.iconst 0, 1) := by decide +kernel
theorem dX2_findYears_60 : decode cX2_findYears 60 = .ok (.putfield 91, 3) := by decide +kernel
theorem dX2_findYears_63 : decode cX2_findYears 63 = .ok (.aload_n 0, 1) := by decide +kernel
theorem dX2_findYears_64 : decode cX2_findYears 64 = .ok (.bipush (-9), 2) := by decide +kernel
theorem dX2_findYears_66 : decode cX2_findYears 66 = .ok (.putfield 94, 3) := by decide +kernel
theorem dX2_findYears_69 : decode cX2_findYears 69 = .ok (.aload_n 0, 1) := by decide +kernel
theorem dX2_findYears_70 : decode cX2_findYears 70 = .ok (.bipush (-9), 2) := by decide +kernel
theorem dX2_findYears_72 : decode cX2_findYears 72 = .ok (.putfield 97, 3) := by decide +kernel
theorem dX2_findYears_75 : decode cX2_findYears 75 = .ok (.iconst 0, 1) := by decide +kernel
theorem dX2_findYears_76 : decode cX2_findYears 76 = .ok (.istore_n 3, 1) := by decide +kernel
theorem dX2_findYears_77 : decode cX2_findYears 77 = .ok (.iload_n 3, 1) := by decide +kernel
theorem dX2_findYears_78 : decode cX2_findYears 78 = .ok (.bipush 47, 2) := by decide +kernel
theorem dX2_findYears_80 : decode cX2_findYears 80 = .ok (.if_icmp .ge 14, 3) := by decide +kernel
theorem dX2_findYears_83 : decode cX2_findYears 83 = .ok (.aload_n 0, 1) := by decide +kernel
theorem dX2_findYears_84 : decode cX2_findYears 84 = .ok (.iload_n 3, 1) := by decide +kernel
theorem dX2_findYears_85 : decode cX2_findYears 85 = .ok (.invokevirtual 100, 3) := by decide +kernel
theorem dX2_findYears_88 : decode cX2_findYears 88 = .ok (.iinc 3 1, 3) := by decide +kernel
theorem dX2_findYears_91 : decode cX2_findYears 91 = .ok (.goto (-14), 3) := by decide +kernel
theorem dX2_findYears_94 : decode cX2_findYears 94 = .ok (.return_, 1) := by decide +kernel
set_option maxRecDepth 20000 in
theorem ggX2_reachOverPart_J7_fill_d0a16 : GoodIn wsX2_reachOverPart wsJ7_fill_d0a16 := goodIn_r _ [13] (by decide +kernel) (by decide +kernel)
set_option maxRecDepth 20000 in
theorem gX2_reachOverPart_J7_fill_d0a16 : GoodIn wsX2_reachOverPart (va_wsS RX2 50 yJ7_fill_d0a16 wsJ7_fill_d0a16) := goodIn_app (goodIn_of _ (by decide +kernel)) ggX2_reachOverPart_J7_fill_d0a16
set_option maxRecDepth 20000 in
theorem ggX2_reachOverPart_X4_fitsPart : GoodIn wsX2_reachOverPart wsX4_fitsPart := goodIn_r _ [18, 19, 20, 21, 22, 23, 58, 59, 60, 61, 62, 52, 53, 54, 55, 56, 57] (by decide +kernel) (by decide +kernel)
set_option maxRecDepth 20000 in
theorem gX2_reachOverPart_X4_fitsPart : GoodIn wsX2_reachOverPart (wsV RX2 46 RX4 yX4_fitsPart wsX4_fitsPart) := goodIn_app (goodIn_of _ (by decide +kernel)) ggX2_reachOverPart_X4_fitsPart
set_option maxRecDepth 20000 in
theorem ggX2_reachOverPart_X2_reachWith : GoodIn wsX2_reachOverPart wsX2_reachWith := goodIn_r _ [28, 2, 29, 30, 31, 32, 33, 17, 34, 35, 36, 37, 38, 39, 27, 40, 5, 1, 41, 42, 43, 44, 45, 46, 47, 48, 49, 50, 51, 52, 53, 54, 55, 56, 57] (by decide +kernel) (by decide +kernel)
set_option maxRecDepth 20000 in
theorem gX2_reachOverPart_X2_reachWith : GoodIn wsX2_reachOverPart (wsV RX2 103 RX2 yX2_reachWith wsX2_reachWith) := goodIn_app (goodIn_of _ (by decide +kernel)) ggX2_reachOverPart_X2_reachWith
theorem dX2_reachOverPart_0 : decode cX2_reachOverPart 0 = .ok (.aload_n 0, 1) := by decide +kernel
theorem dX2_reachOverPart_1 : decode cX2_reachOverPart 1 = .ok (.getfield 25, 3) := by decide +kernel
theorem dX2_reachOverPart_4 : decode cX2_reachOverPart 4 = .ok (.lconst 0, 1) := by decide +kernel
theorem dX2_reachOverPart_5 : decode cX2_reachOverPart 5 = .ok (.invokestatic 50, 3) := by decide +kernel
theorem dX2_reachOverPart_8 : decode cX2_reachOverPart 8 = .ok (.iconst 0, 1) := by decide +kernel
theorem dX2_reachOverPart_9 : decode cX2_reachOverPart 9 = .ok (.istore_n 2, 1) := by decide +kernel
theorem dX2_reachOverPart_10 : decode cX2_reachOverPart 10 = .ok (.iload_n 2, 1) := by decide +kernel
theorem dX2_reachOverPart_11 : decode cX2_reachOverPart 11 = .ok (.aload_n 0, 1) := by decide +kernel
theorem dX2_reachOverPart_12 : decode cX2_reachOverPart 12 = .ok (.getfield 32, 3) := by decide +kernel
theorem dX2_reachOverPart_15 : decode cX2_reachOverPart 15 = .ok (.getfield 40, 3) := by decide +kernel
theorem dX2_reachOverPart_18 : decode cX2_reachOverPart 18 = .ok (.if_icmp .ge 30, 3) := by decide +kernel
theorem dX2_reachOverPart_21 : decode cX2_reachOverPart 21 = .ok (.aload_n 0, 1) := by decide +kernel
theorem dX2_reachOverPart_22 : decode cX2_reachOverPart 22 = .ok (.getfield 32, 3) := by decide +kernel
theorem dX2_reachOverPart_25 : decode cX2_reachOverPart 25 = .ok (.iload_n 2, 1) := by decide +kernel
theorem dX2_reachOverPart_26 : decode cX2_reachOverPart 26 = .ok (.aload_n 0, 1) := by decide +kernel
theorem dX2_reachOverPart_27 : decode cX2_reachOverPart 27 = .ok (.getfield 28, 3) := by decide +kernel
theorem dX2_reachOverPart_30 : decode cX2_reachOverPart 30 = .ok (.iload_n 1, 1) := by decide +kernel
theorem dX2_reachOverPart_31 : decode cX2_reachOverPart 31 = .ok (.invokevirtual 46, 3) := by decide +kernel
theorem dX2_reachOverPart_34 : decode cX2_reachOverPart 34 = .ok (.ifCond .eq 8, 3) := by decide +kernel
theorem dX2_reachOverPart_37 : decode cX2_reachOverPart 37 = .ok (.aload_n 0, 1) := by decide +kernel
theorem dX2_reachOverPart_38 : decode cX2_reachOverPart 38 = .ok (.iload_n 2, 1) := by decide +kernel
theorem dX2_reachOverPart_39 : decode cX2_reachOverPart 39 = .ok (.invokevirtual 103, 3) := by decide +kernel
theorem dX2_reachOverPart_42 : decode cX2_reachOverPart 42 = .ok (.iinc 2 1, 3) := by decide +kernel
theorem dX2_reachOverPart_45 : decode cX2_reachOverPart 45 = .ok (.goto (-35), 3) := by decide +kernel
theorem dX2_reachOverPart_48 : decode cX2_reachOverPart 48 = .ok (.aload_n 0, 1) := by decide +kernel
theorem dX2_reachOverPart_49 : decode cX2_reachOverPart 49 = .ok (.getfield 25, 3) := by decide +kernel
theorem dX2_reachOverPart_52 : decode cX2_reachOverPart 52 = .ok (.iconst 0, 1) := by decide +kernel
theorem dX2_reachOverPart_53 : decode cX2_reachOverPart 53 = .ok (.aload_n 0, 1) := by decide +kernel
theorem dX2_reachOverPart_54 : decode cX2_reachOverPart 54 = .ok (.getfield 22, 3) := by decide +kernel
theorem dX2_reachOverPart_57 : decode cX2_reachOverPart 57 = .ok (.iconst 0, 1) := by decide +kernel
theorem dX2_reachOverPart_58 : decode cX2_reachOverPart 58 = .ok (.aload_n 0, 1) := by decide +kernel
theorem dX2_reachOverPart_59 : decode cX2_reachOverPart 59 = .ok (.getfield 22, 3) := by decide +kernel
theorem dX2_reachOverPart_62 : decode cX2_reachOverPart 62 = .ok (.arraylength, 1) := by decide +kernel
theorem dX2_reachOverPart_63 : decode cX2_reachOverPart 63 = .ok (.invokestatic 106, 3) := by decide +kernel
theorem dX2_reachOverPart_66 : decode cX2_reachOverPart 66 = .ok (.return_, 1) := by decide +kernel
set_option maxRecDepth 20000 in
theorem ggX2_reachWith_X4_mayCome : GoodIn wsX2_reachWith wsX4_mayCome := goodIn_r _ [8, 9, 10, 29, 30, 31, 32, 33, 34] (by decide +kernel) (by decide +kernel)
set_option maxRecDepth 20000 in
theorem gX2_reachWith_X4_mayCome : GoodIn wsX2_reachWith (wsV RX2 80 RX4 yX4_mayCome wsX4_mayCome) := goodIn_app (goodIn_of _ (by decide +kernel)) ggX2_reachWith_X4_mayCome
set_option maxRecDepth 20000 in
theorem ggX2_reachWith_X2_addShifted : GoodIn wsX2_reachWith wsX2_addShifted := goodIn_r _ [15, 16, 17, 18, 19, 20, 21, 22, 23, 24, 25, 26, 27, 28] (by decide +kernel) (by decide +kernel)
set_option maxRecDepth 20000 in
theorem gX2_reachWith_X2_addShifted : GoodIn wsX2_reachWith (wsV RX2 112 RX2 yX2_addShifted wsX2_addShifted) := goodIn_app (goodIn_of _ (by decide +kernel)) ggX2_reachWith_X2_addShifted
theorem dX2_reachWith_0 : decode cX2_reachWith 0 = .ok (.iconst 0, 1) := by decide +kernel
theorem dX2_reachWith_1 : decode cX2_reachWith 1 = .ok (.istore_n 2, 1) := by decide +kernel
theorem dX2_reachWith_2 : decode cX2_reachWith 2 = .ok (.iload_n 2, 1) := by decide +kernel
theorem dX2_reachWith_3 : decode cX2_reachWith 3 = .ok (.iconst 4, 1) := by decide +kernel
theorem dX2_reachWith_4 : decode cX2_reachWith 4 = .ok (.if_icmp .ge 47, 3) := by decide +kernel
theorem dX2_reachWith_7 : decode cX2_reachWith 7 = .ok (.aload_n 0, 1) := by decide +kernel
theorem dX2_reachWith_8 : decode cX2_reachWith 8 = .ok (.getfield 32, 3) := by decide +kernel
theorem dX2_reachWith_11 : decode cX2_reachWith 11 = .ok (.iload_n 2, 1) := by decide +kernel
theorem dX2_reachWith_12 : decode cX2_reachWith 12 = .ok (.iload_n 1, 1) := by decide +kernel
theorem dX2_reachWith_13 : decode cX2_reachWith 13 = .ok (.invokevirtual 80, 3) := by decide +kernel
theorem dX2_reachWith_16 : decode cX2_reachWith 16 = .ok (.ifCond .eq 29, 3) := by decide +kernel
theorem dX2_reachWith_19 : decode cX2_reachWith 19 = .ok (.aload_n 0, 1) := by decide +kernel
theorem dX2_reachWith_20 : decode cX2_reachWith 20 = .ok (.iload_n 2, 1) := by decide +kernel
theorem dX2_reachWith_21 : decode cX2_reachWith 21 = .ok (.bipush 47, 2) := by decide +kernel
theorem dX2_reachWith_23 : decode cX2_reachWith 23 = .ok (.imul, 1) := by decide +kernel
theorem dX2_reachWith_24 : decode cX2_reachWith 24 = .ok (.aload_n 0, 1) := by decide +kernel
theorem dX2_reachWith_25 : decode cX2_reachWith 25 = .ok (.getfield 32, 3) := by decide +kernel
theorem dX2_reachWith_28 : decode cX2_reachWith 28 = .ok (.getfield 73, 3) := by decide +kernel
theorem dX2_reachWith_31 : decode cX2_reachWith 31 = .ok (.iload_n 1, 1) := by decide +kernel
theorem dX2_reachWith_32 : decode cX2_reachWith 32 = .ok (.iaload, 1) := by decide +kernel
theorem dX2_reachWith_33 : decode cX2_reachWith 33 = .ok (.bipush 47, 2) := by decide +kernel
theorem dX2_reachWith_35 : decode cX2_reachWith 35 = .ok (.imul, 1) := by decide +kernel
theorem dX2_reachWith_36 : decode cX2_reachWith 36 = .ok (.aload_n 0, 1) := by decide +kernel
theorem dX2_reachWith_37 : decode cX2_reachWith 37 = .ok (.getfield 11, 3) := by decide +kernel
theorem dX2_reachWith_40 : decode cX2_reachWith 40 = .ok (.iload_n 1, 1) := by decide +kernel
theorem dX2_reachWith_41 : decode cX2_reachWith 41 = .ok (.iaload, 1) := by decide +kernel
theorem dX2_reachWith_42 : decode cX2_reachWith 42 = .ok (.invokevirtual 112, 3) := by decide +kernel
theorem dX2_reachWith_45 : decode cX2_reachWith 45 = .ok (.iinc 2 1, 3) := by decide +kernel
theorem dX2_reachWith_48 : decode cX2_reachWith 48 = .ok (.goto (-46), 3) := by decide +kernel
theorem dX2_reachWith_51 : decode cX2_reachWith 51 = .ok (.return_, 1) := by decide +kernel
theorem dX2_addShifted_0 : decode cX2_addShifted 0 = .ok (.iload_n 3, 1) := by decide +kernel
theorem dX2_addShifted_1 : decode cX2_addShifted 1 = .ok (.bipush 64, 2) := by decide +kernel
theorem dX2_addShifted_3 : decode cX2_addShifted 3 = .ok (.idiv, 1) := by decide +kernel
theorem dX2_addShifted_4 : decode cX2_addShifted 4 = .ok (.istore 4, 2) := by decide +kernel
theorem dX2_addShifted_6 : decode cX2_addShifted 6 = .ok (.iload_n 3, 1) := by decide +kernel
theorem dX2_addShifted_7 : decode cX2_addShifted 7 = .ok (.bipush 64, 2) := by decide +kernel
theorem dX2_addShifted_9 : decode cX2_addShifted 9 = .ok (.irem, 1) := by decide +kernel
theorem dX2_addShifted_10 : decode cX2_addShifted 10 = .ok (.istore 5, 2) := by decide +kernel
theorem dX2_addShifted_12 : decode cX2_addShifted 12 = .ok (.iload 4, 2) := by decide +kernel
theorem dX2_addShifted_14 : decode cX2_addShifted 14 = .ok (.istore 6, 2) := by decide +kernel
theorem dX2_addShifted_16 : decode cX2_addShifted 16 = .ok (.iload 6, 2) := by decide +kernel
theorem dX2_addShifted_18 : decode cX2_addShifted 18 = .ok (.bipush 47, 2) := by decide +kernel
theorem dX2_addShifted_20 : decode cX2_addShifted 20 = .ok (.if_icmp .ge 76, 3) := by decide +kernel
theorem dX2_addShifted_23 : decode cX2_addShifted 23 = .ok (.iload 6, 2) := by decide +kernel
theorem dX2_addShifted_25 : decode cX2_addShifted 25 = .ok (.iload 4, 2) := by decide +kernel
theorem dX2_addShifted_27 : decode cX2_addShifted 27 = .ok (.isub, 1) := by decide +kernel
theorem dX2_addShifted_28 : decode cX2_addShifted 28 = .ok (.istore 7, 2) := by decide +kernel
theorem dX2_addShifted_30 : decode cX2_addShifted 30 = .ok (.aload_n 0, 1) := by decide +kernel
theorem dX2_addShifted_31 : decode cX2_addShifted 31 = .ok (.getfield 22, 3) := by decide +kernel
theorem dX2_addShifted_34 : decode cX2_addShifted 34 = .ok (.iload_n 1, 1) := by decide +kernel
theorem dX2_addShifted_35 : decode cX2_addShifted 35 = .ok (.iload 7, 2) := by decide +kernel
theorem dX2_addShifted_37 : decode cX2_addShifted 37 = .ok (.iadd, 1) := by decide +kernel
theorem dX2_addShifted_38 : decode cX2_addShifted 38 = .ok (.laload, 1) := by decide +kernel
theorem dX2_addShifted_39 : decode cX2_addShifted 39 = .ok (.iload 5, 2) := by decide +kernel
theorem dX2_addShifted_41 : decode cX2_addShifted 41 = .ok (.lshl, 1) := by decide +kernel
theorem dX2_addShifted_42 : decode cX2_addShifted 42 = .ok (.lstore 8, 2) := by decide +kernel
theorem dX2_addShifted_44 : decode cX2_addShifted 44 = .ok (.iload 5, 2) := by decide +kernel
theorem dX2_addShifted_46 : decode cX2_addShifted 46 = .ok (.ifCond .le 30, 3) := by decide +kernel
theorem dX2_addShifted_49 : decode cX2_addShifted 49 = .ok (.iload 7, 2) := by decide +kernel
theorem dX2_addShifted_51 : decode cX2_addShifted 51 = .ok (.ifCond .le 25, 3) := by decide +kernel
theorem dX2_addShifted_54 : decode cX2_addShifted 54 = .ok (.lload 8, 2) := by decide +kernel
theorem dX2_addShifted_56 : decode cX2_addShifted 56 = .ok (.aload_n 0, 1) := by decide +kernel
theorem dX2_addShifted_57 : decode cX2_addShifted 57 = .ok (.getfield 22, 3) := by decide +kernel
theorem dX2_addShifted_60 : decode cX2_addShifted 60 = .ok (.iload_n 1, 1) := by decide +kernel
theorem dX2_addShifted_61 : decode cX2_addShifted 61 = .ok (.iload 7, 2) := by decide +kernel
theorem dX2_addShifted_63 : decode cX2_addShifted 63 = .ok (.iadd, 1) := by decide +kernel
theorem dX2_addShifted_64 : decode cX2_addShifted 64 = .ok (.iconst 1, 1) := by decide +kernel
theorem dX2_addShifted_65 : decode cX2_addShifted 65 = .ok (.isub, 1) := by decide +kernel
theorem dX2_addShifted_66 : decode cX2_addShifted 66 = .ok (.laload, 1) := by decide +kernel
theorem dX2_addShifted_67 : decode cX2_addShifted 67 = .ok (.bipush 64, 2) := by decide +kernel
theorem dX2_addShifted_69 : decode cX2_addShifted 69 = .ok (.iload 5, 2) := by decide +kernel
theorem dX2_addShifted_71 : decode cX2_addShifted 71 = .ok (.isub, 1) := by decide +kernel
theorem dX2_addShifted_72 : decode cX2_addShifted 72 = .ok (.lushr, 1) := by decide +kernel
theorem dX2_addShifted_73 : decode cX2_addShifted 73 = .ok (.lor, 1) := by decide +kernel
theorem dX2_addShifted_74 : decode cX2_addShifted 74 = .ok (.lstore 8, 2) := by decide +kernel
theorem dX2_addShifted_76 : decode cX2_addShifted 76 = .ok (.aload_n 0, 1) := by decide +kernel
theorem dX2_addShifted_77 : decode cX2_addShifted 77 = .ok (.getfield 25, 3) := by decide +kernel
theorem dX2_addShifted_80 : decode cX2_addShifted 80 = .ok (.iload_n 2, 1) := by decide +kernel
theorem dX2_addShifted_81 : decode cX2_addShifted 81 = .ok (.iload 6, 2) := by decide +kernel
theorem dX2_addShifted_83 : decode cX2_addShifted 83 = .ok (.iadd, 1) := by decide +kernel
theorem dX2_addShifted_84 : decode cX2_addShifted 84 = .ok (.dup2, 1) := by decide +kernel
theorem dX2_addShifted_85 : decode cX2_addShifted 85 = .ok (.laload, 1) := by decide +kernel
theorem dX2_addShifted_86 : decode cX2_addShifted 86 = .ok (.lload 8, 2) := by decide +kernel
theorem dX2_addShifted_88 : decode cX2_addShifted 88 = .ok (.lor, 1) := by decide +kernel
theorem dX2_addShifted_89 : decode cX2_addShifted 89 = .ok (.lastore, 1) := by decide +kernel
theorem dX2_addShifted_90 : decode cX2_addShifted 90 = .ok (.iinc 6 1, 3) := by decide +kernel
theorem dX2_addShifted_93 : decode cX2_addShifted 93 = .ok (.goto (-77), 3) := by decide +kernel
theorem dX2_addShifted_96 : decode cX2_addShifted 96 = .ok (.return_, 1) := by decide +kernel
theorem dX2_takeYears_0 : decode cX2_takeYears 0 = .ok (.lconst 0, 1) := by decide +kernel
theorem dX2_takeYears_1 : decode cX2_takeYears 1 = .ok (.lstore_n 2, 1) := by decide +kernel
theorem dX2_takeYears_2 : decode cX2_takeYears 2 = .ok (.iconst 0, 1) := by decide +kernel
theorem dX2_takeYears_3 : decode cX2_takeYears 3 = .ok (.istore 4, 2) := by decide +kernel
theorem dX2_takeYears_5 : decode cX2_takeYears 5 = .ok (.iload 4, 2) := by decide +kernel
theorem dX2_takeYears_7 : decode cX2_takeYears 7 = .ok (.iconst 3, 1) := by decide +kernel
theorem dX2_takeYears_8 : decode cX2_takeYears 8 = .ok (.if_icmp .ge 24, 3) := by decide +kernel
theorem dX2_takeYears_11 : decode cX2_takeYears 11 = .ok (.lload_n 2, 1) := by decide +kernel
theorem dX2_takeYears_12 : decode cX2_takeYears 12 = .ok (.aload_n 0, 1) := by decide +kernel
theorem dX2_takeYears_13 : decode cX2_takeYears 13 = .ok (.getfield 22, 3) := by decide +kernel
theorem dX2_takeYears_16 : decode cX2_takeYears 16 = .ok (.iload 4, 2) := by decide +kernel
theorem dX2_takeYears_18 : decode cX2_takeYears 18 = .ok (.bipush 47, 2) := by decide +kernel
theorem dX2_takeYears_20 : decode cX2_takeYears 20 = .ok (.imul, 1) := by decide +kernel
theorem dX2_takeYears_21 : decode cX2_takeYears 21 = .ok (.iload_n 1, 1) := by decide +kernel
theorem dX2_takeYears_22 : decode cX2_takeYears 22 = .ok (.iadd, 1) := by decide +kernel
theorem dX2_takeYears_23 : decode cX2_takeYears 23 = .ok (.laload, 1) := by decide +kernel
theorem dX2_takeYears_24 : decode cX2_takeYears 24 = .ok (.lor, 1) := by decide +kernel
theorem dX2_takeYears_25 : decode cX2_takeYears 25 = .ok (.lstore_n 2, 1) := by decide +kernel
theorem dX2_takeYears_26 : decode cX2_takeYears 26 = .ok (.iinc 4 1, 3) := by decide +kernel
theorem dX2_takeYears_29 : decode cX2_takeYears 29 = .ok (.goto (-24), 3) := by decide +kernel
theorem dX2_takeYears_32 : decode cX2_takeYears 32 = .ok (.iload_n 1, 1) := by decide +kernel
theorem dX2_takeYears_33 : decode cX2_takeYears 33 = .ok (.bipush 64, 2) := by decide +kernel
theorem dX2_takeYears_35 : decode cX2_takeYears 35 = .ok (.imul, 1) := by decide +kernel
theorem dX2_takeYears_36 : decode cX2_takeYears 36 = .ok (.istore 4, 2) := by decide +kernel
theorem dX2_takeYears_38 : decode cX2_takeYears 38 = .ok (.lload_n 2, 1) := by decide +kernel
theorem dX2_takeYears_39 : decode cX2_takeYears 39 = .ok (.lconst 0, 1) := by decide +kernel
theorem dX2_takeYears_40 : decode cX2_takeYears 40 = .ok (.lcmp, 1) := by decide +kernel
theorem dX2_takeYears_41 : decode cX2_takeYears 41 = .ok (.ifCond .eq 67, 3) := by decide +kernel
theorem dX2_takeYears_44 : decode cX2_takeYears 44 = .ok (.iload 4, 2) := by decide +kernel
theorem dX2_takeYears_46 : decode cX2_takeYears 46 = .ok (.sipush 3000, 3) := by decide +kernel
theorem dX2_takeYears_49 : decode cX2_takeYears 49 = .ok (.if_icmp .gt 59, 3) := by decide +kernel
theorem dX2_takeYears_52 : decode cX2_takeYears 52 = .ok (.lload_n 2, 1) := by decide +kernel
theorem dX2_takeYears_53 : decode cX2_takeYears 53 = .ok (.lconst 1, 1) := by decide +kernel
theorem dX2_takeYears_54 : decode cX2_takeYears 54 = .ok (.land, 1) := by decide +kernel
theorem dX2_takeYears_55 : decode cX2_takeYears 55 = .ok (.lconst 1, 1) := by decide +kernel
theorem dX2_takeYears_56 : decode cX2_takeYears 56 = .ok (.lcmp, 1) := by decide +kernel
theorem dX2_takeYears_57 : decode cX2_takeYears 57 = .ok (.ifCond .ne 41, 3) := by decide +kernel
theorem dX2_takeYears_60 : decode cX2_takeYears 60 = .ok (.aload_n 0, 1) := by decide +kernel
theorem dX2_takeYears_61 : decode cX2_takeYears 61 = .ok (.dup, 1) := by decide +kernel
theorem dX2_takeYears_62 : decode cX2_takeYears 62 = .ok (.getfield 91, 3) := by decide +kernel
theorem dX2_takeYears_65 : decode cX2_takeYears 65 = .ok (.iconst 1, 1) := by decide +kernel
theorem dX2_takeYears_66 : decode cX2_takeYears 66 = .ok (.iadd, 1) := by decide +kernel
theorem dX2_takeYears_67 : decode cX2_takeYears 67 = .ok (.putfield 91, 3) := by decide +kernel
theorem dX2_takeYears_70 : decode cX2_takeYears 70 = .ok (.aload_n 0, 1) := by decide +kernel
theorem dX2_takeYears_71 : decode cX2_takeYears 71 = .ok (.aload_n 0, 1) := by decide +kernel
theorem dX2_takeYears_72 : decode cX2_takeYears 72 = .ok (.getfield 94, 3) := by decide +kernel
theorem dX2_takeYears_75 : decode cX2_takeYears 75 = .ok (.bipush (-9), 2) := by decide +kernel
theorem dX2_takeYears_77 : decode cX2_takeYears 77 = .ok (.if_icmp .ne 8, 3) := by decide +kernel
theorem dX2_takeYears_80 : decode cX2_takeYears 80 = .ok (.iload 4, 2) := by decide +kernel
theorem dX2_takeYears_82 : decode cX2_takeYears 82 = .ok (.goto 7, 3) := by decide +kernel
theorem dX2_takeYears_85 : decode cX2_takeYears 85 = .ok (.aload_n 0, 1) := by decide +kernel
theorem dX2_takeYears_86 : decode cX2_takeYears 86 = .ok (.getfield 94, 3) := by decide +kernel
theorem dX2_takeYears_89 : decode cX2_takeYears 89 = .ok (.putfield 94, 3) := by decide +kernel
theorem dX2_takeYears_92 : decode cX2_takeYears 92 = .ok (.aload_n 0, 1) := by decide +kernel
theorem dX2_takeYears_93 : decode cX2_takeYears 93 = .ok (.iload 4, 2) := by decide +kernel
theorem dX2_takeYears_95 : decode cX2_takeYears 95 = .ok (.putfield 97, 3) := by decide +kernel
theorem dX2_takeYears_98 : decode cX2_takeYears 98 = .ok (.lload_n 2, 1) := by decide +kernel
theorem dX2_takeYears_99 : decode cX2_takeYears 99 = .ok (.iconst 1, 1) := by decide +kernel
theorem dX2_takeYears_100 : decode cX2_takeYears 100 = .ok (.lushr, 1) := by decide +kernel
theorem dX2_takeYears_101 : decode cX2_takeYears 101 = .ok (.lstore_n 2, 1) := by decide +kernel
theorem dX2_takeYears_102 : decode cX2_takeYears 102 = .ok (.iinc 4 1, 3) := by decide +kernel
theorem dX2_takeYears_105 : decode cX2_takeYears 105 = .ok (.goto (-67), 3) := by decide +kernel
theorem dX2_takeYears_108 : decode cX2_takeYears 108 = .ok (.return_, 1) := by decide +kernel
