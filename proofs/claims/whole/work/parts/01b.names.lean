theorem dX0_init_0 : decode cX0_init 0 = .ok (.aload_n 0, 1) := by decide +kernel
theorem dX0_init_1 : decode cX0_init 1 = .ok (.invokespecial 3, 3) := by decide +kernel
theorem dX0_init_4 : decode cX0_init 4 = .ok (.return_, 1) := by decide +kernel
theorem dX0_begin_0 : decode cX0_begin 0 = .ok (.aload_n 0, 1) := by decide +kernel
theorem dX0_begin_1 : decode cX0_begin 1 = .ok (.iconst 0, 1) := by decide +kernel
theorem dX0_begin_2 : decode cX0_begin 2 = .ok (.putfield 9, 3) := by decide +kernel
theorem dX0_begin_5 : decode cX0_begin 5 = .ok (.aload_n 0, 1) := by decide +kernel
theorem dX0_begin_6 : decode cX0_begin 6 = .ok (.bipush (-6), 2) := by decide +kernel
theorem dX0_begin_8 : decode cX0_begin 8 = .ok (.putfield 15, 3) := by decide +kernel
theorem dX0_begin_11 : decode cX0_begin 11 = .ok (.aload_n 0, 1) := by decide +kernel
theorem dX0_begin_12 : decode cX0_begin 12 = .ok (.bipush (-6), 2) := by decide +kernel
theorem dX0_begin_14 : decode cX0_begin 14 = .ok (.putfield 18, 3) := by decide +kernel
theorem dX0_begin_17 : decode cX0_begin 17 = .ok (.aload_n 0, 1) := by decide +kernel
theorem dX0_begin_18 : decode cX0_begin 18 = .ok (.iconst 0, 1) := by decide +kernel
theorem dX0_begin_19 : decode cX0_begin 19 = .ok (.putfield 21, 3) := by decide +kernel
theorem dX0_begin_22 : decode cX0_begin 22 = .ok (.aload_n 0, 1) := by decide +kernel
theorem dX0_begin_23 : decode cX0_begin 23 = .ok (.bipush (-6), 2) := by decide +kernel
theorem dX0_begin_25 : decode cX0_begin 25 = .ok (.putfield 24, 3) := by decide +kernel
theorem dX0_begin_28 : decode cX0_begin 28 = .ok (.aload_n 0, 1) := by decide +kernel
theorem dX0_begin_29 : decode cX0_begin 29 = .ok (.bipush (-6), 2) := by decide +kernel
theorem dX0_begin_31 : decode cX0_begin 31 = .ok (.putfield 27, 3) := by decide +kernel
theorem dX0_begin_34 : decode cX0_begin 34 = .ok (.return_, 1) := by decide +kernel
set_option maxRecDepth 20000 in
theorem ggX0_take_X5_whyNot : GoodIn wsX0_take wsX5_whyNot := goodIn_r _ [11, 12, 13, 14, 15, 16, 10, 17, 18, 19, 20, 21, 22, 23, 24, 25, 26, 27, 28, 29, 30, 31, 32, 33, 34, 35, 36, 37, 38, 39, 40, 41, 42, 43, 44, 45, 46, 47, 48, 49, 50, 51, 52, 108, 109, 110, 111, 112, 113, 114] (by decide +kernel) (by decide +kernel)
set_option maxRecDepth 20000 in
theorem gX0_take_X5_whyNot : GoodIn wsX0_take (wsV RX0 30 RX5 yX5_whyNot wsX5_whyNot) := goodIn_app (goodIn_of _ (by decide +kernel)) ggX0_take_X5_whyNot
set_option maxRecDepth 20000 in
theorem ggX0_take_X5_act : GoodIn wsX0_take wsX5_act := goodIn_r _ [56, 12, 57, 58, 59, 10, 60, 26, 22, 23, 24, 25, 27, 28, 29, 30, 31, 61, 62, 63, 64, 18, 65, 66, 67, 68, 69, 70, 71, 72, 41, 42, 43, 44, 45, 46, 47, 48, 49, 50, 51, 52, 73, 74, 75, 76, 77, 78, 79, 80, 81, 82, 83, 84, 36, 85, 86, 87, 88, 89, 90, 91, 92, 13, 108, 109, 110, 111, 112, 113, 114] (by decide +kernel) (by decide +kernel)
set_option maxRecDepth 20000 in
theorem gX0_take_X5_act : GoodIn wsX0_take (wsV RX0 36 RX5 yX5_act wsX5_act) := goodIn_app (goodIn_of _ (by decide +kernel)) ggX0_take_X5_act
set_option maxRecDepth 20000 in
theorem ggX0_take_X7_leastBit : GoodIn wsX0_take wsX7_leastBit := goodIn_r _ [94] (by decide +kernel) (by decide +kernel)
set_option maxRecDepth 20000 in
theorem gX0_take_X7_leastBit_n39 : GoodIn wsX0_take (wsX7_leastBit) := ggX0_take_X7_leastBit
set_option maxRecDepth 20000 in
theorem ggX0_take_J6_bitCount_0f7a4 : GoodIn wsX0_take wsJ6_bitCount_0f7a4 := goodIn_r _ [98, 99, 100, 101] (by decide +kernel) (by decide +kernel)
set_option maxRecDepth 20000 in
theorem gX0_take_J6_bitCount_0f7a4 : GoodIn wsX0_take (va_wsS RX0 43 yJ6_bitCount_0f7a4 wsJ6_bitCount_0f7a4) := goodIn_app (goodIn_of _ (by decide +kernel)) ggX0_take_J6_bitCount_0f7a4
theorem dX0_take_0 : decode cX0_take 0 = .ok (.aload_n 1, 1) := by decide +kernel
theorem dX0_take_1 : decode cX0_take 1 = .ok (.iload_n 2, 1) := by decide +kernel
theorem dX0_take_2 : decode cX0_take 2 = .ok (.iload_n 3, 1) := by decide +kernel
theorem dX0_take_3 : decode cX0_take 3 = .ok (.iload 4, 2) := by decide +kernel
theorem dX0_take_5 : decode cX0_take 5 = .ok (.invokevirtual 30, 3) := by decide +kernel
theorem dX0_take_8 : decode cX0_take 8 = .ok (.istore 5, 2) := by decide +kernel
theorem dX0_take_10 : decode cX0_take 10 = .ok (.iload 5, 2) := by decide +kernel
theorem dX0_take_12 : decode cX0_take 12 = .ok (.ifCond .eq 18, 3) := by decide +kernel
theorem dX0_take_15 : decode cX0_take 15 = .ok (.aload_n 0, 1) := by decide +kernel
theorem dX0_take_16 : decode cX0_take 16 = .ok (.aload_n 0, 1) := by decide +kernel
theorem dX0_take_17 : decode cX0_take 17 = .ok (.getfield 9, 3) := by decide +kernel
theorem dX0_take_20 : decode cX0_take 20 = .ok (.putfield 15, 3) := by decide +kernel
theorem dX0_take_23 : decode cX0_take 23 = .ok (.aload_n 0, 1) := by decide +kernel
theorem dX0_take_24 : decode cX0_take 24 = .ok (.iload 5, 2) := by decide +kernel
theorem dX0_take_26 : decode cX0_take 26 = .ok (.putfield 18, 3) := by decide +kernel
theorem dX0_take_29 : decode cX0_take 29 = .ok (.return_, 1) := by decide +kernel
theorem dX0_take_30 : decode cX0_take 30 = .ok (.aload_n 1, 1) := by decide +kernel
theorem dX0_take_31 : decode cX0_take 31 = .ok (.iload_n 2, 1) := by decide +kernel
theorem dX0_take_32 : decode cX0_take 32 = .ok (.iload_n 3, 1) := by decide +kernel
theorem dX0_take_33 : decode cX0_take 33 = .ok (.iload 4, 2) := by decide +kernel
theorem dX0_take_35 : decode cX0_take 35 = .ok (.invokevirtual 36, 3) := by decide +kernel
theorem dX0_take_38 : decode cX0_take 38 = .ok (.istore 6, 2) := by decide +kernel
theorem dX0_take_40 : decode cX0_take 40 = .ok (.iload 6, 2) := by decide +kernel
theorem dX0_take_42 : decode cX0_take 42 = .ok (.ifCond .eq 29, 3) := by decide +kernel
theorem dX0_take_45 : decode cX0_take 45 = .ok (.aload_n 0, 1) := by decide +kernel
theorem dX0_take_46 : decode cX0_take 46 = .ok (.getfield 24, 3) := by decide +kernel
theorem dX0_take_49 : decode cX0_take 49 = .ok (.bipush (-6), 2) := by decide +kernel
theorem dX0_take_51 : decode cX0_take 51 = .ok (.if_icmp .ne 20, 3) := by decide +kernel
theorem dX0_take_54 : decode cX0_take 54 = .ok (.aload_n 0, 1) := by decide +kernel
theorem dX0_take_55 : decode cX0_take 55 = .ok (.aload_n 0, 1) := by decide +kernel
theorem dX0_take_56 : decode cX0_take 56 = .ok (.getfield 9, 3) := by decide +kernel
theorem dX0_take_59 : decode cX0_take 59 = .ok (.putfield 24, 3) := by decide +kernel
theorem dX0_take_62 : decode cX0_take 62 = .ok (.aload_n 0, 1) := by decide +kernel
theorem dX0_take_63 : decode cX0_take 63 = .ok (.iload 6, 2) := by decide +kernel
theorem dX0_take_65 : decode cX0_take 65 = .ok (.invokestatic 39, 3) := by decide +kernel
theorem dX0_take_68 : decode cX0_take 68 = .ok (.putfield 27, 3) := by decide +kernel
theorem dX0_take_71 : decode cX0_take 71 = .ok (.aload_n 0, 1) := by decide +kernel
theorem dX0_take_72 : decode cX0_take 72 = .ok (.dup, 1) := by decide +kernel
theorem dX0_take_73 : decode cX0_take 73 = .ok (.getfield 21, 3) := by decide +kernel
theorem dX0_take_76 : decode cX0_take 76 = .ok (.iload 6, 2) := by decide +kernel
theorem dX0_take_78 : decode cX0_take 78 = .ok (.invokestatic 43, 3) := by decide +kernel
theorem dX0_take_81 : decode cX0_take 81 = .ok (.iadd, 1) := by decide +kernel
theorem dX0_take_82 : decode cX0_take 82 = .ok (.putfield 21, 3) := by decide +kernel
theorem dX0_take_85 : decode cX0_take 85 = .ok (.aload_n 0, 1) := by decide +kernel
theorem dX0_take_86 : decode cX0_take 86 = .ok (.dup, 1) := by decide +kernel
theorem dX0_take_87 : decode cX0_take 87 = .ok (.getfield 9, 3) := by decide +kernel
theorem dX0_take_90 : decode cX0_take 90 = .ok (.iconst 1, 1) := by decide +kernel
theorem dX0_take_91 : decode cX0_take 91 = .ok (.iadd, 1) := by decide +kernel
theorem dX0_take_92 : decode cX0_take 92 = .ok (.putfield 9, 3) := by decide +kernel
theorem dX0_take_95 : decode cX0_take 95 = .ok (.return_, 1) := by decide +kernel
theorem dX1_init_0 : decode cX1_init 0 = .ok (.aload_n 0, 1) := by decide +kernel
theorem dX1_init_1 : decode cX1_init 1 = .ok (.invokespecial 3, 3) := by decide +kernel
theorem dX1_init_4 : decode cX1_init 4 = .ok (.aload_n 0, 1) := by decide +kernel
theorem dX1_init_5 : decode cX1_init 5 = .ok (.bipush 10, 2) := by decide +kernel
theorem dX1_init_7 : decode cX1_init 7 = .ok (.newarray .int, 2) := by decide +kernel
theorem dX1_init_9 : decode cX1_init 9 = .ok (.putfield 9, 3) := by decide +kernel
theorem dX1_init_12 : decode cX1_init 12 = .ok (.return_, 1) := by decide +kernel
set_option maxRecDepth 20000 in
theorem ggX1_isCode_X7_isWithin : GoodIn wsX1_isCode wsX7_isWithin := goodIn_r _ [3] (by decide +kernel) (by decide +kernel)
set_option maxRecDepth 20000 in
theorem gX1_isCode_X7_isWithin_n15 : GoodIn wsX1_isCode (wsX7_isWithin) := ggX1_isCode_X7_isWithin
theorem dX1_isCode_0 : decode cX1_isCode 0 = .ok (.iload_n 0, 1) := by decide +kernel
theorem dX1_isCode_1 : decode cX1_isCode 1 = .ok (.bipush 10, 2) := by decide +kernel
theorem dX1_isCode_3 : decode cX1_isCode 3 = .ok (.idiv, 1) := by decide +kernel
theorem dX1_isCode_4 : decode cX1_isCode 4 = .ok (.bipush 10, 2) := by decide +kernel
theorem dX1_isCode_6 : decode cX1_isCode 6 = .ok (.irem, 1) := by decide +kernel
theorem dX1_isCode_7 : decode cX1_isCode 7 = .ok (.iconst 1, 1) := by decide +kernel
theorem dX1_isCode_8 : decode cX1_isCode 8 = .ok (.if_icmp .lt 19, 3) := by decide +kernel
theorem dX1_isCode_11 : decode cX1_isCode 11 = .ok (.iload_n 0, 1) := by decide +kernel
theorem dX1_isCode_12 : decode cX1_isCode 12 = .ok (.bipush 10, 2) := by decide +kernel
theorem dX1_isCode_14 : decode cX1_isCode 14 = .ok (.irem, 1) := by decide +kernel
theorem dX1_isCode_15 : decode cX1_isCode 15 = .ok (.iconst 1, 1) := by decide +kernel
theorem dX1_isCode_16 : decode cX1_isCode 16 = .ok (.iconst 3, 1) := by decide +kernel
theorem dX1_isCode_17 : decode cX1_isCode 17 = .ok (.invokestatic 15, 3) := by decide +kernel
theorem dX1_isCode_20 : decode cX1_isCode 20 = .ok (.ifCond .eq 7, 3) := by decide +kernel
theorem dX1_isCode_23 : decode cX1_isCode 23 = .ok (.iconst 1, 1) := by decide +kernel
theorem dX1_isCode_24 : decode cX1_isCode 24 = .ok (.goto 4, 3) := by decide +kernel
theorem dX1_isCode_27 : decode cX1_isCode 27 = .ok (.iconst 0, 1) := by decide +kernel
theorem dX1_isCode_28 : decode cX1_isCode 28 = .ok (.ireturn, 1) := by decide +kernel
theorem dX1_feltBy_0 : decode cX1_feltBy 0 = .ok (.iload_n 1, 1) := by decide +kernel
theorem dX1_feltBy_1 : decode cX1_feltBy 1 = .ok (.iload_n 0, 1) := by decide +kernel
theorem dX1_feltBy_2 : decode cX1_feltBy 2 = .ok (.bipush 100, 2) := by decide +kernel
theorem dX1_feltBy_4 : decode cX1_feltBy 4 = .ok (.idiv, 1) := by decide +kernel
theorem dX1_feltBy_5 : decode cX1_feltBy 5 = .ok (.isub, 1) := by decide +kernel
theorem dX1_feltBy_6 : decode cX1_feltBy 6 = .ok (.invokestatic 19, 3) := by decide +kernel
theorem dX1_feltBy_9 : decode cX1_feltBy 9 = .ok (.istore_n 2, 1) := by decide +kernel
theorem dX1_feltBy_10 : decode cX1_feltBy 10 = .ok (.iconst 0, 1) := by decide +kernel
theorem dX1_feltBy_11 : decode cX1_feltBy 11 = .ok (.iload_n 0, 1) := by decide +kernel
theorem dX1_feltBy_12 : decode cX1_feltBy 12 = .ok (.bipush 10, 2) := by decide +kernel
theorem dX1_feltBy_14 : decode cX1_feltBy 14 = .ok (.idiv, 1) := by decide +kernel
theorem dX1_feltBy_15 : decode cX1_feltBy 15 = .ok (.bipush 10, 2) := by decide +kernel
theorem dX1_feltBy_17 : decode cX1_feltBy 17 = .ok (.irem, 1) := by decide +kernel
theorem dX1_feltBy_18 : decode cX1_feltBy 18 = .ok (.iload_n 0, 1) := by decide +kernel
theorem dX1_feltBy_19 : decode cX1_feltBy 19 = .ok (.bipush 10, 2) := by decide +kernel
theorem dX1_feltBy_21 : decode cX1_feltBy 21 = .ok (.irem, 1) := by decide +kernel
theorem dX1_feltBy_22 : decode cX1_feltBy 22 = .ok (.iload_n 2, 1) := by decide +kernel
theorem dX1_feltBy_23 : decode cX1_feltBy 23 = .ok (.imul, 1) := by decide +kernel
theorem dX1_feltBy_24 : decode cX1_feltBy 24 = .ok (.isub, 1) := by decide +kernel
theorem dX1_feltBy_25 : decode cX1_feltBy 25 = .ok (.invokestatic 25, 3) := by decide +kernel
theorem dX1_feltBy_28 : decode cX1_feltBy 28 = .ok (.ireturn, 1) := by decide +kernel
set_option maxRecDepth 20000 in
theorem ggX1_isFitting_X1_isCode : GoodIn wsX1_isFitting wsX1_isCode := goodIn_r _ [7, 8, 9, 10] (by decide +kernel) (by decide +kernel)
set_option maxRecDepth 20000 in
theorem gX1_isFitting_X1_isCode : GoodIn wsX1_isFitting (va_wsS RX1 29 yX1_isCode wsX1_isCode) := goodIn_app (goodIn_of _ (by decide +kernel)) ggX1_isFitting_X1_isCode
set_option maxRecDepth 20000 in
theorem ggX1_isFitting_X1_feltBy : GoodIn wsX1_isFitting wsX1_feltBy := goodIn_r _ [13, 14, 15, 16, 17, 18, 19, 20] (by decide +kernel) (by decide +kernel)
set_option maxRecDepth 20000 in
theorem gX1_isFitting_X1_feltBy : GoodIn wsX1_isFitting (va_wsS RX1 42 yX1_feltBy wsX1_feltBy) := goodIn_app (goodIn_of _ (by decide +kernel)) ggX1_isFitting_X1_feltBy
theorem dX1_isFitting_0 : decode cX1_isFitting 0 = .ok (.iload_n 1, 1) := by decide +kernel
theorem dX1_isFitting_1 : decode cX1_isFitting 1 = .ok (.invokestatic 29, 3) := by decide +kernel
theorem dX1_isFitting_4 : decode cX1_isFitting 4 = .ok (.ifCond .ne 5, 3) := by decide +kernel
theorem dX1_isFitting_7 : decode cX1_isFitting 7 = .ok (.iconst 0, 1) := by decide +kernel
theorem dX1_isFitting_8 : decode cX1_isFitting 8 = .ok (.ireturn, 1) := by decide +kernel
theorem dX1_isFitting_9 : decode cX1_isFitting 9 = .ok (.iconst 0, 1) := by decide +kernel
theorem dX1_isFitting_10 : decode cX1_isFitting 10 = .ok (.istore_n 2, 1) := by decide +kernel
theorem dX1_isFitting_11 : decode cX1_isFitting 11 = .ok (.iload_n 2, 1) := by decide +kernel
theorem dX1_isFitting_12 : decode cX1_isFitting 12 = .ok (.aload_n 0, 1) := by decide +kernel
theorem dX1_isFitting_13 : decode cX1_isFitting 13 = .ok (.getfield 33, 3) := by decide +kernel
theorem dX1_isFitting_16 : decode cX1_isFitting 16 = .ok (.if_icmp .ge 30, 3) := by decide +kernel
theorem dX1_isFitting_19 : decode cX1_isFitting 19 = .ok (.iload_n 1, 1) := by decide +kernel
theorem dX1_isFitting_20 : decode cX1_isFitting 20 = .ok (.aload_n 0, 1) := by decide +kernel
theorem dX1_isFitting_21 : decode cX1_isFitting 21 = .ok (.getfield 39, 3) := by decide +kernel
theorem dX1_isFitting_24 : decode cX1_isFitting 24 = .ok (.iload_n 2, 1) := by decide +kernel
theorem dX1_isFitting_25 : decode cX1_isFitting 25 = .ok (.iaload, 1) := by decide +kernel
theorem dX1_isFitting_26 : decode cX1_isFitting 26 = .ok (.invokestatic 42, 3) := by decide +kernel
theorem dX1_isFitting_29 : decode cX1_isFitting 29 = .ok (.aload_n 0, 1) := by decide +kernel
theorem dX1_isFitting_30 : decode cX1_isFitting 30 = .ok (.getfield 45, 3) := by decide +kernel
theorem dX1_isFitting_33 : decode cX1_isFitting 33 = .ok (.iload_n 2, 1) := by decide +kernel
theorem dX1_isFitting_34 : decode cX1_isFitting 34 = .ok (.iaload, 1) := by decide +kernel
theorem dX1_isFitting_35 : decode cX1_isFitting 35 = .ok (.if_icmp .eq 5, 3) := by decide +kernel
theorem dX1_isFitting_38 : decode cX1_isFitting 38 = .ok (.iconst 0, 1) := by decide +kernel
theorem dX1_isFitting_39 : decode cX1_isFitting 39 = .ok (.ireturn, 1) := by decide +kernel
theorem dX1_isFitting_40 : decode cX1_isFitting 40 = .ok (.iinc 2 1, 3) := by decide +kernel
theorem dX1_isFitting_43 : decode cX1_isFitting 43 = .ok (.goto (-32), 3) := by decide +kernel
theorem dX1_isFitting_46 : decode cX1_isFitting 46 = .ok (.iconst 1, 1) := by decide +kernel
theorem dX1_isFitting_47 : decode cX1_isFitting 47 = .ok (.ireturn, 1) := by decide +kernel
set_option maxRecDepth 20000 in
theorem ggX1_countFitting_X1_isFitting : GoodIn wsX1_countFitting wsX1_isFitting := goodIn_r _ [4, 5, 6, 7, 8, 9, 3, 10, 11, 12, 13, 14, 15, 16, 17, 18, 19, 20, 21, 22, 23, 24, 25, 26] (by decide +kernel) (by decide +kernel)
set_option maxRecDepth 20000 in
theorem gX1_countFitting_X1_isFitting : GoodIn wsX1_countFitting (va_wsS RX1 48 yX1_isFitting wsX1_isFitting) := goodIn_app (goodIn_of _ (by decide +kernel)) ggX1_countFitting_X1_isFitting
theorem dX1_countFitting_0 : decode cX1_countFitting 0 = .ok (.iconst 0, 1) := by decide +kernel
theorem dX1_countFitting_1 : decode cX1_countFitting 1 = .ok (.istore_n 2, 1) := by decide +kernel
theorem dX1_countFitting_2 : decode cX1_countFitting 2 = .ok (.bipush 11, 2) := by decide +kernel
theorem dX1_countFitting_4 : decode cX1_countFitting 4 = .ok (.istore_n 3, 1) := by decide +kernel
theorem dX1_countFitting_5 : decode cX1_countFitting 5 = .ok (.iload_n 3, 1) := by decide +kernel
theorem dX1_countFitting_6 : decode cX1_countFitting 6 = .ok (.sipush 993, 3) := by decide +kernel
theorem dX1_countFitting_9 : decode cX1_countFitting 9 = .ok (.if_icmp .gt 20, 3) := by decide +kernel
theorem dX1_countFitting_12 : decode cX1_countFitting 12 = .ok (.aload_n 1, 1) := by decide +kernel
theorem dX1_countFitting_13 : decode cX1_countFitting 13 = .ok (.iload_n 3, 1) := by decide +kernel
theorem dX1_countFitting_14 : decode cX1_countFitting 14 = .ok (.invokestatic 48, 3) := by decide +kernel
theorem dX1_countFitting_17 : decode cX1_countFitting 17 = .ok (.ifCond .eq 6, 3) := by decide +kernel
theorem dX1_countFitting_20 : decode cX1_countFitting 20 = .ok (.iinc 2 1, 3) := by decide +kernel
theorem dX1_countFitting_23 : decode cX1_countFitting 23 = .ok (.iinc 3 1, 3) := by decide +kernel
theorem dX1_countFitting_26 : decode cX1_countFitting 26 = .ok (.goto (-21), 3) := by decide +kernel
theorem dX1_countFitting_29 : decode cX1_countFitting 29 = .ok (.iload_n 2, 1) := by decide +kernel
theorem dX1_countFitting_30 : decode cX1_countFitting 30 = .ok (.ireturn, 1) := by decide +kernel
set_option maxRecDepth 20000 in
theorem ggX1_fitting_X1_isFitting : GoodIn wsX1_fitting wsX1_isFitting := goodIn_r _ [4, 5, 6, 7, 8, 9, 3, 10, 11, 12, 13, 14, 15, 16, 17, 18, 19, 20, 21, 22, 23, 24, 25, 26] (by decide +kernel) (by decide +kernel)
set_option maxRecDepth 20000 in
theorem gX1_fitting_X1_isFitting : GoodIn wsX1_fitting (va_wsS RX1 48 yX1_isFitting wsX1_isFitting) := goodIn_app (goodIn_of _ (by decide +kernel)) ggX1_fitting_X1_isFitting
theorem dX1_fitting_0 : decode cX1_fitting 0 = .ok (.iconst 0, 1) := by decide +kernel
theorem dX1_fitting_1 : decode cX1_fitting 1 = .ok (.istore_n 3, 1) := by decide +kernel
theorem dX1_fitting_2 : decode cX1_fitting 2 = .ok (.bipush 11, 2) := by decide +kernel
theorem dX1_fitting_4 : decode cX1_fitting 4 = .ok (.istore 4, 2) := by decide +kernel
theorem dX1_fitting_6 : decode cX1_fitting 6 = .ok (.iload 4, 2) := by decide +kernel
theorem dX1_fitting_8 : decode cX1_fitting 8 = .ok (.sipush 993, 3) := by decide +kernel
theorem dX1_fitting_11 : decode cX1_fitting 11 = .ok (.if_icmp .gt 32, 3) := by decide +kernel
theorem dX1_fitting_14 : decode cX1_fitting 14 = .ok (.aload_n 1, 1) := by decide +kernel
theorem dX1_fitting_15 : decode cX1_fitting 15 = .ok (.iload 4, 2) := by decide +kernel
theorem dX1_fitting_17 : decode cX1_fitting 17 = .ok (.invokestatic 48, 3) := by decide +kernel
theorem dX1_fitting_20 : decode cX1_fitting 20 = .ok (.ifCond .ne 6, 3) := by decide +kernel
theorem dX1_fitting_23 : decode cX1_fitting 23 = .ok (.goto 14, 3) := by decide +kernel
theorem dX1_fitting_26 : decode cX1_fitting 26 = .ok (.iload_n 3, 1) := by decide +kernel
theorem dX1_fitting_27 : decode cX1_fitting 27 = .ok (.iload_n 2, 1) := by decide +kernel
theorem dX1_fitting_28 : decode cX1_fitting 28 = .ok (.if_icmp .ne 6, 3) := by decide +kernel
theorem dX1_fitting_31 : decode cX1_fitting 31 = .ok (.iload 4, 2) := by decide +kernel
theorem dX1_fitting_33 : decode cX1_fitting 33 = .ok (.ireturn, 1) := by decide +kernel
theorem dX1_fitting_34 : decode cX1_fitting 34 = .ok (.iinc 3 1, 3) := by decide +kernel
theorem dX1_fitting_37 : decode cX1_fitting 37 = .ok (.iinc 4 1, 3) := by decide +kernel
theorem dX1_fitting_40 : decode cX1_fitting 40 = .ok (.goto (-34), 3) := by decide +kernel
theorem dX1_fitting_43 : decode cX1_fitting 43 = .ok (.bipush (-6), 2) := by decide +kernel
theorem dX1_fitting_45 : decode cX1_fitting 45 = .ok (.ireturn, 1) := by decide +kernel
set_option maxRecDepth 20000 in
theorem ggX1_chooseChild_X1_mostAlike : GoodIn wsX1_chooseChild wsX1_mostAlike := goodIn_r _ [7, 8, 9, 10, 11, 12, 13, 14, 6, 15, 16, 17, 18, 19, 20, 21, 22, 23, 24, 25, 26, 27, 28, 29, 30, 31, 32, 33, 34, 35, 36] (by decide +kernel) (by decide +kernel)
set_option maxRecDepth 20000 in
theorem gX1_chooseChild_X1_mostAlike : GoodIn wsX1_chooseChild (wsV RX1 58 RX1 yX1_mostAlike wsX1_mostAlike) := goodIn_app (goodIn_of _ (by decide +kernel)) ggX1_chooseChild_X1_mostAlike
theorem dX1_chooseChild_0 : decode cX1_chooseChild 0 = .ok (.aload_n 0, 1) := by decide +kernel
theorem dX1_chooseChild_1 : decode cX1_chooseChild 1 = .ok (.bipush (-6), 2) := by decide +kernel
theorem dX1_chooseChild_3 : decode cX1_chooseChild 3 = .ok (.putfield 52, 3) := by decide +kernel
theorem dX1_chooseChild_6 : decode cX1_chooseChild 6 = .ok (.aload_n 0, 1) := by decide +kernel
theorem dX1_chooseChild_7 : decode cX1_chooseChild 7 = .ok (.bipush (-6), 2) := by decide +kernel
theorem dX1_chooseChild_9 : decode cX1_chooseChild 9 = .ok (.putfield 55, 3) := by decide +kernel
theorem dX1_chooseChild_12 : decode cX1_chooseChild 12 = .ok (.iconst 0, 1) := by decide +kernel
theorem dX1_chooseChild_13 : decode cX1_chooseChild 13 = .ok (.istore_n 2, 1) := by decide +kernel
theorem dX1_chooseChild_14 : decode cX1_chooseChild 14 = .ok (.iload_n 2, 1) := by decide +kernel
theorem dX1_chooseChild_15 : decode cX1_chooseChild 15 = .ok (.bipush 10, 2) := by decide +kernel
theorem dX1_chooseChild_17 : decode cX1_chooseChild 17 = .ok (.if_icmp .ge 43, 3) := by decide +kernel
theorem dX1_chooseChild_20 : decode cX1_chooseChild 20 = .ok (.aload_n 0, 1) := by decide +kernel
theorem dX1_chooseChild_21 : decode cX1_chooseChild 21 = .ok (.aload_n 1, 1) := by decide +kernel
theorem dX1_chooseChild_22 : decode cX1_chooseChild 22 = .ok (.iload_n 2, 1) := by decide +kernel
theorem dX1_chooseChild_23 : decode cX1_chooseChild 23 = .ok (.invokevirtual 58, 3) := by decide +kernel
theorem dX1_chooseChild_26 : decode cX1_chooseChild 26 = .ok (.istore_n 3, 1) := by decide +kernel
theorem dX1_chooseChild_27 : decode cX1_chooseChild 27 = .ok (.aload_n 0, 1) := by decide +kernel
theorem dX1_chooseChild_28 : decode cX1_chooseChild 28 = .ok (.getfield 52, 3) := by decide +kernel
theorem dX1_chooseChild_31 : decode cX1_chooseChild 31 = .ok (.bipush (-6), 2) := by decide +kernel
theorem dX1_chooseChild_33 : decode cX1_chooseChild 33 = .ok (.if_icmp .eq 11, 3) := by decide +kernel
theorem dX1_chooseChild_36 : decode cX1_chooseChild 36 = .ok (.iload_n 3, 1) := by decide +kernel
theorem dX1_chooseChild_37 : decode cX1_chooseChild 37 = .ok (.aload_n 0, 1) := by decide +kernel
theorem dX1_chooseChild_38 : decode cX1_chooseChild 38 = .ok (.getfield 55, 3) := by decide +kernel
theorem dX1_chooseChild_41 : decode cX1_chooseChild 41 = .ok (.if_icmp .ge 13, 3) := by decide +kernel
theorem dX1_chooseChild_44 : decode cX1_chooseChild 44 = .ok (.aload_n 0, 1) := by decide +kernel
theorem dX1_chooseChild_45 : decode cX1_chooseChild 45 = .ok (.iload_n 2, 1) := by decide +kernel
theorem dX1_chooseChild_46 : decode cX1_chooseChild 46 = .ok (.putfield 52, 3) := by decide +kernel
theorem dX1_chooseChild_49 : decode cX1_chooseChild 49 = .ok (.aload_n 0, 1) := by decide +kernel
theorem dX1_chooseChild_50 : decode cX1_chooseChild 50 = .ok (.iload_n 3, 1) := by decide +kernel
theorem dX1_chooseChild_51 : decode cX1_chooseChild 51 = .ok (.putfield 55, 3) := by decide +kernel
theorem dX1_chooseChild_54 : decode cX1_chooseChild 54 = .ok (.iinc 2 1, 3) := by decide +kernel
theorem dX1_chooseChild_57 : decode cX1_chooseChild 57 = .ok (.goto (-43), 3) := by decide +kernel
theorem dX1_chooseChild_60 : decode cX1_chooseChild 60 = .ok (.return_, 1) := by decide +kernel
set_option maxRecDepth 20000 in
theorem ggX1_mostAlike_X1_isFitting : GoodIn wsX1_mostAlike wsX1_isFitting := goodIn_r _ [9, 10, 11, 12, 13, 14, 8, 15, 16, 17, 18, 19, 20, 21, 22, 23, 4, 24, 2, 3, 5, 28, 29, 30] (by decide +kernel) (by decide +kernel)
set_option maxRecDepth 20000 in
theorem gX1_mostAlike_X1_isFitting : GoodIn wsX1_mostAlike (va_wsS RX1 48 yX1_isFitting wsX1_isFitting) := goodIn_app (goodIn_of _ (by decide +kernel)) ggX1_mostAlike_X1_isFitting
set_option maxRecDepth 20000 in
theorem ggX1_mostAlike_X1_feltBy : GoodIn wsX1_mostAlike wsX1_feltBy := goodIn_r _ [21, 22, 23, 4, 24, 2, 3, 5] (by decide +kernel) (by decide +kernel)
set_option maxRecDepth 20000 in
theorem gX1_mostAlike_X1_feltBy : GoodIn wsX1_mostAlike (va_wsS RX1 42 yX1_feltBy wsX1_feltBy) := goodIn_app (goodIn_of _ (by decide +kernel)) ggX1_mostAlike_X1_feltBy
set_option maxRecDepth 20000 in
theorem ggX1_mostAlike_X7_isWithin : GoodIn wsX1_mostAlike wsX7_isWithin := goodIn_r _ [18] (by decide +kernel) (by decide +kernel)
set_option maxRecDepth 20000 in
theorem gX1_mostAlike_X7_isWithin_n15 : GoodIn wsX1_mostAlike (wsX7_isWithin) := ggX1_mostAlike_X7_isWithin
theorem dX1_mostAlike_0 : decode cX1_mostAlike 0 = .ok (.iconst 0, 1) := by decide +kernel
theorem dX1_mostAlike_1 : decode cX1_mostAlike 1 = .ok (.istore_n 3, 1) := by decide +kernel
theorem dX1_mostAlike_2 : decode cX1_mostAlike 2 = .ok (.iload_n 3, 1) := by decide +kernel
theorem dX1_mostAlike_3 : decode cX1_mostAlike 3 = .ok (.bipush 9, 2) := by decide +kernel
theorem dX1_mostAlike_5 : decode cX1_mostAlike 5 = .ok (.if_icmp .gt 16, 3) := by decide +kernel
theorem dX1_mostAlike_8 : decode cX1_mostAlike 8 = .ok (.aload_n 0, 1) := by decide +kernel
theorem dX1_mostAlike_9 : decode cX1_mostAlike 9 = .ok (.getfield 9, 3) := by decide +kernel
theorem dX1_mostAlike_12 : decode cX1_mostAlike 12 = .ok (.iload_n 3, 1) := by decide +kernel
theorem dX1_mostAlike_13 : decode cX1_mostAlike 13 = .ok (.iconst 0, 1) := by decide +kernel
theorem dX1_mostAlike_14 : decode cX1_mostAlike 14 = .ok (.iastore, 1) := by decide +kernel
theorem dX1_mostAlike_15 : decode cX1_mostAlike 15 = .ok (.iinc 3 1, 3) := by decide +kernel
theorem dX1_mostAlike_18 : decode cX1_mostAlike 18 = .ok (.goto (-16), 3) := by decide +kernel
theorem dX1_mostAlike_21 : decode cX1_mostAlike 21 = .ok (.iconst 0, 1) := by decide +kernel
theorem dX1_mostAlike_22 : decode cX1_mostAlike 22 = .ok (.istore_n 3, 1) := by decide +kernel
theorem dX1_mostAlike_23 : decode cX1_mostAlike 23 = .ok (.bipush 11, 2) := by decide +kernel
theorem dX1_mostAlike_25 : decode cX1_mostAlike 25 = .ok (.istore 4, 2) := by decide +kernel
theorem dX1_mostAlike_27 : decode cX1_mostAlike 27 = .ok (.iload 4, 2) := by decide +kernel
theorem dX1_mostAlike_29 : decode cX1_mostAlike 29 = .ok (.sipush 993, 3) := by decide +kernel
theorem dX1_mostAlike_32 : decode cX1_mostAlike 32 = .ok (.if_icmp .gt 66, 3) := by decide +kernel
theorem dX1_mostAlike_35 : decode cX1_mostAlike 35 = .ok (.aload_n 1, 1) := by decide +kernel
theorem dX1_mostAlike_36 : decode cX1_mostAlike 36 = .ok (.iload 4, 2) := by decide +kernel
theorem dX1_mostAlike_38 : decode cX1_mostAlike 38 = .ok (.invokestatic 48, 3) := by decide +kernel
theorem dX1_mostAlike_41 : decode cX1_mostAlike 41 = .ok (.ifCond .ne 6, 3) := by decide +kernel
theorem dX1_mostAlike_44 : decode cX1_mostAlike 44 = .ok (.goto 48, 3) := by decide +kernel
theorem dX1_mostAlike_47 : decode cX1_mostAlike 47 = .ok (.iload 4, 2) := by decide +kernel
theorem dX1_mostAlike_49 : decode cX1_mostAlike 49 = .ok (.iload_n 2, 1) := by decide +kernel
theorem dX1_mostAlike_50 : decode cX1_mostAlike 50 = .ok (.invokestatic 42, 3) := by decide +kernel
theorem dX1_mostAlike_53 : decode cX1_mostAlike 53 = .ok (.istore 5, 2) := by decide +kernel
theorem dX1_mostAlike_55 : decode cX1_mostAlike 55 = .ok (.iload 5, 2) := by decide +kernel
theorem dX1_mostAlike_57 : decode cX1_mostAlike 57 = .ok (.iconst 0, 1) := by decide +kernel
theorem dX1_mostAlike_58 : decode cX1_mostAlike 58 = .ok (.bipush 9, 2) := by decide +kernel
theorem dX1_mostAlike_60 : decode cX1_mostAlike 60 = .ok (.invokestatic 15, 3) := by decide +kernel
theorem dX1_mostAlike_63 : decode cX1_mostAlike 63 = .ok (.ifCond .ne 6, 3) := by decide +kernel
theorem dX1_mostAlike_66 : decode cX1_mostAlike 66 = .ok (.goto 26, 3) := by decide +kernel
theorem dX1_mostAlike_69 : decode cX1_mostAlike 69 = .ok (.aload_n 0, 1) := by decide +kernel
theorem dX1_mostAlike_70 : decode cX1_mostAlike 70 = .ok (.getfield 9, 3) := by decide +kernel
theorem dX1_mostAlike_73 : decode cX1_mostAlike 73 = .ok (.iload 5, 2) := by decide +kernel
theorem dX1_mostAlike_75 : decode cX1_mostAlike 75 = .ok (.dup2, 1) := by decide +kernel
theorem dX1_mostAlike_76 : decode cX1_mostAlike 76 = .ok (.iaload, 1) := by decide +kernel
theorem dX1_mostAlike_77 : decode cX1_mostAlike 77 = .ok (.iconst 1, 1) := by decide +kernel
theorem dX1_mostAlike_78 : decode cX1_mostAlike 78 = .ok (.iadd, 1) := by decide +kernel
theorem dX1_mostAlike_79 : decode cX1_mostAlike 79 = .ok (.iastore, 1) := by decide +kernel
theorem dX1_mostAlike_80 : decode cX1_mostAlike 80 = .ok (.iload_n 3, 1) := by decide +kernel
theorem dX1_mostAlike_81 : decode cX1_mostAlike 81 = .ok (.aload_n 0, 1) := by decide +kernel
theorem dX1_mostAlike_82 : decode cX1_mostAlike 82 = .ok (.getfield 9, 3) := by decide +kernel
theorem dX1_mostAlike_85 : decode cX1_mostAlike 85 = .ok (.iload 5, 2) := by decide +kernel
theorem dX1_mostAlike_87 : decode cX1_mostAlike 87 = .ok (.iaload, 1) := by decide +kernel
theorem dX1_mostAlike_88 : decode cX1_mostAlike 88 = .ok (.invokestatic 25, 3) := by decide +kernel
theorem dX1_mostAlike_91 : decode cX1_mostAlike 91 = .ok (.istore_n 3, 1) := by decide +kernel
theorem dX1_mostAlike_92 : decode cX1_mostAlike 92 = .ok (.iinc 4 1, 3) := by decide +kernel
theorem dX1_mostAlike_95 : decode cX1_mostAlike 95 = .ok (.goto (-68), 3) := by decide +kernel
theorem dX1_mostAlike_98 : decode cX1_mostAlike 98 = .ok (.iload_n 3, 1) := by decide +kernel
theorem dX1_mostAlike_99 : decode cX1_mostAlike 99 = .ok (.ireturn, 1) := by decide +kernel
set_option maxRecDepth 20000 in
theorem ggX2_init_X5_init : GoodIn wsX2_init wsX5_init := goodIn_r _ [14, 15, 2, 3, 16, 17, 18, 19, 20, 21, 28, 29, 30, 31, 32, 33, 34] (by decide +kernel) (by decide +kernel)
set_option maxRecDepth 20000 in
theorem gX2_init_X5_init : GoodIn wsX2_init (wsX5_init) := ggX2_init_X5_init
set_option maxRecDepth 20000 in
theorem ggX2_init_X6_init : GoodIn wsX2_init wsX6_init := goodIn_r _ [24, 25, 2, 3, 16, 26, 27, 38, 39, 40] (by decide +kernel) (by decide +kernel)
set_option maxRecDepth 20000 in
theorem gX2_init_X6_init : GoodIn wsX2_init (wsX6_init) := ggX2_init_X6_init
theorem dX2_init_0 : decode cX2_init 0 = .ok (.aload_n 0, 1) := by decide +kernel
theorem dX2_init_1 : decode cX2_init 1 = .ok (.invokespecial 1, 3) := by decide +kernel
theorem dX2_init_4 : decode cX2_init 4 = .ok (.aload_n 0, 1) := by decide +kernel
theorem dX2_init_5 : decode cX2_init 5 = .ok (.new 7, 3) := by decide +kernel
theorem dX2_init_8 : decode cX2_init 8 = .ok (.dup, 1) := by decide +kernel
theorem dX2_init_9 : decode cX2_init 9 = .ok (.invokespecial 9, 3) := by decide +kernel
theorem dX2_init_12 : decode cX2_init 12 = .ok (.putfield 10, 3) := by decide +kernel
theorem dX2_init_15 : decode cX2_init 15 = .ok (.aload_n 0, 1) := by decide +kernel
theorem dX2_init_16 : decode cX2_init 16 = .ok (.new 16, 3) := by decide +kernel
theorem dX2_init_19 : decode cX2_init 19 = .ok (.dup, 1) := by decide +kernel
theorem dX2_init_20 : decode cX2_init 20 = .ok (.invokespecial 18, 3) := by decide +kernel
theorem dX2_init_23 : decode cX2_init 23 = .ok (.putfield 19, 3) := by decide +kernel
theorem dX2_init_26 : decode cX2_init 26 = .ok (.return_, 1) := by decide +kernel
set_option maxRecDepth 20000 in
theorem ggX2_keep_X5_copyFrom : GoodIn wsX2_keep wsX5_copyFrom := goodIn_r _ [8, 9, 10, 11, 12, 13, 14, 26, 27, 28, 29, 30, 31, 32] (by decide +kernel) (by decide +kernel)
set_option maxRecDepth 20000 in
theorem gX2_keep_X5_copyFrom : GoodIn wsX2_keep (wsV RX2 23 RX5 yX5_copyFrom wsX5_copyFrom) := goodIn_app (goodIn_of _ (by decide +kernel)) ggX2_keep_X5_copyFrom
set_option maxRecDepth 20000 in
theorem ggX2_keep_X6_copyFrom : GoodIn wsX2_keep wsX6_copyFrom := goodIn_r _ [19, 20, 21, 22, 33, 34, 35] (by decide +kernel) (by decide +kernel)
set_option maxRecDepth 20000 in
theorem gX2_keep_X6_copyFrom : GoodIn wsX2_keep (wsV RX2 27 RX6 yX6_copyFrom wsX6_copyFrom) := goodIn_app (goodIn_of _ (by decide +kernel)) ggX2_keep_X6_copyFrom
theorem dX2_keep_0 : decode cX2_keep 0 = .ok (.aload_n 0, 1) := by decide +kernel
theorem dX2_keep_1 : decode cX2_keep 1 = .ok (.getfield 10, 3) := by decide +kernel
theorem dX2_keep_4 : decode cX2_keep 4 = .ok (.aload_n 1, 1) := by decide +kernel
theorem dX2_keep_5 : decode cX2_keep 5 = .ok (.invokevirtual 23, 3) := by decide +kernel
theorem dX2_keep_8 : decode cX2_keep 8 = .ok (.aload_n 0, 1) := by decide +kernel
theorem dX2_keep_9 : decode cX2_keep 9 = .ok (.getfield 19, 3) := by decide +kernel
theorem dX2_keep_12 : decode cX2_keep 12 = .ok (.aload_n 2, 1) := by decide +kernel
theorem dX2_keep_13 : decode cX2_keep 13 = .ok (.invokevirtual 27, 3) := by decide +kernel
theorem dX2_keep_16 : decode cX2_keep 16 = .ok (.aload_n 0, 1) := by decide +kernel
theorem dX2_keep_17 : decode cX2_keep 17 = .ok (.iconst 1, 1) := by decide +kernel
theorem dX2_keep_18 : decode cX2_keep 18 = .ok (.putfield 30, 3) := by decide +kernel
theorem dX2_keep_21 : decode cX2_keep 21 = .ok (.return_, 1) := by decide +kernel
set_option maxRecDepth 20000 in
theorem ggX2_giveBack_X5_copyFrom : GoodIn wsX2_giveBack wsX5_copyFrom := goodIn_r _ [7, 8, 9, 10, 11, 12, 13, 25, 26, 27, 28, 29, 30, 31] (by decide +kernel) (by decide +kernel)
set_option maxRecDepth 20000 in
theorem gX2_giveBack_X5_copyFrom : GoodIn wsX2_giveBack (wsV RX2 23 RX5 yX5_copyFrom wsX5_copyFrom) := goodIn_app (goodIn_of _ (by decide +kernel)) ggX2_giveBack_X5_copyFrom
set_option maxRecDepth 20000 in
theorem ggX2_giveBack_X6_copyFrom : GoodIn wsX2_giveBack wsX6_copyFrom := goodIn_r _ [18, 19, 20, 21, 32, 33, 34] (by decide +kernel) (by decide +kernel)
set_option maxRecDepth 20000 in
theorem gX2_giveBack_X6_copyFrom : GoodIn wsX2_giveBack (wsV RX2 27 RX6 yX6_copyFrom wsX6_copyFrom) := goodIn_app (goodIn_of _ (by decide +kernel)) ggX2_giveBack_X6_copyFrom
theorem dX2_giveBack_0 : decode cX2_giveBack 0 = .ok (.aload_n 1, 1) := by decide +kernel
theorem dX2_giveBack_1 : decode cX2_giveBack 1 = .ok (.aload_n 0, 1) := by decide +kernel
theorem dX2_giveBack_2 : decode cX2_giveBack 2 = .ok (.getfield 10, 3) := by decide +kernel
theorem dX2_giveBack_5 : decode cX2_giveBack 5 = .ok (.invokevirtual 23, 3) := by decide +kernel
theorem dX2_giveBack_8 : decode cX2_giveBack 8 = .ok (.aload_n 2, 1) := by decide +kernel
theorem dX2_giveBack_9 : decode cX2_giveBack 9 = .ok (.aload_n 0, 1) := by decide +kernel
theorem dX2_giveBack_10 : decode cX2_giveBack 10 = .ok (.getfield 19, 3) := by decide +kernel
theorem dX2_giveBack_13 : decode cX2_giveBack 13 = .ok (.invokevirtual 27, 3) := by decide +kernel
theorem dX2_giveBack_16 : decode cX2_giveBack 16 = .ok (.return_, 1) := by decide +kernel
theorem dX3_init_0 : decode cX3_init 0 = .ok (.aload_n 0, 1) := by decide +kernel
theorem dX3_init_1 : decode cX3_init 1 = .ok (.invokespecial 3, 3) := by decide +kernel
theorem dX3_init_4 : decode cX3_init 4 = .ok (.aload_n 0, 1) := by decide +kernel
theorem dX3_init_5 : decode cX3_init 5 = .ok (.bipush 60, 2) := by decide +kernel
theorem dX3_init_7 : decode cX3_init 7 = .ok (.newarray .int, 2) := by decide +kernel
theorem dX3_init_9 : decode cX3_init 9 = .ok (.putfield 9, 3) := by decide +kernel
theorem dX3_init_12 : decode cX3_init 12 = .ok (.return_, 1) := by decide +kernel
theorem dX3_add_0 : decode cX3_add 0 = .ok (.aload_n 0, 1) := by decide +kernel
theorem dX3_add_1 : decode cX3_add 1 = .ok (.getfield 15, 3) := by decide +kernel
theorem dX3_add_4 : decode cX3_add 4 = .ok (.bipush 60, 2) := by decide +kernel
theorem dX3_add_6 : decode cX3_add 6 = .ok (.if_icmp .lt 5, 3) := by decide +kernel
theorem dX3_add_9 : decode cX3_add 9 = .ok (.iconst 0, 1) := by decide +kernel
theorem dX3_add_10 : decode cX3_add 10 = .ok (.ireturn, 1) := by decide +kernel
theorem dX3_add_11 : decode cX3_add 11 = .ok (.aload_n 0, 1) := by decide +kernel
theorem dX3_add_12 : decode cX3_add 12 = .ok (.getfield 9, 3) := by decide +kernel
theorem dX3_add_15 : decode cX3_add 15 = .ok (.aload_n 0, 1) := by decide +kernel
theorem dX3_add_16 : decode cX3_add 16 = .ok (.getfield 15, 3) := by decide +kernel
theorem dX3_add_19 : decode cX3_add 19 = .ok (.iload_n 1, 1) := by decide +kernel
theorem dX3_add_20 : decode cX3_add 20 = .ok (.iastore, 1) := by decide +kernel
theorem dX3_add_21 : decode cX3_add 21 = .ok (.aload_n 0, 1) := by decide +kernel
theorem dX3_add_22 : decode cX3_add 22 = .ok (.dup, 1) := by decide +kernel
theorem dX3_add_23 : decode cX3_add 23 = .ok (.getfield 15, 3) := by decide +kernel
theorem dX3_add_26 : decode cX3_add 26 = .ok (.iconst 1, 1) := by decide +kernel
theorem dX3_add_27 : decode cX3_add 27 = .ok (.iadd, 1) := by decide +kernel
theorem dX3_add_28 : decode cX3_add 28 = .ok (.putfield 15, 3) := by decide +kernel
theorem dX3_add_31 : decode cX3_add 31 = .ok (.iconst 1, 1) := by decide +kernel
theorem dX3_add_32 : decode cX3_add 32 = .ok (.ireturn, 1) := by decide +kernel
theorem dX3_clear_0 : decode cX3_clear 0 = .ok (.aload_n 0, 1) := by decide +kernel
theorem dX3_clear_1 : decode cX3_clear 1 = .ok (.iconst 0, 1) := by decide +kernel
theorem dX3_clear_2 : decode cX3_clear 2 = .ok (.putfield 15, 3) := by decide +kernel
theorem dX3_clear_5 : decode cX3_clear 5 = .ok (.return_, 1) := by decide +kernel
set_option maxRecDepth 20000 in
theorem ggX3_faultPlace_X3_awaitedAfter : GoodIn wsX3_faultPlace wsX3_awaitedAfter := goodIn_r _ [6, 7, 8, 9] (by decide +kernel) (by decide +kernel)
set_option maxRecDepth 20000 in
theorem gX3_faultPlace_X3_awaitedAfter : GoodIn wsX3_faultPlace (va_wsS RX3 19 yX3_awaitedAfter wsX3_awaitedAfter) := goodIn_app (goodIn_of _ (by decide +kernel)) ggX3_faultPlace_X3_awaitedAfter
theorem dX3_faultPlace_0 : decode cX3_faultPlace 0 = .ok (.iconst 0, 1) := by decide +kernel
theorem dX3_faultPlace_1 : decode cX3_faultPlace 1 = .ok (.istore_n 1, 1) := by decide +kernel
theorem dX3_faultPlace_2 : decode cX3_faultPlace 2 = .ok (.iconst 0, 1) := by decide +kernel
theorem dX3_faultPlace_3 : decode cX3_faultPlace 3 = .ok (.istore_n 2, 1) := by decide +kernel
theorem dX3_faultPlace_4 : decode cX3_faultPlace 4 = .ok (.iload_n 2, 1) := by decide +kernel
theorem dX3_faultPlace_5 : decode cX3_faultPlace 5 = .ok (.aload_n 0, 1) := by decide +kernel
theorem dX3_faultPlace_6 : decode cX3_faultPlace 6 = .ok (.getfield 15, 3) := by decide +kernel
theorem dX3_faultPlace_9 : decode cX3_faultPlace 9 = .ok (.if_icmp .ge 27, 3) := by decide +kernel
theorem dX3_faultPlace_12 : decode cX3_faultPlace 12 = .ok (.iload_n 1, 1) := by decide +kernel
theorem dX3_faultPlace_13 : decode cX3_faultPlace 13 = .ok (.aload_n 0, 1) := by decide +kernel
theorem dX3_faultPlace_14 : decode cX3_faultPlace 14 = .ok (.getfield 9, 3) := by decide +kernel
theorem dX3_faultPlace_17 : decode cX3_faultPlace 17 = .ok (.iload_n 2, 1) := by decide +kernel
theorem dX3_faultPlace_18 : decode cX3_faultPlace 18 = .ok (.iaload, 1) := by decide +kernel
theorem dX3_faultPlace_19 : decode cX3_faultPlace 19 = .ok (.invokestatic 19, 3) := by decide +kernel
theorem dX3_faultPlace_22 : decode cX3_faultPlace 22 = .ok (.istore_n 1, 1) := by decide +kernel
theorem dX3_faultPlace_23 : decode cX3_faultPlace 23 = .ok (.iload_n 1, 1) := by decide +kernel
theorem dX3_faultPlace_24 : decode cX3_faultPlace 24 = .ok (.iconst 3, 1) := by decide +kernel
theorem dX3_faultPlace_25 : decode cX3_faultPlace 25 = .ok (.if_icmp .ne 5, 3) := by decide +kernel
theorem dX3_faultPlace_28 : decode cX3_faultPlace 28 = .ok (.iload_n 2, 1) := by decide +kernel
theorem dX3_faultPlace_29 : decode cX3_faultPlace 29 = .ok (.ireturn, 1) := by decide +kernel
theorem dX3_faultPlace_30 : decode cX3_faultPlace 30 = .ok (.iinc 2 1, 3) := by decide +kernel
theorem dX3_faultPlace_33 : decode cX3_faultPlace 33 = .ok (.goto (-29), 3) := by decide +kernel
theorem dX3_faultPlace_36 : decode cX3_faultPlace 36 = .ok (.iload_n 1, 1) := by decide +kernel
theorem dX3_faultPlace_37 : decode cX3_faultPlace 37 = .ok (.ifCond .ne 8, 3) := by decide +kernel
theorem dX3_faultPlace_40 : decode cX3_faultPlace 40 = .ok (.bipush (-6), 2) := by decide +kernel
theorem dX3_faultPlace_42 : decode cX3_faultPlace 42 = .ok (.goto 7, 3) := by decide +kernel
theorem dX3_faultPlace_45 : decode cX3_faultPlace 45 = .ok (.aload_n 0, 1) := by decide +kernel
theorem dX3_faultPlace_46 : decode cX3_faultPlace 46 = .ok (.getfield 15, 3) := by decide +kernel
theorem dX3_faultPlace_49 : decode cX3_faultPlace 49 = .ok (.ireturn, 1) := by decide +kernel
set_option maxRecDepth 20000 in
theorem ggX3_awaitedAfter_X7_isWithin : GoodIn wsX3_awaitedAfter wsX7_isWithin := goodIn_r _ [3] (by decide +kernel) (by decide +kernel)
set_option maxRecDepth 20000 in
theorem gX3_awaitedAfter_X7_isWithin_n23 : GoodIn wsX3_awaitedAfter (wsX7_isWithin) := ggX3_awaitedAfter_X7_isWithin
theorem dX3_awaitedAfter_0 : decode cX3_awaitedAfter 0 = .ok (.iload_n 0, 1) := by decide +kernel
theorem dX3_awaitedAfter_1 : decode cX3_awaitedAfter 1 = .ok (.ifCond .ne 28, 3) := by decide +kernel
theorem dX3_awaitedAfter_4 : decode cX3_awaitedAfter 4 = .ok (.iload_n 1, 1) := by decide +kernel
theorem dX3_awaitedAfter_5 : decode cX3_awaitedAfter 5 = .ok (.bipush 46, 2) := by decide +kernel
theorem dX3_awaitedAfter_7 : decode cX3_awaitedAfter 7 = .ok (.if_icmp .ne 5, 3) := by decide +kernel
theorem dX3_awaitedAfter_10 : decode cX3_awaitedAfter 10 = .ok (.iconst 0, 1) := by decide +kernel
theorem dX3_awaitedAfter_11 : decode cX3_awaitedAfter 11 = .ok (.ireturn, 1) := by decide +kernel
theorem dX3_awaitedAfter_12 : decode cX3_awaitedAfter 12 = .ok (.iload_n 1, 1) := by decide +kernel
theorem dX3_awaitedAfter_13 : decode cX3_awaitedAfter 13 = .ok (.bipush 65, 2) := by decide +kernel
theorem dX3_awaitedAfter_15 : decode cX3_awaitedAfter 15 = .ok (.bipush 74, 2) := by decide +kernel
theorem dX3_awaitedAfter_17 : decode cX3_awaitedAfter 17 = .ok (.invokestatic 23, 3) := by decide +kernel
theorem dX3_awaitedAfter_20 : decode cX3_awaitedAfter 20 = .ok (.ifCond .eq 7, 3) := by decide +kernel
theorem dX3_awaitedAfter_23 : decode cX3_awaitedAfter 23 = .ok (.iconst 1, 1) := by decide +kernel
theorem dX3_awaitedAfter_24 : decode cX3_awaitedAfter 24 = .ok (.goto 4, 3) := by decide +kernel
theorem dX3_awaitedAfter_27 : decode cX3_awaitedAfter 27 = .ok (.iconst 3, 1) := by decide +kernel
theorem dX3_awaitedAfter_28 : decode cX3_awaitedAfter 28 = .ok (.ireturn, 1) := by decide +kernel
theorem dX3_awaitedAfter_29 : decode cX3_awaitedAfter 29 = .ok (.iload_n 0, 1) := by decide +kernel
theorem dX3_awaitedAfter_30 : decode cX3_awaitedAfter 30 = .ok (.iconst 2, 1) := by decide +kernel
theorem dX3_awaitedAfter_31 : decode cX3_awaitedAfter 31 = .ok (.if_icmp .ne 20, 3) := by decide +kernel
theorem dX3_awaitedAfter_34 : decode cX3_awaitedAfter 34 = .ok (.iload_n 1, 1) := by decide +kernel
theorem dX3_awaitedAfter_35 : decode cX3_awaitedAfter 35 = .ok (.bipush 49, 2) := by decide +kernel
theorem dX3_awaitedAfter_37 : decode cX3_awaitedAfter 37 = .ok (.bipush 57, 2) := by decide +kernel
theorem dX3_awaitedAfter_39 : decode cX3_awaitedAfter 39 = .ok (.invokestatic 23, 3) := by decide +kernel
theorem dX3_awaitedAfter_42 : decode cX3_awaitedAfter 42 = .ok (.ifCond .eq 7, 3) := by decide +kernel
theorem dX3_awaitedAfter_45 : decode cX3_awaitedAfter 45 = .ok (.iconst 0, 1) := by decide +kernel
theorem dX3_awaitedAfter_46 : decode cX3_awaitedAfter 46 = .ok (.goto 4, 3) := by decide +kernel
theorem dX3_awaitedAfter_49 : decode cX3_awaitedAfter 49 = .ok (.iconst 3, 1) := by decide +kernel
theorem dX3_awaitedAfter_50 : decode cX3_awaitedAfter 50 = .ok (.ireturn, 1) := by decide +kernel
theorem dX3_awaitedAfter_51 : decode cX3_awaitedAfter 51 = .ok (.iload_n 1, 1) := by decide +kernel
theorem dX3_awaitedAfter_52 : decode cX3_awaitedAfter 52 = .ok (.bipush 62, 2) := by decide +kernel
theorem dX3_awaitedAfter_54 : decode cX3_awaitedAfter 54 = .ok (.if_icmp .eq 15, 3) := by decide +kernel
theorem dX3_awaitedAfter_57 : decode cX3_awaitedAfter 57 = .ok (.iload_n 1, 1) := by decide +kernel
theorem dX3_awaitedAfter_58 : decode cX3_awaitedAfter 58 = .ok (.bipush 60, 2) := by decide +kernel
theorem dX3_awaitedAfter_60 : decode cX3_awaitedAfter 60 = .ok (.if_icmp .eq 9, 3) := by decide +kernel
theorem dX3_awaitedAfter_63 : decode cX3_awaitedAfter 63 = .ok (.iload_n 1, 1) := by decide +kernel
theorem dX3_awaitedAfter_64 : decode cX3_awaitedAfter 64 = .ok (.bipush 33, 2) := by decide +kernel
theorem dX3_awaitedAfter_66 : decode cX3_awaitedAfter 66 = .ok (.if_icmp .ne 5, 3) := by decide +kernel
theorem dX3_awaitedAfter_69 : decode cX3_awaitedAfter 69 = .ok (.iconst 2, 1) := by decide +kernel
theorem dX3_awaitedAfter_70 : decode cX3_awaitedAfter 70 = .ok (.ireturn, 1) := by decide +kernel
theorem dX3_awaitedAfter_71 : decode cX3_awaitedAfter 71 = .ok (.iload_n 1, 1) := by decide +kernel
theorem dX3_awaitedAfter_72 : decode cX3_awaitedAfter 72 = .ok (.bipush 35, 2) := by decide +kernel
theorem dX3_awaitedAfter_74 : decode cX3_awaitedAfter 74 = .ok (.if_icmp .eq 15, 3) := by decide +kernel
theorem dX3_awaitedAfter_77 : decode cX3_awaitedAfter 77 = .ok (.iload_n 1, 1) := by decide +kernel
theorem dX3_awaitedAfter_78 : decode cX3_awaitedAfter 78 = .ok (.bipush 43, 2) := by decide +kernel
theorem dX3_awaitedAfter_80 : decode cX3_awaitedAfter 80 = .ok (.if_icmp .eq 9, 3) := by decide +kernel
theorem dX3_awaitedAfter_83 : decode cX3_awaitedAfter 83 = .ok (.iload_n 1, 1) := by decide +kernel
theorem dX3_awaitedAfter_84 : decode cX3_awaitedAfter 84 = .ok (.bipush 45, 2) := by decide +kernel
theorem dX3_awaitedAfter_86 : decode cX3_awaitedAfter 86 = .ok (.if_icmp .ne 7, 3) := by decide +kernel
theorem dX3_awaitedAfter_89 : decode cX3_awaitedAfter 89 = .ok (.iconst 0, 1) := by decide +kernel
theorem dX3_awaitedAfter_90 : decode cX3_awaitedAfter 90 = .ok (.goto 4, 3) := by decide +kernel
theorem dX3_awaitedAfter_93 : decode cX3_awaitedAfter 93 = .ok (.iconst 3, 1) := by decide +kernel
theorem dX3_awaitedAfter_94 : decode cX3_awaitedAfter 94 = .ok (.ireturn, 1) := by decide +kernel
theorem dX3_beginActs_0 : decode cX3_beginActs 0 = .ok (.aload_n 0, 1) := by decide +kernel
theorem dX3_beginActs_1 : decode cX3_beginActs 1 = .ok (.iconst 0, 1) := by decide +kernel
theorem dX3_beginActs_2 : decode cX3_beginActs 2 = .ok (.putfield 27, 3) := by decide +kernel
theorem dX3_beginActs_5 : decode cX3_beginActs 5 = .ok (.aload_n 0, 1) := by decide +kernel
theorem dX3_beginActs_6 : decode cX3_beginActs 6 = .ok (.iconst 0, 1) := by decide +kernel
theorem dX3_beginActs_7 : decode cX3_beginActs 7 = .ok (.putfield 30, 3) := by decide +kernel
theorem dX3_beginActs_10 : decode cX3_beginActs 10 = .ok (.aload_n 0, 1) := by decide +kernel
theorem dX3_beginActs_11 : decode cX3_beginActs 11 = .ok (.bipush 46, 2) := by decide +kernel
theorem dX3_beginActs_13 : decode cX3_beginActs 13 = .ok (.putfield 33, 3) := by decide +kernel
theorem dX3_beginActs_16 : decode cX3_beginActs 16 = .ok (.aload_n 0, 1) := by decide +kernel
theorem dX3_beginActs_17 : decode cX3_beginActs 17 = .ok (.iconst 0, 1) := by decide +kernel
theorem dX3_beginActs_18 : decode cX3_beginActs 18 = .ok (.putfield 36, 3) := by decide +kernel
theorem dX3_beginActs_21 : decode cX3_beginActs 21 = .ok (.return_, 1) := by decide +kernel
set_option maxRecDepth 20000 in
theorem ggX3_endsAct_X7_isWithin : GoodIn wsX3_endsAct wsX7_isWithin := goodIn_r _ [9] (by decide +kernel) (by decide +kernel)
set_option maxRecDepth 20000 in
theorem gX3_endsAct_X7_isWithin_n23 : GoodIn wsX3_endsAct (wsX7_isWithin) := ggX3_endsAct_X7_isWithin
set_option maxRecDepth 20000 in
theorem ggX3_endsAct_X3_awaitedAfter : GoodIn wsX3_endsAct wsX3_awaitedAfter := goodIn_r _ [13, 7, 8, 9] (by decide +kernel) (by decide +kernel)
set_option maxRecDepth 20000 in
theorem gX3_endsAct_X3_awaitedAfter : GoodIn wsX3_endsAct (va_wsS RX3 19 yX3_awaitedAfter wsX3_awaitedAfter) := goodIn_app (goodIn_of _ (by decide +kernel)) ggX3_endsAct_X3_awaitedAfter
theorem dX3_endsAct_0 : decode cX3_endsAct 0 = .ok (.iload_n 1, 1) := by decide +kernel
theorem dX3_endsAct_1 : decode cX3_endsAct 1 = .ok (.iconst 0, 1) := by decide +kernel
theorem dX3_endsAct_2 : decode cX3_endsAct 2 = .ok (.aload_n 0, 1) := by decide +kernel
theorem dX3_endsAct_3 : decode cX3_endsAct 3 = .ok (.getfield 15, 3) := by decide +kernel
theorem dX3_endsAct_6 : decode cX3_endsAct 6 = .ok (.iconst 1, 1) := by decide +kernel
theorem dX3_endsAct_7 : decode cX3_endsAct 7 = .ok (.isub, 1) := by decide +kernel
theorem dX3_endsAct_8 : decode cX3_endsAct 8 = .ok (.invokestatic 23, 3) := by decide +kernel
theorem dX3_endsAct_11 : decode cX3_endsAct 11 = .ok (.ifCond .ne 5, 3) := by decide +kernel
theorem dX3_endsAct_14 : decode cX3_endsAct 14 = .ok (.iconst 0, 1) := by decide +kernel
theorem dX3_endsAct_15 : decode cX3_endsAct 15 = .ok (.ireturn, 1) := by decide +kernel
theorem dX3_endsAct_16 : decode cX3_endsAct 16 = .ok (.aload_n 0, 1) := by decide +kernel
theorem dX3_endsAct_17 : decode cX3_endsAct 17 = .ok (.getfield 9, 3) := by decide +kernel
theorem dX3_endsAct_20 : decode cX3_endsAct 20 = .ok (.iload_n 1, 1) := by decide +kernel
theorem dX3_endsAct_21 : decode cX3_endsAct 21 = .ok (.iaload, 1) := by decide +kernel
theorem dX3_endsAct_22 : decode cX3_endsAct 22 = .ok (.istore_n 2, 1) := by decide +kernel
theorem dX3_endsAct_23 : decode cX3_endsAct 23 = .ok (.aload_n 0, 1) := by decide +kernel
theorem dX3_endsAct_24 : decode cX3_endsAct 24 = .ok (.getfield 27, 3) := by decide +kernel
theorem dX3_endsAct_27 : decode cX3_endsAct 27 = .ok (.ifCond .ne 15, 3) := by decide +kernel
theorem dX3_endsAct_30 : decode cX3_endsAct 30 = .ok (.iload_n 2, 1) := by decide +kernel
theorem dX3_endsAct_31 : decode cX3_endsAct 31 = .ok (.bipush 46, 2) := by decide +kernel
theorem dX3_endsAct_33 : decode cX3_endsAct 33 = .ok (.if_icmp .ne 9, 3) := by decide +kernel
theorem dX3_endsAct_36 : decode cX3_endsAct 36 = .ok (.aload_n 0, 1) := by decide +kernel
theorem dX3_endsAct_37 : decode cX3_endsAct 37 = .ok (.bipush 46, 2) := by decide +kernel
theorem dX3_endsAct_39 : decode cX3_endsAct 39 = .ok (.putfield 33, 3) := by decide +kernel
theorem dX3_endsAct_42 : decode cX3_endsAct 42 = .ok (.aload_n 0, 1) := by decide +kernel
theorem dX3_endsAct_43 : decode cX3_endsAct 43 = .ok (.getfield 27, 3) := by decide +kernel
theorem dX3_endsAct_46 : decode cX3_endsAct 46 = .ok (.ifCond .ne 17, 3) := by decide +kernel
theorem dX3_endsAct_49 : decode cX3_endsAct 49 = .ok (.iload_n 2, 1) := by decide +kernel
theorem dX3_endsAct_50 : decode cX3_endsAct 50 = .ok (.bipush 46, 2) := by decide +kernel
theorem dX3_endsAct_52 : decode cX3_endsAct 52 = .ok (.if_icmp .eq 11, 3) := by decide +kernel
theorem dX3_endsAct_55 : decode cX3_endsAct 55 = .ok (.aload_n 0, 1) := by decide +kernel
theorem dX3_endsAct_56 : decode cX3_endsAct 56 = .ok (.iload_n 2, 1) := by decide +kernel
theorem dX3_endsAct_57 : decode cX3_endsAct 57 = .ok (.bipush 65, 2) := by decide +kernel
theorem dX3_endsAct_59 : decode cX3_endsAct 59 = .ok (.isub, 1) := by decide +kernel
theorem dX3_endsAct_60 : decode cX3_endsAct 60 = .ok (.putfield 30, 3) := by decide +kernel
theorem dX3_endsAct_63 : decode cX3_endsAct 63 = .ok (.aload_n 0, 1) := by decide +kernel
theorem dX3_endsAct_64 : decode cX3_endsAct 64 = .ok (.getfield 27, 3) := by decide +kernel
theorem dX3_endsAct_67 : decode cX3_endsAct 67 = .ok (.iconst 1, 1) := by decide +kernel
theorem dX3_endsAct_68 : decode cX3_endsAct 68 = .ok (.if_icmp .ne 8, 3) := by decide +kernel
theorem dX3_endsAct_71 : decode cX3_endsAct 71 = .ok (.aload_n 0, 1) := by decide +kernel
theorem dX3_endsAct_72 : decode cX3_endsAct 72 = .ok (.iload_n 2, 1) := by decide +kernel
theorem dX3_endsAct_73 : decode cX3_endsAct 73 = .ok (.putfield 33, 3) := by decide +kernel
theorem dX3_endsAct_76 : decode cX3_endsAct 76 = .ok (.aload_n 0, 1) := by decide +kernel
theorem dX3_endsAct_77 : decode cX3_endsAct 77 = .ok (.getfield 27, 3) := by decide +kernel
theorem dX3_endsAct_80 : decode cX3_endsAct 80 = .ok (.iconst 2, 1) := by decide +kernel
theorem dX3_endsAct_81 : decode cX3_endsAct 81 = .ok (.if_icmp .ne 11, 3) := by decide +kernel
theorem dX3_endsAct_84 : decode cX3_endsAct 84 = .ok (.aload_n 0, 1) := by decide +kernel
theorem dX3_endsAct_85 : decode cX3_endsAct 85 = .ok (.iload_n 2, 1) := by decide +kernel
theorem dX3_endsAct_86 : decode cX3_endsAct 86 = .ok (.bipush 48, 2) := by decide +kernel
theorem dX3_endsAct_88 : decode cX3_endsAct 88 = .ok (.isub, 1) := by decide +kernel
theorem dX3_endsAct_89 : decode cX3_endsAct 89 = .ok (.putfield 36, 3) := by decide +kernel
theorem dX3_endsAct_92 : decode cX3_endsAct 92 = .ok (.aload_n 0, 1) := by decide +kernel
theorem dX3_endsAct_93 : decode cX3_endsAct 93 = .ok (.aload_n 0, 1) := by decide +kernel
theorem dX3_endsAct_94 : decode cX3_endsAct 94 = .ok (.getfield 27, 3) := by decide +kernel
theorem dX3_endsAct_97 : decode cX3_endsAct 97 = .ok (.iload_n 2, 1) := by decide +kernel
theorem dX3_endsAct_98 : decode cX3_endsAct 98 = .ok (.invokestatic 19, 3) := by decide +kernel
theorem dX3_endsAct_101 : decode cX3_endsAct 101 = .ok (.putfield 27, 3) := by decide +kernel
theorem dX3_endsAct_104 : decode cX3_endsAct 104 = .ok (.aload_n 0, 1) := by decide +kernel
theorem dX3_endsAct_105 : decode cX3_endsAct 105 = .ok (.getfield 27, 3) := by decide +kernel
theorem dX3_endsAct_108 : decode cX3_endsAct 108 = .ok (.ifCond .ne 7, 3) := by decide +kernel
theorem dX3_endsAct_111 : decode cX3_endsAct 111 = .ok (.iconst 1, 1) := by decide +kernel
theorem dX3_endsAct_112 : decode cX3_endsAct 112 = .ok (.goto 4, 3) := by decide +kernel
theorem dX3_endsAct_115 : decode cX3_endsAct 115 = .ok (.iconst 0, 1) := by decide +kernel
theorem dX3_endsAct_116 : decode cX3_endsAct 116 = .ok (.ireturn, 1) := by decide +kernel
theorem dX4_init_0 : decode cX4_init 0 = .ok (.aload_n 0, 1) := by decide +kernel
theorem dX4_init_1 : decode cX4_init 1 = .ok (.invokespecial 3, 3) := by decide +kernel
theorem dX4_init_4 : decode cX4_init 4 = .ok (.aload_n 0, 1) := by decide +kernel
theorem dX4_init_5 : decode cX4_init 5 = .ok (.bipush 9, 2) := by decide +kernel
theorem dX4_init_7 : decode cX4_init 7 = .ok (.newarray .int, 2) := by decide +kernel
theorem dX4_init_9 : decode cX4_init 9 = .ok (.putfield 9, 3) := by decide +kernel
theorem dX4_init_12 : decode cX4_init 12 = .ok (.aload_n 0, 1) := by decide +kernel
theorem dX4_init_13 : decode cX4_init 13 = .ok (.iconst 4, 1) := by decide +kernel
theorem dX4_init_14 : decode cX4_init 14 = .ok (.newarray .int, 2) := by decide +kernel
theorem dX4_init_16 : decode cX4_init 16 = .ok (.putfield 15, 3) := by decide +kernel
theorem dX4_init_19 : decode cX4_init 19 = .ok (.aload_n 0, 1) := by decide +kernel
theorem dX4_init_20 : decode cX4_init 20 = .ok (.bipush 10, 2) := by decide +kernel
theorem dX4_init_22 : decode cX4_init 22 = .ok (.newarray .int, 2) := by decide +kernel
theorem dX4_init_24 : decode cX4_init 24 = .ok (.putfield 18, 3) := by decide +kernel
theorem dX4_init_27 : decode cX4_init 27 = .ok (.aload_n 0, 1) := by decide +kernel
theorem dX4_init_28 : decode cX4_init 28 = .ok (.bipush 10, 2) := by decide +kernel
theorem dX4_init_30 : decode cX4_init 30 = .ok (.newarray .int, 2) := by decide +kernel
theorem dX4_init_32 : decode cX4_init 32 = .ok (.putfield 21, 3) := by decide +kernel
theorem dX4_init_35 : decode cX4_init 35 = .ok (.aload_n 0, 1) := by decide +kernel
theorem dX4_init_36 : decode cX4_init 36 = .ok (.bipush 9, 2) := by decide +kernel
theorem dX4_init_38 : decode cX4_init 38 = .ok (.bipush 9, 2) := by decide +kernel
theorem dX4_init_40 : decode cX4_init 40 = .ok (.multianewarray 24 2, 4) := by decide +kernel
theorem dX4_init_44 : decode cX4_init 44 = .ok (.putfield 26, 3) := by decide +kernel
theorem dX4_init_47 : decode cX4_init 47 = .ok (.aload_n 0, 1) := by decide +kernel
theorem dX4_init_48 : decode cX4_init 48 = .ok (.bipush 100, 2) := by decide +kernel
theorem dX4_init_50 : decode cX4_init 50 = .ok (.newarray .int, 2) := by decide +kernel
theorem dX4_init_52 : decode cX4_init 52 = .ok (.putfield 29, 3) := by decide +kernel
theorem dX4_init_55 : decode cX4_init 55 = .ok (.return_, 1) := by decide +kernel
theorem dX4_takeDigits_0 : decode cX4_takeDigits 0 = .ok (.iload_n 2, 1) := by decide +kernel
theorem dX4_takeDigits_1 : decode cX4_takeDigits 1 = .ok (.bipush 9, 2) := by decide +kernel
theorem dX4_takeDigits_3 : decode cX4_takeDigits 3 = .ok (.invokestatic 32, 3) := by decide +kernel
theorem dX4_takeDigits_6 : decode cX4_takeDigits 6 = .ok (.istore_n 3, 1) := by decide +kernel
theorem dX4_takeDigits_7 : decode cX4_takeDigits 7 = .ok (.iload_n 1, 1) := by decide +kernel
theorem dX4_takeDigits_8 : decode cX4_takeDigits 8 = .ok (.istore 4, 2) := by decide +kernel
theorem dX4_takeDigits_10 : decode cX4_takeDigits 10 = .ok (.iload_n 3, 1) := by decide +kernel
theorem dX4_takeDigits_11 : decode cX4_takeDigits 11 = .ok (.iconst 1, 1) := by decide +kernel
theorem dX4_takeDigits_12 : decode cX4_takeDigits 12 = .ok (.isub, 1) := by decide +kernel
theorem dX4_takeDigits_13 : decode cX4_takeDigits 13 = .ok (.istore 5, 2) := by decide +kernel
theorem dX4_takeDigits_15 : decode cX4_takeDigits 15 = .ok (.iload 5, 2) := by decide +kernel
theorem dX4_takeDigits_17 : decode cX4_takeDigits 17 = .ok (.ifCond .lt 28, 3) := by decide +kernel
theorem dX4_takeDigits_20 : decode cX4_takeDigits 20 = .ok (.aload_n 0, 1) := by decide +kernel
theorem dX4_takeDigits_21 : decode cX4_takeDigits 21 = .ok (.getfield 9, 3) := by decide +kernel
theorem dX4_takeDigits_24 : decode cX4_takeDigits 24 = .ok (.iload 5, 2) := by decide +kernel
theorem dX4_takeDigits_26 : decode cX4_takeDigits 26 = .ok (.iload 4, 2) := by decide +kernel
theorem dX4_takeDigits_28 : decode cX4_takeDigits 28 = .ok (.bipush 10, 2) := by decide +kernel
theorem dX4_takeDigits_30 : decode cX4_takeDigits 30 = .ok (.irem, 1) := by decide +kernel
theorem dX4_takeDigits_31 : decode cX4_takeDigits 31 = .ok (.iastore, 1) := by decide +kernel
theorem dX4_takeDigits_32 : decode cX4_takeDigits 32 = .ok (.iload 4, 2) := by decide +kernel
theorem dX4_takeDigits_34 : decode cX4_takeDigits 34 = .ok (.bipush 10, 2) := by decide +kernel
theorem dX4_takeDigits_36 : decode cX4_takeDigits 36 = .ok (.idiv, 1) := by decide +kernel
theorem dX4_takeDigits_37 : decode cX4_takeDigits 37 = .ok (.istore 4, 2) := by decide +kernel
theorem dX4_takeDigits_39 : decode cX4_takeDigits 39 = .ok (.iinc 5 (-1), 3) := by decide +kernel
theorem dX4_takeDigits_42 : decode cX4_takeDigits 42 = .ok (.goto (-27), 3) := by decide +kernel
theorem dX4_takeDigits_45 : decode cX4_takeDigits 45 = .ok (.iload_n 3, 1) := by decide +kernel
theorem dX4_takeDigits_46 : decode cX4_takeDigits 46 = .ok (.ireturn, 1) := by decide +kernel
set_option maxRecDepth 20000 in
theorem ggX4_windingTime_X4_takeDigits : GoodIn wsX4_windingTime wsX4_takeDigits := goodIn_r _ [8, 9, 10, 11, 12, 2, 20, 21, 22, 23, 24, 25] (by decide +kernel) (by decide +kernel)
set_option maxRecDepth 20000 in
theorem gX4_windingTime_X4_takeDigits : GoodIn wsX4_windingTime (wsV RX4 38 RX4 yX4_takeDigits wsX4_takeDigits) := goodIn_app (goodIn_of _ (by decide +kernel)) ggX4_windingTime_X4_takeDigits
set_option maxRecDepth 20000 in
theorem ggX4_windingTime_X4_timeOfParts : GoodIn wsX4_windingTime wsX4_timeOfParts := goodIn_r _ [16, 3, 17, 18, 11, 19, 9, 10, 12, 20, 21, 22, 23, 24, 25] (by decide +kernel) (by decide +kernel)
set_option maxRecDepth 20000 in
theorem gX4_windingTime_X4_timeOfParts : GoodIn wsX4_windingTime (wsV RX4 41 RX4 yX4_timeOfParts wsX4_timeOfParts) := goodIn_app (goodIn_of _ (by decide +kernel)) ggX4_windingTime_X4_timeOfParts
theorem dX4_windingTime_0 : decode cX4_windingTime 0 = .ok (.aload_n 0, 1) := by decide +kernel
theorem dX4_windingTime_1 : decode cX4_windingTime 1 = .ok (.iload_n 1, 1) := by decide +kernel
theorem dX4_windingTime_2 : decode cX4_windingTime 2 = .ok (.iload_n 2, 1) := by decide +kernel
theorem dX4_windingTime_3 : decode cX4_windingTime 3 = .ok (.invokevirtual 38, 3) := by decide +kernel
theorem dX4_windingTime_6 : decode cX4_windingTime 6 = .ok (.istore 4, 2) := by decide +kernel
theorem dX4_windingTime_8 : decode cX4_windingTime 8 = .ok (.aload_n 0, 1) := by decide +kernel
theorem dX4_windingTime_9 : decode cX4_windingTime 9 = .ok (.getfield 21, 3) := by decide +kernel
theorem dX4_windingTime_12 : decode cX4_windingTime 12 = .ok (.iconst 0, 1) := by decide +kernel
theorem dX4_windingTime_13 : decode cX4_windingTime 13 = .ok (.iconst 0, 1) := by decide +kernel
theorem dX4_windingTime_14 : decode cX4_windingTime 14 = .ok (.iastore, 1) := by decide +kernel
theorem dX4_windingTime_15 : decode cX4_windingTime 15 = .ok (.iconst 0, 1) := by decide +kernel
theorem dX4_windingTime_16 : decode cX4_windingTime 16 = .ok (.istore 5, 2) := by decide +kernel
theorem dX4_windingTime_18 : decode cX4_windingTime 18 = .ok (.iload 5, 2) := by decide +kernel
theorem dX4_windingTime_20 : decode cX4_windingTime 20 = .ok (.iload 4, 2) := by decide +kernel
theorem dX4_windingTime_22 : decode cX4_windingTime 22 = .ok (.if_icmp .ge 33, 3) := by decide +kernel
theorem dX4_windingTime_25 : decode cX4_windingTime 25 = .ok (.aload_n 0, 1) := by decide +kernel
theorem dX4_windingTime_26 : decode cX4_windingTime 26 = .ok (.getfield 21, 3) := by decide +kernel
theorem dX4_windingTime_29 : decode cX4_windingTime 29 = .ok (.iload 5, 2) := by decide +kernel
theorem dX4_windingTime_31 : decode cX4_windingTime 31 = .ok (.iconst 1, 1) := by decide +kernel
theorem dX4_windingTime_32 : decode cX4_windingTime 32 = .ok (.iadd, 1) := by decide +kernel
theorem dX4_windingTime_33 : decode cX4_windingTime 33 = .ok (.aload_n 0, 1) := by decide +kernel
theorem dX4_windingTime_34 : decode cX4_windingTime 34 = .ok (.getfield 21, 3) := by decide +kernel
theorem dX4_windingTime_37 : decode cX4_windingTime 37 = .ok (.iload 5, 2) := by decide +kernel
theorem dX4_windingTime_39 : decode cX4_windingTime 39 = .ok (.iaload, 1) := by decide +kernel
theorem dX4_windingTime_40 : decode cX4_windingTime 40 = .ok (.aload_n 0, 1) := by decide +kernel
theorem dX4_windingTime_41 : decode cX4_windingTime 41 = .ok (.getfield 9, 3) := by decide +kernel
theorem dX4_windingTime_44 : decode cX4_windingTime 44 = .ok (.iload 5, 2) := by decide +kernel
theorem dX4_windingTime_46 : decode cX4_windingTime 46 = .ok (.iaload, 1) := by decide +kernel
theorem dX4_windingTime_47 : decode cX4_windingTime 47 = .ok (.iadd, 1) := by decide +kernel
theorem dX4_windingTime_48 : decode cX4_windingTime 48 = .ok (.iastore, 1) := by decide +kernel
theorem dX4_windingTime_49 : decode cX4_windingTime 49 = .ok (.iinc 5 1, 3) := by decide +kernel
theorem dX4_windingTime_52 : decode cX4_windingTime 52 = .ok (.goto (-34), 3) := by decide +kernel
theorem dX4_windingTime_55 : decode cX4_windingTime 55 = .ok (.iload 4, 2) := by decide +kernel
theorem dX4_windingTime_57 : decode cX4_windingTime 57 = .ok (.iconst 1, 1) := by decide +kernel
theorem dX4_windingTime_58 : decode cX4_windingTime 58 = .ok (.isub, 1) := by decide +kernel
theorem dX4_windingTime_59 : decode cX4_windingTime 59 = .ok (.istore 5, 2) := by decide +kernel
theorem dX4_windingTime_61 : decode cX4_windingTime 61 = .ok (.iload 5, 2) := by decide +kernel
theorem dX4_windingTime_63 : decode cX4_windingTime 63 = .ok (.ifCond .lt 80, 3) := by decide +kernel
theorem dX4_windingTime_66 : decode cX4_windingTime 66 = .ok (.aload_n 0, 1) := by decide +kernel
theorem dX4_windingTime_67 : decode cX4_windingTime 67 = .ok (.getfield 26, 3) := by decide +kernel
theorem dX4_windingTime_70 : decode cX4_windingTime 70 = .ok (.iload 5, 2) := by decide +kernel
theorem dX4_windingTime_72 : decode cX4_windingTime 72 = .ok (.aaload, 1) := by decide +kernel
theorem dX4_windingTime_73 : decode cX4_windingTime 73 = .ok (.iload 5, 2) := by decide +kernel
theorem dX4_windingTime_75 : decode cX4_windingTime 75 = .ok (.iconst 0, 1) := by decide +kernel
theorem dX4_windingTime_76 : decode cX4_windingTime 76 = .ok (.iastore, 1) := by decide +kernel
theorem dX4_windingTime_77 : decode cX4_windingTime 77 = .ok (.iload 5, 2) := by decide +kernel
theorem dX4_windingTime_79 : decode cX4_windingTime 79 = .ok (.iconst 1, 1) := by decide +kernel
theorem dX4_windingTime_80 : decode cX4_windingTime 80 = .ok (.iadd, 1) := by decide +kernel
theorem dX4_windingTime_81 : decode cX4_windingTime 81 = .ok (.istore 6, 2) := by decide +kernel
theorem dX4_windingTime_83 : decode cX4_windingTime 83 = .ok (.iload 6, 2) := by decide +kernel
theorem dX4_windingTime_85 : decode cX4_windingTime 85 = .ok (.iload 4, 2) := by decide +kernel
theorem dX4_windingTime_87 : decode cX4_windingTime 87 = .ok (.if_icmp .ge 50, 3) := by decide +kernel
theorem dX4_windingTime_90 : decode cX4_windingTime 90 = .ok (.aload_n 0, 1) := by decide +kernel
theorem dX4_windingTime_91 : decode cX4_windingTime 91 = .ok (.getfield 21, 3) := by decide +kernel
theorem dX4_windingTime_94 : decode cX4_windingTime 94 = .ok (.iload 6, 2) := by decide +kernel
theorem dX4_windingTime_96 : decode cX4_windingTime 96 = .ok (.iconst 1, 1) := by decide +kernel
theorem dX4_windingTime_97 : decode cX4_windingTime 97 = .ok (.iadd, 1) := by decide +kernel
theorem dX4_windingTime_98 : decode cX4_windingTime 98 = .ok (.iaload, 1) := by decide +kernel
theorem dX4_windingTime_99 : decode cX4_windingTime 99 = .ok (.aload_n 0, 1) := by decide +kernel
theorem dX4_windingTime_100 : decode cX4_windingTime 100 = .ok (.getfield 21, 3) := by decide +kernel
theorem dX4_windingTime_103 : decode cX4_windingTime 103 = .ok (.iload 5, 2) := by decide +kernel
theorem dX4_windingTime_105 : decode cX4_windingTime 105 = .ok (.iaload, 1) := by decide +kernel
theorem dX4_windingTime_106 : decode cX4_windingTime 106 = .ok (.isub, 1) := by decide +kernel
theorem dX4_windingTime_107 : decode cX4_windingTime 107 = .ok (.istore 7, 2) := by decide +kernel
theorem dX4_windingTime_109 : decode cX4_windingTime 109 = .ok (.aload_n 0, 1) := by decide +kernel
theorem dX4_windingTime_110 : decode cX4_windingTime 110 = .ok (.getfield 26, 3) := by decide +kernel
theorem dX4_windingTime_113 : decode cX4_windingTime 113 = .ok (.iload 5, 2) := by decide +kernel
theorem dX4_windingTime_115 : decode cX4_windingTime 115 = .ok (.aaload, 1) := by decide +kernel
theorem dX4_windingTime_116 : decode cX4_windingTime 116 = .ok (.iload 6, 2) := by decide +kernel
theorem dX4_windingTime_118 : decode cX4_windingTime 118 = .ok (.iload 7, 2) := by decide +kernel
theorem dX4_windingTime_120 : decode cX4_windingTime 120 = .ok (.aload_n 0, 1) := by decide +kernel
theorem dX4_windingTime_121 : decode cX4_windingTime 121 = .ok (.iload 5, 2) := by decide +kernel
theorem dX4_windingTime_123 : decode cX4_windingTime 123 = .ok (.iload 6, 2) := by decide +kernel
theorem dX4_windingTime_125 : decode cX4_windingTime 125 = .ok (.iload_n 3, 1) := by decide +kernel
theorem dX4_windingTime_126 : decode cX4_windingTime 126 = .ok (.invokevirtual 41, 3) := by decide +kernel
theorem dX4_windingTime_129 : decode cX4_windingTime 129 = .ok (.iadd, 1) := by decide +kernel
theorem dX4_windingTime_130 : decode cX4_windingTime 130 = .ok (.iastore, 1) := by decide +kernel
theorem dX4_windingTime_131 : decode cX4_windingTime 131 = .ok (.iinc 6 1, 3) := by decide +kernel
theorem dX4_windingTime_134 : decode cX4_windingTime 134 = .ok (.goto (-51), 3) := by decide +kernel
theorem dX4_windingTime_137 : decode cX4_windingTime 137 = .ok (.iinc 5 (-1), 3) := by decide +kernel
theorem dX4_windingTime_140 : decode cX4_windingTime 140 = .ok (.goto (-79), 3) := by decide +kernel
theorem dX4_windingTime_143 : decode cX4_windingTime 143 = .ok (.aload_n 0, 1) := by decide +kernel
theorem dX4_windingTime_144 : decode cX4_windingTime 144 = .ok (.getfield 26, 3) := by decide +kernel
theorem dX4_windingTime_147 : decode cX4_windingTime 147 = .ok (.iconst 0, 1) := by decide +kernel
theorem dX4_windingTime_148 : decode cX4_windingTime 148 = .ok (.aaload, 1) := by decide +kernel
theorem dX4_windingTime_149 : decode cX4_windingTime 149 = .ok (.iload 4, 2) := by decide +kernel
theorem dX4_windingTime_151 : decode cX4_windingTime 151 = .ok (.iconst 1, 1) := by decide +kernel
theorem dX4_windingTime_152 : decode cX4_windingTime 152 = .ok (.isub, 1) := by decide +kernel
theorem dX4_windingTime_153 : decode cX4_windingTime 153 = .ok (.iaload, 1) := by decide +kernel
theorem dX4_windingTime_154 : decode cX4_windingTime 154 = .ok (.ireturn, 1) := by decide +kernel
theorem dX4_timeOfParts_0 : decode cX4_timeOfParts 0 = .ok (.aload_n 0, 1) := by decide +kernel
theorem dX4_timeOfParts_1 : decode cX4_timeOfParts 1 = .ok (.getfield 26, 3) := by decide +kernel
theorem dX4_timeOfParts_4 : decode cX4_timeOfParts 4 = .ok (.iload_n 1, 1) := by decide +kernel
theorem dX4_timeOfParts_5 : decode cX4_timeOfParts 5 = .ok (.aaload, 1) := by decide +kernel
theorem dX4_timeOfParts_6 : decode cX4_timeOfParts 6 = .ok (.iload_n 1, 1) := by decide +kernel
theorem dX4_timeOfParts_7 : decode cX4_timeOfParts 7 = .ok (.iaload, 1) := by decide +kernel
theorem dX4_timeOfParts_8 : decode cX4_timeOfParts 8 = .ok (.aload_n 0, 1) := by decide +kernel
theorem dX4_timeOfParts_9 : decode cX4_timeOfParts 9 = .ok (.getfield 26, 3) := by decide +kernel
theorem dX4_timeOfParts_12 : decode cX4_timeOfParts 12 = .ok (.iload_n 1, 1) := by decide +kernel
theorem dX4_timeOfParts_13 : decode cX4_timeOfParts 13 = .ok (.iconst 1, 1) := by decide +kernel
theorem dX4_timeOfParts_14 : decode cX4_timeOfParts 14 = .ok (.iadd, 1) := by decide +kernel
theorem dX4_timeOfParts_15 : decode cX4_timeOfParts 15 = .ok (.aaload, 1) := by decide +kernel
theorem dX4_timeOfParts_16 : decode cX4_timeOfParts 16 = .ok (.iload_n 2, 1) := by decide +kernel
theorem dX4_timeOfParts_17 : decode cX4_timeOfParts 17 = .ok (.iaload, 1) := by decide +kernel
theorem dX4_timeOfParts_18 : decode cX4_timeOfParts 18 = .ok (.iadd, 1) := by decide +kernel
theorem dX4_timeOfParts_19 : decode cX4_timeOfParts 19 = .ok (.istore 4, 2) := by decide +kernel
theorem dX4_timeOfParts_21 : decode cX4_timeOfParts 21 = .ok (.iload_n 1, 1) := by decide +kernel
theorem dX4_timeOfParts_22 : decode cX4_timeOfParts 22 = .ok (.iconst 1, 1) := by decide +kernel
theorem dX4_timeOfParts_23 : decode cX4_timeOfParts 23 = .ok (.iadd, 1) := by decide +kernel
theorem dX4_timeOfParts_24 : decode cX4_timeOfParts 24 = .ok (.istore 5, 2) := by decide +kernel
theorem dX4_timeOfParts_26 : decode cX4_timeOfParts 26 = .ok (.iload 5, 2) := by decide +kernel
theorem dX4_timeOfParts_28 : decode cX4_timeOfParts 28 = .ok (.iload_n 2, 1) := by decide +kernel
theorem dX4_timeOfParts_29 : decode cX4_timeOfParts 29 = .ok (.if_icmp .ge 55, 3) := by decide +kernel
theorem dX4_timeOfParts_32 : decode cX4_timeOfParts 32 = .ok (.aload_n 0, 1) := by decide +kernel
theorem dX4_timeOfParts_33 : decode cX4_timeOfParts 33 = .ok (.getfield 26, 3) := by decide +kernel
theorem dX4_timeOfParts_36 : decode cX4_timeOfParts 36 = .ok (.iload_n 1, 1) := by decide +kernel
theorem dX4_timeOfParts_37 : decode cX4_timeOfParts 37 = .ok (.aaload, 1) := by decide +kernel
theorem dX4_timeOfParts_38 : decode cX4_timeOfParts 38 = .ok (.iload 5, 2) := by decide +kernel
theorem dX4_timeOfParts_40 : decode cX4_timeOfParts 40 = .ok (.iaload, 1) := by decide +kernel
theorem dX4_timeOfParts_41 : decode cX4_timeOfParts 41 = .ok (.aload_n 0, 1) := by decide +kernel
theorem dX4_timeOfParts_42 : decode cX4_timeOfParts 42 = .ok (.getfield 26, 3) := by decide +kernel
theorem dX4_timeOfParts_45 : decode cX4_timeOfParts 45 = .ok (.iload 5, 2) := by decide +kernel
theorem dX4_timeOfParts_47 : decode cX4_timeOfParts 47 = .ok (.iconst 1, 1) := by decide +kernel
theorem dX4_timeOfParts_48 : decode cX4_timeOfParts 48 = .ok (.iadd, 1) := by decide +kernel
theorem dX4_timeOfParts_49 : decode cX4_timeOfParts 49 = .ok (.aaload, 1) := by decide +kernel
theorem dX4_timeOfParts_50 : decode cX4_timeOfParts 50 = .ok (.iload_n 2, 1) := by decide +kernel
theorem dX4_timeOfParts_51 : decode cX4_timeOfParts 51 = .ok (.iaload, 1) := by decide +kernel
theorem dX4_timeOfParts_52 : decode cX4_timeOfParts 52 = .ok (.iadd, 1) := by decide +kernel
theorem dX4_timeOfParts_53 : decode cX4_timeOfParts 53 = .ok (.istore 6, 2) := by decide +kernel
theorem dX4_timeOfParts_55 : decode cX4_timeOfParts 55 = .ok (.iload_n 3, 1) := by decide +kernel
theorem dX4_timeOfParts_56 : decode cX4_timeOfParts 56 = .ok (.ifCond .eq 13, 3) := by decide +kernel
theorem dX4_timeOfParts_59 : decode cX4_timeOfParts 59 = .ok (.iload 4, 2) := by decide +kernel
theorem dX4_timeOfParts_61 : decode cX4_timeOfParts 61 = .ok (.iload 6, 2) := by decide +kernel
theorem dX4_timeOfParts_63 : decode cX4_timeOfParts 63 = .ok (.invokestatic 45, 3) := by decide +kernel
theorem dX4_timeOfParts_66 : decode cX4_timeOfParts 66 = .ok (.goto 10, 3) := by decide +kernel
theorem dX4_timeOfParts_69 : decode cX4_timeOfParts 69 = .ok (.iload 4, 2) := by decide +kernel
theorem dX4_timeOfParts_71 : decode cX4_timeOfParts 71 = .ok (.iload 6, 2) := by decide +kernel
theorem dX4_timeOfParts_73 : decode cX4_timeOfParts 73 = .ok (.invokestatic 32, 3) := by decide +kernel
theorem dX4_timeOfParts_76 : decode cX4_timeOfParts 76 = .ok (.istore 4, 2) := by decide +kernel
theorem dX4_timeOfParts_78 : decode cX4_timeOfParts 78 = .ok (.iinc 5 1, 3) := by decide +kernel
theorem dX4_timeOfParts_81 : decode cX4_timeOfParts 81 = .ok (.goto (-55), 3) := by decide +kernel
theorem dX4_timeOfParts_84 : decode cX4_timeOfParts 84 = .ok (.iload 4, 2) := by decide +kernel
theorem dX4_timeOfParts_86 : decode cX4_timeOfParts 86 = .ok (.ireturn, 1) := by decide +kernel
theorem dX4_takeWords_0 : decode cX4_takeWords 0 = .ok (.aload_n 0, 1) := by decide +kernel
theorem dX4_takeWords_1 : decode cX4_takeWords 1 = .ok (.getfield 15, 3) := by decide +kernel
theorem dX4_takeWords_4 : decode cX4_takeWords 4 = .ok (.iconst 0, 1) := by decide +kernel
theorem dX4_takeWords_5 : decode cX4_takeWords 5 = .ok (.iload_n 1, 1) := by decide +kernel
theorem dX4_takeWords_6 : decode cX4_takeWords 6 = .ok (.iastore, 1) := by decide +kernel
theorem dX4_takeWords_7 : decode cX4_takeWords 7 = .ok (.aload_n 0, 1) := by decide +kernel
theorem dX4_takeWords_8 : decode cX4_takeWords 8 = .ok (.getfield 15, 3) := by decide +kernel
theorem dX4_takeWords_11 : decode cX4_takeWords 11 = .ok (.iconst 1, 1) := by decide +kernel
theorem dX4_takeWords_12 : decode cX4_takeWords 12 = .ok (.iload_n 2, 1) := by decide +kernel
theorem dX4_takeWords_13 : decode cX4_takeWords 13 = .ok (.iastore, 1) := by decide +kernel
theorem dX4_takeWords_14 : decode cX4_takeWords 14 = .ok (.aload_n 0, 1) := by decide +kernel
theorem dX4_takeWords_15 : decode cX4_takeWords 15 = .ok (.getfield 15, 3) := by decide +kernel
theorem dX4_takeWords_18 : decode cX4_takeWords 18 = .ok (.iconst 2, 1) := by decide +kernel
theorem dX4_takeWords_19 : decode cX4_takeWords 19 = .ok (.iload_n 3, 1) := by decide +kernel
theorem dX4_takeWords_20 : decode cX4_takeWords 20 = .ok (.iastore, 1) := by decide +kernel
theorem dX4_takeWords_21 : decode cX4_takeWords 21 = .ok (.aload_n 0, 1) := by decide +kernel
theorem dX4_takeWords_22 : decode cX4_takeWords 22 = .ok (.getfield 15, 3) := by decide +kernel
theorem dX4_takeWords_25 : decode cX4_takeWords 25 = .ok (.iconst 3, 1) := by decide +kernel
theorem dX4_takeWords_26 : decode cX4_takeWords 26 = .ok (.iload 4, 2) := by decide +kernel
theorem dX4_takeWords_28 : decode cX4_takeWords 28 = .ok (.iastore, 1) := by decide +kernel
theorem dX4_takeWords_29 : decode cX4_takeWords 29 = .ok (.return_, 1) := by decide +kernel
set_option maxRecDepth 20000 in
theorem ggX4_standsBefore_X7_digitCount : GoodIn wsX4_standsBefore wsX7_digitCount := goodIn_r _ [5] (by decide +kernel) (by decide +kernel)
set_option maxRecDepth 20000 in
theorem gX4_standsBefore_X7_digitCount_n48 : GoodIn wsX4_standsBefore (wsX7_digitCount) := ggX4_standsBefore_X7_digitCount
theorem dX4_standsBefore_0 : decode cX4_standsBefore 0 = .ok (.iconst 0, 1) := by decide +kernel
theorem dX4_standsBefore_1 : decode cX4_standsBefore 1 = .ok (.istore_n 3, 1) := by decide +kernel
theorem dX4_standsBefore_2 : decode cX4_standsBefore 2 = .ok (.iload_n 3, 1) := by decide +kernel
theorem dX4_standsBefore_3 : decode cX4_standsBefore 3 = .ok (.iload_n 1, 1) := by decide +kernel
theorem dX4_standsBefore_4 : decode cX4_standsBefore 4 = .ok (.if_icmp .ge 26, 3) := by decide +kernel
theorem dX4_standsBefore_7 : decode cX4_standsBefore 7 = .ok (.aload_n 0, 1) := by decide +kernel
theorem dX4_standsBefore_8 : decode cX4_standsBefore 8 = .ok (.getfield 15, 3) := by decide +kernel
theorem dX4_standsBefore_11 : decode cX4_standsBefore 11 = .ok (.iload_n 3, 1) := by decide +kernel
theorem dX4_standsBefore_12 : decode cX4_standsBefore 12 = .ok (.iaload, 1) := by decide +kernel
theorem dX4_standsBefore_13 : decode cX4_standsBefore 13 = .ok (.aload_n 0, 1) := by decide +kernel
theorem dX4_standsBefore_14 : decode cX4_standsBefore 14 = .ok (.getfield 15, 3) := by decide +kernel
theorem dX4_standsBefore_17 : decode cX4_standsBefore 17 = .ok (.iload_n 1, 1) := by decide +kernel
theorem dX4_standsBefore_18 : decode cX4_standsBefore 18 = .ok (.iaload, 1) := by decide +kernel
theorem dX4_standsBefore_19 : decode cX4_standsBefore 19 = .ok (.if_icmp .ne 5, 3) := by decide +kernel
theorem dX4_standsBefore_22 : decode cX4_standsBefore 22 = .ok (.iconst 0, 1) := by decide +kernel
theorem dX4_standsBefore_23 : decode cX4_standsBefore 23 = .ok (.ireturn, 1) := by decide +kernel
theorem dX4_standsBefore_24 : decode cX4_standsBefore 24 = .ok (.iinc 3 1, 3) := by decide +kernel
theorem dX4_standsBefore_27 : decode cX4_standsBefore 27 = .ok (.goto (-25), 3) := by decide +kernel
theorem dX4_standsBefore_30 : decode cX4_standsBefore 30 = .ok (.aload_n 0, 1) := by decide +kernel
theorem dX4_standsBefore_31 : decode cX4_standsBefore 31 = .ok (.getfield 15, 3) := by decide +kernel
theorem dX4_standsBefore_34 : decode cX4_standsBefore 34 = .ok (.iload_n 1, 1) := by decide +kernel
theorem dX4_standsBefore_35 : decode cX4_standsBefore 35 = .ok (.iaload, 1) := by decide +kernel
theorem dX4_standsBefore_36 : decode cX4_standsBefore 36 = .ok (.istore_n 3, 1) := by decide +kernel
theorem dX4_standsBefore_37 : decode cX4_standsBefore 37 = .ok (.iload_n 3, 1) := by decide +kernel
theorem dX4_standsBefore_38 : decode cX4_standsBefore 38 = .ok (.invokestatic 48, 3) := by decide +kernel
theorem dX4_standsBefore_41 : decode cX4_standsBefore 41 = .ok (.istore 4, 2) := by decide +kernel
theorem dX4_standsBefore_43 : decode cX4_standsBefore 43 = .ok (.iload 4, 2) := by decide +kernel
theorem dX4_standsBefore_45 : decode cX4_standsBefore 45 = .ok (.iload_n 2, 1) := by decide +kernel
theorem dX4_standsBefore_46 : decode cX4_standsBefore 46 = .ok (.if_icmp .le 5, 3) := by decide +kernel
theorem dX4_standsBefore_49 : decode cX4_standsBefore 49 = .ok (.iconst 0, 1) := by decide +kernel
theorem dX4_standsBefore_50 : decode cX4_standsBefore 50 = .ok (.ireturn, 1) := by decide +kernel
theorem dX4_standsBefore_51 : decode cX4_standsBefore 51 = .ok (.iload_n 2, 1) := by decide +kernel
theorem dX4_standsBefore_52 : decode cX4_standsBefore 52 = .ok (.iconst 1, 1) := by decide +kernel
theorem dX4_standsBefore_53 : decode cX4_standsBefore 53 = .ok (.isub, 1) := by decide +kernel
theorem dX4_standsBefore_54 : decode cX4_standsBefore 54 = .ok (.istore 5, 2) := by decide +kernel
theorem dX4_standsBefore_56 : decode cX4_standsBefore 56 = .ok (.iload 5, 2) := by decide +kernel
theorem dX4_standsBefore_58 : decode cX4_standsBefore 58 = .ok (.iload_n 2, 1) := by decide +kernel
theorem dX4_standsBefore_59 : decode cX4_standsBefore 59 = .ok (.iload 4, 2) := by decide +kernel
theorem dX4_standsBefore_61 : decode cX4_standsBefore 61 = .ok (.isub, 1) := by decide +kernel
theorem dX4_standsBefore_62 : decode cX4_standsBefore 62 = .ok (.if_icmp .lt 30, 3) := by decide +kernel
theorem dX4_standsBefore_65 : decode cX4_standsBefore 65 = .ok (.aload_n 0, 1) := by decide +kernel
theorem dX4_standsBefore_66 : decode cX4_standsBefore 66 = .ok (.getfield 9, 3) := by decide +kernel
theorem dX4_standsBefore_69 : decode cX4_standsBefore 69 = .ok (.iload 5, 2) := by decide +kernel
theorem dX4_standsBefore_71 : decode cX4_standsBefore 71 = .ok (.iaload, 1) := by decide +kernel
theorem dX4_standsBefore_72 : decode cX4_standsBefore 72 = .ok (.iload_n 3, 1) := by decide +kernel
theorem dX4_standsBefore_73 : decode cX4_standsBefore 73 = .ok (.bipush 10, 2) := by decide +kernel
theorem dX4_standsBefore_75 : decode cX4_standsBefore 75 = .ok (.irem, 1) := by decide +kernel
theorem dX4_standsBefore_76 : decode cX4_standsBefore 76 = .ok (.if_icmp .eq 5, 3) := by decide +kernel
theorem dX4_standsBefore_79 : decode cX4_standsBefore 79 = .ok (.iconst 0, 1) := by decide +kernel
theorem dX4_standsBefore_80 : decode cX4_standsBefore 80 = .ok (.ireturn, 1) := by decide +kernel
theorem dX4_standsBefore_81 : decode cX4_standsBefore 81 = .ok (.iload_n 3, 1) := by decide +kernel
theorem dX4_standsBefore_82 : decode cX4_standsBefore 82 = .ok (.bipush 10, 2) := by decide +kernel
theorem dX4_standsBefore_84 : decode cX4_standsBefore 84 = .ok (.idiv, 1) := by decide +kernel
theorem dX4_standsBefore_85 : decode cX4_standsBefore 85 = .ok (.istore_n 3, 1) := by decide +kernel
theorem dX4_standsBefore_86 : decode cX4_standsBefore 86 = .ok (.iinc 5 (-1), 3) := by decide +kernel
theorem dX4_standsBefore_89 : decode cX4_standsBefore 89 = .ok (.goto (-33), 3) := by decide +kernel
theorem dX4_standsBefore_92 : decode cX4_standsBefore 92 = .ok (.iconst 1, 1) := by decide +kernel
theorem dX4_standsBefore_93 : decode cX4_standsBefore 93 = .ok (.ireturn, 1) := by decide +kernel
set_option maxRecDepth 20000 in
theorem ggX4_countReadings_X4_standsBefore : GoodIn wsX4_countReadings wsX4_standsBefore := goodIn_r _ [7, 2, 8, 9, 10, 11, 12, 13, 14, 15, 16, 17] (by decide +kernel) (by decide +kernel)
set_option maxRecDepth 20000 in
theorem gX4_countReadings_X4_standsBefore : GoodIn wsX4_countReadings (wsV RX4 52 RX4 yX4_standsBefore wsX4_standsBefore) := goodIn_app (goodIn_of _ (by decide +kernel)) ggX4_countReadings_X4_standsBefore
set_option maxRecDepth 20000 in
theorem ggX4_countReadings_X7_digitCount : GoodIn wsX4_countReadings wsX7_digitCount := goodIn_r _ [11] (by decide +kernel) (by decide +kernel)
set_option maxRecDepth 20000 in
theorem gX4_countReadings_X7_digitCount_n48 : GoodIn wsX4_countReadings (wsX7_digitCount) := ggX4_countReadings_X7_digitCount
theorem dX4_countReadings_0 : decode cX4_countReadings 0 = .ok (.aload_n 0, 1) := by decide +kernel
theorem dX4_countReadings_1 : decode cX4_countReadings 1 = .ok (.getfield 18, 3) := by decide +kernel
theorem dX4_countReadings_4 : decode cX4_countReadings 4 = .ok (.iconst 0, 1) := by decide +kernel
theorem dX4_countReadings_5 : decode cX4_countReadings 5 = .ok (.iconst 1, 1) := by decide +kernel
theorem dX4_countReadings_6 : decode cX4_countReadings 6 = .ok (.iastore, 1) := by decide +kernel
theorem dX4_countReadings_7 : decode cX4_countReadings 7 = .ok (.iconst 1, 1) := by decide +kernel
theorem dX4_countReadings_8 : decode cX4_countReadings 8 = .ok (.istore_n 2, 1) := by decide +kernel
theorem dX4_countReadings_9 : decode cX4_countReadings 9 = .ok (.iload_n 2, 1) := by decide +kernel
theorem dX4_countReadings_10 : decode cX4_countReadings 10 = .ok (.iload_n 1, 1) := by decide +kernel
theorem dX4_countReadings_11 : decode cX4_countReadings 11 = .ok (.if_icmp .gt 63, 3) := by decide +kernel
theorem dX4_countReadings_14 : decode cX4_countReadings 14 = .ok (.aload_n 0, 1) := by decide +kernel
theorem dX4_countReadings_15 : decode cX4_countReadings 15 = .ok (.getfield 18, 3) := by decide +kernel
theorem dX4_countReadings_18 : decode cX4_countReadings 18 = .ok (.iload_n 2, 1) := by decide +kernel
theorem dX4_countReadings_19 : decode cX4_countReadings 19 = .ok (.iconst 0, 1) := by decide +kernel
theorem dX4_countReadings_20 : decode cX4_countReadings 20 = .ok (.iastore, 1) := by decide +kernel
theorem dX4_countReadings_21 : decode cX4_countReadings 21 = .ok (.iconst 0, 1) := by decide +kernel
theorem dX4_countReadings_22 : decode cX4_countReadings 22 = .ok (.istore_n 3, 1) := by decide +kernel
theorem dX4_countReadings_23 : decode cX4_countReadings 23 = .ok (.iload_n 3, 1) := by decide +kernel
theorem dX4_countReadings_24 : decode cX4_countReadings 24 = .ok (.iconst 4, 1) := by decide +kernel
theorem dX4_countReadings_25 : decode cX4_countReadings 25 = .ok (.if_icmp .ge 43, 3) := by decide +kernel
theorem dX4_countReadings_28 : decode cX4_countReadings 28 = .ok (.aload_n 0, 1) := by decide +kernel
theorem dX4_countReadings_29 : decode cX4_countReadings 29 = .ok (.iload_n 3, 1) := by decide +kernel
theorem dX4_countReadings_30 : decode cX4_countReadings 30 = .ok (.iload_n 2, 1) := by decide +kernel
theorem dX4_countReadings_31 : decode cX4_countReadings 31 = .ok (.invokevirtual 52, 3) := by decide +kernel
theorem dX4_countReadings_34 : decode cX4_countReadings 34 = .ok (.ifCond .eq 28, 3) := by decide +kernel
theorem dX4_countReadings_37 : decode cX4_countReadings 37 = .ok (.aload_n 0, 1) := by decide +kernel
theorem dX4_countReadings_38 : decode cX4_countReadings 38 = .ok (.getfield 18, 3) := by decide +kernel
theorem dX4_countReadings_41 : decode cX4_countReadings 41 = .ok (.iload_n 2, 1) := by decide +kernel
theorem dX4_countReadings_42 : decode cX4_countReadings 42 = .ok (.dup2, 1) := by decide +kernel
theorem dX4_countReadings_43 : decode cX4_countReadings 43 = .ok (.iaload, 1) := by decide +kernel
theorem dX4_countReadings_44 : decode cX4_countReadings 44 = .ok (.aload_n 0, 1) := by decide +kernel
theorem dX4_countReadings_45 : decode cX4_countReadings 45 = .ok (.getfield 18, 3) := by decide +kernel
theorem dX4_countReadings_48 : decode cX4_countReadings 48 = .ok (.iload_n 2, 1) := by decide +kernel
theorem dX4_countReadings_49 : decode cX4_countReadings 49 = .ok (.aload_n 0, 1) := by decide +kernel
theorem dX4_countReadings_50 : decode cX4_countReadings 50 = .ok (.getfield 15, 3) := by decide +kernel
theorem dX4_countReadings_53 : decode cX4_countReadings 53 = .ok (.iload_n 3, 1) := by decide +kernel
theorem dX4_countReadings_54 : decode cX4_countReadings 54 = .ok (.iaload, 1) := by decide +kernel
theorem dX4_countReadings_55 : decode cX4_countReadings 55 = .ok (.invokestatic 48, 3) := by decide +kernel
theorem dX4_countReadings_58 : decode cX4_countReadings 58 = .ok (.isub, 1) := by decide +kernel
theorem dX4_countReadings_59 : decode cX4_countReadings 59 = .ok (.iaload, 1) := by decide +kernel
theorem dX4_countReadings_60 : decode cX4_countReadings 60 = .ok (.iadd, 1) := by decide +kernel
theorem dX4_countReadings_61 : decode cX4_countReadings 61 = .ok (.iastore, 1) := by decide +kernel
theorem dX4_countReadings_62 : decode cX4_countReadings 62 = .ok (.iinc 3 1, 3) := by decide +kernel
theorem dX4_countReadings_65 : decode cX4_countReadings 65 = .ok (.goto (-42), 3) := by decide +kernel
theorem dX4_countReadings_68 : decode cX4_countReadings 68 = .ok (.iinc 2 1, 3) := by decide +kernel
theorem dX4_countReadings_71 : decode cX4_countReadings 71 = .ok (.goto (-62), 3) := by decide +kernel
theorem dX4_countReadings_74 : decode cX4_countReadings 74 = .ok (.aload_n 0, 1) := by decide +kernel
theorem dX4_countReadings_75 : decode cX4_countReadings 75 = .ok (.getfield 18, 3) := by decide +kernel
theorem dX4_countReadings_78 : decode cX4_countReadings 78 = .ok (.iload_n 1, 1) := by decide +kernel
theorem dX4_countReadings_79 : decode cX4_countReadings 79 = .ok (.iaload, 1) := by decide +kernel
theorem dX4_countReadings_80 : decode cX4_countReadings 80 = .ok (.ireturn, 1) := by decide +kernel
set_option maxRecDepth 20000 in
theorem ggX4_fewestWords_X4_standsBefore : GoodIn wsX4_fewestWords wsX4_standsBefore := goodIn_r _ [7, 2, 8, 9, 10, 11, 12, 13, 14, 15, 16, 17] (by decide +kernel) (by decide +kernel)
set_option maxRecDepth 20000 in
theorem gX4_fewestWords_X4_standsBefore : GoodIn wsX4_fewestWords (wsV RX4 52 RX4 yX4_standsBefore wsX4_standsBefore) := goodIn_app (goodIn_of _ (by decide +kernel)) ggX4_fewestWords_X4_standsBefore
set_option maxRecDepth 20000 in
theorem ggX4_fewestWords_X7_digitCount : GoodIn wsX4_fewestWords wsX7_digitCount := goodIn_r _ [11] (by decide +kernel) (by decide +kernel)
set_option maxRecDepth 20000 in
theorem gX4_fewestWords_X7_digitCount_n48 : GoodIn wsX4_fewestWords (wsX7_digitCount) := ggX4_fewestWords_X7_digitCount
theorem dX4_fewestWords_0 : decode cX4_fewestWords 0 = .ok (.aload_n 0, 1) := by decide +kernel
theorem dX4_fewestWords_1 : decode cX4_fewestWords 1 = .ok (.getfield 18, 3) := by decide +kernel
theorem dX4_fewestWords_4 : decode cX4_fewestWords 4 = .ok (.iconst 0, 1) := by decide +kernel
theorem dX4_fewestWords_5 : decode cX4_fewestWords 5 = .ok (.iconst 0, 1) := by decide +kernel
theorem dX4_fewestWords_6 : decode cX4_fewestWords 6 = .ok (.iastore, 1) := by decide +kernel
theorem dX4_fewestWords_7 : decode cX4_fewestWords 7 = .ok (.iconst 1, 1) := by decide +kernel
theorem dX4_fewestWords_8 : decode cX4_fewestWords 8 = .ok (.istore_n 2, 1) := by decide +kernel
theorem dX4_fewestWords_9 : decode cX4_fewestWords 9 = .ok (.iload_n 2, 1) := by decide +kernel
theorem dX4_fewestWords_10 : decode cX4_fewestWords 10 = .ok (.iload_n 1, 1) := by decide +kernel
theorem dX4_fewestWords_11 : decode cX4_fewestWords 11 = .ok (.if_icmp .gt 104, 3) := by decide +kernel
theorem dX4_fewestWords_14 : decode cX4_fewestWords 14 = .ok (.aload_n 0, 1) := by decide +kernel
theorem dX4_fewestWords_15 : decode cX4_fewestWords 15 = .ok (.getfield 18, 3) := by decide +kernel
theorem dX4_fewestWords_18 : decode cX4_fewestWords 18 = .ok (.iload_n 2, 1) := by decide +kernel
theorem dX4_fewestWords_19 : decode cX4_fewestWords 19 = .ok (.bipush (-6), 2) := by decide +kernel
theorem dX4_fewestWords_21 : decode cX4_fewestWords 21 = .ok (.iastore, 1) := by decide +kernel
theorem dX4_fewestWords_22 : decode cX4_fewestWords 22 = .ok (.iconst 0, 1) := by decide +kernel
theorem dX4_fewestWords_23 : decode cX4_fewestWords 23 = .ok (.istore_n 3, 1) := by decide +kernel
theorem dX4_fewestWords_24 : decode cX4_fewestWords 24 = .ok (.iload_n 3, 1) := by decide +kernel
theorem dX4_fewestWords_25 : decode cX4_fewestWords 25 = .ok (.iconst 4, 1) := by decide +kernel
theorem dX4_fewestWords_26 : decode cX4_fewestWords 26 = .ok (.if_icmp .ge 83, 3) := by decide +kernel
theorem dX4_fewestWords_29 : decode cX4_fewestWords 29 = .ok (.aload_n 0, 1) := by decide +kernel
theorem dX4_fewestWords_30 : decode cX4_fewestWords 30 = .ok (.iload_n 3, 1) := by decide +kernel
theorem dX4_fewestWords_31 : decode cX4_fewestWords 31 = .ok (.iload_n 2, 1) := by decide +kernel
theorem dX4_fewestWords_32 : decode cX4_fewestWords 32 = .ok (.invokevirtual 52, 3) := by decide +kernel
theorem dX4_fewestWords_35 : decode cX4_fewestWords 35 = .ok (.ifCond .ne 6, 3) := by decide +kernel
theorem dX4_fewestWords_38 : decode cX4_fewestWords 38 = .ok (.goto 65, 3) := by decide +kernel
theorem dX4_fewestWords_41 : decode cX4_fewestWords 41 = .ok (.aload_n 0, 1) := by decide +kernel
theorem dX4_fewestWords_42 : decode cX4_fewestWords 42 = .ok (.getfield 18, 3) := by decide +kernel
theorem dX4_fewestWords_45 : decode cX4_fewestWords 45 = .ok (.iload_n 2, 1) := by decide +kernel
theorem dX4_fewestWords_46 : decode cX4_fewestWords 46 = .ok (.aload_n 0, 1) := by decide +kernel
theorem dX4_fewestWords_47 : decode cX4_fewestWords 47 = .ok (.getfield 15, 3) := by decide +kernel
theorem dX4_fewestWords_50 : decode cX4_fewestWords 50 = .ok (.iload_n 3, 1) := by decide +kernel
theorem dX4_fewestWords_51 : decode cX4_fewestWords 51 = .ok (.iaload, 1) := by decide +kernel
theorem dX4_fewestWords_52 : decode cX4_fewestWords 52 = .ok (.invokestatic 48, 3) := by decide +kernel
theorem dX4_fewestWords_55 : decode cX4_fewestWords 55 = .ok (.isub, 1) := by decide +kernel
theorem dX4_fewestWords_56 : decode cX4_fewestWords 56 = .ok (.iaload, 1) := by decide +kernel
theorem dX4_fewestWords_57 : decode cX4_fewestWords 57 = .ok (.istore 4, 2) := by decide +kernel
theorem dX4_fewestWords_59 : decode cX4_fewestWords 59 = .ok (.iload 4, 2) := by decide +kernel
theorem dX4_fewestWords_61 : decode cX4_fewestWords 61 = .ok (.bipush (-6), 2) := by decide +kernel
theorem dX4_fewestWords_63 : decode cX4_fewestWords 63 = .ok (.if_icmp .ne 6, 3) := by decide +kernel
theorem dX4_fewestWords_66 : decode cX4_fewestWords 66 = .ok (.goto 37, 3) := by decide +kernel
theorem dX4_fewestWords_69 : decode cX4_fewestWords 69 = .ok (.aload_n 0, 1) := by decide +kernel
theorem dX4_fewestWords_70 : decode cX4_fewestWords 70 = .ok (.getfield 18, 3) := by decide +kernel
theorem dX4_fewestWords_73 : decode cX4_fewestWords 73 = .ok (.iload_n 2, 1) := by decide +kernel
theorem dX4_fewestWords_74 : decode cX4_fewestWords 74 = .ok (.iaload, 1) := by decide +kernel
theorem dX4_fewestWords_75 : decode cX4_fewestWords 75 = .ok (.bipush (-6), 2) := by decide +kernel
theorem dX4_fewestWords_77 : decode cX4_fewestWords 77 = .ok (.if_icmp .eq 16, 3) := by decide +kernel
theorem dX4_fewestWords_80 : decode cX4_fewestWords 80 = .ok (.iload 4, 2) := by decide +kernel
theorem dX4_fewestWords_82 : decode cX4_fewestWords 82 = .ok (.iconst 1, 1) := by decide +kernel
theorem dX4_fewestWords_83 : decode cX4_fewestWords 83 = .ok (.iadd, 1) := by decide +kernel
theorem dX4_fewestWords_84 : decode cX4_fewestWords 84 = .ok (.aload_n 0, 1) := by decide +kernel
theorem dX4_fewestWords_85 : decode cX4_fewestWords 85 = .ok (.getfield 18, 3) := by decide +kernel
theorem dX4_fewestWords_88 : decode cX4_fewestWords 88 = .ok (.iload_n 2, 1) := by decide +kernel
theorem dX4_fewestWords_89 : decode cX4_fewestWords 89 = .ok (.iaload, 1) := by decide +kernel
theorem dX4_fewestWords_90 : decode cX4_fewestWords 90 = .ok (.if_icmp .ge 13, 3) := by decide +kernel
theorem dX4_fewestWords_93 : decode cX4_fewestWords 93 = .ok (.aload_n 0, 1) := by decide +kernel
theorem dX4_fewestWords_94 : decode cX4_fewestWords 94 = .ok (.getfield 18, 3) := by decide +kernel
theorem dX4_fewestWords_97 : decode cX4_fewestWords 97 = .ok (.iload_n 2, 1) := by decide +kernel
theorem dX4_fewestWords_98 : decode cX4_fewestWords 98 = .ok (.iload 4, 2) := by decide +kernel
theorem dX4_fewestWords_100 : decode cX4_fewestWords 100 = .ok (.iconst 1, 1) := by decide +kernel
theorem dX4_fewestWords_101 : decode cX4_fewestWords 101 = .ok (.iadd, 1) := by decide +kernel
theorem dX4_fewestWords_102 : decode cX4_fewestWords 102 = .ok (.iastore, 1) := by decide +kernel
theorem dX4_fewestWords_103 : decode cX4_fewestWords 103 = .ok (.iinc 3 1, 3) := by decide +kernel
theorem dX4_fewestWords_106 : decode cX4_fewestWords 106 = .ok (.goto (-82), 3) := by decide +kernel
theorem dX4_fewestWords_109 : decode cX4_fewestWords 109 = .ok (.iinc 2 1, 3) := by decide +kernel
theorem dX4_fewestWords_112 : decode cX4_fewestWords 112 = .ok (.goto (-103), 3) := by decide +kernel
theorem dX4_fewestWords_115 : decode cX4_fewestWords 115 = .ok (.aload_n 0, 1) := by decide +kernel
theorem dX4_fewestWords_116 : decode cX4_fewestWords 116 = .ok (.getfield 18, 3) := by decide +kernel
theorem dX4_fewestWords_119 : decode cX4_fewestWords 119 = .ok (.iload_n 1, 1) := by decide +kernel
theorem dX4_fewestWords_120 : decode cX4_fewestWords 120 = .ok (.iaload, 1) := by decide +kernel
theorem dX4_fewestWords_121 : decode cX4_fewestWords 121 = .ok (.ireturn, 1) := by decide +kernel
theorem dX4_winningPulls_0 : decode cX4_winningPulls 0 = .ok (.iconst 0, 1) := by decide +kernel
theorem dX4_winningPulls_1 : decode cX4_winningPulls 1 = .ok (.istore_n 3, 1) := by decide +kernel
theorem dX4_winningPulls_2 : decode cX4_winningPulls 2 = .ok (.iload_n 3, 1) := by decide +kernel
theorem dX4_winningPulls_3 : decode cX4_winningPulls 3 = .ok (.iload_n 1, 1) := by decide +kernel
theorem dX4_winningPulls_4 : decode cX4_winningPulls 4 = .ok (.if_icmp .gt 69, 3) := by decide +kernel
theorem dX4_winningPulls_7 : decode cX4_winningPulls 7 = .ok (.iconst 0, 1) := by decide +kernel
theorem dX4_winningPulls_8 : decode cX4_winningPulls 8 = .ok (.istore 4, 2) := by decide +kernel
theorem dX4_winningPulls_10 : decode cX4_winningPulls 10 = .ok (.iconst 1, 1) := by decide +kernel
theorem dX4_winningPulls_11 : decode cX4_winningPulls 11 = .ok (.istore 5, 2) := by decide +kernel
theorem dX4_winningPulls_13 : decode cX4_winningPulls 13 = .ok (.iload 5, 2) := by decide +kernel
theorem dX4_winningPulls_15 : decode cX4_winningPulls 15 = .ok (.iload_n 2, 1) := by decide +kernel
theorem dX4_winningPulls_16 : decode cX4_winningPulls 16 = .ok (.if_icmp .gt 43, 3) := by decide +kernel
theorem dX4_winningPulls_19 : decode cX4_winningPulls 19 = .ok (.iload 5, 2) := by decide +kernel
theorem dX4_winningPulls_21 : decode cX4_winningPulls 21 = .ok (.iload_n 3, 1) := by decide +kernel
theorem dX4_winningPulls_22 : decode cX4_winningPulls 22 = .ok (.if_icmp .gt 37, 3) := by decide +kernel
theorem dX4_winningPulls_25 : decode cX4_winningPulls 25 = .ok (.aload_n 0, 1) := by decide +kernel
theorem dX4_winningPulls_26 : decode cX4_winningPulls 26 = .ok (.getfield 29, 3) := by decide +kernel
theorem dX4_winningPulls_29 : decode cX4_winningPulls 29 = .ok (.iload_n 3, 1) := by decide +kernel
theorem dX4_winningPulls_30 : decode cX4_winningPulls 30 = .ok (.iload 5, 2) := by decide +kernel
theorem dX4_winningPulls_32 : decode cX4_winningPulls 32 = .ok (.isub, 1) := by decide +kernel
theorem dX4_winningPulls_33 : decode cX4_winningPulls 33 = .ok (.iaload, 1) := by decide +kernel
theorem dX4_winningPulls_34 : decode cX4_winningPulls 34 = .ok (.iconst 1, 1) := by decide +kernel
theorem dX4_winningPulls_35 : decode cX4_winningPulls 35 = .ok (.iload 5, 2) := by decide +kernel
theorem dX4_winningPulls_37 : decode cX4_winningPulls 37 = .ok (.ishl, 1) := by decide +kernel
theorem dX4_winningPulls_38 : decode cX4_winningPulls 38 = .ok (.iconst (-1), 1) := by decide +kernel
theorem dX4_winningPulls_39 : decode cX4_winningPulls 39 = .ok (.ixor, 1) := by decide +kernel
theorem dX4_winningPulls_40 : decode cX4_winningPulls 40 = .ok (.iand, 1) := by decide +kernel
theorem dX4_winningPulls_41 : decode cX4_winningPulls 41 = .ok (.ifCond .ne 12, 3) := by decide +kernel
theorem dX4_winningPulls_44 : decode cX4_winningPulls 44 = .ok (.iload 4, 2) := by decide +kernel
theorem dX4_winningPulls_46 : decode cX4_winningPulls 46 = .ok (.iconst 1, 1) := by decide +kernel
theorem dX4_winningPulls_47 : decode cX4_winningPulls 47 = .ok (.iload 5, 2) := by decide +kernel
theorem dX4_winningPulls_49 : decode cX4_winningPulls 49 = .ok (.ishl, 1) := by decide +kernel
theorem dX4_winningPulls_50 : decode cX4_winningPulls 50 = .ok (.ior, 1) := by decide +kernel
theorem dX4_winningPulls_51 : decode cX4_winningPulls 51 = .ok (.istore 4, 2) := by decide +kernel
theorem dX4_winningPulls_53 : decode cX4_winningPulls 53 = .ok (.iinc 5 1, 3) := by decide +kernel
theorem dX4_winningPulls_56 : decode cX4_winningPulls 56 = .ok (.goto (-43), 3) := by decide +kernel
theorem dX4_winningPulls_59 : decode cX4_winningPulls 59 = .ok (.aload_n 0, 1) := by decide +kernel
theorem dX4_winningPulls_60 : decode cX4_winningPulls 60 = .ok (.getfield 29, 3) := by decide +kernel
theorem dX4_winningPulls_63 : decode cX4_winningPulls 63 = .ok (.iload_n 3, 1) := by decide +kernel
theorem dX4_winningPulls_64 : decode cX4_winningPulls 64 = .ok (.iload 4, 2) := by decide +kernel
theorem dX4_winningPulls_66 : decode cX4_winningPulls 66 = .ok (.iastore, 1) := by decide +kernel
theorem dX4_winningPulls_67 : decode cX4_winningPulls 67 = .ok (.iinc 3 1, 3) := by decide +kernel
theorem dX4_winningPulls_70 : decode cX4_winningPulls 70 = .ok (.goto (-68), 3) := by decide +kernel
theorem dX4_winningPulls_73 : decode cX4_winningPulls 73 = .ok (.aload_n 0, 1) := by decide +kernel
theorem dX4_winningPulls_74 : decode cX4_winningPulls 74 = .ok (.getfield 29, 3) := by decide +kernel
theorem dX4_winningPulls_77 : decode cX4_winningPulls 77 = .ok (.iload_n 1, 1) := by decide +kernel
theorem dX4_winningPulls_78 : decode cX4_winningPulls 78 = .ok (.iaload, 1) := by decide +kernel
theorem dX4_winningPulls_79 : decode cX4_winningPulls 79 = .ok (.ireturn, 1) := by decide +kernel
theorem dX5_init_0 : decode cX5_init 0 = .ok (.aload_n 0, 1) := by decide +kernel
theorem dX5_init_1 : decode cX5_init 1 = .ok (.invokespecial 3, 3) := by decide +kernel
theorem dX5_init_4 : decode cX5_init 4 = .ok (.aload_n 0, 1) := by decide +kernel
theorem dX5_init_5 : decode cX5_init 5 = .ok (.bipush 10, 2) := by decide +kernel
theorem dX5_init_7 : decode cX5_init 7 = .ok (.newarray .int, 2) := by decide +kernel
theorem dX5_init_9 : decode cX5_init 9 = .ok (.putfield 9, 3) := by decide +kernel
theorem dX5_init_12 : decode cX5_init 12 = .ok (.aload_n 0, 1) := by decide +kernel
theorem dX5_init_13 : decode cX5_init 13 = .ok (.bipush 10, 2) := by decide +kernel
theorem dX5_init_15 : decode cX5_init 15 = .ok (.newarray .int, 2) := by decide +kernel
theorem dX5_init_17 : decode cX5_init 17 = .ok (.putfield 15, 3) := by decide +kernel
theorem dX5_init_20 : decode cX5_init 20 = .ok (.aload_n 0, 1) := by decide +kernel
theorem dX5_init_21 : decode cX5_init 21 = .ok (.bipush 9, 2) := by decide +kernel
theorem dX5_init_23 : decode cX5_init 23 = .ok (.newarray .int, 2) := by decide +kernel
theorem dX5_init_25 : decode cX5_init 25 = .ok (.putfield 18, 3) := by decide +kernel
theorem dX5_init_28 : decode cX5_init 28 = .ok (.aload_n 0, 1) := by decide +kernel
theorem dX5_init_29 : decode cX5_init 29 = .ok (.bipush 10, 2) := by decide +kernel
theorem dX5_init_31 : decode cX5_init 31 = .ok (.newarray .int, 2) := by decide +kernel
theorem dX5_init_33 : decode cX5_init 33 = .ok (.putfield 21, 3) := by decide +kernel
theorem dX5_init_36 : decode cX5_init 36 = .ok (.iconst 0, 1) := by decide +kernel
theorem dX5_init_37 : decode cX5_init 37 = .ok (.istore_n 1, 1) := by decide +kernel
theorem dX5_init_38 : decode cX5_init 38 = .ok (.iload_n 1, 1) := by decide +kernel
theorem dX5_init_39 : decode cX5_init 39 = .ok (.bipush 10, 2) := by decide +kernel
theorem dX5_init_41 : decode cX5_init 41 = .ok (.if_icmp .ge 19, 3) := by decide +kernel
theorem dX5_init_44 : decode cX5_init 44 = .ok (.aload_n 0, 1) := by decide +kernel
theorem dX5_init_45 : decode cX5_init 45 = .ok (.getfield 9, 3) := by decide +kernel
theorem dX5_init_48 : decode cX5_init 48 = .ok (.iload_n 1, 1) := by decide +kernel
theorem dX5_init_49 : decode cX5_init 49 = .ok (.bipush 10, 2) := by decide +kernel
theorem dX5_init_51 : decode cX5_init 51 = .ok (.iload_n 1, 1) := by decide +kernel
theorem dX5_init_52 : decode cX5_init 52 = .ok (.imul, 1) := by decide +kernel
theorem dX5_init_53 : decode cX5_init 53 = .ok (.iastore, 1) := by decide +kernel
theorem dX5_init_54 : decode cX5_init 54 = .ok (.iinc 1 1, 3) := by decide +kernel
theorem dX5_init_57 : decode cX5_init 57 = .ok (.goto (-19), 3) := by decide +kernel
theorem dX5_init_60 : decode cX5_init 60 = .ok (.iconst 0, 1) := by decide +kernel
theorem dX5_init_61 : decode cX5_init 61 = .ok (.istore_n 1, 1) := by decide +kernel
theorem dX5_init_62 : decode cX5_init 62 = .ok (.iload_n 1, 1) := by decide +kernel
theorem dX5_init_63 : decode cX5_init 63 = .ok (.bipush 9, 2) := by decide +kernel
theorem dX5_init_65 : decode cX5_init 65 = .ok (.if_icmp .ge 17, 3) := by decide +kernel
theorem dX5_init_68 : decode cX5_init 68 = .ok (.aload_n 0, 1) := by decide +kernel
theorem dX5_init_69 : decode cX5_init 69 = .ok (.getfield 18, 3) := by decide +kernel
theorem dX5_init_72 : decode cX5_init 72 = .ok (.iload_n 1, 1) := by decide +kernel
theorem dX5_init_73 : decode cX5_init 73 = .ok (.bipush 15, 2) := by decide +kernel
theorem dX5_init_75 : decode cX5_init 75 = .ok (.iastore, 1) := by decide +kernel
theorem dX5_init_76 : decode cX5_init 76 = .ok (.iinc 1 1, 3) := by decide +kernel
theorem dX5_init_79 : decode cX5_init 79 = .ok (.goto (-17), 3) := by decide +kernel
theorem dX5_init_82 : decode cX5_init 82 = .ok (.aload_n 0, 1) := by decide +kernel
theorem dX5_init_83 : decode cX5_init 83 = .ok (.bipush 20, 2) := by decide +kernel
theorem dX5_init_85 : decode cX5_init 85 = .ok (.putfield 24, 3) := by decide +kernel
theorem dX5_init_88 : decode cX5_init 88 = .ok (.return_, 1) := by decide +kernel
theorem dX5_copyFrom_0 : decode cX5_copyFrom 0 = .ok (.iconst 0, 1) := by decide +kernel
theorem dX5_copyFrom_1 : decode cX5_copyFrom 1 = .ok (.istore_n 2, 1) := by decide +kernel
theorem dX5_copyFrom_2 : decode cX5_copyFrom 2 = .ok (.iload_n 2, 1) := by decide +kernel
theorem dX5_copyFrom_3 : decode cX5_copyFrom 3 = .ok (.bipush 10, 2) := by decide +kernel
theorem dX5_copyFrom_5 : decode cX5_copyFrom 5 = .ok (.if_icmp .ge 33, 3) := by decide +kernel
theorem dX5_copyFrom_8 : decode cX5_copyFrom 8 = .ok (.aload_n 0, 1) := by decide +kernel
theorem dX5_copyFrom_9 : decode cX5_copyFrom 9 = .ok (.getfield 9, 3) := by decide +kernel
theorem dX5_copyFrom_12 : decode cX5_copyFrom 12 = .ok (.iload_n 2, 1) := by decide +kernel
theorem dX5_copyFrom_13 : decode cX5_copyFrom 13 = .ok (.aload_n 1, 1) := by decide +kernel
theorem dX5_copyFrom_14 : decode cX5_copyFrom 14 = .ok (.getfield 9, 3) := by decide +kernel
theorem dX5_copyFrom_17 : decode cX5_copyFrom 17 = .ok (.iload_n 2, 1) := by decide +kernel
theorem dX5_copyFrom_18 : decode cX5_copyFrom 18 = .ok (.iaload, 1) := by decide +kernel
theorem dX5_copyFrom_19 : decode cX5_copyFrom 19 = .ok (.iastore, 1) := by decide +kernel
theorem dX5_copyFrom_20 : decode cX5_copyFrom 20 = .ok (.aload_n 0, 1) := by decide +kernel
theorem dX5_copyFrom_21 : decode cX5_copyFrom 21 = .ok (.getfield 15, 3) := by decide +kernel
theorem dX5_copyFrom_24 : decode cX5_copyFrom 24 = .ok (.iload_n 2, 1) := by decide +kernel
theorem dX5_copyFrom_25 : decode cX5_copyFrom 25 = .ok (.aload_n 1, 1) := by decide +kernel
theorem dX5_copyFrom_26 : decode cX5_copyFrom 26 = .ok (.getfield 15, 3) := by decide +kernel
theorem dX5_copyFrom_29 : decode cX5_copyFrom 29 = .ok (.iload_n 2, 1) := by decide +kernel
theorem dX5_copyFrom_30 : decode cX5_copyFrom 30 = .ok (.iaload, 1) := by decide +kernel
theorem dX5_copyFrom_31 : decode cX5_copyFrom 31 = .ok (.iastore, 1) := by decide +kernel
theorem dX5_copyFrom_32 : decode cX5_copyFrom 32 = .ok (.iinc 2 1, 3) := by decide +kernel
theorem dX5_copyFrom_35 : decode cX5_copyFrom 35 = .ok (.goto (-33), 3) := by decide +kernel
theorem dX5_copyFrom_38 : decode cX5_copyFrom 38 = .ok (.iconst 0, 1) := by decide +kernel
theorem dX5_copyFrom_39 : decode cX5_copyFrom 39 = .ok (.istore_n 2, 1) := by decide +kernel
theorem dX5_copyFrom_40 : decode cX5_copyFrom 40 = .ok (.iload_n 2, 1) := by decide +kernel
theorem dX5_copyFrom_41 : decode cX5_copyFrom 41 = .ok (.bipush 9, 2) := by decide +kernel
theorem dX5_copyFrom_43 : decode cX5_copyFrom 43 = .ok (.if_icmp .ge 21, 3) := by decide +kernel
theorem dX5_copyFrom_46 : decode cX5_copyFrom 46 = .ok (.aload_n 0, 1) := by decide +kernel
theorem dX5_copyFrom_47 : decode cX5_copyFrom 47 = .ok (.getfield 18, 3) := by decide +kernel
theorem dX5_copyFrom_50 : decode cX5_copyFrom 50 = .ok (.iload_n 2, 1) := by decide +kernel
theorem dX5_copyFrom_51 : decode cX5_copyFrom 51 = .ok (.aload_n 1, 1) := by decide +kernel
theorem dX5_copyFrom_52 : decode cX5_copyFrom 52 = .ok (.getfield 18, 3) := by decide +kernel
theorem dX5_copyFrom_55 : decode cX5_copyFrom 55 = .ok (.iload_n 2, 1) := by decide +kernel
theorem dX5_copyFrom_56 : decode cX5_copyFrom 56 = .ok (.iaload, 1) := by decide +kernel
theorem dX5_copyFrom_57 : decode cX5_copyFrom 57 = .ok (.iastore, 1) := by decide +kernel
theorem dX5_copyFrom_58 : decode cX5_copyFrom 58 = .ok (.iinc 2 1, 3) := by decide +kernel
theorem dX5_copyFrom_61 : decode cX5_copyFrom 61 = .ok (.goto (-21), 3) := by decide +kernel
theorem dX5_copyFrom_64 : decode cX5_copyFrom 64 = .ok (.aload_n 0, 1) := by decide +kernel
theorem dX5_copyFrom_65 : decode cX5_copyFrom 65 = .ok (.aload_n 1, 1) := by decide +kernel
theorem dX5_copyFrom_66 : decode cX5_copyFrom 66 = .ok (.getfield 28, 3) := by decide +kernel
theorem dX5_copyFrom_69 : decode cX5_copyFrom 69 = .ok (.putfield 28, 3) := by decide +kernel
theorem dX5_copyFrom_72 : decode cX5_copyFrom 72 = .ok (.aload_n 0, 1) := by decide +kernel
theorem dX5_copyFrom_73 : decode cX5_copyFrom 73 = .ok (.aload_n 1, 1) := by decide +kernel
theorem dX5_copyFrom_74 : decode cX5_copyFrom 74 = .ok (.getfield 24, 3) := by decide +kernel
theorem dX5_copyFrom_77 : decode cX5_copyFrom 77 = .ok (.putfield 24, 3) := by decide +kernel
theorem dX5_copyFrom_80 : decode cX5_copyFrom 80 = .ok (.aload_n 0, 1) := by decide +kernel
theorem dX5_copyFrom_81 : decode cX5_copyFrom 81 = .ok (.aload_n 1, 1) := by decide +kernel
theorem dX5_copyFrom_82 : decode cX5_copyFrom 82 = .ok (.getfield 31, 3) := by decide +kernel
theorem dX5_copyFrom_85 : decode cX5_copyFrom 85 = .ok (.putfield 31, 3) := by decide +kernel
theorem dX5_copyFrom_88 : decode cX5_copyFrom 88 = .ok (.return_, 1) := by decide +kernel
theorem dX5_holdsFast_0 : decode cX5_holdsFast 0 = .ok (.aload_n 0, 1) := by decide +kernel
theorem dX5_holdsFast_1 : decode cX5_holdsFast 1 = .ok (.getfield 28, 3) := by decide +kernel
theorem dX5_holdsFast_4 : decode cX5_holdsFast 4 = .ok (.iload_n 1, 1) := by decide +kernel
theorem dX5_holdsFast_5 : decode cX5_holdsFast 5 = .ok (.ishr, 1) := by decide +kernel
theorem dX5_holdsFast_6 : decode cX5_holdsFast 6 = .ok (.iconst 1, 1) := by decide +kernel
theorem dX5_holdsFast_7 : decode cX5_holdsFast 7 = .ok (.iand, 1) := by decide +kernel
theorem dX5_holdsFast_8 : decode cX5_holdsFast 8 = .ok (.iconst 1, 1) := by decide +kernel
theorem dX5_holdsFast_9 : decode cX5_holdsFast 9 = .ok (.if_icmp .ne 7, 3) := by decide +kernel
theorem dX5_holdsFast_12 : decode cX5_holdsFast 12 = .ok (.iconst 1, 1) := by decide +kernel
theorem dX5_holdsFast_13 : decode cX5_holdsFast 13 = .ok (.goto 4, 3) := by decide +kernel
theorem dX5_holdsFast_16 : decode cX5_holdsFast 16 = .ok (.iconst 0, 1) := by decide +kernel
theorem dX5_holdsFast_17 : decode cX5_holdsFast 17 = .ok (.ireturn, 1) := by decide +kernel
theorem dX5_turnHold_0 : decode cX5_turnHold 0 = .ok (.aload_n 0, 1) := by decide +kernel
theorem dX5_turnHold_1 : decode cX5_turnHold 1 = .ok (.dup, 1) := by decide +kernel
theorem dX5_turnHold_2 : decode cX5_turnHold 2 = .ok (.getfield 28, 3) := by decide +kernel
theorem dX5_turnHold_5 : decode cX5_turnHold 5 = .ok (.iconst 1, 1) := by decide +kernel
theorem dX5_turnHold_6 : decode cX5_turnHold 6 = .ok (.iload_n 1, 1) := by decide +kernel
theorem dX5_turnHold_7 : decode cX5_turnHold 7 = .ok (.ishl, 1) := by decide +kernel
theorem dX5_turnHold_8 : decode cX5_turnHold 8 = .ok (.ixor, 1) := by decide +kernel
theorem dX5_turnHold_9 : decode cX5_turnHold 9 = .ok (.putfield 28, 3) := by decide +kernel
theorem dX5_turnHold_12 : decode cX5_turnHold 12 = .ok (.return_, 1) := by decide +kernel
theorem dX5_apart_0 : decode cX5_apart 0 = .ok (.aload_n 0, 1) := by decide +kernel
theorem dX5_apart_1 : decode cX5_apart 1 = .ok (.getfield 9, 3) := by decide +kernel
theorem dX5_apart_4 : decode cX5_apart 4 = .ok (.iload_n 1, 1) := by decide +kernel
theorem dX5_apart_5 : decode cX5_apart 5 = .ok (.iconst 1, 1) := by decide +kernel
theorem dX5_apart_6 : decode cX5_apart 6 = .ok (.iadd, 1) := by decide +kernel
theorem dX5_apart_7 : decode cX5_apart 7 = .ok (.iaload, 1) := by decide +kernel
theorem dX5_apart_8 : decode cX5_apart 8 = .ok (.aload_n 0, 1) := by decide +kernel
theorem dX5_apart_9 : decode cX5_apart 9 = .ok (.getfield 9, 3) := by decide +kernel
theorem dX5_apart_12 : decode cX5_apart 12 = .ok (.iload_n 1, 1) := by decide +kernel
theorem dX5_apart_13 : decode cX5_apart 13 = .ok (.iaload, 1) := by decide +kernel
theorem dX5_apart_14 : decode cX5_apart 14 = .ok (.isub, 1) := by decide +kernel
theorem dX5_apart_15 : decode cX5_apart 15 = .ok (.invokestatic 34, 3) := by decide +kernel
theorem dX5_apart_18 : decode cX5_apart 18 = .ok (.ireturn, 1) := by decide +kernel
set_option maxRecDepth 20000 in
theorem ggX5_isTaut_X5_apart : GoodIn wsX5_isTaut wsX5_apart := goodIn_r _ [6, 7, 8, 9, 10, 11, 12, 13, 14, 15, 16, 17, 18] (by decide +kernel) (by decide +kernel)
set_option maxRecDepth 20000 in
theorem gX5_isTaut_X5_apart : GoodIn wsX5_isTaut (wsV RX5 40 RX5 yX5_apart wsX5_apart) := goodIn_app (goodIn_of _ (by decide +kernel)) ggX5_isTaut_X5_apart
theorem dX5_isTaut_0 : decode cX5_isTaut 0 = .ok (.aload_n 0, 1) := by decide +kernel
theorem dX5_isTaut_1 : decode cX5_isTaut 1 = .ok (.iload_n 1, 1) := by decide +kernel
theorem dX5_isTaut_2 : decode cX5_isTaut 2 = .ok (.invokevirtual 40, 3) := by decide +kernel
theorem dX5_isTaut_5 : decode cX5_isTaut 5 = .ok (.aload_n 0, 1) := by decide +kernel
theorem dX5_isTaut_6 : decode cX5_isTaut 6 = .ok (.getfield 18, 3) := by decide +kernel
theorem dX5_isTaut_9 : decode cX5_isTaut 9 = .ok (.iload_n 1, 1) := by decide +kernel
theorem dX5_isTaut_10 : decode cX5_isTaut 10 = .ok (.iaload, 1) := by decide +kernel
theorem dX5_isTaut_11 : decode cX5_isTaut 11 = .ok (.if_icmp .ne 7, 3) := by decide +kernel
theorem dX5_isTaut_14 : decode cX5_isTaut 14 = .ok (.iconst 1, 1) := by decide +kernel
theorem dX5_isTaut_15 : decode cX5_isTaut 15 = .ok (.goto 4, 3) := by decide +kernel
theorem dX5_isTaut_18 : decode cX5_isTaut 18 = .ok (.iconst 0, 1) := by decide +kernel
theorem dX5_isTaut_19 : decode cX5_isTaut 19 = .ok (.ireturn, 1) := by decide +kernel
set_option maxRecDepth 20000 in
theorem ggX5_tautBits_X5_isTaut : GoodIn wsX5_tautBits wsX5_isTaut := goodIn_r _ [5, 6, 7, 8, 9, 4, 10, 11, 12, 13, 14, 15, 16, 17, 18, 19, 20, 21, 22] (by decide +kernel) (by decide +kernel)
set_option maxRecDepth 20000 in
theorem gX5_tautBits_X5_isTaut : GoodIn wsX5_tautBits (wsV RX5 43 RX5 yX5_isTaut wsX5_isTaut) := goodIn_app (goodIn_of _ (by decide +kernel)) ggX5_tautBits_X5_isTaut
theorem dX5_tautBits_0 : decode cX5_tautBits 0 = .ok (.iconst 0, 1) := by decide +kernel
theorem dX5_tautBits_1 : decode cX5_tautBits 1 = .ok (.istore_n 1, 1) := by decide +kernel
theorem dX5_tautBits_2 : decode cX5_tautBits 2 = .ok (.iconst 0, 1) := by decide +kernel
theorem dX5_tautBits_3 : decode cX5_tautBits 3 = .ok (.istore_n 2, 1) := by decide +kernel
theorem dX5_tautBits_4 : decode cX5_tautBits 4 = .ok (.iload_n 2, 1) := by decide +kernel
theorem dX5_tautBits_5 : decode cX5_tautBits 5 = .ok (.bipush 9, 2) := by decide +kernel
theorem dX5_tautBits_7 : decode cX5_tautBits 7 = .ok (.if_icmp .ge 23, 3) := by decide +kernel
theorem dX5_tautBits_10 : decode cX5_tautBits 10 = .ok (.aload_n 0, 1) := by decide +kernel
theorem dX5_tautBits_11 : decode cX5_tautBits 11 = .ok (.iload_n 2, 1) := by decide +kernel
theorem dX5_tautBits_12 : decode cX5_tautBits 12 = .ok (.invokevirtual 43, 3) := by decide +kernel
theorem dX5_tautBits_15 : decode cX5_tautBits 15 = .ok (.ifCond .eq 9, 3) := by decide +kernel
theorem dX5_tautBits_18 : decode cX5_tautBits 18 = .ok (.iload_n 1, 1) := by decide +kernel
theorem dX5_tautBits_19 : decode cX5_tautBits 19 = .ok (.iconst 1, 1) := by decide +kernel
theorem dX5_tautBits_20 : decode cX5_tautBits 20 = .ok (.iload_n 2, 1) := by decide +kernel
theorem dX5_tautBits_21 : decode cX5_tautBits 21 = .ok (.ishl, 1) := by decide +kernel
theorem dX5_tautBits_22 : decode cX5_tautBits 22 = .ok (.ior, 1) := by decide +kernel
theorem dX5_tautBits_23 : decode cX5_tautBits 23 = .ok (.istore_n 1, 1) := by decide +kernel
theorem dX5_tautBits_24 : decode cX5_tautBits 24 = .ok (.iinc 2 1, 3) := by decide +kernel
theorem dX5_tautBits_27 : decode cX5_tautBits 27 = .ok (.goto (-23), 3) := by decide +kernel
theorem dX5_tautBits_30 : decode cX5_tautBits 30 = .ok (.iload_n 1, 1) := by decide +kernel
theorem dX5_tautBits_31 : decode cX5_tautBits 31 = .ok (.ireturn, 1) := by decide +kernel
theorem dX5_allLengths_0 : decode cX5_allLengths 0 = .ok (.iconst 0, 1) := by decide +kernel
theorem dX5_allLengths_1 : decode cX5_allLengths 1 = .ok (.istore_n 1, 1) := by decide +kernel
theorem dX5_allLengths_2 : decode cX5_allLengths 2 = .ok (.iconst 0, 1) := by decide +kernel
theorem dX5_allLengths_3 : decode cX5_allLengths 3 = .ok (.istore_n 2, 1) := by decide +kernel
theorem dX5_allLengths_4 : decode cX5_allLengths 4 = .ok (.iload_n 2, 1) := by decide +kernel
theorem dX5_allLengths_5 : decode cX5_allLengths 5 = .ok (.bipush 9, 2) := by decide +kernel
theorem dX5_allLengths_7 : decode cX5_allLengths 7 = .ok (.if_icmp .ge 18, 3) := by decide +kernel
theorem dX5_allLengths_10 : decode cX5_allLengths 10 = .ok (.iload_n 1, 1) := by decide +kernel
theorem dX5_allLengths_11 : decode cX5_allLengths 11 = .ok (.aload_n 0, 1) := by decide +kernel
theorem dX5_allLengths_12 : decode cX5_allLengths 12 = .ok (.getfield 18, 3) := by decide +kernel
theorem dX5_allLengths_15 : decode cX5_allLengths 15 = .ok (.iload_n 2, 1) := by decide +kernel
theorem dX5_allLengths_16 : decode cX5_allLengths 16 = .ok (.iaload, 1) := by decide +kernel
theorem dX5_allLengths_17 : decode cX5_allLengths 17 = .ok (.iadd, 1) := by decide +kernel
theorem dX5_allLengths_18 : decode cX5_allLengths 18 = .ok (.istore_n 1, 1) := by decide +kernel
theorem dX5_allLengths_19 : decode cX5_allLengths 19 = .ok (.iinc 2 1, 3) := by decide +kernel
theorem dX5_allLengths_22 : decode cX5_allLengths 22 = .ok (.goto (-18), 3) := by decide +kernel
theorem dX5_allLengths_25 : decode cX5_allLengths 25 = .ok (.iload_n 1, 1) := by decide +kernel
theorem dX5_allLengths_26 : decode cX5_allLengths 26 = .ok (.ireturn, 1) := by decide +kernel
theorem dX5_hasStringFor_0 : decode cX5_hasStringFor 0 = .ok (.iload_n 1, 1) := by decide +kernel
theorem dX5_hasStringFor_1 : decode cX5_hasStringFor 1 = .ok (.ifCond .le 29, 3) := by decide +kernel
theorem dX5_hasStringFor_4 : decode cX5_hasStringFor 4 = .ok (.iload_n 2, 1) := by decide +kernel
theorem dX5_hasStringFor_5 : decode cX5_hasStringFor 5 = .ok (.aload_n 0, 1) := by decide +kernel
theorem dX5_hasStringFor_6 : decode cX5_hasStringFor 6 = .ok (.getfield 9, 3) := by decide +kernel
theorem dX5_hasStringFor_9 : decode cX5_hasStringFor 9 = .ok (.iload_n 1, 1) := by decide +kernel
theorem dX5_hasStringFor_10 : decode cX5_hasStringFor 10 = .ok (.iconst 1, 1) := by decide +kernel
theorem dX5_hasStringFor_11 : decode cX5_hasStringFor 11 = .ok (.isub, 1) := by decide +kernel
theorem dX5_hasStringFor_12 : decode cX5_hasStringFor 12 = .ok (.iaload, 1) := by decide +kernel
theorem dX5_hasStringFor_13 : decode cX5_hasStringFor 13 = .ok (.isub, 1) := by decide +kernel
theorem dX5_hasStringFor_14 : decode cX5_hasStringFor 14 = .ok (.invokestatic 34, 3) := by decide +kernel
theorem dX5_hasStringFor_17 : decode cX5_hasStringFor 17 = .ok (.aload_n 0, 1) := by decide +kernel
theorem dX5_hasStringFor_18 : decode cX5_hasStringFor 18 = .ok (.getfield 18, 3) := by decide +kernel
theorem dX5_hasStringFor_21 : decode cX5_hasStringFor 21 = .ok (.iload_n 1, 1) := by decide +kernel
theorem dX5_hasStringFor_22 : decode cX5_hasStringFor 22 = .ok (.iconst 1, 1) := by decide +kernel
theorem dX5_hasStringFor_23 : decode cX5_hasStringFor 23 = .ok (.isub, 1) := by decide +kernel
theorem dX5_hasStringFor_24 : decode cX5_hasStringFor 24 = .ok (.iaload, 1) := by decide +kernel
theorem dX5_hasStringFor_25 : decode cX5_hasStringFor 25 = .ok (.if_icmp .le 5, 3) := by decide +kernel
theorem dX5_hasStringFor_28 : decode cX5_hasStringFor 28 = .ok (.iconst 0, 1) := by decide +kernel
theorem dX5_hasStringFor_29 : decode cX5_hasStringFor 29 = .ok (.ireturn, 1) := by decide +kernel
theorem dX5_hasStringFor_30 : decode cX5_hasStringFor 30 = .ok (.iload_n 1, 1) := by decide +kernel
theorem dX5_hasStringFor_31 : decode cX5_hasStringFor 31 = .ok (.bipush 9, 2) := by decide +kernel
theorem dX5_hasStringFor_33 : decode cX5_hasStringFor 33 = .ok (.if_icmp .eq 25, 3) := by decide +kernel
theorem dX5_hasStringFor_36 : decode cX5_hasStringFor 36 = .ok (.iload_n 2, 1) := by decide +kernel
theorem dX5_hasStringFor_37 : decode cX5_hasStringFor 37 = .ok (.aload_n 0, 1) := by decide +kernel
theorem dX5_hasStringFor_38 : decode cX5_hasStringFor 38 = .ok (.getfield 9, 3) := by decide +kernel
theorem dX5_hasStringFor_41 : decode cX5_hasStringFor 41 = .ok (.iload_n 1, 1) := by decide +kernel
theorem dX5_hasStringFor_42 : decode cX5_hasStringFor 42 = .ok (.iconst 1, 1) := by decide +kernel
theorem dX5_hasStringFor_43 : decode cX5_hasStringFor 43 = .ok (.iadd, 1) := by decide +kernel
theorem dX5_hasStringFor_44 : decode cX5_hasStringFor 44 = .ok (.iaload, 1) := by decide +kernel
theorem dX5_hasStringFor_45 : decode cX5_hasStringFor 45 = .ok (.isub, 1) := by decide +kernel
theorem dX5_hasStringFor_46 : decode cX5_hasStringFor 46 = .ok (.invokestatic 34, 3) := by decide +kernel
theorem dX5_hasStringFor_49 : decode cX5_hasStringFor 49 = .ok (.aload_n 0, 1) := by decide +kernel
theorem dX5_hasStringFor_50 : decode cX5_hasStringFor 50 = .ok (.getfield 18, 3) := by decide +kernel
theorem dX5_hasStringFor_53 : decode cX5_hasStringFor 53 = .ok (.iload_n 1, 1) := by decide +kernel
theorem dX5_hasStringFor_54 : decode cX5_hasStringFor 54 = .ok (.iaload, 1) := by decide +kernel
theorem dX5_hasStringFor_55 : decode cX5_hasStringFor 55 = .ok (.if_icmp .gt 7, 3) := by decide +kernel
theorem dX5_hasStringFor_58 : decode cX5_hasStringFor 58 = .ok (.iconst 1, 1) := by decide +kernel
theorem dX5_hasStringFor_59 : decode cX5_hasStringFor 59 = .ok (.goto 4, 3) := by decide +kernel
theorem dX5_hasStringFor_62 : decode cX5_hasStringFor 62 = .ok (.iconst 0, 1) := by decide +kernel
theorem dX5_hasStringFor_63 : decode cX5_hasStringFor 63 = .ok (.ireturn, 1) := by decide +kernel
set_option maxRecDepth 20000 in
theorem ggX5_whyNot_X5_whyNotStep : GoodIn wsX5_whyNot wsX5_whyNotStep := goodIn_r _ [7, 8, 9, 10, 11, 12, 13, 14, 6, 15, 16, 1, 17, 18, 19, 20, 21, 43, 44, 45, 46, 47, 48, 49] (by decide +kernel) (by decide +kernel)
set_option maxRecDepth 20000 in
theorem gX5_whyNot_X5_whyNotStep : GoodIn wsX5_whyNot (wsV RX5 47 RX5 yX5_whyNotStep wsX5_whyNotStep) := goodIn_app (goodIn_of _ (by decide +kernel)) ggX5_whyNot_X5_whyNotStep
set_option maxRecDepth 20000 in
theorem ggX5_whyNot_X5_whyNotLetOut : GoodIn wsX5_whyNot wsX5_whyNotLetOut := goodIn_r _ [25, 26, 17, 43, 44, 45, 46, 47, 48, 49] (by decide +kernel) (by decide +kernel)
set_option maxRecDepth 20000 in
theorem gX5_whyNot_X5_whyNotLetOut : GoodIn wsX5_whyNot (wsV RX5 51 RX5 yX5_whyNotLetOut wsX5_whyNotLetOut) := goodIn_app (goodIn_of _ (by decide +kernel)) ggX5_whyNot_X5_whyNotLetOut
set_option maxRecDepth 20000 in
theorem ggX5_whyNot_X5_whyNotWind : GoodIn wsX5_whyNot wsX5_whyNotWind := goodIn_r _ [30, 17, 31, 32, 33, 6, 34, 35, 36, 37, 38, 1, 39, 40, 41, 42, 43, 44, 45, 46, 47, 48, 49] (by decide +kernel) (by decide +kernel)
set_option maxRecDepth 20000 in
theorem gX5_whyNot_X5_whyNotWind : GoodIn wsX5_whyNot (wsV RX5 54 RX5 yX5_whyNotWind wsX5_whyNotWind) := goodIn_app (goodIn_of _ (by decide +kernel)) ggX5_whyNot_X5_whyNotWind
theorem dX5_whyNot_0 : decode cX5_whyNot 0 = .ok (.iload_n 1, 1) := by decide +kernel
theorem dX5_whyNot_1 : decode cX5_whyNot 1 = .ok (.lookupswitch 107 #[(43, 79), (45, 85), (46, 91), (60, 65), (62, 51)], 51) := by decide +kernel
theorem dX5_whyNot_52 : decode cX5_whyNot 52 = .ok (.aload_n 0, 1) := by decide +kernel
theorem dX5_whyNot_53 : decode cX5_whyNot 53 = .ok (.iload_n 2, 1) := by decide +kernel
theorem dX5_whyNot_54 : decode cX5_whyNot 54 = .ok (.aload_n 0, 1) := by decide +kernel
theorem dX5_whyNot_55 : decode cX5_whyNot 55 = .ok (.getfield 9, 3) := by decide +kernel
theorem dX5_whyNot_58 : decode cX5_whyNot 58 = .ok (.iload_n 2, 1) := by decide +kernel
theorem dX5_whyNot_59 : decode cX5_whyNot 59 = .ok (.iaload, 1) := by decide +kernel
theorem dX5_whyNot_60 : decode cX5_whyNot 60 = .ok (.iload_n 3, 1) := by decide +kernel
theorem dX5_whyNot_61 : decode cX5_whyNot 61 = .ok (.iadd, 1) := by decide +kernel
theorem dX5_whyNot_62 : decode cX5_whyNot 62 = .ok (.invokevirtual 47, 3) := by decide +kernel
theorem dX5_whyNot_65 : decode cX5_whyNot 65 = .ok (.ireturn, 1) := by decide +kernel
theorem dX5_whyNot_66 : decode cX5_whyNot 66 = .ok (.aload_n 0, 1) := by decide +kernel
theorem dX5_whyNot_67 : decode cX5_whyNot 67 = .ok (.iload_n 2, 1) := by decide +kernel
theorem dX5_whyNot_68 : decode cX5_whyNot 68 = .ok (.aload_n 0, 1) := by decide +kernel
theorem dX5_whyNot_69 : decode cX5_whyNot 69 = .ok (.getfield 9, 3) := by decide +kernel
theorem dX5_whyNot_72 : decode cX5_whyNot 72 = .ok (.iload_n 2, 1) := by decide +kernel
theorem dX5_whyNot_73 : decode cX5_whyNot 73 = .ok (.iaload, 1) := by decide +kernel
theorem dX5_whyNot_74 : decode cX5_whyNot 74 = .ok (.iload_n 3, 1) := by decide +kernel
theorem dX5_whyNot_75 : decode cX5_whyNot 75 = .ok (.isub, 1) := by decide +kernel
theorem dX5_whyNot_76 : decode cX5_whyNot 76 = .ok (.invokevirtual 47, 3) := by decide +kernel
theorem dX5_whyNot_79 : decode cX5_whyNot 79 = .ok (.ireturn, 1) := by decide +kernel
theorem dX5_whyNot_80 : decode cX5_whyNot 80 = .ok (.aload_n 0, 1) := by decide +kernel
theorem dX5_whyNot_81 : decode cX5_whyNot 81 = .ok (.iload_n 2, 1) := by decide +kernel
theorem dX5_whyNot_82 : decode cX5_whyNot 82 = .ok (.invokevirtual 51, 3) := by decide +kernel
theorem dX5_whyNot_85 : decode cX5_whyNot 85 = .ok (.ireturn, 1) := by decide +kernel
theorem dX5_whyNot_86 : decode cX5_whyNot 86 = .ok (.aload_n 0, 1) := by decide +kernel
theorem dX5_whyNot_87 : decode cX5_whyNot 87 = .ok (.iload_n 2, 1) := by decide +kernel
theorem dX5_whyNot_88 : decode cX5_whyNot 88 = .ok (.invokevirtual 54, 3) := by decide +kernel
theorem dX5_whyNot_91 : decode cX5_whyNot 91 = .ok (.ireturn, 1) := by decide +kernel
theorem dX5_whyNot_92 : decode cX5_whyNot 92 = .ok (.aload_n 0, 1) := by decide +kernel
theorem dX5_whyNot_93 : decode cX5_whyNot 93 = .ok (.getfield 31, 3) := by decide +kernel
theorem dX5_whyNot_96 : decode cX5_whyNot 96 = .ok (.bipush 99, 2) := by decide +kernel
theorem dX5_whyNot_98 : decode cX5_whyNot 98 = .ok (.if_icmp .lt 8, 3) := by decide +kernel
theorem dX5_whyNot_101 : decode cX5_whyNot 101 = .ok (.bipush 6, 2) := by decide +kernel
theorem dX5_whyNot_103 : decode cX5_whyNot 103 = .ok (.goto 4, 3) := by decide +kernel
theorem dX5_whyNot_106 : decode cX5_whyNot 106 = .ok (.iconst 0, 1) := by decide +kernel
theorem dX5_whyNot_107 : decode cX5_whyNot 107 = .ok (.ireturn, 1) := by decide +kernel
theorem dX5_whyNot_108 : decode cX5_whyNot 108 = .ok (.iconst 0, 1) := by decide +kernel
theorem dX5_whyNot_109 : decode cX5_whyNot 109 = .ok (.ireturn, 1) := by decide +kernel
set_option maxRecDepth 20000 in
theorem ggX5_whyNotStep_X7_isWithin : GoodIn wsX5_whyNotStep wsX7_isWithin := goodIn_r _ [4] (by decide +kernel) (by decide +kernel)
set_option maxRecDepth 20000 in
theorem gX5_whyNotStep_X7_isWithin_n57 : GoodIn wsX5_whyNotStep (wsX7_isWithin) := ggX5_whyNotStep_X7_isWithin
set_option maxRecDepth 20000 in
theorem ggX5_whyNotStep_X5_planStep : GoodIn wsX5_whyNotStep wsX5_planStep := goodIn_r _ [9, 10, 11, 12, 13, 14, 15, 8, 16, 17, 18, 19, 20, 21, 22, 23] (by decide +kernel) (by decide +kernel)
set_option maxRecDepth 20000 in
theorem gX5_whyNotStep_X5_planStep : GoodIn wsX5_whyNotStep (wsV RX5 61 RX5 yX5_planStep wsX5_planStep) := goodIn_app (goodIn_of _ (by decide +kernel)) ggX5_whyNotStep_X5_planStep
theorem dX5_whyNotStep_0 : decode cX5_whyNotStep 0 = .ok (.iload_n 2, 1) := by decide +kernel
theorem dX5_whyNotStep_1 : decode cX5_whyNotStep 1 = .ok (.iconst 0, 1) := by decide +kernel
theorem dX5_whyNotStep_2 : decode cX5_whyNotStep 2 = .ok (.sipush 999, 3) := by decide +kernel
theorem dX5_whyNotStep_5 : decode cX5_whyNotStep 5 = .ok (.invokestatic 57, 3) := by decide +kernel
theorem dX5_whyNotStep_8 : decode cX5_whyNotStep 8 = .ok (.ifCond .ne 5, 3) := by decide +kernel
theorem dX5_whyNotStep_11 : decode cX5_whyNotStep 11 = .ok (.iconst 1, 1) := by decide +kernel
theorem dX5_whyNotStep_12 : decode cX5_whyNotStep 12 = .ok (.ireturn, 1) := by decide +kernel
theorem dX5_whyNotStep_13 : decode cX5_whyNotStep 13 = .ok (.aload_n 0, 1) := by decide +kernel
theorem dX5_whyNotStep_14 : decode cX5_whyNotStep 14 = .ok (.iload_n 1, 1) := by decide +kernel
theorem dX5_whyNotStep_15 : decode cX5_whyNotStep 15 = .ok (.iload_n 2, 1) := by decide +kernel
theorem dX5_whyNotStep_16 : decode cX5_whyNotStep 16 = .ok (.invokevirtual 61, 3) := by decide +kernel
theorem dX5_whyNotStep_19 : decode cX5_whyNotStep 19 = .ok (.iconst 1, 1) := by decide +kernel
theorem dX5_whyNotStep_20 : decode cX5_whyNotStep 20 = .ok (.iload_n 1, 1) := by decide +kernel
theorem dX5_whyNotStep_21 : decode cX5_whyNotStep 21 = .ok (.ishl, 1) := by decide +kernel
theorem dX5_whyNotStep_22 : decode cX5_whyNotStep 22 = .ok (.ior, 1) := by decide +kernel
theorem dX5_whyNotStep_23 : decode cX5_whyNotStep 23 = .ok (.istore_n 3, 1) := by decide +kernel
theorem dX5_whyNotStep_24 : decode cX5_whyNotStep 24 = .ok (.iload_n 3, 1) := by decide +kernel
theorem dX5_whyNotStep_25 : decode cX5_whyNotStep 25 = .ok (.aload_n 0, 1) := by decide +kernel
theorem dX5_whyNotStep_26 : decode cX5_whyNotStep 26 = .ok (.getfield 28, 3) := by decide +kernel
theorem dX5_whyNotStep_29 : decode cX5_whyNotStep 29 = .ok (.iand, 1) := by decide +kernel
theorem dX5_whyNotStep_30 : decode cX5_whyNotStep 30 = .ok (.ifCond .eq 7, 3) := by decide +kernel
theorem dX5_whyNotStep_33 : decode cX5_whyNotStep 33 = .ok (.iconst 2, 1) := by decide +kernel
theorem dX5_whyNotStep_34 : decode cX5_whyNotStep 34 = .ok (.goto 4, 3) := by decide +kernel
theorem dX5_whyNotStep_37 : decode cX5_whyNotStep 37 = .ok (.iconst 0, 1) := by decide +kernel
theorem dX5_whyNotStep_38 : decode cX5_whyNotStep 38 = .ok (.ireturn, 1) := by decide +kernel
theorem dX5_whyNotLetOut_0 : decode cX5_whyNotLetOut 0 = .ok (.iload_n 1, 1) := by decide +kernel
theorem dX5_whyNotLetOut_1 : decode cX5_whyNotLetOut 1 = .ok (.bipush 9, 2) := by decide +kernel
theorem dX5_whyNotLetOut_3 : decode cX5_whyNotLetOut 3 = .ok (.if_icmp .lt 5, 3) := by decide +kernel
theorem dX5_whyNotLetOut_6 : decode cX5_whyNotLetOut 6 = .ok (.iconst 3, 1) := by decide +kernel
theorem dX5_whyNotLetOut_7 : decode cX5_whyNotLetOut 7 = .ok (.ireturn, 1) := by decide +kernel
theorem dX5_whyNotLetOut_8 : decode cX5_whyNotLetOut 8 = .ok (.aload_n 0, 1) := by decide +kernel
theorem dX5_whyNotLetOut_9 : decode cX5_whyNotLetOut 9 = .ok (.getfield 24, 3) := by decide +kernel
theorem dX5_whyNotLetOut_12 : decode cX5_whyNotLetOut 12 = .ok (.ifCond .ne 5, 3) := by decide +kernel
theorem dX5_whyNotLetOut_15 : decode cX5_whyNotLetOut 15 = .ok (.iconst 4, 1) := by decide +kernel
theorem dX5_whyNotLetOut_16 : decode cX5_whyNotLetOut 16 = .ok (.ireturn, 1) := by decide +kernel
theorem dX5_whyNotLetOut_17 : decode cX5_whyNotLetOut 17 = .ok (.aload_n 0, 1) := by decide +kernel
theorem dX5_whyNotLetOut_18 : decode cX5_whyNotLetOut 18 = .ok (.getfield 18, 3) := by decide +kernel
theorem dX5_whyNotLetOut_21 : decode cX5_whyNotLetOut 21 = .ok (.iload_n 1, 1) := by decide +kernel
theorem dX5_whyNotLetOut_22 : decode cX5_whyNotLetOut 22 = .ok (.iaload, 1) := by decide +kernel
theorem dX5_whyNotLetOut_23 : decode cX5_whyNotLetOut 23 = .ok (.bipush 99, 2) := by decide +kernel
theorem dX5_whyNotLetOut_25 : decode cX5_whyNotLetOut 25 = .ok (.if_icmp .lt 7, 3) := by decide +kernel
theorem dX5_whyNotLetOut_28 : decode cX5_whyNotLetOut 28 = .ok (.iconst 5, 1) := by decide +kernel
theorem dX5_whyNotLetOut_29 : decode cX5_whyNotLetOut 29 = .ok (.goto 4, 3) := by decide +kernel
theorem dX5_whyNotLetOut_32 : decode cX5_whyNotLetOut 32 = .ok (.iconst 0, 1) := by decide +kernel
theorem dX5_whyNotLetOut_33 : decode cX5_whyNotLetOut 33 = .ok (.ireturn, 1) := by decide +kernel
set_option maxRecDepth 20000 in
theorem ggX5_whyNotWind_X5_isTaut : GoodIn wsX5_whyNotWind wsX5_isTaut := goodIn_r _ [6, 1, 7, 8, 9, 5, 10, 11, 12, 13, 14, 15, 16, 17, 18, 19, 20, 21, 22] (by decide +kernel) (by decide +kernel)
set_option maxRecDepth 20000 in
theorem gX5_whyNotWind_X5_isTaut : GoodIn wsX5_whyNotWind (wsV RX5 43 RX5 yX5_isTaut wsX5_isTaut) := goodIn_app (goodIn_of _ (by decide +kernel)) ggX5_whyNotWind_X5_isTaut
theorem dX5_whyNotWind_0 : decode cX5_whyNotWind 0 = .ok (.iload_n 1, 1) := by decide +kernel
theorem dX5_whyNotWind_1 : decode cX5_whyNotWind 1 = .ok (.bipush 9, 2) := by decide +kernel
theorem dX5_whyNotWind_3 : decode cX5_whyNotWind 3 = .ok (.if_icmp .lt 5, 3) := by decide +kernel
theorem dX5_whyNotWind_6 : decode cX5_whyNotWind 6 = .ok (.iconst 3, 1) := by decide +kernel
theorem dX5_whyNotWind_7 : decode cX5_whyNotWind 7 = .ok (.ireturn, 1) := by decide +kernel
theorem dX5_whyNotWind_8 : decode cX5_whyNotWind 8 = .ok (.aload_n 0, 1) := by decide +kernel
theorem dX5_whyNotWind_9 : decode cX5_whyNotWind 9 = .ok (.iload_n 1, 1) := by decide +kernel
theorem dX5_whyNotWind_10 : decode cX5_whyNotWind 10 = .ok (.invokevirtual 43, 3) := by decide +kernel
theorem dX5_whyNotWind_13 : decode cX5_whyNotWind 13 = .ok (.ifCond .ne 13, 3) := by decide +kernel
theorem dX5_whyNotWind_16 : decode cX5_whyNotWind 16 = .ok (.aload_n 0, 1) := by decide +kernel
theorem dX5_whyNotWind_17 : decode cX5_whyNotWind 17 = .ok (.getfield 18, 3) := by decide +kernel
theorem dX5_whyNotWind_20 : decode cX5_whyNotWind 20 = .ok (.iload_n 1, 1) := by decide +kernel
theorem dX5_whyNotWind_21 : decode cX5_whyNotWind 21 = .ok (.iaload, 1) := by decide +kernel
theorem dX5_whyNotWind_22 : decode cX5_whyNotWind 22 = .ok (.iconst 1, 1) := by decide +kernel
theorem dX5_whyNotWind_23 : decode cX5_whyNotWind 23 = .ok (.if_icmp .gt 7, 3) := by decide +kernel
theorem dX5_whyNotWind_26 : decode cX5_whyNotWind 26 = .ok (.iconst 5, 1) := by decide +kernel
theorem dX5_whyNotWind_27 : decode cX5_whyNotWind 27 = .ok (.goto 4, 3) := by decide +kernel
theorem dX5_whyNotWind_30 : decode cX5_whyNotWind 30 = .ok (.iconst 0, 1) := by decide +kernel
theorem dX5_whyNotWind_31 : decode cX5_whyNotWind 31 = .ok (.ireturn, 1) := by decide +kernel
set_option maxRecDepth 20000 in
theorem ggX5_act_X5_step : GoodIn wsX5_act wsX5_step := goodIn_r _ [6, 1, 7, 8, 9, 10, 5, 11, 12, 13, 14, 15, 16, 64, 65, 66, 67, 68, 69, 70] (by decide +kernel) (by decide +kernel)
set_option maxRecDepth 20000 in
theorem gX5_act_X5_step : GoodIn wsX5_act (wsV RX5 64 RX5 yX5_step wsX5_step) := goodIn_app (goodIn_of _ (by decide +kernel)) ggX5_act_X5_step
set_option maxRecDepth 20000 in
theorem ggX5_act_X5_turnHold : GoodIn wsX5_act wsX5_turnHold := goodIn_r _ [20, 21, 64, 65, 66, 67, 68, 69, 70] (by decide +kernel) (by decide +kernel)
set_option maxRecDepth 20000 in
theorem gX5_act_X5_turnHold : GoodIn wsX5_act (wsV RX5 67 RX5 yX5_turnHold wsX5_turnHold) := goodIn_app (goodIn_of _ (by decide +kernel)) ggX5_act_X5_turnHold
set_option maxRecDepth 20000 in
theorem ggX5_act_X5_squeeze : GoodIn wsX5_act wsX5_squeeze := goodIn_r _ [25, 26, 27, 28, 5, 29, 30, 31, 32, 33, 12, 34, 35, 36, 37, 1, 38, 39, 40, 41, 42, 43, 44, 45, 46, 47, 48, 49, 64, 65, 66, 67, 68, 69, 70] (by decide +kernel) (by decide +kernel)
set_option maxRecDepth 20000 in
theorem gX5_act_X5_squeeze : GoodIn wsX5_act (wsV RX5 71 RX5 yX5_squeeze wsX5_squeeze) := goodIn_app (goodIn_of _ (by decide +kernel)) ggX5_act_X5_squeeze
set_option maxRecDepth 20000 in
theorem ggX5_act_X5_letOut : GoodIn wsX5_act wsX5_letOut := goodIn_r _ [53, 12, 54, 64, 65, 66, 67, 68, 69, 70] (by decide +kernel) (by decide +kernel)
set_option maxRecDepth 20000 in
theorem gX5_act_X5_letOut : GoodIn wsX5_act (wsV RX5 75 RX5 yX5_letOut wsX5_letOut) := goodIn_app (goodIn_of _ (by decide +kernel)) ggX5_act_X5_letOut
set_option maxRecDepth 20000 in
theorem ggX5_act_X5_windIn : GoodIn wsX5_act wsX5_windIn := goodIn_r _ [58, 12, 54, 47, 48, 40, 49, 64, 65, 66, 67, 68, 69, 70] (by decide +kernel) (by decide +kernel)
set_option maxRecDepth 20000 in
theorem gX5_act_X5_windIn : GoodIn wsX5_act (wsV RX5 78 RX5 yX5_windIn wsX5_windIn) := goodIn_app (goodIn_of _ (by decide +kernel)) ggX5_act_X5_windIn
set_option maxRecDepth 20000 in
theorem ggX5_act_X5_nextDay : GoodIn wsX5_act wsX5_nextDay := goodIn_r _ [62, 63, 46, 64, 65, 66, 67, 68, 69, 70] (by decide +kernel) (by decide +kernel)
set_option maxRecDepth 20000 in
theorem gX5_act_X5_nextDay : GoodIn wsX5_act (wsV RX5 81 RX5 yX5_nextDay wsX5_nextDay) := goodIn_app (goodIn_of _ (by decide +kernel)) ggX5_act_X5_nextDay
theorem dX5_act_0 : decode cX5_act 0 = .ok (.iload_n 1, 1) := by decide +kernel
theorem dX5_act_1 : decode cX5_act 1 = .ok (.lookupswitch 120 #[(33, 95), (35, 87), (43, 104), (45, 112), (60, 73), (62, 59)], 59) := by decide +kernel
theorem dX5_act_60 : decode cX5_act 60 = .ok (.aload_n 0, 1) := by decide +kernel
theorem dX5_act_61 : decode cX5_act 61 = .ok (.iload_n 2, 1) := by decide +kernel
theorem dX5_act_62 : decode cX5_act 62 = .ok (.aload_n 0, 1) := by decide +kernel
theorem dX5_act_63 : decode cX5_act 63 = .ok (.getfield 9, 3) := by decide +kernel
theorem dX5_act_66 : decode cX5_act 66 = .ok (.iload_n 2, 1) := by decide +kernel
theorem dX5_act_67 : decode cX5_act 67 = .ok (.iaload, 1) := by decide +kernel
theorem dX5_act_68 : decode cX5_act 68 = .ok (.iload_n 3, 1) := by decide +kernel
theorem dX5_act_69 : decode cX5_act 69 = .ok (.iadd, 1) := by decide +kernel
theorem dX5_act_70 : decode cX5_act 70 = .ok (.invokevirtual 64, 3) := by decide +kernel
theorem dX5_act_73 : decode cX5_act 73 = .ok (.ireturn, 1) := by decide +kernel
theorem dX5_act_74 : decode cX5_act 74 = .ok (.aload_n 0, 1) := by decide +kernel
theorem dX5_act_75 : decode cX5_act 75 = .ok (.iload_n 2, 1) := by decide +kernel
theorem dX5_act_76 : decode cX5_act 76 = .ok (.aload_n 0, 1) := by decide +kernel
theorem dX5_act_77 : decode cX5_act 77 = .ok (.getfield 9, 3) := by decide +kernel
theorem dX5_act_80 : decode cX5_act 80 = .ok (.iload_n 2, 1) := by decide +kernel
theorem dX5_act_81 : decode cX5_act 81 = .ok (.iaload, 1) := by decide +kernel
theorem dX5_act_82 : decode cX5_act 82 = .ok (.iload_n 3, 1) := by decide +kernel
theorem dX5_act_83 : decode cX5_act 83 = .ok (.isub, 1) := by decide +kernel
theorem dX5_act_84 : decode cX5_act 84 = .ok (.invokevirtual 64, 3) := by decide +kernel
theorem dX5_act_87 : decode cX5_act 87 = .ok (.ireturn, 1) := by decide +kernel
theorem dX5_act_88 : decode cX5_act 88 = .ok (.aload_n 0, 1) := by decide +kernel
theorem dX5_act_89 : decode cX5_act 89 = .ok (.iload_n 2, 1) := by decide +kernel
theorem dX5_act_90 : decode cX5_act 90 = .ok (.invokevirtual 67, 3) := by decide +kernel
theorem dX5_act_93 : decode cX5_act 93 = .ok (.goto 32, 3) := by decide +kernel
theorem dX5_act_96 : decode cX5_act 96 = .ok (.aload_n 0, 1) := by decide +kernel
theorem dX5_act_97 : decode cX5_act 97 = .ok (.iload_n 2, 1) := by decide +kernel
theorem dX5_act_98 : decode cX5_act 98 = .ok (.iload_n 3, 1) := by decide +kernel
theorem dX5_act_99 : decode cX5_act 99 = .ok (.invokevirtual 71, 3) := by decide +kernel
theorem dX5_act_102 : decode cX5_act 102 = .ok (.goto 23, 3) := by decide +kernel
theorem dX5_act_105 : decode cX5_act 105 = .ok (.aload_n 0, 1) := by decide +kernel
theorem dX5_act_106 : decode cX5_act 106 = .ok (.iload_n 2, 1) := by decide +kernel
theorem dX5_act_107 : decode cX5_act 107 = .ok (.invokevirtual 75, 3) := by decide +kernel
theorem dX5_act_110 : decode cX5_act 110 = .ok (.goto 15, 3) := by decide +kernel
theorem dX5_act_113 : decode cX5_act 113 = .ok (.aload_n 0, 1) := by decide +kernel
theorem dX5_act_114 : decode cX5_act 114 = .ok (.iload_n 2, 1) := by decide +kernel
theorem dX5_act_115 : decode cX5_act 115 = .ok (.invokevirtual 78, 3) := by decide +kernel
theorem dX5_act_118 : decode cX5_act 118 = .ok (.goto 7, 3) := by decide +kernel
theorem dX5_act_121 : decode cX5_act 121 = .ok (.aload_n 0, 1) := by decide +kernel
theorem dX5_act_122 : decode cX5_act 122 = .ok (.invokevirtual 81, 3) := by decide +kernel
theorem dX5_act_125 : decode cX5_act 125 = .ok (.iconst 0, 1) := by decide +kernel
theorem dX5_act_126 : decode cX5_act 126 = .ok (.ireturn, 1) := by decide +kernel
set_option maxRecDepth 20000 in
theorem ggX5_step_X5_planStep : GoodIn wsX5_step wsX5_planStep := goodIn_r _ [7, 2, 1, 8, 9, 10, 11, 6, 12, 13, 14, 15, 16, 17, 18, 19] (by decide +kernel) (by decide +kernel)
set_option maxRecDepth 20000 in
theorem gX5_step_X5_planStep : GoodIn wsX5_step (wsV RX5 61 RX5 yX5_planStep wsX5_planStep) := goodIn_app (goodIn_of _ (by decide +kernel)) ggX5_step_X5_planStep
theorem dX5_step_0 : decode cX5_step 0 = .ok (.aload_n 0, 1) := by decide +kernel
theorem dX5_step_1 : decode cX5_step 1 = .ok (.iload_n 1, 1) := by decide +kernel
theorem dX5_step_2 : decode cX5_step 2 = .ok (.iload_n 2, 1) := by decide +kernel
theorem dX5_step_3 : decode cX5_step 3 = .ok (.invokevirtual 61, 3) := by decide +kernel
theorem dX5_step_6 : decode cX5_step 6 = .ok (.istore_n 3, 1) := by decide +kernel
theorem dX5_step_7 : decode cX5_step 7 = .ok (.iconst 0, 1) := by decide +kernel
theorem dX5_step_8 : decode cX5_step 8 = .ok (.istore 4, 2) := by decide +kernel
theorem dX5_step_10 : decode cX5_step 10 = .ok (.iload 4, 2) := by decide +kernel
theorem dX5_step_12 : decode cX5_step 12 = .ok (.bipush 10, 2) := by decide +kernel
theorem dX5_step_14 : decode cX5_step 14 = .ok (.if_icmp .ge 23, 3) := by decide +kernel
theorem dX5_step_17 : decode cX5_step 17 = .ok (.aload_n 0, 1) := by decide +kernel
theorem dX5_step_18 : decode cX5_step 18 = .ok (.getfield 9, 3) := by decide +kernel
theorem dX5_step_21 : decode cX5_step 21 = .ok (.iload 4, 2) := by decide +kernel
theorem dX5_step_23 : decode cX5_step 23 = .ok (.aload_n 0, 1) := by decide +kernel
theorem dX5_step_24 : decode cX5_step 24 = .ok (.getfield 21, 3) := by decide +kernel
theorem dX5_step_27 : decode cX5_step 27 = .ok (.iload 4, 2) := by decide +kernel
theorem dX5_step_29 : decode cX5_step 29 = .ok (.iaload, 1) := by decide +kernel
theorem dX5_step_30 : decode cX5_step 30 = .ok (.iastore, 1) := by decide +kernel
theorem dX5_step_31 : decode cX5_step 31 = .ok (.iinc 4 1, 3) := by decide +kernel
theorem dX5_step_34 : decode cX5_step 34 = .ok (.goto (-24), 3) := by decide +kernel
theorem dX5_step_37 : decode cX5_step 37 = .ok (.iload_n 3, 1) := by decide +kernel
theorem dX5_step_38 : decode cX5_step 38 = .ok (.ireturn, 1) := by decide +kernel
set_option maxRecDepth 20000 in
theorem ggX5_planStep_X5_planDraw : GoodIn wsX5_planStep wsX5_planDraw := goodIn_r _ [8, 1, 9, 10, 11, 12, 13, 14, 15] (by decide +kernel) (by decide +kernel)
set_option maxRecDepth 20000 in
theorem gX5_planStep_X5_planDraw : GoodIn wsX5_planStep (wsV RX5 84 RX5 yX5_planDraw wsX5_planDraw) := goodIn_app (goodIn_of _ (by decide +kernel)) ggX5_planStep_X5_planDraw
theorem dX5_planStep_0 : decode cX5_planStep 0 = .ok (.iconst 0, 1) := by decide +kernel
theorem dX5_planStep_1 : decode cX5_planStep 1 = .ok (.istore_n 3, 1) := by decide +kernel
theorem dX5_planStep_2 : decode cX5_planStep 2 = .ok (.iload_n 3, 1) := by decide +kernel
theorem dX5_planStep_3 : decode cX5_planStep 3 = .ok (.bipush 10, 2) := by decide +kernel
theorem dX5_planStep_5 : decode cX5_planStep 5 = .ok (.if_icmp .ge 21, 3) := by decide +kernel
theorem dX5_planStep_8 : decode cX5_planStep 8 = .ok (.aload_n 0, 1) := by decide +kernel
theorem dX5_planStep_9 : decode cX5_planStep 9 = .ok (.getfield 21, 3) := by decide +kernel
theorem dX5_planStep_12 : decode cX5_planStep 12 = .ok (.iload_n 3, 1) := by decide +kernel
theorem dX5_planStep_13 : decode cX5_planStep 13 = .ok (.aload_n 0, 1) := by decide +kernel
theorem dX5_planStep_14 : decode cX5_planStep 14 = .ok (.getfield 9, 3) := by decide +kernel
theorem dX5_planStep_17 : decode cX5_planStep 17 = .ok (.iload_n 3, 1) := by decide +kernel
theorem dX5_planStep_18 : decode cX5_planStep 18 = .ok (.iaload, 1) := by decide +kernel
theorem dX5_planStep_19 : decode cX5_planStep 19 = .ok (.iastore, 1) := by decide +kernel
theorem dX5_planStep_20 : decode cX5_planStep 20 = .ok (.iinc 3 1, 3) := by decide +kernel
theorem dX5_planStep_23 : decode cX5_planStep 23 = .ok (.goto (-21), 3) := by decide +kernel
theorem dX5_planStep_26 : decode cX5_planStep 26 = .ok (.aload_n 0, 1) := by decide +kernel
theorem dX5_planStep_27 : decode cX5_planStep 27 = .ok (.getfield 21, 3) := by decide +kernel
theorem dX5_planStep_30 : decode cX5_planStep 30 = .ok (.iload_n 1, 1) := by decide +kernel
theorem dX5_planStep_31 : decode cX5_planStep 31 = .ok (.iload_n 2, 1) := by decide +kernel
theorem dX5_planStep_32 : decode cX5_planStep 32 = .ok (.iastore, 1) := by decide +kernel
theorem dX5_planStep_33 : decode cX5_planStep 33 = .ok (.iconst 0, 1) := by decide +kernel
theorem dX5_planStep_34 : decode cX5_planStep 34 = .ok (.istore_n 3, 1) := by decide +kernel
theorem dX5_planStep_35 : decode cX5_planStep 35 = .ok (.iload_n 1, 1) := by decide +kernel
theorem dX5_planStep_36 : decode cX5_planStep 36 = .ok (.iconst 1, 1) := by decide +kernel
theorem dX5_planStep_37 : decode cX5_planStep 37 = .ok (.iadd, 1) := by decide +kernel
theorem dX5_planStep_38 : decode cX5_planStep 38 = .ok (.istore 4, 2) := by decide +kernel
theorem dX5_planStep_40 : decode cX5_planStep 40 = .ok (.iload 4, 2) := by decide +kernel
theorem dX5_planStep_42 : decode cX5_planStep 42 = .ok (.bipush 10, 2) := by decide +kernel
theorem dX5_planStep_44 : decode cX5_planStep 44 = .ok (.if_icmp .ge 38, 3) := by decide +kernel
theorem dX5_planStep_47 : decode cX5_planStep 47 = .ok (.aload_n 0, 1) := by decide +kernel
theorem dX5_planStep_48 : decode cX5_planStep 48 = .ok (.iload 4, 2) := by decide +kernel
theorem dX5_planStep_50 : decode cX5_planStep 50 = .ok (.iconst 1, 1) := by decide +kernel
theorem dX5_planStep_51 : decode cX5_planStep 51 = .ok (.isub, 1) := by decide +kernel
theorem dX5_planStep_52 : decode cX5_planStep 52 = .ok (.iload 4, 2) := by decide +kernel
theorem dX5_planStep_54 : decode cX5_planStep 54 = .ok (.aload_n 0, 1) := by decide +kernel
theorem dX5_planStep_55 : decode cX5_planStep 55 = .ok (.getfield 18, 3) := by decide +kernel
theorem dX5_planStep_58 : decode cX5_planStep 58 = .ok (.iload 4, 2) := by decide +kernel
theorem dX5_planStep_60 : decode cX5_planStep 60 = .ok (.iconst 1, 1) := by decide +kernel
theorem dX5_planStep_61 : decode cX5_planStep 61 = .ok (.isub, 1) := by decide +kernel
theorem dX5_planStep_62 : decode cX5_planStep 62 = .ok (.iaload, 1) := by decide +kernel
theorem dX5_planStep_63 : decode cX5_planStep 63 = .ok (.invokevirtual 84, 3) := by decide +kernel
theorem dX5_planStep_66 : decode cX5_planStep 66 = .ok (.ifCond .eq 16, 3) := by decide +kernel
theorem dX5_planStep_69 : decode cX5_planStep 69 = .ok (.iload_n 3, 1) := by decide +kernel
theorem dX5_planStep_70 : decode cX5_planStep 70 = .ok (.iconst 1, 1) := by decide +kernel
theorem dX5_planStep_71 : decode cX5_planStep 71 = .ok (.iload 4, 2) := by decide +kernel
theorem dX5_planStep_73 : decode cX5_planStep 73 = .ok (.ishl, 1) := by decide +kernel
theorem dX5_planStep_74 : decode cX5_planStep 74 = .ok (.ior, 1) := by decide +kernel
theorem dX5_planStep_75 : decode cX5_planStep 75 = .ok (.istore_n 3, 1) := by decide +kernel
theorem dX5_planStep_76 : decode cX5_planStep 76 = .ok (.iinc 4 1, 3) := by decide +kernel
theorem dX5_planStep_79 : decode cX5_planStep 79 = .ok (.goto (-39), 3) := by decide +kernel
theorem dX5_planStep_82 : decode cX5_planStep 82 = .ok (.iload_n 1, 1) := by decide +kernel
theorem dX5_planStep_83 : decode cX5_planStep 83 = .ok (.iconst 1, 1) := by decide +kernel
theorem dX5_planStep_84 : decode cX5_planStep 84 = .ok (.isub, 1) := by decide +kernel
theorem dX5_planStep_85 : decode cX5_planStep 85 = .ok (.istore 4, 2) := by decide +kernel
theorem dX5_planStep_87 : decode cX5_planStep 87 = .ok (.iload 4, 2) := by decide +kernel
theorem dX5_planStep_89 : decode cX5_planStep 89 = .ok (.ifCond .lt 36, 3) := by decide +kernel
theorem dX5_planStep_92 : decode cX5_planStep 92 = .ok (.aload_n 0, 1) := by decide +kernel
theorem dX5_planStep_93 : decode cX5_planStep 93 = .ok (.iload 4, 2) := by decide +kernel
theorem dX5_planStep_95 : decode cX5_planStep 95 = .ok (.iconst 1, 1) := by decide +kernel
theorem dX5_planStep_96 : decode cX5_planStep 96 = .ok (.iadd, 1) := by decide +kernel
theorem dX5_planStep_97 : decode cX5_planStep 97 = .ok (.iload 4, 2) := by decide +kernel
theorem dX5_planStep_99 : decode cX5_planStep 99 = .ok (.aload_n 0, 1) := by decide +kernel
theorem dX5_planStep_100 : decode cX5_planStep 100 = .ok (.getfield 18, 3) := by decide +kernel
theorem dX5_planStep_103 : decode cX5_planStep 103 = .ok (.iload 4, 2) := by decide +kernel
theorem dX5_planStep_105 : decode cX5_planStep 105 = .ok (.iaload, 1) := by decide +kernel
theorem dX5_planStep_106 : decode cX5_planStep 106 = .ok (.invokevirtual 84, 3) := by decide +kernel
theorem dX5_planStep_109 : decode cX5_planStep 109 = .ok (.ifCond .eq 16, 3) := by decide +kernel
theorem dX5_planStep_112 : decode cX5_planStep 112 = .ok (.iload_n 3, 1) := by decide +kernel
theorem dX5_planStep_113 : decode cX5_planStep 113 = .ok (.iconst 1, 1) := by decide +kernel
theorem dX5_planStep_114 : decode cX5_planStep 114 = .ok (.iload 4, 2) := by decide +kernel
theorem dX5_planStep_116 : decode cX5_planStep 116 = .ok (.ishl, 1) := by decide +kernel
theorem dX5_planStep_117 : decode cX5_planStep 117 = .ok (.ior, 1) := by decide +kernel
theorem dX5_planStep_118 : decode cX5_planStep 118 = .ok (.istore_n 3, 1) := by decide +kernel
theorem dX5_planStep_119 : decode cX5_planStep 119 = .ok (.iinc 4 (-1), 3) := by decide +kernel
theorem dX5_planStep_122 : decode cX5_planStep 122 = .ok (.goto (-35), 3) := by decide +kernel
theorem dX5_planStep_125 : decode cX5_planStep 125 = .ok (.iload_n 3, 1) := by decide +kernel
theorem dX5_planStep_126 : decode cX5_planStep 126 = .ok (.ireturn, 1) := by decide +kernel
theorem dX5_planDraw_0 : decode cX5_planDraw 0 = .ok (.aload_n 0, 1) := by decide +kernel
theorem dX5_planDraw_1 : decode cX5_planDraw 1 = .ok (.getfield 21, 3) := by decide +kernel
theorem dX5_planDraw_4 : decode cX5_planDraw 4 = .ok (.iload_n 2, 1) := by decide +kernel
theorem dX5_planDraw_5 : decode cX5_planDraw 5 = .ok (.iaload, 1) := by decide +kernel
theorem dX5_planDraw_6 : decode cX5_planDraw 6 = .ok (.aload_n 0, 1) := by decide +kernel
theorem dX5_planDraw_7 : decode cX5_planDraw 7 = .ok (.getfield 21, 3) := by decide +kernel
theorem dX5_planDraw_10 : decode cX5_planDraw 10 = .ok (.iload_n 1, 1) := by decide +kernel
theorem dX5_planDraw_11 : decode cX5_planDraw 11 = .ok (.iaload, 1) := by decide +kernel
theorem dX5_planDraw_12 : decode cX5_planDraw 12 = .ok (.isub, 1) := by decide +kernel
theorem dX5_planDraw_13 : decode cX5_planDraw 13 = .ok (.iload_n 3, 1) := by decide +kernel
theorem dX5_planDraw_14 : decode cX5_planDraw 14 = .ok (.if_icmp .le 19, 3) := by decide +kernel
theorem dX5_planDraw_17 : decode cX5_planDraw 17 = .ok (.aload_n 0, 1) := by decide +kernel
theorem dX5_planDraw_18 : decode cX5_planDraw 18 = .ok (.getfield 21, 3) := by decide +kernel
theorem dX5_planDraw_21 : decode cX5_planDraw 21 = .ok (.iload_n 2, 1) := by decide +kernel
theorem dX5_planDraw_22 : decode cX5_planDraw 22 = .ok (.aload_n 0, 1) := by decide +kernel
theorem dX5_planDraw_23 : decode cX5_planDraw 23 = .ok (.getfield 21, 3) := by decide +kernel
theorem dX5_planDraw_26 : decode cX5_planDraw 26 = .ok (.iload_n 1, 1) := by decide +kernel
theorem dX5_planDraw_27 : decode cX5_planDraw 27 = .ok (.iaload, 1) := by decide +kernel
theorem dX5_planDraw_28 : decode cX5_planDraw 28 = .ok (.iload_n 3, 1) := by decide +kernel
theorem dX5_planDraw_29 : decode cX5_planDraw 29 = .ok (.iadd, 1) := by decide +kernel
theorem dX5_planDraw_30 : decode cX5_planDraw 30 = .ok (.iastore, 1) := by decide +kernel
theorem dX5_planDraw_31 : decode cX5_planDraw 31 = .ok (.iconst 1, 1) := by decide +kernel
theorem dX5_planDraw_32 : decode cX5_planDraw 32 = .ok (.ireturn, 1) := by decide +kernel
theorem dX5_planDraw_33 : decode cX5_planDraw 33 = .ok (.aload_n 0, 1) := by decide +kernel
theorem dX5_planDraw_34 : decode cX5_planDraw 34 = .ok (.getfield 21, 3) := by decide +kernel
theorem dX5_planDraw_37 : decode cX5_planDraw 37 = .ok (.iload_n 1, 1) := by decide +kernel
theorem dX5_planDraw_38 : decode cX5_planDraw 38 = .ok (.iaload, 1) := by decide +kernel
theorem dX5_planDraw_39 : decode cX5_planDraw 39 = .ok (.aload_n 0, 1) := by decide +kernel
theorem dX5_planDraw_40 : decode cX5_planDraw 40 = .ok (.getfield 21, 3) := by decide +kernel
theorem dX5_planDraw_43 : decode cX5_planDraw 43 = .ok (.iload_n 2, 1) := by decide +kernel
theorem dX5_planDraw_44 : decode cX5_planDraw 44 = .ok (.iaload, 1) := by decide +kernel
theorem dX5_planDraw_45 : decode cX5_planDraw 45 = .ok (.isub, 1) := by decide +kernel
theorem dX5_planDraw_46 : decode cX5_planDraw 46 = .ok (.iload_n 3, 1) := by decide +kernel
theorem dX5_planDraw_47 : decode cX5_planDraw 47 = .ok (.if_icmp .le 19, 3) := by decide +kernel
theorem dX5_planDraw_50 : decode cX5_planDraw 50 = .ok (.aload_n 0, 1) := by decide +kernel
theorem dX5_planDraw_51 : decode cX5_planDraw 51 = .ok (.getfield 21, 3) := by decide +kernel
theorem dX5_planDraw_54 : decode cX5_planDraw 54 = .ok (.iload_n 2, 1) := by decide +kernel
theorem dX5_planDraw_55 : decode cX5_planDraw 55 = .ok (.aload_n 0, 1) := by decide +kernel
theorem dX5_planDraw_56 : decode cX5_planDraw 56 = .ok (.getfield 21, 3) := by decide +kernel
theorem dX5_planDraw_59 : decode cX5_planDraw 59 = .ok (.iload_n 1, 1) := by decide +kernel
theorem dX5_planDraw_60 : decode cX5_planDraw 60 = .ok (.iaload, 1) := by decide +kernel
theorem dX5_planDraw_61 : decode cX5_planDraw 61 = .ok (.iload_n 3, 1) := by decide +kernel
theorem dX5_planDraw_62 : decode cX5_planDraw 62 = .ok (.isub, 1) := by decide +kernel
theorem dX5_planDraw_63 : decode cX5_planDraw 63 = .ok (.iastore, 1) := by decide +kernel
theorem dX5_planDraw_64 : decode cX5_planDraw 64 = .ok (.iconst 1, 1) := by decide +kernel
theorem dX5_planDraw_65 : decode cX5_planDraw 65 = .ok (.ireturn, 1) := by decide +kernel
theorem dX5_planDraw_66 : decode cX5_planDraw 66 = .ok (.iconst 0, 1) := by decide +kernel
theorem dX5_planDraw_67 : decode cX5_planDraw 67 = .ok (.ireturn, 1) := by decide +kernel
set_option maxRecDepth 20000 in
theorem ggX5_squeeze_X5_lossBy : GoodIn wsX5_squeeze wsX5_lossBy := goodIn_r _ [5, 6, 7, 8, 4, 9, 10, 11, 12, 13, 14, 15, 16, 17, 18, 19, 28, 29, 30, 31, 32, 33, 34] (by decide +kernel) (by decide +kernel)
set_option maxRecDepth 20000 in
theorem gX5_squeeze_X5_lossBy : GoodIn wsX5_squeeze (wsV RX5 87 RX5 yX5_lossBy wsX5_lossBy) := goodIn_app (goodIn_of _ (by decide +kernel)) ggX5_squeeze_X5_lossBy
set_option maxRecDepth 20000 in
theorem ggX5_squeeze_X5_feelMore : GoodIn wsX5_squeeze wsX5_feelMore := goodIn_r _ [23, 24, 25, 26, 18, 27, 28, 29, 30, 31, 32, 33, 34] (by decide +kernel) (by decide +kernel)
set_option maxRecDepth 20000 in
theorem gX5_squeeze_X5_feelMore : GoodIn wsX5_squeeze (wsV RX5 90 RX5 yX5_feelMore wsX5_feelMore) := goodIn_app (goodIn_of _ (by decide +kernel)) ggX5_squeeze_X5_feelMore
theorem dX5_squeeze_0 : decode cX5_squeeze 0 = .ok (.iload_n 2, 1) := by decide +kernel
theorem dX5_squeeze_1 : decode cX5_squeeze 1 = .ok (.istore_n 3, 1) := by decide +kernel
theorem dX5_squeeze_2 : decode cX5_squeeze 2 = .ok (.iload_n 1, 1) := by decide +kernel
theorem dX5_squeeze_3 : decode cX5_squeeze 3 = .ok (.istore 4, 2) := by decide +kernel
theorem dX5_squeeze_5 : decode cX5_squeeze 5 = .ok (.iload 4, 2) := by decide +kernel
theorem dX5_squeeze_7 : decode cX5_squeeze 7 = .ok (.bipush 9, 2) := by decide +kernel
theorem dX5_squeeze_9 : decode cX5_squeeze 9 = .ok (.if_icmp .ge 31, 3) := by decide +kernel
theorem dX5_squeeze_12 : decode cX5_squeeze 12 = .ok (.iload_n 3, 1) := by decide +kernel
theorem dX5_squeeze_13 : decode cX5_squeeze 13 = .ok (.ifCond .le 27, 3) := by decide +kernel
theorem dX5_squeeze_16 : decode cX5_squeeze 16 = .ok (.iload_n 3, 1) := by decide +kernel
theorem dX5_squeeze_17 : decode cX5_squeeze 17 = .ok (.aload_n 0, 1) := by decide +kernel
theorem dX5_squeeze_18 : decode cX5_squeeze 18 = .ok (.iload 4, 2) := by decide +kernel
theorem dX5_squeeze_20 : decode cX5_squeeze 20 = .ok (.invokevirtual 87, 3) := by decide +kernel
theorem dX5_squeeze_23 : decode cX5_squeeze 23 = .ok (.isub, 1) := by decide +kernel
theorem dX5_squeeze_24 : decode cX5_squeeze 24 = .ok (.istore_n 3, 1) := by decide +kernel
theorem dX5_squeeze_25 : decode cX5_squeeze 25 = .ok (.aload_n 0, 1) := by decide +kernel
theorem dX5_squeeze_26 : decode cX5_squeeze 26 = .ok (.iload 4, 2) := by decide +kernel
theorem dX5_squeeze_28 : decode cX5_squeeze 28 = .ok (.iconst 1, 1) := by decide +kernel
theorem dX5_squeeze_29 : decode cX5_squeeze 29 = .ok (.iadd, 1) := by decide +kernel
theorem dX5_squeeze_30 : decode cX5_squeeze 30 = .ok (.iload_n 3, 1) := by decide +kernel
theorem dX5_squeeze_31 : decode cX5_squeeze 31 = .ok (.invokevirtual 90, 3) := by decide +kernel
theorem dX5_squeeze_34 : decode cX5_squeeze 34 = .ok (.iinc 4 1, 3) := by decide +kernel
theorem dX5_squeeze_37 : decode cX5_squeeze 37 = .ok (.goto (-32), 3) := by decide +kernel
theorem dX5_squeeze_40 : decode cX5_squeeze 40 = .ok (.iload_n 2, 1) := by decide +kernel
theorem dX5_squeeze_41 : decode cX5_squeeze 41 = .ok (.istore_n 3, 1) := by decide +kernel
theorem dX5_squeeze_42 : decode cX5_squeeze 42 = .ok (.iload_n 1, 1) := by decide +kernel
theorem dX5_squeeze_43 : decode cX5_squeeze 43 = .ok (.iconst 1, 1) := by decide +kernel
theorem dX5_squeeze_44 : decode cX5_squeeze 44 = .ok (.isub, 1) := by decide +kernel
theorem dX5_squeeze_45 : decode cX5_squeeze 45 = .ok (.istore 4, 2) := by decide +kernel
theorem dX5_squeeze_47 : decode cX5_squeeze 47 = .ok (.iload 4, 2) := by decide +kernel
theorem dX5_squeeze_49 : decode cX5_squeeze 49 = .ok (.ifCond .lt 29, 3) := by decide +kernel
theorem dX5_squeeze_52 : decode cX5_squeeze 52 = .ok (.iload_n 3, 1) := by decide +kernel
theorem dX5_squeeze_53 : decode cX5_squeeze 53 = .ok (.ifCond .le 25, 3) := by decide +kernel
theorem dX5_squeeze_56 : decode cX5_squeeze 56 = .ok (.iload_n 3, 1) := by decide +kernel
theorem dX5_squeeze_57 : decode cX5_squeeze 57 = .ok (.aload_n 0, 1) := by decide +kernel
theorem dX5_squeeze_58 : decode cX5_squeeze 58 = .ok (.iload 4, 2) := by decide +kernel
theorem dX5_squeeze_60 : decode cX5_squeeze 60 = .ok (.invokevirtual 87, 3) := by decide +kernel
theorem dX5_squeeze_63 : decode cX5_squeeze 63 = .ok (.isub, 1) := by decide +kernel
theorem dX5_squeeze_64 : decode cX5_squeeze 64 = .ok (.istore_n 3, 1) := by decide +kernel
theorem dX5_squeeze_65 : decode cX5_squeeze 65 = .ok (.aload_n 0, 1) := by decide +kernel
theorem dX5_squeeze_66 : decode cX5_squeeze 66 = .ok (.iload 4, 2) := by decide +kernel
theorem dX5_squeeze_68 : decode cX5_squeeze 68 = .ok (.iload_n 3, 1) := by decide +kernel
theorem dX5_squeeze_69 : decode cX5_squeeze 69 = .ok (.invokevirtual 90, 3) := by decide +kernel
theorem dX5_squeeze_72 : decode cX5_squeeze 72 = .ok (.iinc 4 (-1), 3) := by decide +kernel
theorem dX5_squeeze_75 : decode cX5_squeeze 75 = .ok (.goto (-28), 3) := by decide +kernel
theorem dX5_squeeze_78 : decode cX5_squeeze 78 = .ok (.return_, 1) := by decide +kernel
set_option maxRecDepth 20000 in
theorem ggX5_lossBy_X5_isTaut : GoodIn wsX5_lossBy wsX5_isTaut := goodIn_r _ [5, 6, 7, 8, 9, 4, 10, 11, 12, 13, 14, 15, 16, 17, 18, 19, 20, 21, 22] (by decide +kernel) (by decide +kernel)
set_option maxRecDepth 20000 in
theorem gX5_lossBy_X5_isTaut : GoodIn wsX5_lossBy (wsV RX5 43 RX5 yX5_isTaut wsX5_isTaut) := goodIn_app (goodIn_of _ (by decide +kernel)) ggX5_lossBy_X5_isTaut
theorem dX5_lossBy_0 : decode cX5_lossBy 0 = .ok (.aload_n 0, 1) := by decide +kernel
theorem dX5_lossBy_1 : decode cX5_lossBy 1 = .ok (.iload_n 1, 1) := by decide +kernel
theorem dX5_lossBy_2 : decode cX5_lossBy 2 = .ok (.invokevirtual 43, 3) := by decide +kernel
theorem dX5_lossBy_5 : decode cX5_lossBy 5 = .ok (.ifCond .eq 7, 3) := by decide +kernel
theorem dX5_lossBy_8 : decode cX5_lossBy 8 = .ok (.iconst 1, 1) := by decide +kernel
theorem dX5_lossBy_9 : decode cX5_lossBy 9 = .ok (.goto 4, 3) := by decide +kernel
theorem dX5_lossBy_12 : decode cX5_lossBy 12 = .ok (.iconst 3, 1) := by decide +kernel
theorem dX5_lossBy_13 : decode cX5_lossBy 13 = .ok (.ireturn, 1) := by decide +kernel
theorem dX5_feelMore_0 : decode cX5_feelMore 0 = .ok (.iload_n 2, 1) := by decide +kernel
theorem dX5_feelMore_1 : decode cX5_feelMore 1 = .ok (.ifCond .le 22, 3) := by decide +kernel
theorem dX5_feelMore_4 : decode cX5_feelMore 4 = .ok (.aload_n 0, 1) := by decide +kernel
theorem dX5_feelMore_5 : decode cX5_feelMore 5 = .ok (.getfield 15, 3) := by decide +kernel
theorem dX5_feelMore_8 : decode cX5_feelMore 8 = .ok (.iload_n 1, 1) := by decide +kernel
theorem dX5_feelMore_9 : decode cX5_feelMore 9 = .ok (.bipush 99, 2) := by decide +kernel
theorem dX5_feelMore_11 : decode cX5_feelMore 11 = .ok (.aload_n 0, 1) := by decide +kernel
theorem dX5_feelMore_12 : decode cX5_feelMore 12 = .ok (.getfield 15, 3) := by decide +kernel
theorem dX5_feelMore_15 : decode cX5_feelMore 15 = .ok (.iload_n 1, 1) := by decide +kernel
theorem dX5_feelMore_16 : decode cX5_feelMore 16 = .ok (.iaload, 1) := by decide +kernel
theorem dX5_feelMore_17 : decode cX5_feelMore 17 = .ok (.iload_n 2, 1) := by decide +kernel
theorem dX5_feelMore_18 : decode cX5_feelMore 18 = .ok (.iadd, 1) := by decide +kernel
theorem dX5_feelMore_19 : decode cX5_feelMore 19 = .ok (.invokestatic 93, 3) := by decide +kernel
theorem dX5_feelMore_22 : decode cX5_feelMore 22 = .ok (.iastore, 1) := by decide +kernel
theorem dX5_feelMore_23 : decode cX5_feelMore 23 = .ok (.return_, 1) := by decide +kernel
theorem dX5_letOut_0 : decode cX5_letOut 0 = .ok (.iload_n 1, 1) := by decide +kernel
theorem dX5_letOut_1 : decode cX5_letOut 1 = .ok (.bipush 9, 2) := by decide +kernel
theorem dX5_letOut_3 : decode cX5_letOut 3 = .ok (.if_icmp .lt 4, 3) := by decide +kernel
theorem dX5_letOut_6 : decode cX5_letOut 6 = .ok (.return_, 1) := by decide +kernel
theorem dX5_letOut_7 : decode cX5_letOut 7 = .ok (.aload_n 0, 1) := by decide +kernel
theorem dX5_letOut_8 : decode cX5_letOut 8 = .ok (.getfield 18, 3) := by decide +kernel
theorem dX5_letOut_11 : decode cX5_letOut 11 = .ok (.iload_n 1, 1) := by decide +kernel
theorem dX5_letOut_12 : decode cX5_letOut 12 = .ok (.dup2, 1) := by decide +kernel
theorem dX5_letOut_13 : decode cX5_letOut 13 = .ok (.iaload, 1) := by decide +kernel
theorem dX5_letOut_14 : decode cX5_letOut 14 = .ok (.iconst 1, 1) := by decide +kernel
theorem dX5_letOut_15 : decode cX5_letOut 15 = .ok (.iadd, 1) := by decide +kernel
theorem dX5_letOut_16 : decode cX5_letOut 16 = .ok (.iastore, 1) := by decide +kernel
theorem dX5_letOut_17 : decode cX5_letOut 17 = .ok (.aload_n 0, 1) := by decide +kernel
theorem dX5_letOut_18 : decode cX5_letOut 18 = .ok (.dup, 1) := by decide +kernel
theorem dX5_letOut_19 : decode cX5_letOut 19 = .ok (.getfield 24, 3) := by decide +kernel
theorem dX5_letOut_22 : decode cX5_letOut 22 = .ok (.iconst 1, 1) := by decide +kernel
theorem dX5_letOut_23 : decode cX5_letOut 23 = .ok (.isub, 1) := by decide +kernel
theorem dX5_letOut_24 : decode cX5_letOut 24 = .ok (.putfield 24, 3) := by decide +kernel
theorem dX5_letOut_27 : decode cX5_letOut 27 = .ok (.return_, 1) := by decide +kernel
theorem dX5_windIn_0 : decode cX5_windIn 0 = .ok (.iload_n 1, 1) := by decide +kernel
theorem dX5_windIn_1 : decode cX5_windIn 1 = .ok (.bipush 9, 2) := by decide +kernel
theorem dX5_windIn_3 : decode cX5_windIn 3 = .ok (.if_icmp .lt 4, 3) := by decide +kernel
theorem dX5_windIn_6 : decode cX5_windIn 6 = .ok (.return_, 1) := by decide +kernel
theorem dX5_windIn_7 : decode cX5_windIn 7 = .ok (.aload_n 0, 1) := by decide +kernel
theorem dX5_windIn_8 : decode cX5_windIn 8 = .ok (.getfield 18, 3) := by decide +kernel
theorem dX5_windIn_11 : decode cX5_windIn 11 = .ok (.iload_n 1, 1) := by decide +kernel
theorem dX5_windIn_12 : decode cX5_windIn 12 = .ok (.dup2, 1) := by decide +kernel
theorem dX5_windIn_13 : decode cX5_windIn 13 = .ok (.iaload, 1) := by decide +kernel
theorem dX5_windIn_14 : decode cX5_windIn 14 = .ok (.iconst 1, 1) := by decide +kernel
theorem dX5_windIn_15 : decode cX5_windIn 15 = .ok (.isub, 1) := by decide +kernel
theorem dX5_windIn_16 : decode cX5_windIn 16 = .ok (.iastore, 1) := by decide +kernel
theorem dX5_windIn_17 : decode cX5_windIn 17 = .ok (.aload_n 0, 1) := by decide +kernel
theorem dX5_windIn_18 : decode cX5_windIn 18 = .ok (.sipush 999, 3) := by decide +kernel
theorem dX5_windIn_21 : decode cX5_windIn 21 = .ok (.aload_n 0, 1) := by decide +kernel
theorem dX5_windIn_22 : decode cX5_windIn 22 = .ok (.getfield 24, 3) := by decide +kernel
theorem dX5_windIn_25 : decode cX5_windIn 25 = .ok (.iconst 1, 1) := by decide +kernel
theorem dX5_windIn_26 : decode cX5_windIn 26 = .ok (.iadd, 1) := by decide +kernel
theorem dX5_windIn_27 : decode cX5_windIn 27 = .ok (.invokestatic 93, 3) := by decide +kernel
theorem dX5_windIn_30 : decode cX5_windIn 30 = .ok (.putfield 24, 3) := by decide +kernel
theorem dX5_windIn_33 : decode cX5_windIn 33 = .ok (.return_, 1) := by decide +kernel
theorem dX5_nextDay_0 : decode cX5_nextDay 0 = .ok (.aload_n 0, 1) := by decide +kernel
theorem dX5_nextDay_1 : decode cX5_nextDay 1 = .ok (.dup, 1) := by decide +kernel
theorem dX5_nextDay_2 : decode cX5_nextDay 2 = .ok (.getfield 31, 3) := by decide +kernel
theorem dX5_nextDay_5 : decode cX5_nextDay 5 = .ok (.iconst 1, 1) := by decide +kernel
theorem dX5_nextDay_6 : decode cX5_nextDay 6 = .ok (.iadd, 1) := by decide +kernel
theorem dX5_nextDay_7 : decode cX5_nextDay 7 = .ok (.putfield 31, 3) := by decide +kernel
theorem dX5_nextDay_10 : decode cX5_nextDay 10 = .ok (.iconst 0, 1) := by decide +kernel
theorem dX5_nextDay_11 : decode cX5_nextDay 11 = .ok (.istore_n 1, 1) := by decide +kernel
theorem dX5_nextDay_12 : decode cX5_nextDay 12 = .ok (.iload_n 1, 1) := by decide +kernel
theorem dX5_nextDay_13 : decode cX5_nextDay 13 = .ok (.bipush 10, 2) := by decide +kernel
theorem dX5_nextDay_15 : decode cX5_nextDay 15 = .ok (.if_icmp .ge 16, 3) := by decide +kernel
theorem dX5_nextDay_18 : decode cX5_nextDay 18 = .ok (.aload_n 0, 1) := by decide +kernel
theorem dX5_nextDay_19 : decode cX5_nextDay 19 = .ok (.getfield 15, 3) := by decide +kernel
theorem dX5_nextDay_22 : decode cX5_nextDay 22 = .ok (.iload_n 1, 1) := by decide +kernel
theorem dX5_nextDay_23 : decode cX5_nextDay 23 = .ok (.iconst 0, 1) := by decide +kernel
theorem dX5_nextDay_24 : decode cX5_nextDay 24 = .ok (.iastore, 1) := by decide +kernel
theorem dX5_nextDay_25 : decode cX5_nextDay 25 = .ok (.iinc 1 1, 3) := by decide +kernel
theorem dX5_nextDay_28 : decode cX5_nextDay 28 = .ok (.goto (-16), 3) := by decide +kernel
theorem dX5_nextDay_31 : decode cX5_nextDay 31 = .ok (.return_, 1) := by decide +kernel
set_option maxRecDepth 20000 in
theorem ggX5_farthest_X5_holdsFast : GoodIn wsX5_farthest wsX5_holdsFast := goodIn_r _ [11, 12, 13, 14, 15, 16, 17, 18, 19] (by decide +kernel) (by decide +kernel)
set_option maxRecDepth 20000 in
theorem gX5_farthest_X5_holdsFast : GoodIn wsX5_farthest (wsV RX5 96 RX5 yX5_holdsFast wsX5_holdsFast) := goodIn_app (goodIn_of _ (by decide +kernel)) ggX5_farthest_X5_holdsFast
theorem dX5_farthest_0 : decode cX5_farthest 0 = .ok (.aload_n 0, 1) := by decide +kernel
theorem dX5_farthest_1 : decode cX5_farthest 1 = .ok (.iload_n 1, 1) := by decide +kernel
theorem dX5_farthest_2 : decode cX5_farthest 2 = .ok (.invokevirtual 96, 3) := by decide +kernel
theorem dX5_farthest_5 : decode cX5_farthest 5 = .ok (.ifCond .eq 5, 3) := by decide +kernel
theorem dX5_farthest_8 : decode cX5_farthest 8 = .ok (.iconst 0, 1) := by decide +kernel
theorem dX5_farthest_9 : decode cX5_farthest 9 = .ok (.ireturn, 1) := by decide +kernel
theorem dX5_farthest_10 : decode cX5_farthest 10 = .ok (.iload_n 2, 1) := by decide +kernel
theorem dX5_farthest_11 : decode cX5_farthest 11 = .ok (.ifCond .le 16, 3) := by decide +kernel
theorem dX5_farthest_14 : decode cX5_farthest 14 = .ok (.sipush 999, 3) := by decide +kernel
theorem dX5_farthest_17 : decode cX5_farthest 17 = .ok (.aload_n 0, 1) := by decide +kernel
theorem dX5_farthest_18 : decode cX5_farthest 18 = .ok (.getfield 9, 3) := by decide +kernel
theorem dX5_farthest_21 : decode cX5_farthest 21 = .ok (.iload_n 1, 1) := by decide +kernel
theorem dX5_farthest_22 : decode cX5_farthest 22 = .ok (.iaload, 1) := by decide +kernel
theorem dX5_farthest_23 : decode cX5_farthest 23 = .ok (.isub, 1) := by decide +kernel
theorem dX5_farthest_24 : decode cX5_farthest 24 = .ok (.goto 9, 3) := by decide +kernel
theorem dX5_farthest_27 : decode cX5_farthest 27 = .ok (.aload_n 0, 1) := by decide +kernel
theorem dX5_farthest_28 : decode cX5_farthest 28 = .ok (.getfield 9, 3) := by decide +kernel
theorem dX5_farthest_31 : decode cX5_farthest 31 = .ok (.iload_n 1, 1) := by decide +kernel
theorem dX5_farthest_32 : decode cX5_farthest 32 = .ok (.iaload, 1) := by decide +kernel
theorem dX5_farthest_33 : decode cX5_farthest 33 = .ok (.istore_n 3, 1) := by decide +kernel
theorem dX5_farthest_34 : decode cX5_farthest 34 = .ok (.iconst 0, 1) := by decide +kernel
theorem dX5_farthest_35 : decode cX5_farthest 35 = .ok (.istore 4, 2) := by decide +kernel
theorem dX5_farthest_37 : decode cX5_farthest 37 = .ok (.iload_n 1, 1) := by decide +kernel
theorem dX5_farthest_38 : decode cX5_farthest 38 = .ok (.iconst 1, 1) := by decide +kernel
theorem dX5_farthest_39 : decode cX5_farthest 39 = .ok (.iadd, 1) := by decide +kernel
theorem dX5_farthest_40 : decode cX5_farthest 40 = .ok (.istore 5, 2) := by decide +kernel
theorem dX5_farthest_42 : decode cX5_farthest 42 = .ok (.iload 5, 2) := by decide +kernel
theorem dX5_farthest_44 : decode cX5_farthest 44 = .ok (.bipush 10, 2) := by decide +kernel
theorem dX5_farthest_46 : decode cX5_farthest 46 = .ok (.if_icmp .ge 56, 3) := by decide +kernel
theorem dX5_farthest_49 : decode cX5_farthest 49 = .ok (.iload 4, 2) := by decide +kernel
theorem dX5_farthest_51 : decode cX5_farthest 51 = .ok (.aload_n 0, 1) := by decide +kernel
theorem dX5_farthest_52 : decode cX5_farthest 52 = .ok (.getfield 18, 3) := by decide +kernel
theorem dX5_farthest_55 : decode cX5_farthest 55 = .ok (.iload 5, 2) := by decide +kernel
theorem dX5_farthest_57 : decode cX5_farthest 57 = .ok (.iconst 1, 1) := by decide +kernel
theorem dX5_farthest_58 : decode cX5_farthest 58 = .ok (.isub, 1) := by decide +kernel
theorem dX5_farthest_59 : decode cX5_farthest 59 = .ok (.iaload, 1) := by decide +kernel
theorem dX5_farthest_60 : decode cX5_farthest 60 = .ok (.iadd, 1) := by decide +kernel
theorem dX5_farthest_61 : decode cX5_farthest 61 = .ok (.istore 4, 2) := by decide +kernel
theorem dX5_farthest_63 : decode cX5_farthest 63 = .ok (.aload_n 0, 1) := by decide +kernel
theorem dX5_farthest_64 : decode cX5_farthest 64 = .ok (.iload 5, 2) := by decide +kernel
theorem dX5_farthest_66 : decode cX5_farthest 66 = .ok (.invokevirtual 96, 3) := by decide +kernel
theorem dX5_farthest_69 : decode cX5_farthest 69 = .ok (.ifCond .eq 27, 3) := by decide +kernel
theorem dX5_farthest_72 : decode cX5_farthest 72 = .ok (.iload_n 3, 1) := by decide +kernel
theorem dX5_farthest_73 : decode cX5_farthest 73 = .ok (.iload_n 2, 1) := by decide +kernel
theorem dX5_farthest_74 : decode cX5_farthest 74 = .ok (.aload_n 0, 1) := by decide +kernel
theorem dX5_farthest_75 : decode cX5_farthest 75 = .ok (.getfield 9, 3) := by decide +kernel
theorem dX5_farthest_78 : decode cX5_farthest 78 = .ok (.iload 5, 2) := by decide +kernel
theorem dX5_farthest_80 : decode cX5_farthest 80 = .ok (.iaload, 1) := by decide +kernel
theorem dX5_farthest_81 : decode cX5_farthest 81 = .ok (.aload_n 0, 1) := by decide +kernel
theorem dX5_farthest_82 : decode cX5_farthest 82 = .ok (.getfield 9, 3) := by decide +kernel
theorem dX5_farthest_85 : decode cX5_farthest 85 = .ok (.iload_n 1, 1) := by decide +kernel
theorem dX5_farthest_86 : decode cX5_farthest 86 = .ok (.iaload, 1) := by decide +kernel
theorem dX5_farthest_87 : decode cX5_farthest 87 = .ok (.isub, 1) := by decide +kernel
theorem dX5_farthest_88 : decode cX5_farthest 88 = .ok (.imul, 1) := by decide +kernel
theorem dX5_farthest_89 : decode cX5_farthest 89 = .ok (.iload 4, 2) := by decide +kernel
theorem dX5_farthest_91 : decode cX5_farthest 91 = .ok (.iadd, 1) := by decide +kernel
theorem dX5_farthest_92 : decode cX5_farthest 92 = .ok (.invokestatic 93, 3) := by decide +kernel
theorem dX5_farthest_95 : decode cX5_farthest 95 = .ok (.istore_n 3, 1) := by decide +kernel
theorem dX5_farthest_96 : decode cX5_farthest 96 = .ok (.iinc 5 1, 3) := by decide +kernel
theorem dX5_farthest_99 : decode cX5_farthest 99 = .ok (.goto (-57), 3) := by decide +kernel
theorem dX5_farthest_102 : decode cX5_farthest 102 = .ok (.iconst 0, 1) := by decide +kernel
theorem dX5_farthest_103 : decode cX5_farthest 103 = .ok (.istore 4, 2) := by decide +kernel
theorem dX5_farthest_105 : decode cX5_farthest 105 = .ok (.iload_n 1, 1) := by decide +kernel
theorem dX5_farthest_106 : decode cX5_farthest 106 = .ok (.iconst 1, 1) := by decide +kernel
theorem dX5_farthest_107 : decode cX5_farthest 107 = .ok (.isub, 1) := by decide +kernel
theorem dX5_farthest_108 : decode cX5_farthest 108 = .ok (.istore 5, 2) := by decide +kernel
theorem dX5_farthest_110 : decode cX5_farthest 110 = .ok (.iload 5, 2) := by decide +kernel
theorem dX5_farthest_112 : decode cX5_farthest 112 = .ok (.ifCond .lt 54, 3) := by decide +kernel
theorem dX5_farthest_115 : decode cX5_farthest 115 = .ok (.iload 4, 2) := by decide +kernel
theorem dX5_farthest_117 : decode cX5_farthest 117 = .ok (.aload_n 0, 1) := by decide +kernel
theorem dX5_farthest_118 : decode cX5_farthest 118 = .ok (.getfield 18, 3) := by decide +kernel
theorem dX5_farthest_121 : decode cX5_farthest 121 = .ok (.iload 5, 2) := by decide +kernel
theorem dX5_farthest_123 : decode cX5_farthest 123 = .ok (.iaload, 1) := by decide +kernel
theorem dX5_farthest_124 : decode cX5_farthest 124 = .ok (.iadd, 1) := by decide +kernel
theorem dX5_farthest_125 : decode cX5_farthest 125 = .ok (.istore 4, 2) := by decide +kernel
theorem dX5_farthest_127 : decode cX5_farthest 127 = .ok (.aload_n 0, 1) := by decide +kernel
theorem dX5_farthest_128 : decode cX5_farthest 128 = .ok (.iload 5, 2) := by decide +kernel
theorem dX5_farthest_130 : decode cX5_farthest 130 = .ok (.invokevirtual 96, 3) := by decide +kernel
theorem dX5_farthest_133 : decode cX5_farthest 133 = .ok (.ifCond .eq 27, 3) := by decide +kernel
theorem dX5_farthest_136 : decode cX5_farthest 136 = .ok (.iload_n 3, 1) := by decide +kernel
theorem dX5_farthest_137 : decode cX5_farthest 137 = .ok (.iload_n 2, 1) := by decide +kernel
theorem dX5_farthest_138 : decode cX5_farthest 138 = .ok (.aload_n 0, 1) := by decide +kernel
theorem dX5_farthest_139 : decode cX5_farthest 139 = .ok (.getfield 9, 3) := by decide +kernel
theorem dX5_farthest_142 : decode cX5_farthest 142 = .ok (.iload 5, 2) := by decide +kernel
theorem dX5_farthest_144 : decode cX5_farthest 144 = .ok (.iaload, 1) := by decide +kernel
theorem dX5_farthest_145 : decode cX5_farthest 145 = .ok (.aload_n 0, 1) := by decide +kernel
theorem dX5_farthest_146 : decode cX5_farthest 146 = .ok (.getfield 9, 3) := by decide +kernel
theorem dX5_farthest_149 : decode cX5_farthest 149 = .ok (.iload_n 1, 1) := by decide +kernel
theorem dX5_farthest_150 : decode cX5_farthest 150 = .ok (.iaload, 1) := by decide +kernel
theorem dX5_farthest_151 : decode cX5_farthest 151 = .ok (.isub, 1) := by decide +kernel
theorem dX5_farthest_152 : decode cX5_farthest 152 = .ok (.imul, 1) := by decide +kernel
theorem dX5_farthest_153 : decode cX5_farthest 153 = .ok (.iload 4, 2) := by decide +kernel
theorem dX5_farthest_155 : decode cX5_farthest 155 = .ok (.iadd, 1) := by decide +kernel
theorem dX5_farthest_156 : decode cX5_farthest 156 = .ok (.invokestatic 93, 3) := by decide +kernel
theorem dX5_farthest_159 : decode cX5_farthest 159 = .ok (.istore_n 3, 1) := by decide +kernel
theorem dX5_farthest_160 : decode cX5_farthest 160 = .ok (.iinc 5 (-1), 3) := by decide +kernel
theorem dX5_farthest_163 : decode cX5_farthest 163 = .ok (.goto (-53), 3) := by decide +kernel
theorem dX5_farthest_166 : decode cX5_farthest 166 = .ok (.iload_n 3, 1) := by decide +kernel
theorem dX5_farthest_167 : decode cX5_farthest 167 = .ok (.ireturn, 1) := by decide +kernel
theorem dX6_init_0 : decode cX6_init 0 = .ok (.aload_n 0, 1) := by decide +kernel
theorem dX6_init_1 : decode cX6_init 1 = .ok (.invokespecial 3, 3) := by decide +kernel
theorem dX6_init_4 : decode cX6_init 4 = .ok (.aload_n 0, 1) := by decide +kernel
theorem dX6_init_5 : decode cX6_init 5 = .ok (.bipush 8, 2) := by decide +kernel
theorem dX6_init_7 : decode cX6_init 7 = .ok (.newarray .int, 2) := by decide +kernel
theorem dX6_init_9 : decode cX6_init 9 = .ok (.putfield 9, 3) := by decide +kernel
theorem dX6_init_12 : decode cX6_init 12 = .ok (.aload_n 0, 1) := by decide +kernel
theorem dX6_init_13 : decode cX6_init 13 = .ok (.bipush 8, 2) := by decide +kernel
theorem dX6_init_15 : decode cX6_init 15 = .ok (.newarray .int, 2) := by decide +kernel
theorem dX6_init_17 : decode cX6_init 17 = .ok (.putfield 15, 3) := by decide +kernel
theorem dX6_init_20 : decode cX6_init 20 = .ok (.return_, 1) := by decide +kernel
theorem dX6_add_0 : decode cX6_add 0 = .ok (.aload_n 0, 1) := by decide +kernel
theorem dX6_add_1 : decode cX6_add 1 = .ok (.getfield 18, 3) := by decide +kernel
theorem dX6_add_4 : decode cX6_add 4 = .ok (.bipush 8, 2) := by decide +kernel
theorem dX6_add_6 : decode cX6_add 6 = .ok (.if_icmp .lt 5, 3) := by decide +kernel
theorem dX6_add_9 : decode cX6_add 9 = .ok (.iconst 0, 1) := by decide +kernel
theorem dX6_add_10 : decode cX6_add 10 = .ok (.ireturn, 1) := by decide +kernel
theorem dX6_add_11 : decode cX6_add 11 = .ok (.aload_n 0, 1) := by decide +kernel
theorem dX6_add_12 : decode cX6_add 12 = .ok (.getfield 9, 3) := by decide +kernel
theorem dX6_add_15 : decode cX6_add 15 = .ok (.aload_n 0, 1) := by decide +kernel
theorem dX6_add_16 : decode cX6_add 16 = .ok (.getfield 18, 3) := by decide +kernel
theorem dX6_add_19 : decode cX6_add 19 = .ok (.iload_n 1, 1) := by decide +kernel
theorem dX6_add_20 : decode cX6_add 20 = .ok (.iastore, 1) := by decide +kernel
theorem dX6_add_21 : decode cX6_add 21 = .ok (.aload_n 0, 1) := by decide +kernel
theorem dX6_add_22 : decode cX6_add 22 = .ok (.getfield 15, 3) := by decide +kernel
theorem dX6_add_25 : decode cX6_add 25 = .ok (.aload_n 0, 1) := by decide +kernel
theorem dX6_add_26 : decode cX6_add 26 = .ok (.getfield 18, 3) := by decide +kernel
theorem dX6_add_29 : decode cX6_add 29 = .ok (.iload_n 2, 1) := by decide +kernel
theorem dX6_add_30 : decode cX6_add 30 = .ok (.iastore, 1) := by decide +kernel
theorem dX6_add_31 : decode cX6_add 31 = .ok (.aload_n 0, 1) := by decide +kernel
theorem dX6_add_32 : decode cX6_add 32 = .ok (.dup, 1) := by decide +kernel
theorem dX6_add_33 : decode cX6_add 33 = .ok (.getfield 18, 3) := by decide +kernel
theorem dX6_add_36 : decode cX6_add 36 = .ok (.iconst 1, 1) := by decide +kernel
theorem dX6_add_37 : decode cX6_add 37 = .ok (.iadd, 1) := by decide +kernel
theorem dX6_add_38 : decode cX6_add 38 = .ok (.putfield 18, 3) := by decide +kernel
theorem dX6_add_41 : decode cX6_add 41 = .ok (.iconst 1, 1) := by decide +kernel
theorem dX6_add_42 : decode cX6_add 42 = .ok (.ireturn, 1) := by decide +kernel
theorem dX6_clear_0 : decode cX6_clear 0 = .ok (.aload_n 0, 1) := by decide +kernel
theorem dX6_clear_1 : decode cX6_clear 1 = .ok (.iconst 0, 1) := by decide +kernel
theorem dX6_clear_2 : decode cX6_clear 2 = .ok (.putfield 18, 3) := by decide +kernel
theorem dX6_clear_5 : decode cX6_clear 5 = .ok (.return_, 1) := by decide +kernel
theorem dX6_copyFrom_0 : decode cX6_copyFrom 0 = .ok (.iconst 0, 1) := by decide +kernel
theorem dX6_copyFrom_1 : decode cX6_copyFrom 1 = .ok (.istore_n 2, 1) := by decide +kernel
theorem dX6_copyFrom_2 : decode cX6_copyFrom 2 = .ok (.iload_n 2, 1) := by decide +kernel
theorem dX6_copyFrom_3 : decode cX6_copyFrom 3 = .ok (.bipush 8, 2) := by decide +kernel
theorem dX6_copyFrom_5 : decode cX6_copyFrom 5 = .ok (.if_icmp .ge 33, 3) := by decide +kernel
theorem dX6_copyFrom_8 : decode cX6_copyFrom 8 = .ok (.aload_n 0, 1) := by decide +kernel
theorem dX6_copyFrom_9 : decode cX6_copyFrom 9 = .ok (.getfield 9, 3) := by decide +kernel
theorem dX6_copyFrom_12 : decode cX6_copyFrom 12 = .ok (.iload_n 2, 1) := by decide +kernel
theorem dX6_copyFrom_13 : decode cX6_copyFrom 13 = .ok (.aload_n 1, 1) := by decide +kernel
theorem dX6_copyFrom_14 : decode cX6_copyFrom 14 = .ok (.getfield 9, 3) := by decide +kernel
theorem dX6_copyFrom_17 : decode cX6_copyFrom 17 = .ok (.iload_n 2, 1) := by decide +kernel
theorem dX6_copyFrom_18 : decode cX6_copyFrom 18 = .ok (.iaload, 1) := by decide +kernel
theorem dX6_copyFrom_19 : decode cX6_copyFrom 19 = .ok (.iastore, 1) := by decide +kernel
theorem dX6_copyFrom_20 : decode cX6_copyFrom 20 = .ok (.aload_n 0, 1) := by decide +kernel
theorem dX6_copyFrom_21 : decode cX6_copyFrom 21 = .ok (.getfield 15, 3) := by decide +kernel
theorem dX6_copyFrom_24 : decode cX6_copyFrom 24 = .ok (.iload_n 2, 1) := by decide +kernel
theorem dX6_copyFrom_25 : decode cX6_copyFrom 25 = .ok (.aload_n 1, 1) := by decide +kernel
theorem dX6_copyFrom_26 : decode cX6_copyFrom 26 = .ok (.getfield 15, 3) := by decide +kernel
theorem dX6_copyFrom_29 : decode cX6_copyFrom 29 = .ok (.iload_n 2, 1) := by decide +kernel
theorem dX6_copyFrom_30 : decode cX6_copyFrom 30 = .ok (.iaload, 1) := by decide +kernel
theorem dX6_copyFrom_31 : decode cX6_copyFrom 31 = .ok (.iastore, 1) := by decide +kernel
theorem dX6_copyFrom_32 : decode cX6_copyFrom 32 = .ok (.iinc 2 1, 3) := by decide +kernel
theorem dX6_copyFrom_35 : decode cX6_copyFrom 35 = .ok (.goto (-33), 3) := by decide +kernel
theorem dX6_copyFrom_38 : decode cX6_copyFrom 38 = .ok (.aload_n 0, 1) := by decide +kernel
theorem dX6_copyFrom_39 : decode cX6_copyFrom 39 = .ok (.aload_n 1, 1) := by decide +kernel
theorem dX6_copyFrom_40 : decode cX6_copyFrom 40 = .ok (.getfield 18, 3) := by decide +kernel
theorem dX6_copyFrom_43 : decode cX6_copyFrom 43 = .ok (.putfield 18, 3) := by decide +kernel
theorem dX6_copyFrom_46 : decode cX6_copyFrom 46 = .ok (.return_, 1) := by decide +kernel
