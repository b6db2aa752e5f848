set_option maxRecDepth 20000 in
theorem ggX7_init_X5_init : GoodIn wsX7_init wsX5_init := goodIn_r _ [36, 37, 2, 3, 38, 39, 40, 41, 42, 43, 84, 85, 86, 87, 88, 89, 90] (by decide +kernel) (by decide +kernel)
set_option maxRecDepth 20000 in
theorem gX7_init_X5_init : GoodIn wsX7_init (wsX5_init) := ggX7_init_X5_init
set_option maxRecDepth 20000 in
theorem ggX7_init_X3_init : GoodIn wsX7_init wsX3_init := goodIn_r _ [46, 47, 2, 3, 38, 48, 100, 101, 102, 103, 104, 105] (by decide +kernel) (by decide +kernel)
set_option maxRecDepth 20000 in
theorem gX7_init_X3_init : GoodIn wsX7_init (wsX3_init) := ggX7_init_X3_init
set_option maxRecDepth 20000 in
theorem ggX7_init_X0_init : GoodIn wsX7_init wsX0_init := goodIn_r _ [50, 51, 2, 3] (by decide +kernel) (by decide +kernel)
set_option maxRecDepth 20000 in
theorem gX7_init_X0_init_n28 : GoodIn wsX7_init (wsX0_init) := ggX7_init_X0_init
set_option maxRecDepth 20000 in
theorem ggX7_init_X6_init : GoodIn wsX7_init wsX6_init := goodIn_r _ [54, 55, 2, 3, 38, 56, 57, 112, 113, 114] (by decide +kernel) (by decide +kernel)
set_option maxRecDepth 20000 in
theorem gX7_init_X6_init : GoodIn wsX7_init (wsX6_init) := ggX7_init_X6_init
set_option maxRecDepth 20000 in
theorem ggX7_init_X1_init : GoodIn wsX7_init wsX1_init := goodIn_r _ [60, 61, 2, 3, 38, 62, 115, 116, 117] (by decide +kernel) (by decide +kernel)
set_option maxRecDepth 20000 in
theorem gX7_init_X1_init : GoodIn wsX7_init (wsX1_init) := ggX7_init_X1_init
set_option maxRecDepth 20000 in
theorem ggX7_init_X4_init : GoodIn wsX7_init wsX4_init := goodIn_r _ [65, 66, 2, 3, 38, 67, 68, 69, 70, 71, 72, 73, 118, 119, 120, 121, 122, 123] (by decide +kernel) (by decide +kernel)
set_option maxRecDepth 20000 in
theorem gX7_init_X4_init : GoodIn wsX7_init (wsX4_init) := ggX7_init_X4_init
set_option maxRecDepth 20000 in
theorem ggX7_init_X2_init : GoodIn wsX7_init wsX2_init := goodIn_r _ [76, 77, 2, 3, 78, 5, 6, 79, 80, 18, 19, 81, 82, 35, 36, 37, 38, 39, 40, 41, 42, 43, 83, 53, 54, 55, 56, 57, 84, 85, 86, 87, 88, 89, 90, 124, 125, 126, 112, 113, 114] (by decide +kernel) (by decide +kernel)
set_option maxRecDepth 20000 in
theorem gX7_init_X2_init : GoodIn wsX7_init (wsX2_init) := ggX7_init_X2_init
theorem dX7_init_0 : decode cX7_init 0 = .ok (.aload_n 0, 1) := by decide +kernel
theorem dX7_init_1 : decode cX7_init 1 = .ok (.invokespecial 1, 3) := by decide +kernel
theorem dX7_init_4 : decode cX7_init 4 = .ok (.aload_n 0, 1) := by decide +kernel
theorem dX7_init_5 : decode cX7_init 5 = .ok (.new 7, 3) := by decide +kernel
theorem dX7_init_8 : decode cX7_init 8 = .ok (.dup, 1) := by decide +kernel
theorem dX7_init_9 : decode cX7_init 9 = .ok (.invokespecial 9, 3) := by decide +kernel
theorem dX7_init_12 : decode cX7_init 12 = .ok (.putfield 10, 3) := by decide +kernel
theorem dX7_init_15 : decode cX7_init 15 = .ok (.aload_n 0, 1) := by decide +kernel
theorem dX7_init_16 : decode cX7_init 16 = .ok (.new 7, 3) := by decide +kernel
theorem dX7_init_19 : decode cX7_init 19 = .ok (.dup, 1) := by decide +kernel
theorem dX7_init_20 : decode cX7_init 20 = .ok (.invokespecial 9, 3) := by decide +kernel
theorem dX7_init_23 : decode cX7_init 23 = .ok (.putfield 16, 3) := by decide +kernel
theorem dX7_init_26 : decode cX7_init 26 = .ok (.aload_n 0, 1) := by decide +kernel
theorem dX7_init_27 : decode cX7_init 27 = .ok (.new 19, 3) := by decide +kernel
theorem dX7_init_30 : decode cX7_init 30 = .ok (.dup, 1) := by decide +kernel
theorem dX7_init_31 : decode cX7_init 31 = .ok (.invokespecial 21, 3) := by decide +kernel
theorem dX7_init_34 : decode cX7_init 34 = .ok (.putfield 22, 3) := by decide +kernel
theorem dX7_init_37 : decode cX7_init 37 = .ok (.aload_n 0, 1) := by decide +kernel
theorem dX7_init_38 : decode cX7_init 38 = .ok (.new 26, 3) := by decide +kernel
theorem dX7_init_41 : decode cX7_init 41 = .ok (.dup, 1) := by decide +kernel
theorem dX7_init_42 : decode cX7_init 42 = .ok (.invokespecial 28, 3) := by decide +kernel
theorem dX7_init_45 : decode cX7_init 45 = .ok (.putfield 29, 3) := by decide +kernel
theorem dX7_init_48 : decode cX7_init 48 = .ok (.aload_n 0, 1) := by decide +kernel
theorem dX7_init_49 : decode cX7_init 49 = .ok (.new 33, 3) := by decide +kernel
theorem dX7_init_52 : decode cX7_init 52 = .ok (.dup, 1) := by decide +kernel
theorem dX7_init_53 : decode cX7_init 53 = .ok (.invokespecial 35, 3) := by decide +kernel
theorem dX7_init_56 : decode cX7_init 56 = .ok (.putfield 36, 3) := by decide +kernel
theorem dX7_init_59 : decode cX7_init 59 = .ok (.aload_n 0, 1) := by decide +kernel
theorem dX7_init_60 : decode cX7_init 60 = .ok (.new 40, 3) := by decide +kernel
theorem dX7_init_63 : decode cX7_init 63 = .ok (.dup, 1) := by decide +kernel
theorem dX7_init_64 : decode cX7_init 64 = .ok (.invokespecial 42, 3) := by decide +kernel
theorem dX7_init_67 : decode cX7_init 67 = .ok (.putfield 43, 3) := by decide +kernel
theorem dX7_init_70 : decode cX7_init 70 = .ok (.aload_n 0, 1) := by decide +kernel
theorem dX7_init_71 : decode cX7_init 71 = .ok (.new 47, 3) := by decide +kernel
theorem dX7_init_74 : decode cX7_init 74 = .ok (.dup, 1) := by decide +kernel
theorem dX7_init_75 : decode cX7_init 75 = .ok (.invokespecial 49, 3) := by decide +kernel
theorem dX7_init_78 : decode cX7_init 78 = .ok (.putfield 50, 3) := by decide +kernel
theorem dX7_init_81 : decode cX7_init 81 = .ok (.aload_n 0, 1) := by decide +kernel
theorem dX7_init_82 : decode cX7_init 82 = .ok (.new 54, 3) := by decide +kernel
theorem dX7_init_85 : decode cX7_init 85 = .ok (.dup, 1) := by decide +kernel
theorem dX7_init_86 : decode cX7_init 86 = .ok (.invokespecial 56, 3) := by decide +kernel
theorem dX7_init_89 : decode cX7_init 89 = .ok (.putfield 57, 3) := by decide +kernel
theorem dX7_init_92 : decode cX7_init 92 = .ok (.aload_n 0, 1) := by decide +kernel
theorem dX7_init_93 : decode cX7_init 93 = .ok (.new 54, 3) := by decide +kernel
theorem dX7_init_96 : decode cX7_init 96 = .ok (.dup, 1) := by decide +kernel
theorem dX7_init_97 : decode cX7_init 97 = .ok (.invokespecial 56, 3) := by decide +kernel
theorem dX7_init_100 : decode cX7_init 100 = .ok (.putfield 61, 3) := by decide +kernel
theorem dX7_init_103 : decode cX7_init 103 = .ok (.return_, 1) := by decide +kernel
set_option maxRecDepth 20000 in
theorem ggX7_child_X7_isWithin : GoodIn wsX7_child wsX7_isWithin := goodIn_r _ [6] (by decide +kernel) (by decide +kernel)
set_option maxRecDepth 20000 in
theorem gX7_child_X7_isWithin : GoodIn wsX7_child (va_wsS RX7 64 yX7_isWithin wsX7_isWithin) := goodIn_app (goodIn_of _ (by decide +kernel)) ggX7_child_X7_isWithin
set_option maxRecDepth 20000 in
theorem ggX7_child_X5_hasStringFor : GoodIn wsX7_child wsX5_hasStringFor := goodIn_r _ [11, 12, 13, 14, 15, 16, 17, 36, 37, 38, 39, 40, 41, 42] (by decide +kernel) (by decide +kernel)
set_option maxRecDepth 20000 in
theorem gX7_child_X5_hasStringFor : GoodIn wsX7_child (wsV RX7 68 RX5 yX5_hasStringFor wsX5_hasStringFor) := goodIn_app (goodIn_of _ (by decide +kernel)) ggX7_child_X5_hasStringFor
set_option maxRecDepth 20000 in
theorem ggX7_child_X5_holdsFast : GoodIn wsX7_child wsX5_holdsFast := goodIn_r _ [21, 22, 36, 37, 38, 39, 40, 41, 42] (by decide +kernel) (by decide +kernel)
set_option maxRecDepth 20000 in
theorem gX7_child_X5_holdsFast : GoodIn wsX7_child (wsV RX7 76 RX5 yX5_holdsFast wsX5_holdsFast) := goodIn_app (goodIn_of _ (by decide +kernel)) ggX7_child_X5_holdsFast
set_option maxRecDepth 20000 in
theorem ggX7_child_X5_turnHold : GoodIn wsX7_child wsX5_turnHold := goodIn_r _ [26, 22, 36, 37, 38, 39, 40, 41, 42] (by decide +kernel) (by decide +kernel)
set_option maxRecDepth 20000 in
theorem gX7_child_X5_turnHold : GoodIn wsX7_child (wsV RX7 80 RX5 yX5_turnHold wsX5_turnHold) := goodIn_app (goodIn_of _ (by decide +kernel)) ggX7_child_X5_turnHold
theorem dX7_child_0 : decode cX7_child 0 = .ok (.iload_n 1, 1) := by decide +kernel
theorem dX7_child_1 : decode cX7_child 1 = .ok (.iconst 0, 1) := by decide +kernel
theorem dX7_child_2 : decode cX7_child 2 = .ok (.bipush 9, 2) := by decide +kernel
theorem dX7_child_4 : decode cX7_child 4 = .ok (.invokestatic 64, 3) := by decide +kernel
theorem dX7_child_7 : decode cX7_child 7 = .ok (.ifCond .ne 5, 3) := by decide +kernel
theorem dX7_child_10 : decode cX7_child 10 = .ok (.iconst (-1), 1) := by decide +kernel
theorem dX7_child_11 : decode cX7_child 11 = .ok (.ireturn, 1) := by decide +kernel
theorem dX7_child_12 : decode cX7_child 12 = .ok (.iload_n 2, 1) := by decide +kernel
theorem dX7_child_13 : decode cX7_child 13 = .ok (.iconst 0, 1) := by decide +kernel
theorem dX7_child_14 : decode cX7_child 14 = .ok (.sipush 999, 3) := by decide +kernel
theorem dX7_child_17 : decode cX7_child 17 = .ok (.invokestatic 64, 3) := by decide +kernel
theorem dX7_child_20 : decode cX7_child 20 = .ok (.ifCond .eq 12, 3) := by decide +kernel
theorem dX7_child_23 : decode cX7_child 23 = .ok (.iload_n 3, 1) := by decide +kernel
theorem dX7_child_24 : decode cX7_child 24 = .ok (.iconst 0, 1) := by decide +kernel
theorem dX7_child_25 : decode cX7_child 25 = .ok (.iconst 1, 1) := by decide +kernel
theorem dX7_child_26 : decode cX7_child 26 = .ok (.invokestatic 64, 3) := by decide +kernel
theorem dX7_child_29 : decode cX7_child 29 = .ok (.ifCond .ne 6, 3) := by decide +kernel
theorem dX7_child_32 : decode cX7_child 32 = .ok (.bipush (-2), 2) := by decide +kernel
theorem dX7_child_34 : decode cX7_child 34 = .ok (.ireturn, 1) := by decide +kernel
theorem dX7_child_35 : decode cX7_child 35 = .ok (.aload_n 0, 1) := by decide +kernel
theorem dX7_child_36 : decode cX7_child 36 = .ok (.getfield 10, 3) := by decide +kernel
theorem dX7_child_39 : decode cX7_child 39 = .ok (.iload_n 1, 1) := by decide +kernel
theorem dX7_child_40 : decode cX7_child 40 = .ok (.iload_n 2, 1) := by decide +kernel
theorem dX7_child_41 : decode cX7_child 41 = .ok (.invokevirtual 68, 3) := by decide +kernel
theorem dX7_child_44 : decode cX7_child 44 = .ok (.ifCond .ne 6, 3) := by decide +kernel
theorem dX7_child_47 : decode cX7_child 47 = .ok (.bipush (-3), 2) := by decide +kernel
theorem dX7_child_49 : decode cX7_child 49 = .ok (.ireturn, 1) := by decide +kernel
theorem dX7_child_50 : decode cX7_child 50 = .ok (.aload_n 0, 1) := by decide +kernel
theorem dX7_child_51 : decode cX7_child 51 = .ok (.getfield 10, 3) := by decide +kernel
theorem dX7_child_54 : decode cX7_child 54 = .ok (.getfield 72, 3) := by decide +kernel
theorem dX7_child_57 : decode cX7_child 57 = .ok (.iload_n 1, 1) := by decide +kernel
theorem dX7_child_58 : decode cX7_child 58 = .ok (.iaload, 1) := by decide +kernel
theorem dX7_child_59 : decode cX7_child 59 = .ok (.istore 4, 2) := by decide +kernel
theorem dX7_child_61 : decode cX7_child 61 = .ok (.aload_n 0, 1) := by decide +kernel
theorem dX7_child_62 : decode cX7_child 62 = .ok (.getfield 10, 3) := by decide +kernel
theorem dX7_child_65 : decode cX7_child 65 = .ok (.getfield 72, 3) := by decide +kernel
theorem dX7_child_68 : decode cX7_child 68 = .ok (.iload_n 1, 1) := by decide +kernel
theorem dX7_child_69 : decode cX7_child 69 = .ok (.iload_n 2, 1) := by decide +kernel
theorem dX7_child_70 : decode cX7_child 70 = .ok (.iastore, 1) := by decide +kernel
theorem dX7_child_71 : decode cX7_child 71 = .ok (.aload_n 0, 1) := by decide +kernel
theorem dX7_child_72 : decode cX7_child 72 = .ok (.getfield 10, 3) := by decide +kernel
theorem dX7_child_75 : decode cX7_child 75 = .ok (.iload_n 1, 1) := by decide +kernel
theorem dX7_child_76 : decode cX7_child 76 = .ok (.invokevirtual 76, 3) := by decide +kernel
theorem dX7_child_79 : decode cX7_child 79 = .ok (.iload_n 3, 1) := by decide +kernel
theorem dX7_child_80 : decode cX7_child 80 = .ok (.iconst 1, 1) := by decide +kernel
theorem dX7_child_81 : decode cX7_child 81 = .ok (.if_icmp .ne 7, 3) := by decide +kernel
theorem dX7_child_84 : decode cX7_child 84 = .ok (.iconst 1, 1) := by decide +kernel
theorem dX7_child_85 : decode cX7_child 85 = .ok (.goto 4, 3) := by decide +kernel
theorem dX7_child_88 : decode cX7_child 88 = .ok (.iconst 0, 1) := by decide +kernel
theorem dX7_child_89 : decode cX7_child 89 = .ok (.if_icmp .eq 11, 3) := by decide +kernel
theorem dX7_child_92 : decode cX7_child 92 = .ok (.aload_n 0, 1) := by decide +kernel
theorem dX7_child_93 : decode cX7_child 93 = .ok (.getfield 10, 3) := by decide +kernel
theorem dX7_child_96 : decode cX7_child 96 = .ok (.iload_n 1, 1) := by decide +kernel
theorem dX7_child_97 : decode cX7_child 97 = .ok (.invokevirtual 80, 3) := by decide +kernel
theorem dX7_child_100 : decode cX7_child 100 = .ok (.iload 4, 2) := by decide +kernel
theorem dX7_child_102 : decode cX7_child 102 = .ok (.ireturn, 1) := by decide +kernel
set_option maxRecDepth 20000 in
theorem ggX7_string_X7_isWithin : GoodIn wsX7_string wsX7_isWithin := goodIn_r _ [6] (by decide +kernel) (by decide +kernel)
set_option maxRecDepth 20000 in
theorem gX7_string_X7_isWithin : GoodIn wsX7_string (va_wsS RX7 64 yX7_isWithin wsX7_isWithin) := goodIn_app (goodIn_of _ (by decide +kernel)) ggX7_string_X7_isWithin
set_option maxRecDepth 20000 in
theorem ggX7_string_X5_apart : GoodIn wsX7_string wsX5_apart := goodIn_r _ [11, 12, 13, 14, 15, 16, 26, 27, 28, 29, 30, 31, 32] (by decide +kernel) (by decide +kernel)
set_option maxRecDepth 20000 in
theorem gX7_string_X5_apart : GoodIn wsX7_string (wsV RX7 84 RX5 yX5_apart wsX5_apart) := goodIn_app (goodIn_of _ (by decide +kernel)) ggX7_string_X5_apart
theorem dX7_string_0 : decode cX7_string 0 = .ok (.iload_n 1, 1) := by decide +kernel
theorem dX7_string_1 : decode cX7_string 1 = .ok (.iconst 0, 1) := by decide +kernel
theorem dX7_string_2 : decode cX7_string 2 = .ok (.bipush 8, 2) := by decide +kernel
theorem dX7_string_4 : decode cX7_string 4 = .ok (.invokestatic 64, 3) := by decide +kernel
theorem dX7_string_7 : decode cX7_string 7 = .ok (.ifCond .ne 5, 3) := by decide +kernel
theorem dX7_string_10 : decode cX7_string 10 = .ok (.iconst (-1), 1) := by decide +kernel
theorem dX7_string_11 : decode cX7_string 11 = .ok (.ireturn, 1) := by decide +kernel
theorem dX7_string_12 : decode cX7_string 12 = .ok (.iload_n 2, 1) := by decide +kernel
theorem dX7_string_13 : decode cX7_string 13 = .ok (.iconst 1, 1) := by decide +kernel
theorem dX7_string_14 : decode cX7_string 14 = .ok (.bipush 99, 2) := by decide +kernel
theorem dX7_string_16 : decode cX7_string 16 = .ok (.invokestatic 64, 3) := by decide +kernel
theorem dX7_string_19 : decode cX7_string 19 = .ok (.ifCond .ne 6, 3) := by decide +kernel
theorem dX7_string_22 : decode cX7_string 22 = .ok (.bipush (-2), 2) := by decide +kernel
theorem dX7_string_24 : decode cX7_string 24 = .ok (.ireturn, 1) := by decide +kernel
theorem dX7_string_25 : decode cX7_string 25 = .ok (.aload_n 0, 1) := by decide +kernel
theorem dX7_string_26 : decode cX7_string 26 = .ok (.getfield 10, 3) := by decide +kernel
theorem dX7_string_29 : decode cX7_string 29 = .ok (.iload_n 1, 1) := by decide +kernel
theorem dX7_string_30 : decode cX7_string 30 = .ok (.invokevirtual 84, 3) := by decide +kernel
theorem dX7_string_33 : decode cX7_string 33 = .ok (.iload_n 2, 1) := by decide +kernel
theorem dX7_string_34 : decode cX7_string 34 = .ok (.if_icmp .le 6, 3) := by decide +kernel
theorem dX7_string_37 : decode cX7_string 37 = .ok (.bipush (-3), 2) := by decide +kernel
theorem dX7_string_39 : decode cX7_string 39 = .ok (.ireturn, 1) := by decide +kernel
theorem dX7_string_40 : decode cX7_string 40 = .ok (.aload_n 0, 1) := by decide +kernel
theorem dX7_string_41 : decode cX7_string 41 = .ok (.getfield 10, 3) := by decide +kernel
theorem dX7_string_44 : decode cX7_string 44 = .ok (.getfield 88, 3) := by decide +kernel
theorem dX7_string_47 : decode cX7_string 47 = .ok (.iload_n 1, 1) := by decide +kernel
theorem dX7_string_48 : decode cX7_string 48 = .ok (.iaload, 1) := by decide +kernel
theorem dX7_string_49 : decode cX7_string 49 = .ok (.istore_n 3, 1) := by decide +kernel
theorem dX7_string_50 : decode cX7_string 50 = .ok (.aload_n 0, 1) := by decide +kernel
theorem dX7_string_51 : decode cX7_string 51 = .ok (.getfield 10, 3) := by decide +kernel
theorem dX7_string_54 : decode cX7_string 54 = .ok (.getfield 88, 3) := by decide +kernel
theorem dX7_string_57 : decode cX7_string 57 = .ok (.iload_n 1, 1) := by decide +kernel
theorem dX7_string_58 : decode cX7_string 58 = .ok (.iload_n 2, 1) := by decide +kernel
theorem dX7_string_59 : decode cX7_string 59 = .ok (.iastore, 1) := by decide +kernel
theorem dX7_string_60 : decode cX7_string 60 = .ok (.iload_n 3, 1) := by decide +kernel
theorem dX7_string_61 : decode cX7_string 61 = .ok (.ireturn, 1) := by decide +kernel
set_option maxRecDepth 20000 in
theorem ggX7_ball_X7_isWithin : GoodIn wsX7_ball wsX7_isWithin := goodIn_r _ [6] (by decide +kernel) (by decide +kernel)
set_option maxRecDepth 20000 in
theorem gX7_ball_X7_isWithin : GoodIn wsX7_ball (va_wsS RX7 64 yX7_isWithin wsX7_isWithin) := goodIn_app (goodIn_of _ (by decide +kernel)) ggX7_ball_X7_isWithin
theorem dX7_ball_0 : decode cX7_ball 0 = .ok (.iload_n 1, 1) := by decide +kernel
theorem dX7_ball_1 : decode cX7_ball 1 = .ok (.iconst 0, 1) := by decide +kernel
theorem dX7_ball_2 : decode cX7_ball 2 = .ok (.sipush 999, 3) := by decide +kernel
theorem dX7_ball_5 : decode cX7_ball 5 = .ok (.invokestatic 64, 3) := by decide +kernel
theorem dX7_ball_8 : decode cX7_ball 8 = .ok (.ifCond .ne 6, 3) := by decide +kernel
theorem dX7_ball_11 : decode cX7_ball 11 = .ok (.bipush (-2), 2) := by decide +kernel
theorem dX7_ball_13 : decode cX7_ball 13 = .ok (.ireturn, 1) := by decide +kernel
theorem dX7_ball_14 : decode cX7_ball 14 = .ok (.aload_n 0, 1) := by decide +kernel
theorem dX7_ball_15 : decode cX7_ball 15 = .ok (.getfield 10, 3) := by decide +kernel
theorem dX7_ball_18 : decode cX7_ball 18 = .ok (.getfield 91, 3) := by decide +kernel
theorem dX7_ball_21 : decode cX7_ball 21 = .ok (.istore_n 2, 1) := by decide +kernel
theorem dX7_ball_22 : decode cX7_ball 22 = .ok (.aload_n 0, 1) := by decide +kernel
theorem dX7_ball_23 : decode cX7_ball 23 = .ok (.getfield 10, 3) := by decide +kernel
theorem dX7_ball_26 : decode cX7_ball 26 = .ok (.iload_n 1, 1) := by decide +kernel
theorem dX7_ball_27 : decode cX7_ball 27 = .ok (.putfield 91, 3) := by decide +kernel
theorem dX7_ball_30 : decode cX7_ball 30 = .ok (.iload_n 2, 1) := by decide +kernel
theorem dX7_ball_31 : decode cX7_ball 31 = .ok (.ireturn, 1) := by decide +kernel
set_option maxRecDepth 20000 in
theorem ggX7_say_X7_isWithin : GoodIn wsX7_say wsX7_isWithin := goodIn_r _ [6] (by decide +kernel) (by decide +kernel)
set_option maxRecDepth 20000 in
theorem gX7_say_X7_isWithin : GoodIn wsX7_say (va_wsS RX7 64 yX7_isWithin wsX7_isWithin) := goodIn_app (goodIn_of _ (by decide +kernel)) ggX7_say_X7_isWithin
set_option maxRecDepth 20000 in
theorem ggX7_say_X3_add : GoodIn wsX7_say wsX3_add := goodIn_r _ [11, 12, 13, 23, 24, 25, 26, 27, 28] (by decide +kernel) (by decide +kernel)
set_option maxRecDepth 20000 in
theorem gX7_say_X3_add : GoodIn wsX7_say (wsV RX7 95 RX3 yX3_add wsX3_add) := goodIn_app (goodIn_of _ (by decide +kernel)) ggX7_say_X3_add
theorem dX7_say_0 : decode cX7_say 0 = .ok (.iload_n 1, 1) := by decide +kernel
theorem dX7_say_1 : decode cX7_say 1 = .ok (.bipush 33, 2) := by decide +kernel
theorem dX7_say_3 : decode cX7_say 3 = .ok (.bipush 126, 2) := by decide +kernel
theorem dX7_say_5 : decode cX7_say 5 = .ok (.invokestatic 64, 3) := by decide +kernel
theorem dX7_say_8 : decode cX7_say 8 = .ok (.ifCond .ne 6, 3) := by decide +kernel
theorem dX7_say_11 : decode cX7_say 11 = .ok (.bipush (-2), 2) := by decide +kernel
theorem dX7_say_13 : decode cX7_say 13 = .ok (.ireturn, 1) := by decide +kernel
theorem dX7_say_14 : decode cX7_say 14 = .ok (.aload_n 0, 1) := by decide +kernel
theorem dX7_say_15 : decode cX7_say 15 = .ok (.getfield 22, 3) := by decide +kernel
theorem dX7_say_18 : decode cX7_say 18 = .ok (.iload_n 1, 1) := by decide +kernel
theorem dX7_say_19 : decode cX7_say 19 = .ok (.invokevirtual 95, 3) := by decide +kernel
theorem dX7_say_22 : decode cX7_say 22 = .ok (.ifCond .eq 13, 3) := by decide +kernel
theorem dX7_say_25 : decode cX7_say 25 = .ok (.aload_n 0, 1) := by decide +kernel
theorem dX7_say_26 : decode cX7_say 26 = .ok (.getfield 22, 3) := by decide +kernel
theorem dX7_say_29 : decode cX7_say 29 = .ok (.getfield 98, 3) := by decide +kernel
theorem dX7_say_32 : decode cX7_say 32 = .ok (.goto 5, 3) := by decide +kernel
theorem dX7_say_35 : decode cX7_say 35 = .ok (.bipush (-4), 2) := by decide +kernel
theorem dX7_say_37 : decode cX7_say 37 = .ok (.ireturn, 1) := by decide +kernel
set_option maxRecDepth 20000 in
theorem ggX7_wipe_X3_clear : GoodIn wsX7_wipe wsX3_clear := goodIn_r _ [7, 8, 18, 19, 20, 21, 22, 23] (by decide +kernel) (by decide +kernel)
set_option maxRecDepth 20000 in
theorem gX7_wipe_X3_clear : GoodIn wsX7_wipe (wsV RX7 101 RX3 yX3_clear wsX3_clear) := goodIn_app (goodIn_of _ (by decide +kernel)) ggX7_wipe_X3_clear
theorem dX7_wipe_0 : decode cX7_wipe 0 = .ok (.aload_n 0, 1) := by decide +kernel
theorem dX7_wipe_1 : decode cX7_wipe 1 = .ok (.getfield 22, 3) := by decide +kernel
theorem dX7_wipe_4 : decode cX7_wipe 4 = .ok (.getfield 98, 3) := by decide +kernel
theorem dX7_wipe_7 : decode cX7_wipe 7 = .ok (.istore_n 1, 1) := by decide +kernel
theorem dX7_wipe_8 : decode cX7_wipe 8 = .ok (.aload_n 0, 1) := by decide +kernel
theorem dX7_wipe_9 : decode cX7_wipe 9 = .ok (.getfield 22, 3) := by decide +kernel
theorem dX7_wipe_12 : decode cX7_wipe 12 = .ok (.invokevirtual 101, 3) := by decide +kernel
theorem dX7_wipe_15 : decode cX7_wipe 15 = .ok (.iload_n 1, 1) := by decide +kernel
theorem dX7_wipe_16 : decode cX7_wipe 16 = .ok (.ireturn, 1) := by decide +kernel
set_option maxRecDepth 20000 in
theorem ggX7_fault_X3_faultPlace : GoodIn wsX7_fault wsX3_faultPlace := goodIn_r _ [6, 7, 8, 9, 10, 5, 11, 12, 13, 14, 24, 25, 26, 27, 28, 29] (by decide +kernel) (by decide +kernel)
set_option maxRecDepth 20000 in
theorem gX7_fault_X3_faultPlace : GoodIn wsX7_fault (wsV RX7 104 RX3 yX3_faultPlace wsX3_faultPlace) := goodIn_app (goodIn_of _ (by decide +kernel)) ggX7_fault_X3_faultPlace
theorem dX7_fault_0 : decode cX7_fault 0 = .ok (.aload_n 0, 1) := by decide +kernel
theorem dX7_fault_1 : decode cX7_fault 1 = .ok (.getfield 22, 3) := by decide +kernel
theorem dX7_fault_4 : decode cX7_fault 4 = .ok (.invokevirtual 104, 3) := by decide +kernel
theorem dX7_fault_7 : decode cX7_fault 7 = .ok (.ireturn, 1) := by decide +kernel
set_option maxRecDepth 20000 in
theorem ggX7_judge_X7_isWithin : GoodIn wsX7_judge wsX7_isWithin := goodIn_r _ [8] (by decide +kernel) (by decide +kernel)
set_option maxRecDepth 20000 in
theorem gX7_judge_X7_isWithin : GoodIn wsX7_judge (va_wsS RX7 64 yX7_isWithin wsX7_isWithin) := goodIn_app (goodIn_of _ (by decide +kernel)) ggX7_judge_X7_isWithin
set_option maxRecDepth 20000 in
theorem ggX7_judge_X7_runText : GoodIn wsX7_judge wsX7_runText := goodIn_r _ [12, 13, 14, 15, 1, 16, 2, 17, 18, 19, 20, 21, 22, 23, 24, 25, 26, 27, 28, 29, 6, 7, 8, 30, 31, 32, 33, 34, 35, 36, 37, 38, 39, 40, 41, 42, 43, 44, 45, 46, 47, 48, 49, 50, 51, 52, 53, 54, 55, 56, 57, 58, 59, 60, 61, 62, 63, 64, 65, 66, 67, 68, 69, 70, 71, 72, 73, 74, 75, 76, 77, 78, 79, 80, 81, 82, 83, 84, 85, 86, 87, 88, 89, 90, 91, 92, 93, 94, 95, 96, 97, 98, 99, 100, 101, 102, 103, 104, 105, 106, 107, 108, 109, 110, 111, 112, 113, 114, 115, 116, 117, 118, 119, 120, 121, 122, 123, 124, 125, 126, 127, 128, 129, 130, 131, 132, 133, 134, 135, 136, 137, 138, 139, 140, 141, 142, 143, 144, 145, 146, 147, 148, 149, 150, 151, 152, 153, 154, 155, 156, 157, 158, 159, 160, 161, 168, 169, 170, 171, 172, 173, 162, 163, 164, 165, 166, 167, 174, 175, 176, 177, 178, 179, 180] (by decide +kernel) (by decide +kernel)
set_option maxRecDepth 20000 in
theorem gX7_judge_X7_runText : GoodIn wsX7_judge (wsV RX7 108 RX7 yX7_runText wsX7_runText) := goodIn_app (goodIn_of _ (by decide +kernel)) ggX7_judge_X7_runText
theorem dX7_judge_0 : decode cX7_judge 0 = .ok (.iload_n 1, 1) := by decide +kernel
theorem dX7_judge_1 : decode cX7_judge 1 = .ok (.iconst 0, 1) := by decide +kernel
theorem dX7_judge_2 : decode cX7_judge 2 = .ok (.iconst 2, 1) := by decide +kernel
theorem dX7_judge_3 : decode cX7_judge 3 = .ok (.invokestatic 64, 3) := by decide +kernel
theorem dX7_judge_6 : decode cX7_judge 6 = .ok (.ifCond .ne 6, 3) := by decide +kernel
theorem dX7_judge_9 : decode cX7_judge 9 = .ok (.bipush (-2), 2) := by decide +kernel
theorem dX7_judge_11 : decode cX7_judge 11 = .ok (.ireturn, 1) := by decide +kernel
theorem dX7_judge_12 : decode cX7_judge 12 = .ok (.aload_n 0, 1) := by decide +kernel
theorem dX7_judge_13 : decode cX7_judge 13 = .ok (.invokevirtual 108, 3) := by decide +kernel
theorem dX7_judge_16 : decode cX7_judge 16 = .ok (.istore_n 2, 1) := by decide +kernel
theorem dX7_judge_17 : decode cX7_judge 17 = .ok (.iload_n 2, 1) := by decide +kernel
theorem dX7_judge_18 : decode cX7_judge 18 = .ok (.bipush (-5), 2) := by decide +kernel
theorem dX7_judge_20 : decode cX7_judge 20 = .ok (.if_icmp .ne 6, 3) := by decide +kernel
theorem dX7_judge_23 : decode cX7_judge 23 = .ok (.bipush (-5), 2) := by decide +kernel
theorem dX7_judge_25 : decode cX7_judge 25 = .ok (.ireturn, 1) := by decide +kernel
theorem dX7_judge_26 : decode cX7_judge 26 = .ok (.iload_n 1, 1) := by decide +kernel
theorem dX7_judge_27 : decode cX7_judge 27 = .ok (.ifCond .ne 11, 3) := by decide +kernel
theorem dX7_judge_30 : decode cX7_judge 30 = .ok (.aload_n 0, 1) := by decide +kernel
theorem dX7_judge_31 : decode cX7_judge 31 = .ok (.getfield 29, 3) := by decide +kernel
theorem dX7_judge_34 : decode cX7_judge 34 = .ok (.getfield 111, 3) := by decide +kernel
theorem dX7_judge_37 : decode cX7_judge 37 = .ok (.ireturn, 1) := by decide +kernel
theorem dX7_judge_38 : decode cX7_judge 38 = .ok (.iload_n 1, 1) := by decide +kernel
theorem dX7_judge_39 : decode cX7_judge 39 = .ok (.iconst 1, 1) := by decide +kernel
theorem dX7_judge_40 : decode cX7_judge 40 = .ok (.if_icmp .ne 11, 3) := by decide +kernel
theorem dX7_judge_43 : decode cX7_judge 43 = .ok (.aload_n 0, 1) := by decide +kernel
theorem dX7_judge_44 : decode cX7_judge 44 = .ok (.getfield 29, 3) := by decide +kernel
theorem dX7_judge_47 : decode cX7_judge 47 = .ok (.getfield 114, 3) := by decide +kernel
theorem dX7_judge_50 : decode cX7_judge 50 = .ok (.ireturn, 1) := by decide +kernel
theorem dX7_judge_51 : decode cX7_judge 51 = .ok (.iload_n 2, 1) := by decide +kernel
theorem dX7_judge_52 : decode cX7_judge 52 = .ok (.bipush (-3), 2) := by decide +kernel
theorem dX7_judge_54 : decode cX7_judge 54 = .ok (.if_icmp .ne 8, 3) := by decide +kernel
theorem dX7_judge_57 : decode cX7_judge 57 = .ok (.bipush (-3), 2) := by decide +kernel
theorem dX7_judge_59 : decode cX7_judge 59 = .ok (.goto 10, 3) := by decide +kernel
theorem dX7_judge_62 : decode cX7_judge 62 = .ok (.aload_n 0, 1) := by decide +kernel
theorem dX7_judge_63 : decode cX7_judge 63 = .ok (.getfield 29, 3) := by decide +kernel
theorem dX7_judge_66 : decode cX7_judge 66 = .ok (.getfield 117, 3) := by decide +kernel
theorem dX7_judge_69 : decode cX7_judge 69 = .ok (.ireturn, 1) := by decide +kernel
set_option maxRecDepth 20000 in
theorem ggX7_behind_X7_isWithin : GoodIn wsX7_behind wsX7_isWithin := goodIn_r _ [7] (by decide +kernel) (by decide +kernel)
set_option maxRecDepth 20000 in
theorem gX7_behind_X7_isWithin : GoodIn wsX7_behind (va_wsS RX7 64 yX7_isWithin wsX7_isWithin) := goodIn_app (goodIn_of _ (by decide +kernel)) ggX7_behind_X7_isWithin
set_option maxRecDepth 20000 in
theorem ggX7_behind_X7_runText : GoodIn wsX7_behind wsX7_runText := goodIn_r _ [11, 12, 1, 13, 14, 15, 16, 17, 18, 19, 20, 21, 22, 23, 24, 25, 26, 27, 28, 29, 5, 6, 7, 30, 31, 32, 33, 34, 35, 36, 37, 38, 39, 40, 41, 42, 43, 44, 45, 46, 47, 48, 49, 50, 51, 52, 53, 54, 55, 56, 57, 58, 59, 60, 61, 62, 63, 64, 65, 66, 67, 68, 69, 70, 71, 72, 73, 74, 75, 76, 77, 78, 79, 80, 81, 82, 83, 84, 85, 86, 87, 88, 89, 90, 91, 92, 93, 94, 95, 96, 97, 98, 99, 100, 101, 102, 103, 104, 105, 106, 107, 108, 109, 110, 111, 112, 113, 114, 115, 116, 117, 118, 119, 120, 121, 122, 123, 124, 125, 126, 127, 128, 129, 130, 131, 132, 133, 134, 135, 136, 137, 138, 139, 140, 141, 142, 143, 144, 145, 146, 147, 148, 149, 150, 151, 152, 157, 158, 159, 160, 161, 162, 163, 164, 165, 173, 174, 175, 176, 177, 178, 179, 180, 181, 182, 183, 184, 166, 167, 168, 169, 170, 171, 172] (by decide +kernel) (by decide +kernel)
set_option maxRecDepth 20000 in
theorem gX7_behind_X7_runText : GoodIn wsX7_behind (wsV RX7 108 RX7 yX7_runText wsX7_runText) := goodIn_app (goodIn_of _ (by decide +kernel)) ggX7_behind_X7_runText
set_option maxRecDepth 20000 in
theorem ggX7_behind_X5_holdsFast : GoodIn wsX7_behind wsX5_holdsFast := goodIn_r _ [156, 38, 166, 167, 168, 169, 170, 171, 172] (by decide +kernel) (by decide +kernel)
set_option maxRecDepth 20000 in
theorem gX7_behind_X5_holdsFast : GoodIn wsX7_behind (wsV RX7 76 RX5 yX5_holdsFast wsX5_holdsFast) := goodIn_app (goodIn_of _ (by decide +kernel)) ggX7_behind_X5_holdsFast
theorem dX7_behind_0 : decode cX7_behind 0 = .ok (.iload_n 1, 1) := by decide +kernel
theorem dX7_behind_1 : decode cX7_behind 1 = .ok (.iconst 0, 1) := by decide +kernel
theorem dX7_behind_2 : decode cX7_behind 2 = .ok (.bipush 9, 2) := by decide +kernel
theorem dX7_behind_4 : decode cX7_behind 4 = .ok (.invokestatic 64, 3) := by decide +kernel
theorem dX7_behind_7 : decode cX7_behind 7 = .ok (.ifCond .ne 5, 3) := by decide +kernel
theorem dX7_behind_10 : decode cX7_behind 10 = .ok (.iconst (-1), 1) := by decide +kernel
theorem dX7_behind_11 : decode cX7_behind 11 = .ok (.ireturn, 1) := by decide +kernel
theorem dX7_behind_12 : decode cX7_behind 12 = .ok (.iload_n 2, 1) := by decide +kernel
theorem dX7_behind_13 : decode cX7_behind 13 = .ok (.iconst 0, 1) := by decide +kernel
theorem dX7_behind_14 : decode cX7_behind 14 = .ok (.iconst 2, 1) := by decide +kernel
theorem dX7_behind_15 : decode cX7_behind 15 = .ok (.invokestatic 64, 3) := by decide +kernel
theorem dX7_behind_18 : decode cX7_behind 18 = .ok (.ifCond .ne 6, 3) := by decide +kernel
theorem dX7_behind_21 : decode cX7_behind 21 = .ok (.bipush (-2), 2) := by decide +kernel
theorem dX7_behind_23 : decode cX7_behind 23 = .ok (.ireturn, 1) := by decide +kernel
theorem dX7_behind_24 : decode cX7_behind 24 = .ok (.aload_n 0, 1) := by decide +kernel
theorem dX7_behind_25 : decode cX7_behind 25 = .ok (.invokevirtual 108, 3) := by decide +kernel
theorem dX7_behind_28 : decode cX7_behind 28 = .ok (.istore_n 3, 1) := by decide +kernel
theorem dX7_behind_29 : decode cX7_behind 29 = .ok (.iload_n 3, 1) := by decide +kernel
theorem dX7_behind_30 : decode cX7_behind 30 = .ok (.ifCond .eq 5, 3) := by decide +kernel
theorem dX7_behind_33 : decode cX7_behind 33 = .ok (.iload_n 3, 1) := by decide +kernel
theorem dX7_behind_34 : decode cX7_behind 34 = .ok (.ireturn, 1) := by decide +kernel
theorem dX7_behind_35 : decode cX7_behind 35 = .ok (.iload_n 2, 1) := by decide +kernel
theorem dX7_behind_36 : decode cX7_behind 36 = .ok (.ifCond .ne 13, 3) := by decide +kernel
theorem dX7_behind_39 : decode cX7_behind 39 = .ok (.aload_n 0, 1) := by decide +kernel
theorem dX7_behind_40 : decode cX7_behind 40 = .ok (.getfield 16, 3) := by decide +kernel
theorem dX7_behind_43 : decode cX7_behind 43 = .ok (.getfield 72, 3) := by decide +kernel
theorem dX7_behind_46 : decode cX7_behind 46 = .ok (.iload_n 1, 1) := by decide +kernel
theorem dX7_behind_47 : decode cX7_behind 47 = .ok (.iaload, 1) := by decide +kernel
theorem dX7_behind_48 : decode cX7_behind 48 = .ok (.ireturn, 1) := by decide +kernel
theorem dX7_behind_49 : decode cX7_behind 49 = .ok (.iload_n 2, 1) := by decide +kernel
theorem dX7_behind_50 : decode cX7_behind 50 = .ok (.iconst 1, 1) := by decide +kernel
theorem dX7_behind_51 : decode cX7_behind 51 = .ok (.if_icmp .ne 13, 3) := by decide +kernel
theorem dX7_behind_54 : decode cX7_behind 54 = .ok (.aload_n 0, 1) := by decide +kernel
theorem dX7_behind_55 : decode cX7_behind 55 = .ok (.getfield 16, 3) := by decide +kernel
theorem dX7_behind_58 : decode cX7_behind 58 = .ok (.getfield 120, 3) := by decide +kernel
theorem dX7_behind_61 : decode cX7_behind 61 = .ok (.iload_n 1, 1) := by decide +kernel
theorem dX7_behind_62 : decode cX7_behind 62 = .ok (.iaload, 1) := by decide +kernel
theorem dX7_behind_63 : decode cX7_behind 63 = .ok (.ireturn, 1) := by decide +kernel
theorem dX7_behind_64 : decode cX7_behind 64 = .ok (.aload_n 0, 1) := by decide +kernel
theorem dX7_behind_65 : decode cX7_behind 65 = .ok (.getfield 16, 3) := by decide +kernel
theorem dX7_behind_68 : decode cX7_behind 68 = .ok (.iload_n 1, 1) := by decide +kernel
theorem dX7_behind_69 : decode cX7_behind 69 = .ok (.invokevirtual 76, 3) := by decide +kernel
theorem dX7_behind_72 : decode cX7_behind 72 = .ok (.ifCond .eq 7, 3) := by decide +kernel
theorem dX7_behind_75 : decode cX7_behind 75 = .ok (.iconst 1, 1) := by decide +kernel
theorem dX7_behind_76 : decode cX7_behind 76 = .ok (.goto 4, 3) := by decide +kernel
theorem dX7_behind_79 : decode cX7_behind 79 = .ok (.iconst 0, 1) := by decide +kernel
theorem dX7_behind_80 : decode cX7_behind 80 = .ok (.ireturn, 1) := by decide +kernel
set_option maxRecDepth 20000 in
theorem ggX7_line_X7_isWithin : GoodIn wsX7_line wsX7_isWithin := goodIn_r _ [7] (by decide +kernel) (by decide +kernel)
set_option maxRecDepth 20000 in
theorem gX7_line_X7_isWithin : GoodIn wsX7_line (va_wsS RX7 64 yX7_isWithin wsX7_isWithin) := goodIn_app (goodIn_of _ (by decide +kernel)) ggX7_line_X7_isWithin
set_option maxRecDepth 20000 in
theorem ggX7_line_X7_runText : GoodIn wsX7_line wsX7_runText := goodIn_r _ [11, 12, 1, 13, 14, 15, 16, 17, 18, 19, 20, 21, 22, 23, 24, 25, 26, 27, 28, 29, 5, 6, 7, 30, 31, 32, 33, 34, 35, 36, 37, 38, 39, 40, 41, 42, 43, 44, 45, 46, 47, 48, 49, 50, 51, 52, 53, 54, 55, 56, 57, 58, 59, 60, 61, 62, 63, 64, 65, 66, 67, 68, 69, 70, 71, 72, 73, 74, 75, 76, 77, 78, 79, 80, 81, 82, 83, 84, 85, 86, 87, 88, 89, 90, 91, 92, 93, 94, 95, 96, 97, 98, 99, 100, 101, 102, 103, 104, 105, 106, 107, 108, 109, 110, 111, 112, 113, 114, 115, 116, 117, 118, 119, 120, 121, 122, 123, 124, 125, 126, 127, 128, 129, 130, 131, 132, 133, 134, 135, 136, 137, 138, 139, 140, 141, 142, 143, 144, 145, 146, 147, 148, 149, 150, 151, 152, 161, 162, 163, 164, 165, 166, 167, 168, 169, 177, 178, 179, 180, 181, 182, 183, 184, 185, 186, 187, 188, 170, 171, 172, 173, 174, 175, 176] (by decide +kernel) (by decide +kernel)
set_option maxRecDepth 20000 in
theorem gX7_line_X7_runText : GoodIn wsX7_line (wsV RX7 108 RX7 yX7_runText wsX7_runText) := goodIn_app (goodIn_of _ (by decide +kernel)) ggX7_line_X7_runText
set_option maxRecDepth 20000 in
theorem ggX7_line_X5_tautBits : GoodIn wsX7_line wsX5_tautBits := goodIn_r _ [156, 93, 94, 95, 33, 96, 37, 97, 98, 99, 100, 35, 101, 102, 103, 104, 170, 171, 172, 173, 174, 175, 176] (by decide +kernel) (by decide +kernel)
set_option maxRecDepth 20000 in
theorem gX7_line_X5_tautBits : GoodIn wsX7_line (wsV RX7 123 RX5 yX5_tautBits wsX5_tautBits) := goodIn_app (goodIn_of _ (by decide +kernel)) ggX7_line_X5_tautBits
set_option maxRecDepth 20000 in
theorem ggX7_line_X5_allLengths : GoodIn wsX7_line wsX5_allLengths := goodIn_r _ [160, 37, 170, 171, 172, 173, 174, 175, 176] (by decide +kernel) (by decide +kernel)
set_option maxRecDepth 20000 in
theorem gX7_line_X5_allLengths : GoodIn wsX7_line (wsV RX7 126 RX5 yX5_allLengths wsX5_allLengths) := goodIn_app (goodIn_of _ (by decide +kernel)) ggX7_line_X5_allLengths
theorem dX7_line_0 : decode cX7_line 0 = .ok (.iload_n 1, 1) := by decide +kernel
theorem dX7_line_1 : decode cX7_line 1 = .ok (.iconst 0, 1) := by decide +kernel
theorem dX7_line_2 : decode cX7_line 2 = .ok (.iconst 3, 1) := by decide +kernel
theorem dX7_line_3 : decode cX7_line 3 = .ok (.invokestatic 64, 3) := by decide +kernel
theorem dX7_line_6 : decode cX7_line 6 = .ok (.ifCond .ne 6, 3) := by decide +kernel
theorem dX7_line_9 : decode cX7_line 9 = .ok (.bipush (-2), 2) := by decide +kernel
theorem dX7_line_11 : decode cX7_line 11 = .ok (.ireturn, 1) := by decide +kernel
theorem dX7_line_12 : decode cX7_line 12 = .ok (.aload_n 0, 1) := by decide +kernel
theorem dX7_line_13 : decode cX7_line 13 = .ok (.invokevirtual 108, 3) := by decide +kernel
theorem dX7_line_16 : decode cX7_line 16 = .ok (.istore_n 2, 1) := by decide +kernel
theorem dX7_line_17 : decode cX7_line 17 = .ok (.iload_n 2, 1) := by decide +kernel
theorem dX7_line_18 : decode cX7_line 18 = .ok (.ifCond .eq 5, 3) := by decide +kernel
theorem dX7_line_21 : decode cX7_line 21 = .ok (.iload_n 2, 1) := by decide +kernel
theorem dX7_line_22 : decode cX7_line 22 = .ok (.ireturn, 1) := by decide +kernel
theorem dX7_line_23 : decode cX7_line 23 = .ok (.iload_n 1, 1) := by decide +kernel
theorem dX7_line_24 : decode cX7_line 24 = .ok (.ifCond .ne 11, 3) := by decide +kernel
theorem dX7_line_27 : decode cX7_line 27 = .ok (.aload_n 0, 1) := by decide +kernel
theorem dX7_line_28 : decode cX7_line 28 = .ok (.getfield 16, 3) := by decide +kernel
theorem dX7_line_31 : decode cX7_line 31 = .ok (.invokevirtual 123, 3) := by decide +kernel
theorem dX7_line_34 : decode cX7_line 34 = .ok (.ireturn, 1) := by decide +kernel
theorem dX7_line_35 : decode cX7_line 35 = .ok (.iload_n 1, 1) := by decide +kernel
theorem dX7_line_36 : decode cX7_line 36 = .ok (.iconst 1, 1) := by decide +kernel
theorem dX7_line_37 : decode cX7_line 37 = .ok (.if_icmp .ne 11, 3) := by decide +kernel
theorem dX7_line_40 : decode cX7_line 40 = .ok (.aload_n 0, 1) := by decide +kernel
theorem dX7_line_41 : decode cX7_line 41 = .ok (.getfield 16, 3) := by decide +kernel
theorem dX7_line_44 : decode cX7_line 44 = .ok (.getfield 91, 3) := by decide +kernel
theorem dX7_line_47 : decode cX7_line 47 = .ok (.ireturn, 1) := by decide +kernel
theorem dX7_line_48 : decode cX7_line 48 = .ok (.iload_n 1, 1) := by decide +kernel
theorem dX7_line_49 : decode cX7_line 49 = .ok (.iconst 2, 1) := by decide +kernel
theorem dX7_line_50 : decode cX7_line 50 = .ok (.if_icmp .ne 11, 3) := by decide +kernel
theorem dX7_line_53 : decode cX7_line 53 = .ok (.aload_n 0, 1) := by decide +kernel
theorem dX7_line_54 : decode cX7_line 54 = .ok (.getfield 16, 3) := by decide +kernel
theorem dX7_line_57 : decode cX7_line 57 = .ok (.invokevirtual 126, 3) := by decide +kernel
theorem dX7_line_60 : decode cX7_line 60 = .ok (.ireturn, 1) := by decide +kernel
theorem dX7_line_61 : decode cX7_line 61 = .ok (.aload_n 0, 1) := by decide +kernel
theorem dX7_line_62 : decode cX7_line 62 = .ok (.getfield 16, 3) := by decide +kernel
theorem dX7_line_65 : decode cX7_line 65 = .ok (.getfield 129, 3) := by decide +kernel
theorem dX7_line_68 : decode cX7_line 68 = .ok (.ireturn, 1) := by decide +kernel
set_option maxRecDepth 20000 in
theorem ggX7_drawn_X7_isWithin : GoodIn wsX7_drawn wsX7_isWithin := goodIn_r _ [7] (by decide +kernel) (by decide +kernel)
set_option maxRecDepth 20000 in
theorem gX7_drawn_X7_isWithin : GoodIn wsX7_drawn (va_wsS RX7 64 yX7_isWithin wsX7_isWithin) := goodIn_app (goodIn_of _ (by decide +kernel)) ggX7_drawn_X7_isWithin
set_option maxRecDepth 20000 in
theorem ggX7_drawn_X7_runText : GoodIn wsX7_drawn wsX7_runText := goodIn_r _ [11, 12, 13, 14, 1, 15, 16, 17, 18, 19, 20, 21, 22, 23, 24, 25, 26, 27, 28, 29, 5, 6, 7, 30, 31, 32, 33, 34, 35, 36, 37, 38, 39, 40, 41, 42, 43, 44, 45, 46, 47, 48, 49, 50, 51, 52, 53, 54, 55, 56, 57, 58, 59, 60, 61, 62, 63, 64, 65, 66, 67, 68, 69, 70, 71, 72, 73, 74, 75, 76, 77, 78, 79, 80, 81, 82, 83, 84, 85, 86, 87, 88, 89, 90, 91, 92, 93, 94, 95, 96, 97, 98, 99, 100, 101, 102, 103, 104, 105, 106, 107, 108, 109, 110, 111, 112, 113, 114, 115, 116, 117, 118, 119, 120, 121, 122, 123, 124, 125, 126, 127, 128, 129, 130, 131, 132, 133, 134, 135, 136, 137, 138, 139, 140, 141, 142, 143, 144, 145, 146, 147, 148, 149, 150, 151, 152, 153, 154, 155, 156, 157, 158, 159, 160, 161, 168, 169, 170, 171, 172, 173, 162, 163, 164, 165, 166, 167, 174, 175, 176, 177, 178, 179, 180] (by decide +kernel) (by decide +kernel)
set_option maxRecDepth 20000 in
theorem gX7_drawn_X7_runText : GoodIn wsX7_drawn (wsV RX7 108 RX7 yX7_runText wsX7_runText) := goodIn_app (goodIn_of _ (by decide +kernel)) ggX7_drawn_X7_runText
theorem dX7_drawn_0 : decode cX7_drawn 0 = .ok (.iload_n 1, 1) := by decide +kernel
theorem dX7_drawn_1 : decode cX7_drawn 1 = .ok (.iconst 0, 1) := by decide +kernel
theorem dX7_drawn_2 : decode cX7_drawn 2 = .ok (.iconst 1, 1) := by decide +kernel
theorem dX7_drawn_3 : decode cX7_drawn 3 = .ok (.invokestatic 64, 3) := by decide +kernel
theorem dX7_drawn_6 : decode cX7_drawn 6 = .ok (.ifCond .ne 6, 3) := by decide +kernel
theorem dX7_drawn_9 : decode cX7_drawn 9 = .ok (.bipush (-2), 2) := by decide +kernel
theorem dX7_drawn_11 : decode cX7_drawn 11 = .ok (.ireturn, 1) := by decide +kernel
theorem dX7_drawn_12 : decode cX7_drawn 12 = .ok (.aload_n 0, 1) := by decide +kernel
theorem dX7_drawn_13 : decode cX7_drawn 13 = .ok (.invokevirtual 108, 3) := by decide +kernel
theorem dX7_drawn_16 : decode cX7_drawn 16 = .ok (.istore_n 2, 1) := by decide +kernel
theorem dX7_drawn_17 : decode cX7_drawn 17 = .ok (.iload_n 2, 1) := by decide +kernel
theorem dX7_drawn_18 : decode cX7_drawn 18 = .ok (.ifCond .eq 5, 3) := by decide +kernel
theorem dX7_drawn_21 : decode cX7_drawn 21 = .ok (.iload_n 2, 1) := by decide +kernel
theorem dX7_drawn_22 : decode cX7_drawn 22 = .ok (.ireturn, 1) := by decide +kernel
theorem dX7_drawn_23 : decode cX7_drawn 23 = .ok (.iload_n 1, 1) := by decide +kernel
theorem dX7_drawn_24 : decode cX7_drawn 24 = .ok (.ifCond .ne 13, 3) := by decide +kernel
theorem dX7_drawn_27 : decode cX7_drawn 27 = .ok (.aload_n 0, 1) := by decide +kernel
theorem dX7_drawn_28 : decode cX7_drawn 28 = .ok (.getfield 29, 3) := by decide +kernel
theorem dX7_drawn_31 : decode cX7_drawn 31 = .ok (.getfield 132, 3) := by decide +kernel
theorem dX7_drawn_34 : decode cX7_drawn 34 = .ok (.goto 10, 3) := by decide +kernel
theorem dX7_drawn_37 : decode cX7_drawn 37 = .ok (.aload_n 0, 1) := by decide +kernel
theorem dX7_drawn_38 : decode cX7_drawn 38 = .ok (.getfield 29, 3) := by decide +kernel
theorem dX7_drawn_41 : decode cX7_drawn 41 = .ok (.getfield 135, 3) := by decide +kernel
theorem dX7_drawn_44 : decode cX7_drawn 44 = .ok (.ireturn, 1) := by decide +kernel
set_option maxRecDepth 20000 in
theorem ggX7_done_X7_runText : GoodIn wsX7_done wsX7_runText := goodIn_r _ [10, 3, 2, 1, 4, 11, 12, 13, 14, 15, 16, 17, 18, 19, 20, 21, 22, 23, 24, 25, 26, 9, 27, 28, 29, 30, 31, 32, 33, 34, 35, 36, 37, 38, 39, 40, 41, 42, 43, 44, 45, 46, 47, 48, 49, 50, 51, 52, 53, 54, 55, 56, 57, 58, 59, 60, 61, 62, 63, 64, 65, 66, 67, 68, 69, 70, 71, 72, 73, 74, 75, 76, 77, 78, 79, 80, 81, 82, 83, 84, 85, 86, 87, 88, 89, 90, 91, 92, 93, 94, 95, 96, 97, 98, 99, 100, 101, 102, 103, 104, 105, 106, 107, 108, 109, 110, 111, 112, 113, 114, 115, 116, 117, 118, 119, 120, 121, 122, 123, 124, 125, 126, 127, 128, 129, 130, 131, 132, 133, 134, 135, 136, 137, 138, 139, 140, 141, 142, 143, 144, 145, 146, 147, 148, 149, 150, 155, 156, 157, 158, 159, 160, 161, 162, 163, 170, 171, 172, 173, 174, 175, 164, 165, 166, 167, 168, 169, 176, 177, 178, 179, 180, 181, 182] (by decide +kernel) (by decide +kernel)
set_option maxRecDepth 20000 in
theorem gX7_done_X7_runText : GoodIn wsX7_done (wsV RX7 108 RX7 yX7_runText wsX7_runText) := goodIn_app (goodIn_of _ (by decide +kernel)) ggX7_done_X7_runText
set_option maxRecDepth 20000 in
theorem ggX7_done_X5_copyFrom : GoodIn wsX7_done wsX5_copyFrom := goodIn_r _ [32, 33, 34, 35, 36, 37, 38, 176, 177, 178, 179, 180, 181, 182] (by decide +kernel) (by decide +kernel)
set_option maxRecDepth 20000 in
theorem gX7_done_X5_copyFrom : GoodIn wsX7_done (wsV RX7 138 RX5 yX5_copyFrom wsX5_copyFrom) := goodIn_app (goodIn_of _ (by decide +kernel)) ggX7_done_X5_copyFrom
set_option maxRecDepth 20000 in
theorem ggX7_done_X3_clear : GoodIn wsX7_done wsX3_clear := goodIn_r _ [154, 21, 170, 171, 172, 173, 174, 175] (by decide +kernel) (by decide +kernel)
set_option maxRecDepth 20000 in
theorem gX7_done_X3_clear : GoodIn wsX7_done (wsV RX7 101 RX3 yX3_clear wsX3_clear) := goodIn_app (goodIn_of _ (by decide +kernel)) ggX7_done_X3_clear
theorem dX7_done_0 : decode cX7_done 0 = .ok (.aload_n 0, 1) := by decide +kernel
theorem dX7_done_1 : decode cX7_done 1 = .ok (.invokevirtual 108, 3) := by decide +kernel
theorem dX7_done_4 : decode cX7_done 4 = .ok (.istore_n 1, 1) := by decide +kernel
theorem dX7_done_5 : decode cX7_done 5 = .ok (.iload_n 1, 1) := by decide +kernel
theorem dX7_done_6 : decode cX7_done 6 = .ok (.ifCond .eq 5, 3) := by decide +kernel
theorem dX7_done_9 : decode cX7_done 9 = .ok (.iload_n 1, 1) := by decide +kernel
theorem dX7_done_10 : decode cX7_done 10 = .ok (.ireturn, 1) := by decide +kernel
theorem dX7_done_11 : decode cX7_done 11 = .ok (.aload_n 0, 1) := by decide +kernel
theorem dX7_done_12 : decode cX7_done 12 = .ok (.getfield 10, 3) := by decide +kernel
theorem dX7_done_15 : decode cX7_done 15 = .ok (.aload_n 0, 1) := by decide +kernel
theorem dX7_done_16 : decode cX7_done 16 = .ok (.getfield 16, 3) := by decide +kernel
theorem dX7_done_19 : decode cX7_done 19 = .ok (.invokevirtual 138, 3) := by decide +kernel
theorem dX7_done_22 : decode cX7_done 22 = .ok (.aload_n 0, 1) := by decide +kernel
theorem dX7_done_23 : decode cX7_done 23 = .ok (.getfield 22, 3) := by decide +kernel
theorem dX7_done_26 : decode cX7_done 26 = .ok (.invokevirtual 101, 3) := by decide +kernel
theorem dX7_done_29 : decode cX7_done 29 = .ok (.aload_n 0, 1) := by decide +kernel
theorem dX7_done_30 : decode cX7_done 30 = .ok (.getfield 29, 3) := by decide +kernel
theorem dX7_done_33 : decode cX7_done 33 = .ok (.getfield 142, 3) := by decide +kernel
theorem dX7_done_36 : decode cX7_done 36 = .ok (.ireturn, 1) := by decide +kernel
set_option maxRecDepth 20000 in
theorem ggX7_runText_X3_faultPlace : GoodIn wsX7_runText wsX3_faultPlace := goodIn_r _ [14, 15, 16, 17, 18, 13, 19, 20, 21, 22, 155, 156, 157, 158, 159, 160] (by decide +kernel) (by decide +kernel)
set_option maxRecDepth 20000 in
theorem gX7_runText_X3_faultPlace : GoodIn wsX7_runText (wsV RX7 104 RX3 yX3_faultPlace wsX3_faultPlace) := goodIn_app (goodIn_of _ (by decide +kernel)) ggX7_runText_X3_faultPlace
set_option maxRecDepth 20000 in
theorem ggX7_runText_X5_copyFrom : GoodIn wsX7_runText wsX5_copyFrom := goodIn_r _ [27, 28, 29, 30, 31, 32, 33, 167, 168, 169, 170, 171, 172, 173] (by decide +kernel) (by decide +kernel)
set_option maxRecDepth 20000 in
theorem gX7_runText_X5_copyFrom : GoodIn wsX7_runText (wsV RX7 138 RX5 yX5_copyFrom wsX5_copyFrom) := goodIn_app (goodIn_of _ (by decide +kernel)) ggX7_runText_X5_copyFrom
set_option maxRecDepth 20000 in
theorem ggX7_runText_X0_begin : GoodIn wsX7_runText wsX0_begin := goodIn_r _ [38, 39, 40, 41, 42, 43, 44, 161, 162, 163, 164, 165, 166] (by decide +kernel) (by decide +kernel)
set_option maxRecDepth 20000 in
theorem gX7_runText_X0_begin : GoodIn wsX7_runText (wsV RX7 145 RX0 yX0_begin wsX0_begin) := goodIn_app (goodIn_of _ (by decide +kernel)) ggX7_runText_X0_begin
set_option maxRecDepth 20000 in
theorem ggX7_runText_X3_beginActs : GoodIn wsX7_runText wsX3_beginActs := goodIn_r _ [48, 49, 50, 51, 52, 155, 156, 157, 158, 159, 160] (by decide +kernel) (by decide +kernel)
set_option maxRecDepth 20000 in
theorem gX7_runText_X3_beginActs : GoodIn wsX7_runText (wsV RX7 148 RX3 yX3_beginActs wsX3_beginActs) := goodIn_app (goodIn_of _ (by decide +kernel)) ggX7_runText_X3_beginActs
set_option maxRecDepth 20000 in
theorem ggX7_runText_X3_endsAct : GoodIn wsX7_runText wsX3_endsAct := goodIn_r _ [56, 15, 16, 49, 51, 50, 52, 20, 21, 22, 17, 18, 13, 19, 155, 156, 157, 158, 159, 160] (by decide +kernel) (by decide +kernel)
set_option maxRecDepth 20000 in
theorem gX7_runText_X3_endsAct : GoodIn wsX7_runText (wsV RX7 151 RX3 yX3_endsAct wsX3_endsAct) := goodIn_app (goodIn_of _ (by decide +kernel)) ggX7_runText_X3_endsAct
set_option maxRecDepth 20000 in
theorem ggX7_runText_X0_take : GoodIn wsX7_runText wsX0_take := goodIn_r _ [60, 39, 40, 41, 43, 44, 42, 61, 62, 63, 26, 64, 28, 33, 65, 66, 67, 68, 31, 20, 21, 22, 69, 70, 71, 72, 73, 30, 74, 75, 76, 77, 78, 79, 80, 81, 32, 82, 83, 84, 85, 86, 87, 88, 89, 90, 91, 92, 93, 94, 95, 96, 97, 98, 99, 100, 101, 102, 103, 104, 105, 106, 107, 108, 109, 110, 111, 112, 113, 114, 115, 116, 117, 118, 119, 120, 121, 29, 122, 123, 124, 125, 126, 127, 128, 129, 130, 131, 132, 133, 134, 135, 136, 137, 138, 139, 140, 141, 142, 143, 144, 145, 161, 162, 163, 164, 165, 166, 167, 168, 169, 170, 171, 172, 173] (by decide +kernel) (by decide +kernel)
set_option maxRecDepth 20000 in
theorem gX7_runText_X0_take : GoodIn wsX7_runText (wsV RX7 163 RX0 yX0_take wsX0_take) := goodIn_app (goodIn_of _ (by decide +kernel)) ggX7_runText_X0_take
theorem dX7_runText_0 : decode cX7_runText 0 = .ok (.aload_n 0, 1) := by decide +kernel
theorem dX7_runText_1 : decode cX7_runText 1 = .ok (.getfield 22, 3) := by decide +kernel
theorem dX7_runText_4 : decode cX7_runText 4 = .ok (.invokevirtual 104, 3) := by decide +kernel
theorem dX7_runText_7 : decode cX7_runText 7 = .ok (.bipush (-6), 2) := by decide +kernel
theorem dX7_runText_9 : decode cX7_runText 9 = .ok (.if_icmp .eq 6, 3) := by decide +kernel
theorem dX7_runText_12 : decode cX7_runText 12 = .ok (.bipush (-5), 2) := by decide +kernel
theorem dX7_runText_14 : decode cX7_runText 14 = .ok (.ireturn, 1) := by decide +kernel
theorem dX7_runText_15 : decode cX7_runText 15 = .ok (.aload_n 0, 1) := by decide +kernel
theorem dX7_runText_16 : decode cX7_runText 16 = .ok (.getfield 16, 3) := by decide +kernel
theorem dX7_runText_19 : decode cX7_runText 19 = .ok (.aload_n 0, 1) := by decide +kernel
theorem dX7_runText_20 : decode cX7_runText 20 = .ok (.getfield 10, 3) := by decide +kernel
theorem dX7_runText_23 : decode cX7_runText 23 = .ok (.invokevirtual 138, 3) := by decide +kernel
theorem dX7_runText_26 : decode cX7_runText 26 = .ok (.aload_n 0, 1) := by decide +kernel
theorem dX7_runText_27 : decode cX7_runText 27 = .ok (.getfield 29, 3) := by decide +kernel
theorem dX7_runText_30 : decode cX7_runText 30 = .ok (.invokevirtual 145, 3) := by decide +kernel
theorem dX7_runText_33 : decode cX7_runText 33 = .ok (.aload_n 0, 1) := by decide +kernel
theorem dX7_runText_34 : decode cX7_runText 34 = .ok (.getfield 22, 3) := by decide +kernel
theorem dX7_runText_37 : decode cX7_runText 37 = .ok (.invokevirtual 148, 3) := by decide +kernel
theorem dX7_runText_40 : decode cX7_runText 40 = .ok (.iconst 0, 1) := by decide +kernel
theorem dX7_runText_41 : decode cX7_runText 41 = .ok (.istore_n 1, 1) := by decide +kernel
theorem dX7_runText_42 : decode cX7_runText 42 = .ok (.iload_n 1, 1) := by decide +kernel
theorem dX7_runText_43 : decode cX7_runText 43 = .ok (.aload_n 0, 1) := by decide +kernel
theorem dX7_runText_44 : decode cX7_runText 44 = .ok (.getfield 22, 3) := by decide +kernel
theorem dX7_runText_47 : decode cX7_runText 47 = .ok (.getfield 98, 3) := by decide +kernel
theorem dX7_runText_50 : decode cX7_runText 50 = .ok (.if_icmp .ge 64, 3) := by decide +kernel
theorem dX7_runText_53 : decode cX7_runText 53 = .ok (.aload_n 0, 1) := by decide +kernel
theorem dX7_runText_54 : decode cX7_runText 54 = .ok (.getfield 29, 3) := by decide +kernel
theorem dX7_runText_57 : decode cX7_runText 57 = .ok (.getfield 111, 3) := by decide +kernel
theorem dX7_runText_60 : decode cX7_runText 60 = .ok (.bipush (-6), 2) := by decide +kernel
theorem dX7_runText_62 : decode cX7_runText 62 = .ok (.if_icmp .ne 52, 3) := by decide +kernel
theorem dX7_runText_65 : decode cX7_runText 65 = .ok (.aload_n 0, 1) := by decide +kernel
theorem dX7_runText_66 : decode cX7_runText 66 = .ok (.getfield 22, 3) := by decide +kernel
theorem dX7_runText_69 : decode cX7_runText 69 = .ok (.iload_n 1, 1) := by decide +kernel
theorem dX7_runText_70 : decode cX7_runText 70 = .ok (.invokevirtual 151, 3) := by decide +kernel
theorem dX7_runText_73 : decode cX7_runText 73 = .ok (.ifCond .eq 35, 3) := by decide +kernel
theorem dX7_runText_76 : decode cX7_runText 76 = .ok (.aload_n 0, 1) := by decide +kernel
theorem dX7_runText_77 : decode cX7_runText 77 = .ok (.getfield 29, 3) := by decide +kernel
theorem dX7_runText_80 : decode cX7_runText 80 = .ok (.aload_n 0, 1) := by decide +kernel
theorem dX7_runText_81 : decode cX7_runText 81 = .ok (.getfield 16, 3) := by decide +kernel
theorem dX7_runText_84 : decode cX7_runText 84 = .ok (.aload_n 0, 1) := by decide +kernel
theorem dX7_runText_85 : decode cX7_runText 85 = .ok (.getfield 22, 3) := by decide +kernel
theorem dX7_runText_88 : decode cX7_runText 88 = .ok (.getfield 154, 3) := by decide +kernel
theorem dX7_runText_91 : decode cX7_runText 91 = .ok (.aload_n 0, 1) := by decide +kernel
theorem dX7_runText_92 : decode cX7_runText 92 = .ok (.getfield 22, 3) := by decide +kernel
theorem dX7_runText_95 : decode cX7_runText 95 = .ok (.getfield 157, 3) := by decide +kernel
theorem dX7_runText_98 : decode cX7_runText 98 = .ok (.aload_n 0, 1) := by decide +kernel
theorem dX7_runText_99 : decode cX7_runText 99 = .ok (.getfield 22, 3) := by decide +kernel
theorem dX7_runText_102 : decode cX7_runText 102 = .ok (.getfield 160, 3) := by decide +kernel
theorem dX7_runText_105 : decode cX7_runText 105 = .ok (.invokevirtual 163, 3) := by decide +kernel
theorem dX7_runText_108 : decode cX7_runText 108 = .ok (.iinc 1 1, 3) := by decide +kernel
theorem dX7_runText_111 : decode cX7_runText 111 = .ok (.goto (-69), 3) := by decide +kernel
theorem dX7_runText_114 : decode cX7_runText 114 = .ok (.aload_n 0, 1) := by decide +kernel
theorem dX7_runText_115 : decode cX7_runText 115 = .ok (.getfield 29, 3) := by decide +kernel
theorem dX7_runText_118 : decode cX7_runText 118 = .ok (.getfield 111, 3) := by decide +kernel
theorem dX7_runText_121 : decode cX7_runText 121 = .ok (.bipush (-6), 2) := by decide +kernel
theorem dX7_runText_123 : decode cX7_runText 123 = .ok (.if_icmp .ne 7, 3) := by decide +kernel
theorem dX7_runText_126 : decode cX7_runText 126 = .ok (.iconst 0, 1) := by decide +kernel
theorem dX7_runText_127 : decode cX7_runText 127 = .ok (.goto 5, 3) := by decide +kernel
theorem dX7_runText_130 : decode cX7_runText 130 = .ok (.bipush (-3), 2) := by decide +kernel
theorem dX7_runText_132 : decode cX7_runText 132 = .ok (.ireturn, 1) := by decide +kernel
set_option maxRecDepth 20000 in
theorem ggX7_reach_X7_isWithin : GoodIn wsX7_reach wsX7_isWithin := goodIn_r _ [5] (by decide +kernel) (by decide +kernel)
set_option maxRecDepth 20000 in
theorem gX7_reach_X7_isWithin : GoodIn wsX7_reach (va_wsS RX7 64 yX7_isWithin wsX7_isWithin) := goodIn_app (goodIn_of _ (by decide +kernel)) ggX7_reach_X7_isWithin
set_option maxRecDepth 20000 in
theorem ggX7_reach_X5_farthest : GoodIn wsX7_reach wsX5_farthest := goodIn_r _ [10, 11, 12, 13, 14, 15, 16, 17, 18, 19, 9, 20, 21, 31, 32, 33, 34, 35, 36, 37] (by decide +kernel) (by decide +kernel)
set_option maxRecDepth 20000 in
theorem gX7_reach_X5_farthest : GoodIn wsX7_reach (wsV RX7 167 RX5 yX5_farthest wsX5_farthest) := goodIn_app (goodIn_of _ (by decide +kernel)) ggX7_reach_X5_farthest
theorem dX7_reach_0 : decode cX7_reach 0 = .ok (.iload_n 1, 1) := by decide +kernel
theorem dX7_reach_1 : decode cX7_reach 1 = .ok (.iconst 0, 1) := by decide +kernel
theorem dX7_reach_2 : decode cX7_reach 2 = .ok (.bipush 9, 2) := by decide +kernel
theorem dX7_reach_4 : decode cX7_reach 4 = .ok (.invokestatic 64, 3) := by decide +kernel
theorem dX7_reach_7 : decode cX7_reach 7 = .ok (.ifCond .ne 5, 3) := by decide +kernel
theorem dX7_reach_10 : decode cX7_reach 10 = .ok (.iconst (-1), 1) := by decide +kernel
theorem dX7_reach_11 : decode cX7_reach 11 = .ok (.ireturn, 1) := by decide +kernel
theorem dX7_reach_12 : decode cX7_reach 12 = .ok (.iload_n 2, 1) := by decide +kernel
theorem dX7_reach_13 : decode cX7_reach 13 = .ok (.iconst 0, 1) := by decide +kernel
theorem dX7_reach_14 : decode cX7_reach 14 = .ok (.iconst 1, 1) := by decide +kernel
theorem dX7_reach_15 : decode cX7_reach 15 = .ok (.invokestatic 64, 3) := by decide +kernel
theorem dX7_reach_18 : decode cX7_reach 18 = .ok (.ifCond .ne 6, 3) := by decide +kernel
theorem dX7_reach_21 : decode cX7_reach 21 = .ok (.bipush (-2), 2) := by decide +kernel
theorem dX7_reach_23 : decode cX7_reach 23 = .ok (.ireturn, 1) := by decide +kernel
theorem dX7_reach_24 : decode cX7_reach 24 = .ok (.aload_n 0, 1) := by decide +kernel
theorem dX7_reach_25 : decode cX7_reach 25 = .ok (.getfield 10, 3) := by decide +kernel
theorem dX7_reach_28 : decode cX7_reach 28 = .ok (.iload_n 1, 1) := by decide +kernel
theorem dX7_reach_29 : decode cX7_reach 29 = .ok (.iload_n 2, 1) := by decide +kernel
theorem dX7_reach_30 : decode cX7_reach 30 = .ok (.ifCond .ne 7, 3) := by decide +kernel
theorem dX7_reach_33 : decode cX7_reach 33 = .ok (.iconst 1, 1) := by decide +kernel
theorem dX7_reach_34 : decode cX7_reach 34 = .ok (.goto 4, 3) := by decide +kernel
theorem dX7_reach_37 : decode cX7_reach 37 = .ok (.iconst (-1), 1) := by decide +kernel
theorem dX7_reach_38 : decode cX7_reach 38 = .ok (.invokevirtual 167, 3) := by decide +kernel
theorem dX7_reach_41 : decode cX7_reach 41 = .ok (.ireturn, 1) := by decide +kernel
set_option maxRecDepth 20000 in
theorem ggX7_wind_X7_isWithin : GoodIn wsX7_wind wsX7_isWithin := goodIn_r _ [5] (by decide +kernel) (by decide +kernel)
set_option maxRecDepth 20000 in
theorem gX7_wind_X7_isWithin : GoodIn wsX7_wind (va_wsS RX7 64 yX7_isWithin wsX7_isWithin) := goodIn_app (goodIn_of _ (by decide +kernel)) ggX7_wind_X7_isWithin
set_option maxRecDepth 20000 in
theorem ggX7_wind_X7_digitCount : GoodIn wsX7_wind wsX7_digitCount := goodIn_r _ [8] (by decide +kernel) (by decide +kernel)
set_option maxRecDepth 20000 in
theorem gX7_wind_X7_digitCount : GoodIn wsX7_wind (va_wsS RX7 171 yX7_digitCount wsX7_digitCount) := goodIn_app (goodIn_of _ (by decide +kernel)) ggX7_wind_X7_digitCount
set_option maxRecDepth 20000 in
theorem ggX7_wind_X4_windingTime : GoodIn wsX7_wind wsX4_windingTime := goodIn_r _ [13, 14, 15, 16, 17, 18, 19, 12, 20, 21, 22, 23, 24, 25, 26, 27, 28, 29, 30, 31, 41, 42, 43, 44, 45, 46] (by decide +kernel) (by decide +kernel)
set_option maxRecDepth 20000 in
theorem gX7_wind_X4_windingTime : GoodIn wsX7_wind (wsV RX7 174 RX4 yX4_windingTime wsX4_windingTime) := goodIn_app (goodIn_of _ (by decide +kernel)) ggX7_wind_X4_windingTime
theorem dX7_wind_0 : decode cX7_wind 0 = .ok (.iload_n 2, 1) := by decide +kernel
theorem dX7_wind_1 : decode cX7_wind 1 = .ok (.iconst 1, 1) := by decide +kernel
theorem dX7_wind_2 : decode cX7_wind 2 = .ok (.bipush 9, 2) := by decide +kernel
theorem dX7_wind_4 : decode cX7_wind 4 = .ok (.invokestatic 64, 3) := by decide +kernel
theorem dX7_wind_7 : decode cX7_wind 7 = .ok (.ifCond .ne 6, 3) := by decide +kernel
theorem dX7_wind_10 : decode cX7_wind 10 = .ok (.bipush (-2), 2) := by decide +kernel
theorem dX7_wind_12 : decode cX7_wind 12 = .ok (.ireturn, 1) := by decide +kernel
theorem dX7_wind_13 : decode cX7_wind 13 = .ok (.iload_n 1, 1) := by decide +kernel
theorem dX7_wind_14 : decode cX7_wind 14 = .ok (.ifCond .lt 11, 3) := by decide +kernel
theorem dX7_wind_17 : decode cX7_wind 17 = .ok (.iload_n 1, 1) := by decide +kernel
theorem dX7_wind_18 : decode cX7_wind 18 = .ok (.invokestatic 171, 3) := by decide +kernel
theorem dX7_wind_21 : decode cX7_wind 21 = .ok (.iload_n 2, 1) := by decide +kernel
theorem dX7_wind_22 : decode cX7_wind 22 = .ok (.if_icmp .le 6, 3) := by decide +kernel
theorem dX7_wind_25 : decode cX7_wind 25 = .ok (.bipush (-2), 2) := by decide +kernel
theorem dX7_wind_27 : decode cX7_wind 27 = .ok (.ireturn, 1) := by decide +kernel
theorem dX7_wind_28 : decode cX7_wind 28 = .ok (.iload_n 3, 1) := by decide +kernel
theorem dX7_wind_29 : decode cX7_wind 29 = .ok (.iconst 0, 1) := by decide +kernel
theorem dX7_wind_30 : decode cX7_wind 30 = .ok (.iconst 1, 1) := by decide +kernel
theorem dX7_wind_31 : decode cX7_wind 31 = .ok (.invokestatic 64, 3) := by decide +kernel
theorem dX7_wind_34 : decode cX7_wind 34 = .ok (.ifCond .ne 6, 3) := by decide +kernel
theorem dX7_wind_37 : decode cX7_wind 37 = .ok (.bipush (-2), 2) := by decide +kernel
theorem dX7_wind_39 : decode cX7_wind 39 = .ok (.ireturn, 1) := by decide +kernel
theorem dX7_wind_40 : decode cX7_wind 40 = .ok (.aload_n 0, 1) := by decide +kernel
theorem dX7_wind_41 : decode cX7_wind 41 = .ok (.getfield 50, 3) := by decide +kernel
theorem dX7_wind_44 : decode cX7_wind 44 = .ok (.iload_n 1, 1) := by decide +kernel
theorem dX7_wind_45 : decode cX7_wind 45 = .ok (.iload_n 2, 1) := by decide +kernel
theorem dX7_wind_46 : decode cX7_wind 46 = .ok (.iload_n 3, 1) := by decide +kernel
theorem dX7_wind_47 : decode cX7_wind 47 = .ok (.iconst 1, 1) := by decide +kernel
theorem dX7_wind_48 : decode cX7_wind 48 = .ok (.if_icmp .ne 7, 3) := by decide +kernel
theorem dX7_wind_51 : decode cX7_wind 51 = .ok (.iconst 1, 1) := by decide +kernel
theorem dX7_wind_52 : decode cX7_wind 52 = .ok (.goto 4, 3) := by decide +kernel
theorem dX7_wind_55 : decode cX7_wind 55 = .ok (.iconst 0, 1) := by decide +kernel
theorem dX7_wind_56 : decode cX7_wind 56 = .ok (.invokevirtual 174, 3) := by decide +kernel
theorem dX7_wind_59 : decode cX7_wind 59 = .ok (.ireturn, 1) := by decide +kernel
set_option maxRecDepth 20000 in
theorem ggX7_read_X7_isWithin : GoodIn wsX7_read wsX7_isWithin := goodIn_r _ [6] (by decide +kernel) (by decide +kernel)
set_option maxRecDepth 20000 in
theorem gX7_read_X7_isWithin : GoodIn wsX7_read (va_wsS RX7 64 yX7_isWithin wsX7_isWithin) := goodIn_app (goodIn_of _ (by decide +kernel)) ggX7_read_X7_isWithin
set_option maxRecDepth 20000 in
theorem ggX7_read_X4_takeWords : GoodIn wsX7_read wsX4_takeWords := goodIn_r _ [11, 12, 47, 48, 49, 50, 51, 52] (by decide +kernel) (by decide +kernel)
set_option maxRecDepth 20000 in
theorem gX7_read_X4_takeWords : GoodIn wsX7_read (wsV RX7 179 RX4 yX4_takeWords wsX4_takeWords) := goodIn_app (goodIn_of _ (by decide +kernel)) ggX7_read_X4_takeWords
set_option maxRecDepth 20000 in
theorem ggX7_read_X7_digitCount : GoodIn wsX7_read wsX7_digitCount := goodIn_r _ [15] (by decide +kernel) (by decide +kernel)
set_option maxRecDepth 20000 in
theorem gX7_read_X7_digitCount : GoodIn wsX7_read (va_wsS RX7 171 yX7_digitCount wsX7_digitCount) := goodIn_app (goodIn_of _ (by decide +kernel)) ggX7_read_X7_digitCount
set_option maxRecDepth 20000 in
theorem ggX7_read_X4_takeDigits : GoodIn wsX7_read wsX4_takeDigits := goodIn_r _ [19, 20, 21, 22, 23, 24, 47, 48, 49, 50, 51, 52] (by decide +kernel) (by decide +kernel)
set_option maxRecDepth 20000 in
theorem gX7_read_X4_takeDigits : GoodIn wsX7_read (wsV RX7 183 RX4 yX4_takeDigits wsX4_takeDigits) := goodIn_app (goodIn_of _ (by decide +kernel)) ggX7_read_X4_takeDigits
set_option maxRecDepth 20000 in
theorem ggX7_read_X4_countReadings : GoodIn wsX7_read wsX4_countReadings := goodIn_r _ [28, 29, 12, 30, 31, 32, 10, 33, 24, 14, 5, 15, 47, 48, 49, 50, 51, 52] (by decide +kernel) (by decide +kernel)
set_option maxRecDepth 20000 in
theorem gX7_read_X4_countReadings : GoodIn wsX7_read (wsV RX7 186 RX4 yX4_countReadings wsX4_countReadings) := goodIn_app (goodIn_of _ (by decide +kernel)) ggX7_read_X4_countReadings
set_option maxRecDepth 20000 in
theorem ggX7_read_X4_fewestWords : GoodIn wsX7_read wsX4_fewestWords := goodIn_r _ [37, 29, 12, 30, 31, 32, 10, 33, 24, 14, 5, 15, 47, 48, 49, 50, 51, 52] (by decide +kernel) (by decide +kernel)
set_option maxRecDepth 20000 in
theorem gX7_read_X4_fewestWords : GoodIn wsX7_read (wsV RX7 189 RX4 yX4_fewestWords wsX4_fewestWords) := goodIn_app (goodIn_of _ (by decide +kernel)) ggX7_read_X4_fewestWords
theorem dX7_read_0 : decode cX7_read 0 = .ok (.iload_n 1, 1) := by decide +kernel
theorem dX7_read_1 : decode cX7_read 1 = .ok (.iconst 1, 1) := by decide +kernel
theorem dX7_read_2 : decode cX7_read 2 = .ok (.sipush 999, 3) := by decide +kernel
theorem dX7_read_5 : decode cX7_read 5 = .ok (.invokestatic 64, 3) := by decide +kernel
theorem dX7_read_8 : decode cX7_read 8 = .ok (.ifCond .eq 14, 3) := by decide +kernel
theorem dX7_read_11 : decode cX7_read 11 = .ok (.iload_n 2, 1) := by decide +kernel
theorem dX7_read_12 : decode cX7_read 12 = .ok (.iconst 1, 1) := by decide +kernel
theorem dX7_read_13 : decode cX7_read 13 = .ok (.sipush 999, 3) := by decide +kernel
theorem dX7_read_16 : decode cX7_read 16 = .ok (.invokestatic 64, 3) := by decide +kernel
theorem dX7_read_19 : decode cX7_read 19 = .ok (.ifCond .ne 6, 3) := by decide +kernel
theorem dX7_read_22 : decode cX7_read 22 = .ok (.bipush (-2), 2) := by decide +kernel
theorem dX7_read_24 : decode cX7_read 24 = .ok (.ireturn, 1) := by decide +kernel
theorem dX7_read_25 : decode cX7_read 25 = .ok (.iload_n 3, 1) := by decide +kernel
theorem dX7_read_26 : decode cX7_read 26 = .ok (.iconst 1, 1) := by decide +kernel
theorem dX7_read_27 : decode cX7_read 27 = .ok (.sipush 999, 3) := by decide +kernel
theorem dX7_read_30 : decode cX7_read 30 = .ok (.invokestatic 64, 3) := by decide +kernel
theorem dX7_read_33 : decode cX7_read 33 = .ok (.ifCond .eq 15, 3) := by decide +kernel
theorem dX7_read_36 : decode cX7_read 36 = .ok (.iload 4, 2) := by decide +kernel
theorem dX7_read_38 : decode cX7_read 38 = .ok (.iconst 1, 1) := by decide +kernel
theorem dX7_read_39 : decode cX7_read 39 = .ok (.sipush 999, 3) := by decide +kernel
theorem dX7_read_42 : decode cX7_read 42 = .ok (.invokestatic 64, 3) := by decide +kernel
theorem dX7_read_45 : decode cX7_read 45 = .ok (.ifCond .ne 6, 3) := by decide +kernel
theorem dX7_read_48 : decode cX7_read 48 = .ok (.bipush (-2), 2) := by decide +kernel
theorem dX7_read_50 : decode cX7_read 50 = .ok (.ireturn, 1) := by decide +kernel
theorem dX7_read_51 : decode cX7_read 51 = .ok (.iload 5, 2) := by decide +kernel
theorem dX7_read_53 : decode cX7_read 53 = .ok (.iconst 0, 1) := by decide +kernel
theorem dX7_read_54 : decode cX7_read 54 = .ok (.ldc 178, 2) := by decide +kernel
theorem dX7_read_56 : decode cX7_read 56 = .ok (.invokestatic 64, 3) := by decide +kernel
theorem dX7_read_59 : decode cX7_read 59 = .ok (.ifCond .eq 13, 3) := by decide +kernel
theorem dX7_read_62 : decode cX7_read 62 = .ok (.iload 6, 2) := by decide +kernel
theorem dX7_read_64 : decode cX7_read 64 = .ok (.iconst 0, 1) := by decide +kernel
theorem dX7_read_65 : decode cX7_read 65 = .ok (.iconst 1, 1) := by decide +kernel
theorem dX7_read_66 : decode cX7_read 66 = .ok (.invokestatic 64, 3) := by decide +kernel
theorem dX7_read_69 : decode cX7_read 69 = .ok (.ifCond .ne 6, 3) := by decide +kernel
theorem dX7_read_72 : decode cX7_read 72 = .ok (.bipush (-2), 2) := by decide +kernel
theorem dX7_read_74 : decode cX7_read 74 = .ok (.ireturn, 1) := by decide +kernel
theorem dX7_read_75 : decode cX7_read 75 = .ok (.aload_n 0, 1) := by decide +kernel
theorem dX7_read_76 : decode cX7_read 76 = .ok (.getfield 50, 3) := by decide +kernel
theorem dX7_read_79 : decode cX7_read 79 = .ok (.iload_n 1, 1) := by decide +kernel
theorem dX7_read_80 : decode cX7_read 80 = .ok (.iload_n 2, 1) := by decide +kernel
theorem dX7_read_81 : decode cX7_read 81 = .ok (.iload_n 3, 1) := by decide +kernel
theorem dX7_read_82 : decode cX7_read 82 = .ok (.iload 4, 2) := by decide +kernel
theorem dX7_read_84 : decode cX7_read 84 = .ok (.invokevirtual 179, 3) := by decide +kernel
theorem dX7_read_87 : decode cX7_read 87 = .ok (.aload_n 0, 1) := by decide +kernel
theorem dX7_read_88 : decode cX7_read 88 = .ok (.getfield 50, 3) := by decide +kernel
theorem dX7_read_91 : decode cX7_read 91 = .ok (.iload 5, 2) := by decide +kernel
theorem dX7_read_93 : decode cX7_read 93 = .ok (.iload 5, 2) := by decide +kernel
theorem dX7_read_95 : decode cX7_read 95 = .ok (.invokestatic 171, 3) := by decide +kernel
theorem dX7_read_98 : decode cX7_read 98 = .ok (.invokevirtual 183, 3) := by decide +kernel
theorem dX7_read_101 : decode cX7_read 101 = .ok (.istore 7, 2) := by decide +kernel
theorem dX7_read_103 : decode cX7_read 103 = .ok (.iload 6, 2) := by decide +kernel
theorem dX7_read_105 : decode cX7_read 105 = .ok (.ifCond .ne 15, 3) := by decide +kernel
theorem dX7_read_108 : decode cX7_read 108 = .ok (.aload_n 0, 1) := by decide +kernel
theorem dX7_read_109 : decode cX7_read 109 = .ok (.getfield 50, 3) := by decide +kernel
theorem dX7_read_112 : decode cX7_read 112 = .ok (.iload 7, 2) := by decide +kernel
theorem dX7_read_114 : decode cX7_read 114 = .ok (.invokevirtual 186, 3) := by decide +kernel
theorem dX7_read_117 : decode cX7_read 117 = .ok (.goto 12, 3) := by decide +kernel
theorem dX7_read_120 : decode cX7_read 120 = .ok (.aload_n 0, 1) := by decide +kernel
theorem dX7_read_121 : decode cX7_read 121 = .ok (.getfield 50, 3) := by decide +kernel
theorem dX7_read_124 : decode cX7_read 124 = .ok (.iload 7, 2) := by decide +kernel
theorem dX7_read_126 : decode cX7_read 126 = .ok (.invokevirtual 189, 3) := by decide +kernel
theorem dX7_read_129 : decode cX7_read 129 = .ok (.ireturn, 1) := by decide +kernel
set_option maxRecDepth 20000 in
theorem ggX7_felt_X7_isWithin : GoodIn wsX7_felt wsX7_isWithin := goodIn_r _ [6] (by decide +kernel) (by decide +kernel)
set_option maxRecDepth 20000 in
theorem gX7_felt_X7_isWithin : GoodIn wsX7_felt (va_wsS RX7 64 yX7_isWithin wsX7_isWithin) := goodIn_app (goodIn_of _ (by decide +kernel)) ggX7_felt_X7_isWithin
set_option maxRecDepth 20000 in
theorem ggX7_felt_X6_add : GoodIn wsX7_felt wsX6_add := goodIn_r _ [11, 12, 13, 14, 24, 25, 26] (by decide +kernel) (by decide +kernel)
set_option maxRecDepth 20000 in
theorem gX7_felt_X6_add : GoodIn wsX7_felt (wsV RX7 192 RX6 yX6_add wsX6_add) := goodIn_app (goodIn_of _ (by decide +kernel)) ggX7_felt_X6_add
theorem dX7_felt_0 : decode cX7_felt 0 = .ok (.iload_n 1, 1) := by decide +kernel
theorem dX7_felt_1 : decode cX7_felt 1 = .ok (.iconst 0, 1) := by decide +kernel
theorem dX7_felt_2 : decode cX7_felt 2 = .ok (.bipush 9, 2) := by decide +kernel
theorem dX7_felt_4 : decode cX7_felt 4 = .ok (.invokestatic 64, 3) := by decide +kernel
theorem dX7_felt_7 : decode cX7_felt 7 = .ok (.ifCond .ne 5, 3) := by decide +kernel
theorem dX7_felt_10 : decode cX7_felt 10 = .ok (.iconst (-1), 1) := by decide +kernel
theorem dX7_felt_11 : decode cX7_felt 11 = .ok (.ireturn, 1) := by decide +kernel
theorem dX7_felt_12 : decode cX7_felt 12 = .ok (.iload_n 2, 1) := by decide +kernel
theorem dX7_felt_13 : decode cX7_felt 13 = .ok (.iconst 0, 1) := by decide +kernel
theorem dX7_felt_14 : decode cX7_felt 14 = .ok (.bipush 9, 2) := by decide +kernel
theorem dX7_felt_16 : decode cX7_felt 16 = .ok (.invokestatic 64, 3) := by decide +kernel
theorem dX7_felt_19 : decode cX7_felt 19 = .ok (.ifCond .ne 6, 3) := by decide +kernel
theorem dX7_felt_22 : decode cX7_felt 22 = .ok (.bipush (-2), 2) := by decide +kernel
theorem dX7_felt_24 : decode cX7_felt 24 = .ok (.ireturn, 1) := by decide +kernel
theorem dX7_felt_25 : decode cX7_felt 25 = .ok (.aload_n 0, 1) := by decide +kernel
theorem dX7_felt_26 : decode cX7_felt 26 = .ok (.getfield 36, 3) := by decide +kernel
theorem dX7_felt_29 : decode cX7_felt 29 = .ok (.iload_n 1, 1) := by decide +kernel
theorem dX7_felt_30 : decode cX7_felt 30 = .ok (.iload_n 2, 1) := by decide +kernel
theorem dX7_felt_31 : decode cX7_felt 31 = .ok (.invokevirtual 192, 3) := by decide +kernel
theorem dX7_felt_34 : decode cX7_felt 34 = .ok (.ifCond .eq 13, 3) := by decide +kernel
theorem dX7_felt_37 : decode cX7_felt 37 = .ok (.aload_n 0, 1) := by decide +kernel
theorem dX7_felt_38 : decode cX7_felt 38 = .ok (.getfield 36, 3) := by decide +kernel
theorem dX7_felt_41 : decode cX7_felt 41 = .ok (.getfield 194, 3) := by decide +kernel
theorem dX7_felt_44 : decode cX7_felt 44 = .ok (.goto 5, 3) := by decide +kernel
theorem dX7_felt_47 : decode cX7_felt 47 = .ok (.bipush (-4), 2) := by decide +kernel
theorem dX7_felt_49 : decode cX7_felt 49 = .ok (.ireturn, 1) := by decide +kernel
set_option maxRecDepth 20000 in
theorem ggX7_forget_X6_clear : GoodIn wsX7_forget wsX6_clear := goodIn_r _ [7, 8, 18, 19, 20] (by decide +kernel) (by decide +kernel)
set_option maxRecDepth 20000 in
theorem gX7_forget_X6_clear : GoodIn wsX7_forget (wsV RX7 195 RX6 yX6_clear wsX6_clear) := goodIn_app (goodIn_of _ (by decide +kernel)) ggX7_forget_X6_clear
theorem dX7_forget_0 : decode cX7_forget 0 = .ok (.aload_n 0, 1) := by decide +kernel
theorem dX7_forget_1 : decode cX7_forget 1 = .ok (.getfield 36, 3) := by decide +kernel
theorem dX7_forget_4 : decode cX7_forget 4 = .ok (.getfield 194, 3) := by decide +kernel
theorem dX7_forget_7 : decode cX7_forget 7 = .ok (.istore_n 1, 1) := by decide +kernel
theorem dX7_forget_8 : decode cX7_forget 8 = .ok (.aload_n 0, 1) := by decide +kernel
theorem dX7_forget_9 : decode cX7_forget 9 = .ok (.getfield 36, 3) := by decide +kernel
theorem dX7_forget_12 : decode cX7_forget 12 = .ok (.invokevirtual 195, 3) := by decide +kernel
theorem dX7_forget_15 : decode cX7_forget 15 = .ok (.iload_n 1, 1) := by decide +kernel
theorem dX7_forget_16 : decode cX7_forget 16 = .ok (.ireturn, 1) := by decide +kernel
set_option maxRecDepth 20000 in
theorem ggX7_fits_X1_countFitting : GoodIn wsX7_fits wsX1_countFitting := goodIn_r _ [7, 8, 9, 6, 10, 11, 12, 13, 14, 15, 16, 17, 18, 19, 20, 21, 22, 23, 24, 25, 26, 27, 28, 29, 43, 44, 45] (by decide +kernel) (by decide +kernel)
set_option maxRecDepth 20000 in
theorem gX7_fits_X1_countFitting : GoodIn wsX7_fits (wsV RX7 196 RX1 yX1_countFitting wsX1_countFitting) := goodIn_app (goodIn_of _ (by decide +kernel)) ggX7_fits_X1_countFitting
set_option maxRecDepth 20000 in
theorem ggX7_fits_X1_fitting : GoodIn wsX7_fits wsX1_fitting := goodIn_r _ [33, 8, 9, 6, 10, 11, 12, 13, 14, 15, 16, 17, 18, 19, 20, 21, 22, 23, 24, 25, 26, 27, 28, 29, 43, 44, 45] (by decide +kernel) (by decide +kernel)
set_option maxRecDepth 20000 in
theorem gX7_fits_X1_fitting : GoodIn wsX7_fits (wsV RX7 200 RX1 yX1_fitting wsX1_fitting) := goodIn_app (goodIn_of _ (by decide +kernel)) ggX7_fits_X1_fitting
theorem dX7_fits_0 : decode cX7_fits 0 = .ok (.iload_n 1, 1) := by decide +kernel
theorem dX7_fits_1 : decode cX7_fits 1 = .ok (.iconst (-1), 1) := by decide +kernel
theorem dX7_fits_2 : decode cX7_fits 2 = .ok (.if_icmp .ge 6, 3) := by decide +kernel
theorem dX7_fits_5 : decode cX7_fits 5 = .ok (.bipush (-6), 2) := by decide +kernel
theorem dX7_fits_7 : decode cX7_fits 7 = .ok (.ireturn, 1) := by decide +kernel
theorem dX7_fits_8 : decode cX7_fits 8 = .ok (.iload_n 1, 1) := by decide +kernel
theorem dX7_fits_9 : decode cX7_fits 9 = .ok (.iconst (-1), 1) := by decide +kernel
theorem dX7_fits_10 : decode cX7_fits 10 = .ok (.if_icmp .ne 17, 3) := by decide +kernel
theorem dX7_fits_13 : decode cX7_fits 13 = .ok (.aload_n 0, 1) := by decide +kernel
theorem dX7_fits_14 : decode cX7_fits 14 = .ok (.getfield 43, 3) := by decide +kernel
theorem dX7_fits_17 : decode cX7_fits 17 = .ok (.aload_n 0, 1) := by decide +kernel
theorem dX7_fits_18 : decode cX7_fits 18 = .ok (.getfield 36, 3) := by decide +kernel
theorem dX7_fits_21 : decode cX7_fits 21 = .ok (.invokevirtual 196, 3) := by decide +kernel
theorem dX7_fits_24 : decode cX7_fits 24 = .ok (.goto 15, 3) := by decide +kernel
theorem dX7_fits_27 : decode cX7_fits 27 = .ok (.aload_n 0, 1) := by decide +kernel
theorem dX7_fits_28 : decode cX7_fits 28 = .ok (.getfield 43, 3) := by decide +kernel
theorem dX7_fits_31 : decode cX7_fits 31 = .ok (.aload_n 0, 1) := by decide +kernel
theorem dX7_fits_32 : decode cX7_fits 32 = .ok (.getfield 36, 3) := by decide +kernel
theorem dX7_fits_35 : decode cX7_fits 35 = .ok (.iload_n 1, 1) := by decide +kernel
theorem dX7_fits_36 : decode cX7_fits 36 = .ok (.invokevirtual 200, 3) := by decide +kernel
theorem dX7_fits_39 : decode cX7_fits 39 = .ok (.ireturn, 1) := by decide +kernel
set_option maxRecDepth 20000 in
theorem ggX7_ask_X7_isWithin : GoodIn wsX7_ask wsX7_isWithin := goodIn_r _ [8] (by decide +kernel) (by decide +kernel)
set_option maxRecDepth 20000 in
theorem gX7_ask_X7_isWithin : GoodIn wsX7_ask (va_wsS RX7 64 yX7_isWithin wsX7_isWithin) := goodIn_app (goodIn_of _ (by decide +kernel)) ggX7_ask_X7_isWithin
set_option maxRecDepth 20000 in
theorem ggX7_ask_X1_countFitting : GoodIn wsX7_ask wsX1_countFitting := goodIn_r _ [13, 14, 15, 12, 16, 17, 18, 19, 20, 21, 22, 6, 7, 8, 23, 24, 25, 26, 27, 28, 29, 30, 31, 32, 56, 57, 58] (by decide +kernel) (by decide +kernel)
set_option maxRecDepth 20000 in
theorem gX7_ask_X1_countFitting : GoodIn wsX7_ask (wsV RX7 196 RX1 yX1_countFitting wsX1_countFitting) := goodIn_app (goodIn_of _ (by decide +kernel)) ggX7_ask_X1_countFitting
set_option maxRecDepth 20000 in
theorem ggX7_ask_X1_chooseChild : GoodIn wsX7_ask wsX1_chooseChild := goodIn_r _ [36, 37, 38, 39, 40, 41, 12, 42, 43, 30, 31, 28, 32, 14, 15, 16, 17, 18, 19, 20, 21, 22, 6, 7, 8, 23, 24, 25, 26, 27, 29, 53, 54, 55, 56, 57, 58] (by decide +kernel) (by decide +kernel)
set_option maxRecDepth 20000 in
theorem gX7_ask_X1_chooseChild : GoodIn wsX7_ask (wsV RX7 204 RX1 yX1_chooseChild wsX1_chooseChild) := goodIn_app (goodIn_of _ (by decide +kernel)) ggX7_ask_X1_chooseChild
theorem dX7_ask_0 : decode cX7_ask 0 = .ok (.iload_n 1, 1) := by decide +kernel
theorem dX7_ask_1 : decode cX7_ask 1 = .ok (.iconst 0, 1) := by decide +kernel
theorem dX7_ask_2 : decode cX7_ask 2 = .ok (.iconst 1, 1) := by decide +kernel
theorem dX7_ask_3 : decode cX7_ask 3 = .ok (.invokestatic 64, 3) := by decide +kernel
theorem dX7_ask_6 : decode cX7_ask 6 = .ok (.ifCond .ne 6, 3) := by decide +kernel
theorem dX7_ask_9 : decode cX7_ask 9 = .ok (.bipush (-2), 2) := by decide +kernel
theorem dX7_ask_11 : decode cX7_ask 11 = .ok (.ireturn, 1) := by decide +kernel
theorem dX7_ask_12 : decode cX7_ask 12 = .ok (.aload_n 0, 1) := by decide +kernel
theorem dX7_ask_13 : decode cX7_ask 13 = .ok (.getfield 43, 3) := by decide +kernel
theorem dX7_ask_16 : decode cX7_ask 16 = .ok (.aload_n 0, 1) := by decide +kernel
theorem dX7_ask_17 : decode cX7_ask 17 = .ok (.getfield 36, 3) := by decide +kernel
theorem dX7_ask_20 : decode cX7_ask 20 = .ok (.invokevirtual 196, 3) := by decide +kernel
theorem dX7_ask_23 : decode cX7_ask 23 = .ok (.ifCond .ne 6, 3) := by decide +kernel
theorem dX7_ask_26 : decode cX7_ask 26 = .ok (.bipush (-6), 2) := by decide +kernel
theorem dX7_ask_28 : decode cX7_ask 28 = .ok (.ireturn, 1) := by decide +kernel
theorem dX7_ask_29 : decode cX7_ask 29 = .ok (.aload_n 0, 1) := by decide +kernel
theorem dX7_ask_30 : decode cX7_ask 30 = .ok (.getfield 43, 3) := by decide +kernel
theorem dX7_ask_33 : decode cX7_ask 33 = .ok (.aload_n 0, 1) := by decide +kernel
theorem dX7_ask_34 : decode cX7_ask 34 = .ok (.getfield 36, 3) := by decide +kernel
theorem dX7_ask_37 : decode cX7_ask 37 = .ok (.invokevirtual 204, 3) := by decide +kernel
theorem dX7_ask_40 : decode cX7_ask 40 = .ok (.iload_n 1, 1) := by decide +kernel
theorem dX7_ask_41 : decode cX7_ask 41 = .ok (.ifCond .ne 13, 3) := by decide +kernel
theorem dX7_ask_44 : decode cX7_ask 44 = .ok (.aload_n 0, 1) := by decide +kernel
theorem dX7_ask_45 : decode cX7_ask 45 = .ok (.getfield 43, 3) := by decide +kernel
theorem dX7_ask_48 : decode cX7_ask 48 = .ok (.getfield 208, 3) := by decide +kernel
theorem dX7_ask_51 : decode cX7_ask 51 = .ok (.goto 10, 3) := by decide +kernel
theorem dX7_ask_54 : decode cX7_ask 54 = .ok (.aload_n 0, 1) := by decide +kernel
theorem dX7_ask_55 : decode cX7_ask 55 = .ok (.getfield 43, 3) := by decide +kernel
theorem dX7_ask_58 : decode cX7_ask 58 = .ok (.getfield 211, 3) := by decide +kernel
theorem dX7_ask_61 : decode cX7_ask 61 = .ok (.ireturn, 1) := by decide +kernel
set_option maxRecDepth 20000 in
theorem ggX7_pull_X7_isWithin : GoodIn wsX7_pull wsX7_isWithin := goodIn_r _ [5] (by decide +kernel) (by decide +kernel)
set_option maxRecDepth 20000 in
theorem gX7_pull_X7_isWithin : GoodIn wsX7_pull (va_wsS RX7 64 yX7_isWithin wsX7_isWithin) := goodIn_app (goodIn_of _ (by decide +kernel)) ggX7_pull_X7_isWithin
set_option maxRecDepth 20000 in
theorem ggX7_pull_X4_winningPulls : GoodIn wsX7_pull wsX4_winningPulls := goodIn_r _ [10, 11, 24, 25, 26, 27, 28, 29] (by decide +kernel) (by decide +kernel)
set_option maxRecDepth 20000 in
theorem gX7_pull_X4_winningPulls : GoodIn wsX7_pull (wsV RX7 214 RX4 yX4_winningPulls wsX4_winningPulls) := goodIn_app (goodIn_of _ (by decide +kernel)) ggX7_pull_X4_winningPulls
set_option maxRecDepth 20000 in
theorem ggX7_pull_X7_leastBit : GoodIn wsX7_pull wsX7_leastBit := goodIn_r _ [14] (by decide +kernel) (by decide +kernel)
set_option maxRecDepth 20000 in
theorem gX7_pull_X7_leastBit : GoodIn wsX7_pull (va_wsS RX7 217 yX7_leastBit wsX7_leastBit) := goodIn_app (goodIn_of _ (by decide +kernel)) ggX7_pull_X7_leastBit
theorem dX7_pull_0 : decode cX7_pull 0 = .ok (.iload_n 1, 1) := by decide +kernel
theorem dX7_pull_1 : decode cX7_pull 1 = .ok (.iconst 0, 1) := by decide +kernel
theorem dX7_pull_2 : decode cX7_pull 2 = .ok (.bipush 99, 2) := by decide +kernel
theorem dX7_pull_4 : decode cX7_pull 4 = .ok (.invokestatic 64, 3) := by decide +kernel
theorem dX7_pull_7 : decode cX7_pull 7 = .ok (.ifCond .eq 13, 3) := by decide +kernel
theorem dX7_pull_10 : decode cX7_pull 10 = .ok (.iload_n 2, 1) := by decide +kernel
theorem dX7_pull_11 : decode cX7_pull 11 = .ok (.iconst 1, 1) := by decide +kernel
theorem dX7_pull_12 : decode cX7_pull 12 = .ok (.bipush 9, 2) := by decide +kernel
theorem dX7_pull_14 : decode cX7_pull 14 = .ok (.invokestatic 64, 3) := by decide +kernel
theorem dX7_pull_17 : decode cX7_pull 17 = .ok (.ifCond .ne 6, 3) := by decide +kernel
theorem dX7_pull_20 : decode cX7_pull 20 = .ok (.bipush (-2), 2) := by decide +kernel
theorem dX7_pull_22 : decode cX7_pull 22 = .ok (.ireturn, 1) := by decide +kernel
theorem dX7_pull_23 : decode cX7_pull 23 = .ok (.iload_n 3, 1) := by decide +kernel
theorem dX7_pull_24 : decode cX7_pull 24 = .ok (.iconst 0, 1) := by decide +kernel
theorem dX7_pull_25 : decode cX7_pull 25 = .ok (.bipush 9, 2) := by decide +kernel
theorem dX7_pull_27 : decode cX7_pull 27 = .ok (.invokestatic 64, 3) := by decide +kernel
theorem dX7_pull_30 : decode cX7_pull 30 = .ok (.ifCond .eq 13, 3) := by decide +kernel
theorem dX7_pull_33 : decode cX7_pull 33 = .ok (.iload 4, 2) := by decide +kernel
theorem dX7_pull_35 : decode cX7_pull 35 = .ok (.iconst 0, 1) := by decide +kernel
theorem dX7_pull_36 : decode cX7_pull 36 = .ok (.iconst 1, 1) := by decide +kernel
theorem dX7_pull_37 : decode cX7_pull 37 = .ok (.invokestatic 64, 3) := by decide +kernel
theorem dX7_pull_40 : decode cX7_pull 40 = .ok (.ifCond .ne 6, 3) := by decide +kernel
theorem dX7_pull_43 : decode cX7_pull 43 = .ok (.bipush (-2), 2) := by decide +kernel
theorem dX7_pull_45 : decode cX7_pull 45 = .ok (.ireturn, 1) := by decide +kernel
theorem dX7_pull_46 : decode cX7_pull 46 = .ok (.aload_n 0, 1) := by decide +kernel
theorem dX7_pull_47 : decode cX7_pull 47 = .ok (.getfield 50, 3) := by decide +kernel
theorem dX7_pull_50 : decode cX7_pull 50 = .ok (.iload_n 1, 1) := by decide +kernel
theorem dX7_pull_51 : decode cX7_pull 51 = .ok (.iload_n 2, 1) := by decide +kernel
theorem dX7_pull_52 : decode cX7_pull 52 = .ok (.invokevirtual 214, 3) := by decide +kernel
theorem dX7_pull_55 : decode cX7_pull 55 = .ok (.iconst 1, 1) := by decide +kernel
theorem dX7_pull_56 : decode cX7_pull 56 = .ok (.iload_n 3, 1) := by decide +kernel
theorem dX7_pull_57 : decode cX7_pull 57 = .ok (.ishl, 1) := by decide +kernel
theorem dX7_pull_58 : decode cX7_pull 58 = .ok (.iconst (-1), 1) := by decide +kernel
theorem dX7_pull_59 : decode cX7_pull 59 = .ok (.ixor, 1) := by decide +kernel
theorem dX7_pull_60 : decode cX7_pull 60 = .ok (.iand, 1) := by decide +kernel
theorem dX7_pull_61 : decode cX7_pull 61 = .ok (.istore 5, 2) := by decide +kernel
theorem dX7_pull_63 : decode cX7_pull 63 = .ok (.iload 4, 2) := by decide +kernel
theorem dX7_pull_65 : decode cX7_pull 65 = .ok (.ifCond .ne 14, 3) := by decide +kernel
theorem dX7_pull_68 : decode cX7_pull 68 = .ok (.iload 5, 2) := by decide +kernel
theorem dX7_pull_70 : decode cX7_pull 70 = .ok (.ifCond .eq 7, 3) := by decide +kernel
theorem dX7_pull_73 : decode cX7_pull 73 = .ok (.iconst 1, 1) := by decide +kernel
theorem dX7_pull_74 : decode cX7_pull 74 = .ok (.goto 4, 3) := by decide +kernel
theorem dX7_pull_77 : decode cX7_pull 77 = .ok (.iconst 0, 1) := by decide +kernel
theorem dX7_pull_78 : decode cX7_pull 78 = .ok (.ireturn, 1) := by decide +kernel
theorem dX7_pull_79 : decode cX7_pull 79 = .ok (.iload 5, 2) := by decide +kernel
theorem dX7_pull_81 : decode cX7_pull 81 = .ok (.invokestatic 217, 3) := by decide +kernel
theorem dX7_pull_84 : decode cX7_pull 84 = .ok (.ireturn, 1) := by decide +kernel
set_option maxRecDepth 20000 in
theorem ggX7_passed_X7_isWithin : GoodIn wsX7_passed wsX7_isWithin := goodIn_r _ [8] (by decide +kernel) (by decide +kernel)
set_option maxRecDepth 20000 in
theorem gX7_passed_X7_isWithin : GoodIn wsX7_passed (va_wsS RX7 64 yX7_isWithin wsX7_isWithin) := goodIn_app (goodIn_of _ (by decide +kernel)) ggX7_passed_X7_isWithin
set_option maxRecDepth 20000 in
theorem ggX7_passed_X7_lowestTerm : GoodIn wsX7_passed wsX7_lowestTerm := goodIn_r _ [11, 12, 13, 7, 14] (by decide +kernel) (by decide +kernel)
set_option maxRecDepth 20000 in
theorem gX7_passed_X7_lowestTerm : GoodIn wsX7_passed (va_wsS RX7 224 yX7_lowestTerm wsX7_lowestTerm) := goodIn_app (goodIn_of _ (by decide +kernel)) ggX7_passed_X7_lowestTerm
set_option maxRecDepth 20000 in
theorem ggX7_passed_X7_power : GoodIn wsX7_passed wsX7_power := goodIn_r _ [17] (by decide +kernel) (by decide +kernel)
set_option maxRecDepth 20000 in
theorem gX7_passed_X7_power : GoodIn wsX7_passed (va_wsS RX7 230 yX7_power wsX7_power) := goodIn_app (goodIn_of _ (by decide +kernel)) ggX7_passed_X7_power
theorem dX7_passed_0 : decode cX7_passed 0 = .ok (.iload_n 1, 1) := by decide +kernel
theorem dX7_passed_1 : decode cX7_passed 1 = .ok (.iconst 0, 1) := by decide +kernel
theorem dX7_passed_2 : decode cX7_passed 2 = .ok (.bipush 16, 2) := by decide +kernel
theorem dX7_passed_4 : decode cX7_passed 4 = .ok (.invokestatic 64, 3) := by decide +kernel
theorem dX7_passed_7 : decode cX7_passed 7 = .ok (.ifCond .eq 13, 3) := by decide +kernel
theorem dX7_passed_10 : decode cX7_passed 10 = .ok (.iload_n 2, 1) := by decide +kernel
theorem dX7_passed_11 : decode cX7_passed 11 = .ok (.iconst 0, 1) := by decide +kernel
theorem dX7_passed_12 : decode cX7_passed 12 = .ok (.bipush 10, 2) := by decide +kernel
theorem dX7_passed_14 : decode cX7_passed 14 = .ok (.invokestatic 64, 3) := by decide +kernel
theorem dX7_passed_17 : decode cX7_passed 17 = .ok (.ifCond .ne 7, 3) := by decide +kernel
theorem dX7_passed_20 : decode cX7_passed 20 = .ok (.ldc2_w 220, 3) := by decide +kernel
theorem dX7_passed_23 : decode cX7_passed 23 = .ok (.lreturn, 1) := by decide +kernel
theorem dX7_passed_24 : decode cX7_passed 24 = .ok (.iload_n 3, 1) := by decide +kernel
theorem dX7_passed_25 : decode cX7_passed 25 = .ok (.iconst 0, 1) := by decide +kernel
theorem dX7_passed_26 : decode cX7_passed 26 = .ok (.iconst 1, 1) := by decide +kernel
theorem dX7_passed_27 : decode cX7_passed 27 = .ok (.invokestatic 64, 3) := by decide +kernel
theorem dX7_passed_30 : decode cX7_passed 30 = .ok (.ifCond .eq 13, 3) := by decide +kernel
theorem dX7_passed_33 : decode cX7_passed 33 = .ok (.iload 4, 2) := by decide +kernel
theorem dX7_passed_35 : decode cX7_passed 35 = .ok (.iconst 0, 1) := by decide +kernel
theorem dX7_passed_36 : decode cX7_passed 36 = .ok (.iconst 1, 1) := by decide +kernel
theorem dX7_passed_37 : decode cX7_passed 37 = .ok (.invokestatic 64, 3) := by decide +kernel
theorem dX7_passed_40 : decode cX7_passed 40 = .ok (.ifCond .ne 7, 3) := by decide +kernel
theorem dX7_passed_43 : decode cX7_passed 43 = .ok (.ldc2_w 220, 3) := by decide +kernel
theorem dX7_passed_46 : decode cX7_passed 46 = .ok (.lreturn, 1) := by decide +kernel
theorem dX7_passed_47 : decode cX7_passed 47 = .ok (.iload_n 3, 1) := by decide +kernel
theorem dX7_passed_48 : decode cX7_passed 48 = .ok (.iconst 1, 1) := by decide +kernel
theorem dX7_passed_49 : decode cX7_passed 49 = .ok (.if_icmp .ne 17, 3) := by decide +kernel
theorem dX7_passed_52 : decode cX7_passed 52 = .ok (.iload_n 1, 1) := by decide +kernel
theorem dX7_passed_53 : decode cX7_passed 53 = .ok (.i2l, 1) := by decide +kernel
theorem dX7_passed_54 : decode cX7_passed 54 = .ok (.iload_n 2, 1) := by decide +kernel
theorem dX7_passed_55 : decode cX7_passed 55 = .ok (.i2l, 1) := by decide +kernel
theorem dX7_passed_56 : decode cX7_passed 56 = .ok (.lmul, 1) := by decide +kernel
theorem dX7_passed_57 : decode cX7_passed 57 = .ok (.ldc2_w 222, 3) := by decide +kernel
theorem dX7_passed_60 : decode cX7_passed 60 = .ok (.iload 4, 2) := by decide +kernel
theorem dX7_passed_62 : decode cX7_passed 62 = .ok (.invokestatic 224, 3) := by decide +kernel
theorem dX7_passed_65 : decode cX7_passed 65 = .ok (.lreturn, 1) := by decide +kernel
theorem dX7_passed_66 : decode cX7_passed 66 = .ok (.ldc2_w 228, 3) := by decide +kernel
theorem dX7_passed_69 : decode cX7_passed 69 = .ok (.iload_n 1, 1) := by decide +kernel
theorem dX7_passed_70 : decode cX7_passed 70 = .ok (.invokestatic 230, 3) := by decide +kernel
theorem dX7_passed_73 : decode cX7_passed 73 = .ok (.lstore 5, 2) := by decide +kernel
theorem dX7_passed_75 : decode cX7_passed 75 = .ok (.lload 5, 2) := by decide +kernel
theorem dX7_passed_77 : decode cX7_passed 77 = .ok (.iconst 5, 1) := by decide +kernel
theorem dX7_passed_78 : decode cX7_passed 78 = .ok (.iload_n 2, 1) := by decide +kernel
theorem dX7_passed_79 : decode cX7_passed 79 = .ok (.isub, 1) := by decide +kernel
theorem dX7_passed_80 : decode cX7_passed 80 = .ok (.i2l, 1) := by decide +kernel
theorem dX7_passed_81 : decode cX7_passed 81 = .ok (.iload_n 1, 1) := by decide +kernel
theorem dX7_passed_82 : decode cX7_passed 82 = .ok (.invokestatic 230, 3) := by decide +kernel
theorem dX7_passed_85 : decode cX7_passed 85 = .ok (.ladd, 1) := by decide +kernel
theorem dX7_passed_86 : decode cX7_passed 86 = .ok (.ldc2_w 234, 3) := by decide +kernel
theorem dX7_passed_89 : decode cX7_passed 89 = .ok (.lload 5, 2) := by decide +kernel
theorem dX7_passed_91 : decode cX7_passed 91 = .ok (.lmul, 1) := by decide +kernel
theorem dX7_passed_92 : decode cX7_passed 92 = .ok (.iload 4, 2) := by decide +kernel
theorem dX7_passed_94 : decode cX7_passed 94 = .ok (.invokestatic 224, 3) := by decide +kernel
theorem dX7_passed_97 : decode cX7_passed 97 = .ok (.lreturn, 1) := by decide +kernel
set_option maxRecDepth 20000 in
theorem ggX7_year_X7_isWithin : GoodIn wsX7_year wsX7_isWithin := goodIn_r _ [7] (by decide +kernel) (by decide +kernel)
set_option maxRecDepth 20000 in
theorem gX7_year_X7_isWithin : GoodIn wsX7_year (va_wsS RX7 64 yX7_isWithin wsX7_isWithin) := goodIn_app (goodIn_of _ (by decide +kernel)) ggX7_year_X7_isWithin
set_option maxRecDepth 20000 in
theorem ggX7_year_X7_runYear : GoodIn wsX7_year wsX7_runYear := goodIn_r _ [11, 1, 12, 13, 14, 15, 16, 17, 18, 19, 20, 21, 22, 23, 24, 25, 26, 6, 27, 28, 29, 30, 31, 32, 33, 34, 35, 5, 7, 36, 37, 38, 39, 40, 41, 42, 43, 44, 45, 46, 47, 48, 49, 50, 51, 52, 53, 54, 55, 56, 57, 58, 59, 60, 61, 62, 63, 64, 65, 66, 67, 68, 69, 70, 71, 72, 73, 74, 75, 76, 77, 78, 79, 80, 81, 82, 83, 84, 85, 86, 87, 88, 89, 90, 91, 92, 93, 94, 95, 96, 97, 98, 99, 100, 101, 102, 103, 104, 105, 106, 107, 108, 109, 110, 111, 112, 113, 114, 115, 116, 117, 118, 119, 120, 121, 122, 123, 124, 125, 126] (by decide +kernel) (by decide +kernel)
set_option maxRecDepth 20000 in
theorem gX7_year_X7_runYear : GoodIn wsX7_year (wsV RX7 236 RX7 yX7_runYear wsX7_runYear) := goodIn_app (goodIn_of _ (by decide +kernel)) ggX7_year_X7_runYear
theorem dX7_year_0 : decode cX7_year 0 = .ok (.iload_n 1, 1) := by decide +kernel
theorem dX7_year_1 : decode cX7_year 1 = .ok (.iconst 0, 1) := by decide +kernel
theorem dX7_year_2 : decode cX7_year 2 = .ok (.sipush 9999, 3) := by decide +kernel
theorem dX7_year_5 : decode cX7_year 5 = .ok (.invokestatic 64, 3) := by decide +kernel
theorem dX7_year_8 : decode cX7_year 8 = .ok (.ifCond .eq 13, 3) := by decide +kernel
theorem dX7_year_11 : decode cX7_year 11 = .ok (.iload_n 2, 1) := by decide +kernel
theorem dX7_year_12 : decode cX7_year 12 = .ok (.iconst 1, 1) := by decide +kernel
theorem dX7_year_13 : decode cX7_year 13 = .ok (.bipush 99, 2) := by decide +kernel
theorem dX7_year_15 : decode cX7_year 15 = .ok (.invokestatic 64, 3) := by decide +kernel
theorem dX7_year_18 : decode cX7_year 18 = .ok (.ifCond .ne 6, 3) := by decide +kernel
theorem dX7_year_21 : decode cX7_year 21 = .ok (.bipush (-2), 2) := by decide +kernel
theorem dX7_year_23 : decode cX7_year 23 = .ok (.ireturn, 1) := by decide +kernel
theorem dX7_year_24 : decode cX7_year 24 = .ok (.iload_n 3, 1) := by decide +kernel
theorem dX7_year_25 : decode cX7_year 25 = .ok (.iconst 0, 1) := by decide +kernel
theorem dX7_year_26 : decode cX7_year 26 = .ok (.iconst 2, 1) := by decide +kernel
theorem dX7_year_27 : decode cX7_year 27 = .ok (.invokestatic 64, 3) := by decide +kernel
theorem dX7_year_30 : decode cX7_year 30 = .ok (.ifCond .ne 6, 3) := by decide +kernel
theorem dX7_year_33 : decode cX7_year 33 = .ok (.bipush (-2), 2) := by decide +kernel
theorem dX7_year_35 : decode cX7_year 35 = .ok (.ireturn, 1) := by decide +kernel
theorem dX7_year_36 : decode cX7_year 36 = .ok (.aload_n 0, 1) := by decide +kernel
theorem dX7_year_37 : decode cX7_year 37 = .ok (.iload_n 1, 1) := by decide +kernel
theorem dX7_year_38 : decode cX7_year 38 = .ok (.iload_n 2, 1) := by decide +kernel
theorem dX7_year_39 : decode cX7_year 39 = .ok (.invokevirtual 236, 3) := by decide +kernel
theorem dX7_year_42 : decode cX7_year 42 = .ok (.istore 4, 2) := by decide +kernel
theorem dX7_year_44 : decode cX7_year 44 = .ok (.iload_n 3, 1) := by decide +kernel
theorem dX7_year_45 : decode cX7_year 45 = .ok (.ifCond .ne 13, 3) := by decide +kernel
theorem dX7_year_48 : decode cX7_year 48 = .ok (.aload_n 0, 1) := by decide +kernel
theorem dX7_year_49 : decode cX7_year 49 = .ok (.getfield 16, 3) := by decide +kernel
theorem dX7_year_52 : decode cX7_year 52 = .ok (.getfield 72, 3) := by decide +kernel
theorem dX7_year_55 : decode cX7_year 55 = .ok (.iconst 0, 1) := by decide +kernel
theorem dX7_year_56 : decode cX7_year 56 = .ok (.iaload, 1) := by decide +kernel
theorem dX7_year_57 : decode cX7_year 57 = .ok (.ireturn, 1) := by decide +kernel
theorem dX7_year_58 : decode cX7_year 58 = .ok (.iload_n 3, 1) := by decide +kernel
theorem dX7_year_59 : decode cX7_year 59 = .ok (.iconst 1, 1) := by decide +kernel
theorem dX7_year_60 : decode cX7_year 60 = .ok (.if_icmp .ne 8, 3) := by decide +kernel
theorem dX7_year_63 : decode cX7_year 63 = .ok (.iload 4, 2) := by decide +kernel
theorem dX7_year_65 : decode cX7_year 65 = .ok (.goto 10, 3) := by decide +kernel
theorem dX7_year_68 : decode cX7_year 68 = .ok (.aload_n 0, 1) := by decide +kernel
theorem dX7_year_69 : decode cX7_year 69 = .ok (.getfield 16, 3) := by decide +kernel
theorem dX7_year_72 : decode cX7_year 72 = .ok (.getfield 91, 3) := by decide +kernel
theorem dX7_year_75 : decode cX7_year 75 = .ok (.ireturn, 1) := by decide +kernel
set_option maxRecDepth 20000 in
theorem ggX7_runYear_X5_copyFrom : GoodIn wsX7_runYear wsX5_copyFrom := goodIn_r _ [8, 9, 10, 11, 12, 13, 14, 113, 114, 115, 116, 117, 118, 119] (by decide +kernel) (by decide +kernel)
set_option maxRecDepth 20000 in
theorem gX7_runYear_X5_copyFrom : GoodIn wsX7_runYear (wsV RX7 138 RX5 yX5_copyFrom wsX5_copyFrom) := goodIn_app (goodIn_of _ (by decide +kernel)) ggX7_runYear_X5_copyFrom
set_option maxRecDepth 20000 in
theorem ggX7_runYear_X7_kindByDraw : GoodIn wsX7_runYear wsX7_kindByDraw := goodIn_r _ [18] (by decide +kernel) (by decide +kernel)
set_option maxRecDepth 20000 in
theorem gX7_runYear_X7_kindByDraw : GoodIn wsX7_runYear (va_wsS RX7 240 yX7_kindByDraw wsX7_kindByDraw) := goodIn_app (goodIn_of _ (by decide +kernel)) ggX7_runYear_X7_kindByDraw
set_option maxRecDepth 20000 in
theorem ggX7_runYear_X5_whyNot : GoodIn wsX7_runYear wsX5_whyNot := goodIn_r _ [22, 9, 14, 23, 24, 25, 7, 26, 12, 27, 17, 28, 29, 30, 31, 32, 33, 11, 34, 35, 36, 37, 38, 39, 40, 41, 13, 42, 43, 44, 45, 46, 47, 48, 49, 50, 51, 52, 53, 54, 55, 56, 57, 113, 114, 115, 116, 117, 118, 119] (by decide +kernel) (by decide +kernel)
set_option maxRecDepth 20000 in
theorem gX7_runYear_X5_whyNot : GoodIn wsX7_runYear (wsV RX7 243 RX5 yX5_whyNot wsX5_whyNot) := goodIn_app (goodIn_of _ (by decide +kernel)) ggX7_runYear_X5_whyNot
set_option maxRecDepth 20000 in
theorem ggX7_runYear_X5_act : GoodIn wsX7_runYear wsX5_act := goodIn_r _ [61, 9, 62, 63, 64, 7, 65, 33, 29, 30, 31, 32, 11, 34, 35, 36, 37, 66, 67, 68, 69, 12, 70, 71, 72, 73, 74, 75, 76, 77, 46, 47, 48, 49, 50, 51, 52, 53, 54, 55, 56, 57, 78, 79, 80, 81, 10, 82, 83, 84, 85, 86, 87, 88, 13, 89, 90, 91, 92, 93, 94, 95, 96, 14, 113, 114, 115, 116, 117, 118, 119] (by decide +kernel) (by decide +kernel)
set_option maxRecDepth 20000 in
theorem gX7_runYear_X5_act : GoodIn wsX7_runYear (wsV RX7 247 RX5 yX5_act wsX5_act) := goodIn_app (goodIn_of _ (by decide +kernel)) ggX7_runYear_X5_act
set_option maxRecDepth 20000 in
theorem ggX7_runYear_J6_bitCount_0f7a4 : GoodIn wsX7_runYear wsJ6_bitCount_0f7a4 := goodIn_r _ [100, 101, 102, 103] (by decide +kernel) (by decide +kernel)
set_option maxRecDepth 20000 in
theorem gX7_runYear_J6_bitCount_0f7a4 : GoodIn wsX7_runYear (va_wsS RX7 250 yJ6_bitCount_0f7a4 wsJ6_bitCount_0f7a4) := goodIn_app (goodIn_of _ (by decide +kernel)) ggX7_runYear_J6_bitCount_0f7a4
theorem dX7_runYear_0 : decode cX7_runYear 0 = .ok (.aload_n 0, 1) := by decide +kernel
theorem dX7_runYear_1 : decode cX7_runYear 1 = .ok (.getfield 16, 3) := by decide +kernel
theorem dX7_runYear_4 : decode cX7_runYear 4 = .ok (.aload_n 0, 1) := by decide +kernel
theorem dX7_runYear_5 : decode cX7_runYear 5 = .ok (.getfield 10, 3) := by decide +kernel
theorem dX7_runYear_8 : decode cX7_runYear 8 = .ok (.invokevirtual 138, 3) := by decide +kernel
theorem dX7_runYear_11 : decode cX7_runYear 11 = .ok (.iconst 0, 1) := by decide +kernel
theorem dX7_runYear_12 : decode cX7_runYear 12 = .ok (.istore_n 3, 1) := by decide +kernel
theorem dX7_runYear_13 : decode cX7_runYear 13 = .ok (.iload_n 1, 1) := by decide +kernel
theorem dX7_runYear_14 : decode cX7_runYear 14 = .ok (.istore 4, 2) := by decide +kernel
theorem dX7_runYear_16 : decode cX7_runYear 16 = .ok (.iconst 0, 1) := by decide +kernel
theorem dX7_runYear_17 : decode cX7_runYear 17 = .ok (.istore 5, 2) := by decide +kernel
theorem dX7_runYear_19 : decode cX7_runYear 19 = .ok (.iload 5, 2) := by decide +kernel
theorem dX7_runYear_21 : decode cX7_runYear 21 = .ok (.iload_n 2, 1) := by decide +kernel
theorem dX7_runYear_22 : decode cX7_runYear 22 = .ok (.if_icmp .ge 89, 3) := by decide +kernel
theorem dX7_runYear_25 : decode cX7_runYear 25 = .ok (.bipush 75, 2) := by decide +kernel
theorem dX7_runYear_27 : decode cX7_runYear 27 = .ok (.iload 4, 2) := by decide +kernel
theorem dX7_runYear_29 : decode cX7_runYear 29 = .ok (.imul, 1) := by decide +kernel
theorem dX7_runYear_30 : decode cX7_runYear 30 = .ok (.bipush 74, 2) := by decide +kernel
theorem dX7_runYear_32 : decode cX7_runYear 32 = .ok (.iadd, 1) := by decide +kernel
theorem dX7_runYear_33 : decode cX7_runYear 33 = .ok (.ldc 239, 2) := by decide +kernel
theorem dX7_runYear_35 : decode cX7_runYear 35 = .ok (.irem, 1) := by decide +kernel
theorem dX7_runYear_36 : decode cX7_runYear 36 = .ok (.istore 4, 2) := by decide +kernel
theorem dX7_runYear_38 : decode cX7_runYear 38 = .ok (.iload 4, 2) := by decide +kernel
theorem dX7_runYear_40 : decode cX7_runYear 40 = .ok (.bipush 10, 2) := by decide +kernel
theorem dX7_runYear_42 : decode cX7_runYear 42 = .ok (.irem, 1) := by decide +kernel
theorem dX7_runYear_43 : decode cX7_runYear 43 = .ok (.istore 6, 2) := by decide +kernel
theorem dX7_runYear_45 : decode cX7_runYear 45 = .ok (.iload 4, 2) := by decide +kernel
theorem dX7_runYear_47 : decode cX7_runYear 47 = .ok (.bipush 10, 2) := by decide +kernel
theorem dX7_runYear_49 : decode cX7_runYear 49 = .ok (.idiv, 1) := by decide +kernel
theorem dX7_runYear_50 : decode cX7_runYear 50 = .ok (.bipush 8, 2) := by decide +kernel
theorem dX7_runYear_52 : decode cX7_runYear 52 = .ok (.irem, 1) := by decide +kernel
theorem dX7_runYear_53 : decode cX7_runYear 53 = .ok (.invokestatic 240, 3) := by decide +kernel
theorem dX7_runYear_56 : decode cX7_runYear 56 = .ok (.istore 7, 2) := by decide +kernel
theorem dX7_runYear_58 : decode cX7_runYear 58 = .ok (.iconst 1, 1) := by decide +kernel
theorem dX7_runYear_59 : decode cX7_runYear 59 = .ok (.iload 4, 2) := by decide +kernel
theorem dX7_runYear_61 : decode cX7_runYear 61 = .ok (.bipush 80, 2) := by decide +kernel
theorem dX7_runYear_63 : decode cX7_runYear 63 = .ok (.idiv, 1) := by decide +kernel
theorem dX7_runYear_64 : decode cX7_runYear 64 = .ok (.bipush 9, 2) := by decide +kernel
theorem dX7_runYear_66 : decode cX7_runYear 66 = .ok (.irem, 1) := by decide +kernel
theorem dX7_runYear_67 : decode cX7_runYear 67 = .ok (.iadd, 1) := by decide +kernel
theorem dX7_runYear_68 : decode cX7_runYear 68 = .ok (.istore 8, 2) := by decide +kernel
theorem dX7_runYear_70 : decode cX7_runYear 70 = .ok (.aload_n 0, 1) := by decide +kernel
theorem dX7_runYear_71 : decode cX7_runYear 71 = .ok (.getfield 16, 3) := by decide +kernel
theorem dX7_runYear_74 : decode cX7_runYear 74 = .ok (.iload 7, 2) := by decide +kernel
theorem dX7_runYear_76 : decode cX7_runYear 76 = .ok (.iload 6, 2) := by decide +kernel
theorem dX7_runYear_78 : decode cX7_runYear 78 = .ok (.iload 8, 2) := by decide +kernel
theorem dX7_runYear_80 : decode cX7_runYear 80 = .ok (.invokevirtual 243, 3) := by decide +kernel
theorem dX7_runYear_83 : decode cX7_runYear 83 = .ok (.ifCond .ne 22, 3) := by decide +kernel
theorem dX7_runYear_86 : decode cX7_runYear 86 = .ok (.iload_n 3, 1) := by decide +kernel
theorem dX7_runYear_87 : decode cX7_runYear 87 = .ok (.aload_n 0, 1) := by decide +kernel
theorem dX7_runYear_88 : decode cX7_runYear 88 = .ok (.getfield 16, 3) := by decide +kernel
theorem dX7_runYear_91 : decode cX7_runYear 91 = .ok (.iload 7, 2) := by decide +kernel
theorem dX7_runYear_93 : decode cX7_runYear 93 = .ok (.iload 6, 2) := by decide +kernel
theorem dX7_runYear_95 : decode cX7_runYear 95 = .ok (.iload 8, 2) := by decide +kernel
theorem dX7_runYear_97 : decode cX7_runYear 97 = .ok (.invokevirtual 247, 3) := by decide +kernel
theorem dX7_runYear_100 : decode cX7_runYear 100 = .ok (.invokestatic 250, 3) := by decide +kernel
theorem dX7_runYear_103 : decode cX7_runYear 103 = .ok (.iadd, 1) := by decide +kernel
theorem dX7_runYear_104 : decode cX7_runYear 104 = .ok (.istore_n 3, 1) := by decide +kernel
theorem dX7_runYear_105 : decode cX7_runYear 105 = .ok (.iinc 5 1, 3) := by decide +kernel
theorem dX7_runYear_108 : decode cX7_runYear 108 = .ok (.goto (-89), 3) := by decide +kernel
theorem dX7_runYear_111 : decode cX7_runYear 111 = .ok (.iload_n 3, 1) := by decide +kernel
theorem dX7_runYear_112 : decode cX7_runYear 112 = .ok (.ireturn, 1) := by decide +kernel
theorem dX7_kindByDraw_0 : decode cX7_kindByDraw 0 = .ok (.iload_n 0, 1) := by decide +kernel
theorem dX7_kindByDraw_1 : decode cX7_kindByDraw 1 = .ok (.tableswitch 61 0 6 #[43, 43, 46, 49, 52, 55, 58], 43) := by decide +kernel
theorem dX7_kindByDraw_44 : decode cX7_kindByDraw 44 = .ok (.bipush 62, 2) := by decide +kernel
theorem dX7_kindByDraw_46 : decode cX7_kindByDraw 46 = .ok (.ireturn, 1) := by decide +kernel
theorem dX7_kindByDraw_47 : decode cX7_kindByDraw 47 = .ok (.bipush 60, 2) := by decide +kernel
theorem dX7_kindByDraw_49 : decode cX7_kindByDraw 49 = .ok (.ireturn, 1) := by decide +kernel
theorem dX7_kindByDraw_50 : decode cX7_kindByDraw 50 = .ok (.bipush 35, 2) := by decide +kernel
theorem dX7_kindByDraw_52 : decode cX7_kindByDraw 52 = .ok (.ireturn, 1) := by decide +kernel
theorem dX7_kindByDraw_53 : decode cX7_kindByDraw 53 = .ok (.bipush 33, 2) := by decide +kernel
theorem dX7_kindByDraw_55 : decode cX7_kindByDraw 55 = .ok (.ireturn, 1) := by decide +kernel
theorem dX7_kindByDraw_56 : decode cX7_kindByDraw 56 = .ok (.bipush 43, 2) := by decide +kernel
theorem dX7_kindByDraw_58 : decode cX7_kindByDraw 58 = .ok (.ireturn, 1) := by decide +kernel
theorem dX7_kindByDraw_59 : decode cX7_kindByDraw 59 = .ok (.bipush 45, 2) := by decide +kernel
theorem dX7_kindByDraw_61 : decode cX7_kindByDraw 61 = .ok (.ireturn, 1) := by decide +kernel
theorem dX7_kindByDraw_62 : decode cX7_kindByDraw 62 = .ok (.bipush 46, 2) := by decide +kernel
theorem dX7_kindByDraw_64 : decode cX7_kindByDraw 64 = .ok (.ireturn, 1) := by decide +kernel
set_option maxRecDepth 20000 in
theorem ggX7_image_X7_isWithin : GoodIn wsX7_image wsX7_isWithin := goodIn_r _ [6] (by decide +kernel) (by decide +kernel)
set_option maxRecDepth 20000 in
theorem gX7_image_X7_isWithin : GoodIn wsX7_image (va_wsS RX7 64 yX7_isWithin wsX7_isWithin) := goodIn_app (goodIn_of _ (by decide +kernel)) ggX7_image_X7_isWithin
set_option maxRecDepth 20000 in
theorem ggX7_image_X7_imageAt : GoodIn wsX7_image wsX7_imageAt := goodIn_r _ [10, 11, 12, 40, 41, 42, 43, 44, 45, 46, 47, 48] (by decide +kernel) (by decide +kernel)
set_option maxRecDepth 20000 in
theorem gX7_image_X7_imageAt : GoodIn wsX7_image (wsV RX7 255 RX7 yX7_imageAt wsX7_imageAt) := goodIn_app (goodIn_of _ (by decide +kernel)) ggX7_image_X7_imageAt
set_option maxRecDepth 20000 in
theorem ggX7_image_X2_keep : GoodIn wsX7_image wsX2_keep := goodIn_r _ [17, 18, 19, 20, 21, 22, 23, 24, 25, 26, 27, 28, 29, 30, 31, 32, 33, 34, 35, 36, 37, 38, 39, 49, 50, 51, 52, 53, 54, 55, 56, 57, 58, 59, 60, 61] (by decide +kernel) (by decide +kernel)
set_option maxRecDepth 20000 in
theorem gX7_image_X2_keep : GoodIn wsX7_image (wsV RX7 259 RX2 yX2_keep wsX2_keep) := goodIn_app (goodIn_of _ (by decide +kernel)) ggX7_image_X2_keep
theorem dX7_image_0 : decode cX7_image 0 = .ok (.iload_n 1, 1) := by decide +kernel
theorem dX7_image_1 : decode cX7_image 1 = .ok (.iconst 0, 1) := by decide +kernel
theorem dX7_image_2 : decode cX7_image 2 = .ok (.iconst 1, 1) := by decide +kernel
theorem dX7_image_3 : decode cX7_image 3 = .ok (.invokestatic 64, 3) := by decide +kernel
theorem dX7_image_6 : decode cX7_image 6 = .ok (.ifCond .ne 6, 3) := by decide +kernel
theorem dX7_image_9 : decode cX7_image 9 = .ok (.bipush (-2), 2) := by decide +kernel
theorem dX7_image_11 : decode cX7_image 11 = .ok (.ireturn, 1) := by decide +kernel
theorem dX7_image_12 : decode cX7_image 12 = .ok (.aload_n 0, 1) := by decide +kernel
theorem dX7_image_13 : decode cX7_image 13 = .ok (.iload_n 1, 1) := by decide +kernel
theorem dX7_image_14 : decode cX7_image 14 = .ok (.invokevirtual 255, 3) := by decide +kernel
theorem dX7_image_17 : decode cX7_image 17 = .ok (.aload_n 0, 1) := by decide +kernel
theorem dX7_image_18 : decode cX7_image 18 = .ok (.getfield 10, 3) := by decide +kernel
theorem dX7_image_21 : decode cX7_image 21 = .ok (.aload_n 0, 1) := by decide +kernel
theorem dX7_image_22 : decode cX7_image 22 = .ok (.getfield 36, 3) := by decide +kernel
theorem dX7_image_25 : decode cX7_image 25 = .ok (.invokevirtual 259, 3) := by decide +kernel
theorem dX7_image_28 : decode cX7_image 28 = .ok (.iconst 1, 1) := by decide +kernel
theorem dX7_image_29 : decode cX7_image 29 = .ok (.ireturn, 1) := by decide +kernel
set_option maxRecDepth 20000 in
theorem ggX7_restore_X7_isWithin : GoodIn wsX7_restore wsX7_isWithin := goodIn_r _ [7] (by decide +kernel) (by decide +kernel)
set_option maxRecDepth 20000 in
theorem gX7_restore_X7_isWithin : GoodIn wsX7_restore (va_wsS RX7 64 yX7_isWithin wsX7_isWithin) := goodIn_app (goodIn_of _ (by decide +kernel)) ggX7_restore_X7_isWithin
set_option maxRecDepth 20000 in
theorem ggX7_restore_X7_imageAt : GoodIn wsX7_restore wsX7_imageAt := goodIn_r _ [11, 12, 13, 43, 44, 45, 46, 47, 48, 49, 50, 51] (by decide +kernel) (by decide +kernel)
set_option maxRecDepth 20000 in
theorem gX7_restore_X7_imageAt : GoodIn wsX7_restore (wsV RX7 255 RX7 yX7_imageAt wsX7_imageAt) := goodIn_app (goodIn_of _ (by decide +kernel)) ggX7_restore_X7_imageAt
set_option maxRecDepth 20000 in
theorem ggX7_restore_X2_giveBack : GoodIn wsX7_restore wsX2_giveBack := goodIn_r _ [18, 19, 20, 21, 22, 23, 24, 25, 26, 27, 28, 29, 30, 31, 32, 33, 34, 35, 36, 37, 38, 39, 40, 41, 42, 52, 53, 54, 55, 56, 57, 58, 59, 60, 61] (by decide +kernel) (by decide +kernel)
set_option maxRecDepth 20000 in
theorem gX7_restore_X2_giveBack : GoodIn wsX7_restore (wsV RX7 267 RX2 yX2_giveBack wsX2_giveBack) := goodIn_app (goodIn_of _ (by decide +kernel)) ggX7_restore_X2_giveBack
theorem dX7_restore_0 : decode cX7_restore 0 = .ok (.iload_n 1, 1) := by decide +kernel
theorem dX7_restore_1 : decode cX7_restore 1 = .ok (.iconst 0, 1) := by decide +kernel
theorem dX7_restore_2 : decode cX7_restore 2 = .ok (.iconst 1, 1) := by decide +kernel
theorem dX7_restore_3 : decode cX7_restore 3 = .ok (.invokestatic 64, 3) := by decide +kernel
theorem dX7_restore_6 : decode cX7_restore 6 = .ok (.ifCond .ne 6, 3) := by decide +kernel
theorem dX7_restore_9 : decode cX7_restore 9 = .ok (.bipush (-2), 2) := by decide +kernel
theorem dX7_restore_11 : decode cX7_restore 11 = .ok (.ireturn, 1) := by decide +kernel
theorem dX7_restore_12 : decode cX7_restore 12 = .ok (.aload_n 0, 1) := by decide +kernel
theorem dX7_restore_13 : decode cX7_restore 13 = .ok (.iload_n 1, 1) := by decide +kernel
theorem dX7_restore_14 : decode cX7_restore 14 = .ok (.invokevirtual 255, 3) := by decide +kernel
theorem dX7_restore_17 : decode cX7_restore 17 = .ok (.astore_n 2, 1) := by decide +kernel
theorem dX7_restore_18 : decode cX7_restore 18 = .ok (.aload_n 2, 1) := by decide +kernel
theorem dX7_restore_19 : decode cX7_restore 19 = .ok (.getfield 263, 3) := by decide +kernel
theorem dX7_restore_22 : decode cX7_restore 22 = .ok (.ifCond .ne 6, 3) := by decide +kernel
theorem dX7_restore_25 : decode cX7_restore 25 = .ok (.bipush (-3), 2) := by decide +kernel
theorem dX7_restore_27 : decode cX7_restore 27 = .ok (.ireturn, 1) := by decide +kernel
theorem dX7_restore_28 : decode cX7_restore 28 = .ok (.aload_n 2, 1) := by decide +kernel
theorem dX7_restore_29 : decode cX7_restore 29 = .ok (.aload_n 0, 1) := by decide +kernel
theorem dX7_restore_30 : decode cX7_restore 30 = .ok (.getfield 10, 3) := by decide +kernel
theorem dX7_restore_33 : decode cX7_restore 33 = .ok (.aload_n 0, 1) := by decide +kernel
theorem dX7_restore_34 : decode cX7_restore 34 = .ok (.getfield 36, 3) := by decide +kernel
theorem dX7_restore_37 : decode cX7_restore 37 = .ok (.invokevirtual 267, 3) := by decide +kernel
theorem dX7_restore_40 : decode cX7_restore 40 = .ok (.iconst 1, 1) := by decide +kernel
theorem dX7_restore_41 : decode cX7_restore 41 = .ok (.ireturn, 1) := by decide +kernel
theorem dX7_imageAt_0 : decode cX7_imageAt 0 = .ok (.iload_n 1, 1) := by decide +kernel
theorem dX7_imageAt_1 : decode cX7_imageAt 1 = .ok (.ifCond .ne 10, 3) := by decide +kernel
theorem dX7_imageAt_4 : decode cX7_imageAt 4 = .ok (.aload_n 0, 1) := by decide +kernel
theorem dX7_imageAt_5 : decode cX7_imageAt 5 = .ok (.getfield 57, 3) := by decide +kernel
theorem dX7_imageAt_8 : decode cX7_imageAt 8 = .ok (.goto 7, 3) := by decide +kernel
theorem dX7_imageAt_11 : decode cX7_imageAt 11 = .ok (.aload_n 0, 1) := by decide +kernel
theorem dX7_imageAt_12 : decode cX7_imageAt 12 = .ok (.getfield 61, 3) := by decide +kernel
theorem dX7_imageAt_15 : decode cX7_imageAt 15 = .ok (.areturn, 1) := by decide +kernel
set_option maxRecDepth 20000 in
theorem ggX7_told_X7_toldOfOne : GoodIn wsX7_told wsX7_toldOfOne := goodIn_r _ [13, 3, 14, 15, 16, 17, 18, 12, 19, 20, 21, 22, 23, 24, 25, 26, 27, 28, 35, 36, 37, 38, 39, 40, 41] (by decide +kernel) (by decide +kernel)
set_option maxRecDepth 20000 in
theorem gX7_told_X7_toldOfOne : GoodIn wsX7_told (wsV RX7 273 RX7 yX7_toldOfOne wsX7_toldOfOne) := goodIn_app (goodIn_of _ (by decide +kernel)) ggX7_told_X7_toldOfOne
theorem dX7_told_0 : decode cX7_told 0 = .ok (.iload_n 1, 1) := by decide +kernel
theorem dX7_told_1 : decode cX7_told 1 = .ok (.tableswitch 75 0 4 #[35, 43, 51, 59, 67], 35) := by decide +kernel
theorem dX7_told_36 : decode cX7_told 36 = .ok (.aload_n 0, 1) := by decide +kernel
theorem dX7_told_37 : decode cX7_told 37 = .ok (.getfield 22, 3) := by decide +kernel
theorem dX7_told_40 : decode cX7_told 40 = .ok (.getfield 98, 3) := by decide +kernel
theorem dX7_told_43 : decode cX7_told 43 = .ok (.ireturn, 1) := by decide +kernel
theorem dX7_told_44 : decode cX7_told 44 = .ok (.aload_n 0, 1) := by decide +kernel
theorem dX7_told_45 : decode cX7_told 45 = .ok (.getfield 10, 3) := by decide +kernel
theorem dX7_told_48 : decode cX7_told 48 = .ok (.getfield 270, 3) := by decide +kernel
theorem dX7_told_51 : decode cX7_told 51 = .ok (.ireturn, 1) := by decide +kernel
theorem dX7_told_52 : decode cX7_told 52 = .ok (.aload_n 0, 1) := by decide +kernel
theorem dX7_told_53 : decode cX7_told 53 = .ok (.getfield 10, 3) := by decide +kernel
theorem dX7_told_56 : decode cX7_told 56 = .ok (.getfield 91, 3) := by decide +kernel
theorem dX7_told_59 : decode cX7_told 59 = .ok (.ireturn, 1) := by decide +kernel
theorem dX7_told_60 : decode cX7_told 60 = .ok (.aload_n 0, 1) := by decide +kernel
theorem dX7_told_61 : decode cX7_told 61 = .ok (.getfield 10, 3) := by decide +kernel
theorem dX7_told_64 : decode cX7_told 64 = .ok (.getfield 129, 3) := by decide +kernel
theorem dX7_told_67 : decode cX7_told 67 = .ok (.ireturn, 1) := by decide +kernel
theorem dX7_told_68 : decode cX7_told 68 = .ok (.aload_n 0, 1) := by decide +kernel
theorem dX7_told_69 : decode cX7_told 69 = .ok (.getfield 36, 3) := by decide +kernel
theorem dX7_told_72 : decode cX7_told 72 = .ok (.getfield 194, 3) := by decide +kernel
theorem dX7_told_75 : decode cX7_told 75 = .ok (.ireturn, 1) := by decide +kernel
theorem dX7_told_76 : decode cX7_told 76 = .ok (.aload_n 0, 1) := by decide +kernel
theorem dX7_told_77 : decode cX7_told 77 = .ok (.iload_n 1, 1) := by decide +kernel
theorem dX7_told_78 : decode cX7_told 78 = .ok (.invokevirtual 273, 3) := by decide +kernel
theorem dX7_told_81 : decode cX7_told 81 = .ok (.ireturn, 1) := by decide +kernel
set_option maxRecDepth 20000 in
theorem ggX7_toldOfOne_X7_isWithin : GoodIn wsX7_toldOfOne wsX7_isWithin := goodIn_r _ [8] (by decide +kernel) (by decide +kernel)
set_option maxRecDepth 20000 in
theorem gX7_toldOfOne_X7_isWithin : GoodIn wsX7_toldOfOne (va_wsS RX7 64 yX7_isWithin wsX7_isWithin) := goodIn_app (goodIn_of _ (by decide +kernel)) ggX7_toldOfOne_X7_isWithin
theorem dX7_toldOfOne_0 : decode cX7_toldOfOne 0 = .ok (.iload_n 1, 1) := by decide +kernel
theorem dX7_toldOfOne_1 : decode cX7_toldOfOne 1 = .ok (.bipush 10, 2) := by decide +kernel
theorem dX7_toldOfOne_3 : decode cX7_toldOfOne 3 = .ok (.bipush 19, 2) := by decide +kernel
theorem dX7_toldOfOne_5 : decode cX7_toldOfOne 5 = .ok (.invokestatic 64, 3) := by decide +kernel
theorem dX7_toldOfOne_8 : decode cX7_toldOfOne 8 = .ok (.ifCond .eq 16, 3) := by decide +kernel
theorem dX7_toldOfOne_11 : decode cX7_toldOfOne 11 = .ok (.aload_n 0, 1) := by decide +kernel
theorem dX7_toldOfOne_12 : decode cX7_toldOfOne 12 = .ok (.getfield 10, 3) := by decide +kernel
theorem dX7_toldOfOne_15 : decode cX7_toldOfOne 15 = .ok (.getfield 72, 3) := by decide +kernel
theorem dX7_toldOfOne_18 : decode cX7_toldOfOne 18 = .ok (.iload_n 1, 1) := by decide +kernel
theorem dX7_toldOfOne_19 : decode cX7_toldOfOne 19 = .ok (.bipush 10, 2) := by decide +kernel
theorem dX7_toldOfOne_21 : decode cX7_toldOfOne 21 = .ok (.isub, 1) := by decide +kernel
theorem dX7_toldOfOne_22 : decode cX7_toldOfOne 22 = .ok (.iaload, 1) := by decide +kernel
theorem dX7_toldOfOne_23 : decode cX7_toldOfOne 23 = .ok (.ireturn, 1) := by decide +kernel
theorem dX7_toldOfOne_24 : decode cX7_toldOfOne 24 = .ok (.iload_n 1, 1) := by decide +kernel
theorem dX7_toldOfOne_25 : decode cX7_toldOfOne 25 = .ok (.bipush 20, 2) := by decide +kernel
theorem dX7_toldOfOne_27 : decode cX7_toldOfOne 27 = .ok (.bipush 29, 2) := by decide +kernel
theorem dX7_toldOfOne_29 : decode cX7_toldOfOne 29 = .ok (.invokestatic 64, 3) := by decide +kernel
theorem dX7_toldOfOne_32 : decode cX7_toldOfOne 32 = .ok (.ifCond .eq 16, 3) := by decide +kernel
theorem dX7_toldOfOne_35 : decode cX7_toldOfOne 35 = .ok (.aload_n 0, 1) := by decide +kernel
theorem dX7_toldOfOne_36 : decode cX7_toldOfOne 36 = .ok (.getfield 10, 3) := by decide +kernel
theorem dX7_toldOfOne_39 : decode cX7_toldOfOne 39 = .ok (.getfield 120, 3) := by decide +kernel
theorem dX7_toldOfOne_42 : decode cX7_toldOfOne 42 = .ok (.iload_n 1, 1) := by decide +kernel
theorem dX7_toldOfOne_43 : decode cX7_toldOfOne 43 = .ok (.bipush 20, 2) := by decide +kernel
theorem dX7_toldOfOne_45 : decode cX7_toldOfOne 45 = .ok (.isub, 1) := by decide +kernel
theorem dX7_toldOfOne_46 : decode cX7_toldOfOne 46 = .ok (.iaload, 1) := by decide +kernel
theorem dX7_toldOfOne_47 : decode cX7_toldOfOne 47 = .ok (.ireturn, 1) := by decide +kernel
theorem dX7_toldOfOne_48 : decode cX7_toldOfOne 48 = .ok (.iload_n 1, 1) := by decide +kernel
theorem dX7_toldOfOne_49 : decode cX7_toldOfOne 49 = .ok (.bipush 30, 2) := by decide +kernel
theorem dX7_toldOfOne_51 : decode cX7_toldOfOne 51 = .ok (.bipush 38, 2) := by decide +kernel
theorem dX7_toldOfOne_53 : decode cX7_toldOfOne 53 = .ok (.invokestatic 64, 3) := by decide +kernel
theorem dX7_toldOfOne_56 : decode cX7_toldOfOne 56 = .ok (.ifCond .eq 16, 3) := by decide +kernel
theorem dX7_toldOfOne_59 : decode cX7_toldOfOne 59 = .ok (.aload_n 0, 1) := by decide +kernel
theorem dX7_toldOfOne_60 : decode cX7_toldOfOne 60 = .ok (.getfield 10, 3) := by decide +kernel
theorem dX7_toldOfOne_63 : decode cX7_toldOfOne 63 = .ok (.getfield 88, 3) := by decide +kernel
theorem dX7_toldOfOne_66 : decode cX7_toldOfOne 66 = .ok (.iload_n 1, 1) := by decide +kernel
theorem dX7_toldOfOne_67 : decode cX7_toldOfOne 67 = .ok (.bipush 30, 2) := by decide +kernel
theorem dX7_toldOfOne_69 : decode cX7_toldOfOne 69 = .ok (.isub, 1) := by decide +kernel
theorem dX7_toldOfOne_70 : decode cX7_toldOfOne 70 = .ok (.iaload, 1) := by decide +kernel
theorem dX7_toldOfOne_71 : decode cX7_toldOfOne 71 = .ok (.ireturn, 1) := by decide +kernel
theorem dX7_toldOfOne_72 : decode cX7_toldOfOne 72 = .ok (.bipush (-2), 2) := by decide +kernel
theorem dX7_toldOfOne_74 : decode cX7_toldOfOne 74 = .ok (.ireturn, 1) := by decide +kernel
theorem dX7_isWithin_0 : decode cX7_isWithin 0 = .ok (.iload_n 0, 1) := by decide +kernel
theorem dX7_isWithin_1 : decode cX7_isWithin 1 = .ok (.iload_n 1, 1) := by decide +kernel
theorem dX7_isWithin_2 : decode cX7_isWithin 2 = .ok (.if_icmp .lt 12, 3) := by decide +kernel
theorem dX7_isWithin_5 : decode cX7_isWithin 5 = .ok (.iload_n 0, 1) := by decide +kernel
theorem dX7_isWithin_6 : decode cX7_isWithin 6 = .ok (.iload_n 2, 1) := by decide +kernel
theorem dX7_isWithin_7 : decode cX7_isWithin 7 = .ok (.if_icmp .gt 7, 3) := by decide +kernel
theorem dX7_isWithin_10 : decode cX7_isWithin 10 = .ok (.iconst 1, 1) := by decide +kernel
theorem dX7_isWithin_11 : decode cX7_isWithin 11 = .ok (.goto 4, 3) := by decide +kernel
theorem dX7_isWithin_14 : decode cX7_isWithin 14 = .ok (.iconst 0, 1) := by decide +kernel
theorem dX7_isWithin_15 : decode cX7_isWithin 15 = .ok (.ireturn, 1) := by decide +kernel
theorem dX7_digitCount_0 : decode cX7_digitCount 0 = .ok (.iconst 1, 1) := by decide +kernel
theorem dX7_digitCount_1 : decode cX7_digitCount 1 = .ok (.istore_n 1, 1) := by decide +kernel
theorem dX7_digitCount_2 : decode cX7_digitCount 2 = .ok (.iload_n 0, 1) := by decide +kernel
theorem dX7_digitCount_3 : decode cX7_digitCount 3 = .ok (.bipush 10, 2) := by decide +kernel
theorem dX7_digitCount_5 : decode cX7_digitCount 5 = .ok (.idiv, 1) := by decide +kernel
theorem dX7_digitCount_6 : decode cX7_digitCount 6 = .ok (.istore_n 2, 1) := by decide +kernel
theorem dX7_digitCount_7 : decode cX7_digitCount 7 = .ok (.iconst 0, 1) := by decide +kernel
theorem dX7_digitCount_8 : decode cX7_digitCount 8 = .ok (.istore_n 3, 1) := by decide +kernel
theorem dX7_digitCount_9 : decode cX7_digitCount 9 = .ok (.iload_n 3, 1) := by decide +kernel
theorem dX7_digitCount_10 : decode cX7_digitCount 10 = .ok (.bipush 10, 2) := by decide +kernel
theorem dX7_digitCount_12 : decode cX7_digitCount 12 = .ok (.if_icmp .ge 21, 3) := by decide +kernel
theorem dX7_digitCount_15 : decode cX7_digitCount 15 = .ok (.iload_n 2, 1) := by decide +kernel
theorem dX7_digitCount_16 : decode cX7_digitCount 16 = .ok (.ifCond .le 17, 3) := by decide +kernel
theorem dX7_digitCount_19 : decode cX7_digitCount 19 = .ok (.iload_n 2, 1) := by decide +kernel
theorem dX7_digitCount_20 : decode cX7_digitCount 20 = .ok (.bipush 10, 2) := by decide +kernel
theorem dX7_digitCount_22 : decode cX7_digitCount 22 = .ok (.idiv, 1) := by decide +kernel
theorem dX7_digitCount_23 : decode cX7_digitCount 23 = .ok (.istore_n 2, 1) := by decide +kernel
theorem dX7_digitCount_24 : decode cX7_digitCount 24 = .ok (.iinc 1 1, 3) := by decide +kernel
theorem dX7_digitCount_27 : decode cX7_digitCount 27 = .ok (.iinc 3 1, 3) := by decide +kernel
theorem dX7_digitCount_30 : decode cX7_digitCount 30 = .ok (.goto (-21), 3) := by decide +kernel
theorem dX7_digitCount_33 : decode cX7_digitCount 33 = .ok (.iload_n 1, 1) := by decide +kernel
theorem dX7_digitCount_34 : decode cX7_digitCount 34 = .ok (.ireturn, 1) := by decide +kernel
theorem dX7_leastBit_0 : decode cX7_leastBit 0 = .ok (.iconst 0, 1) := by decide +kernel
theorem dX7_leastBit_1 : decode cX7_leastBit 1 = .ok (.istore_n 1, 1) := by decide +kernel
theorem dX7_leastBit_2 : decode cX7_leastBit 2 = .ok (.iload_n 1, 1) := by decide +kernel
theorem dX7_leastBit_3 : decode cX7_leastBit 3 = .ok (.bipush 9, 2) := by decide +kernel
theorem dX7_leastBit_5 : decode cX7_leastBit 5 = .ok (.if_icmp .gt 20, 3) := by decide +kernel
theorem dX7_leastBit_8 : decode cX7_leastBit 8 = .ok (.iload_n 0, 1) := by decide +kernel
theorem dX7_leastBit_9 : decode cX7_leastBit 9 = .ok (.iload_n 1, 1) := by decide +kernel
theorem dX7_leastBit_10 : decode cX7_leastBit 10 = .ok (.ishr, 1) := by decide +kernel
theorem dX7_leastBit_11 : decode cX7_leastBit 11 = .ok (.iconst 1, 1) := by decide +kernel
theorem dX7_leastBit_12 : decode cX7_leastBit 12 = .ok (.iand, 1) := by decide +kernel
theorem dX7_leastBit_13 : decode cX7_leastBit 13 = .ok (.iconst 1, 1) := by decide +kernel
theorem dX7_leastBit_14 : decode cX7_leastBit 14 = .ok (.if_icmp .ne 5, 3) := by decide +kernel
theorem dX7_leastBit_17 : decode cX7_leastBit 17 = .ok (.iload_n 1, 1) := by decide +kernel
theorem dX7_leastBit_18 : decode cX7_leastBit 18 = .ok (.ireturn, 1) := by decide +kernel
theorem dX7_leastBit_19 : decode cX7_leastBit 19 = .ok (.iinc 1 1, 3) := by decide +kernel
theorem dX7_leastBit_22 : decode cX7_leastBit 22 = .ok (.goto (-20), 3) := by decide +kernel
theorem dX7_leastBit_25 : decode cX7_leastBit 25 = .ok (.bipush (-6), 2) := by decide +kernel
theorem dX7_leastBit_27 : decode cX7_leastBit 27 = .ok (.ireturn, 1) := by decide +kernel
theorem dX7_power_0 : decode cX7_power 0 = .ok (.lconst 1, 1) := by decide +kernel
theorem dX7_power_1 : decode cX7_power 1 = .ok (.lstore_n 3, 1) := by decide +kernel
theorem dX7_power_2 : decode cX7_power 2 = .ok (.iconst 0, 1) := by decide +kernel
theorem dX7_power_3 : decode cX7_power 3 = .ok (.istore 5, 2) := by decide +kernel
theorem dX7_power_5 : decode cX7_power 5 = .ok (.iload 5, 2) := by decide +kernel
theorem dX7_power_7 : decode cX7_power 7 = .ok (.iload_n 2, 1) := by decide +kernel
theorem dX7_power_8 : decode cX7_power 8 = .ok (.if_icmp .ge 13, 3) := by decide +kernel
theorem dX7_power_11 : decode cX7_power 11 = .ok (.lload_n 3, 1) := by decide +kernel
theorem dX7_power_12 : decode cX7_power 12 = .ok (.lload_n 0, 1) := by decide +kernel
theorem dX7_power_13 : decode cX7_power 13 = .ok (.lmul, 1) := by decide +kernel
theorem dX7_power_14 : decode cX7_power 14 = .ok (.lstore_n 3, 1) := by decide +kernel
theorem dX7_power_15 : decode cX7_power 15 = .ok (.iinc 5 1, 3) := by decide +kernel
theorem dX7_power_18 : decode cX7_power 18 = .ok (.goto (-13), 3) := by decide +kernel
theorem dX7_power_21 : decode cX7_power 21 = .ok (.lload_n 3, 1) := by decide +kernel
theorem dX7_power_22 : decode cX7_power 22 = .ok (.lreturn, 1) := by decide +kernel
set_option maxRecDepth 20000 in
theorem ggX7_lowestTerm_X7_commonDivisor : GoodIn wsX7_lowestTerm wsX7_commonDivisor := goodIn_r _ [4] (by decide +kernel) (by decide +kernel)
set_option maxRecDepth 20000 in
theorem gX7_lowestTerm_X7_commonDivisor : GoodIn wsX7_lowestTerm (va_wsS RX7 276 yX7_commonDivisor wsX7_commonDivisor) := goodIn_app (goodIn_of _ (by decide +kernel)) ggX7_lowestTerm_X7_commonDivisor
theorem dX7_lowestTerm_0 : decode cX7_lowestTerm 0 = .ok (.lload_n 0, 1) := by decide +kernel
theorem dX7_lowestTerm_1 : decode cX7_lowestTerm 1 = .ok (.lload_n 2, 1) := by decide +kernel
theorem dX7_lowestTerm_2 : decode cX7_lowestTerm 2 = .ok (.invokestatic 276, 3) := by decide +kernel
theorem dX7_lowestTerm_5 : decode cX7_lowestTerm 5 = .ok (.lstore 5, 2) := by decide +kernel
theorem dX7_lowestTerm_7 : decode cX7_lowestTerm 7 = .ok (.lload 5, 2) := by decide +kernel
theorem dX7_lowestTerm_9 : decode cX7_lowestTerm 9 = .ok (.lconst 0, 1) := by decide +kernel
theorem dX7_lowestTerm_10 : decode cX7_lowestTerm 10 = .ok (.lcmp, 1) := by decide +kernel
theorem dX7_lowestTerm_11 : decode cX7_lowestTerm 11 = .ok (.ifCond .ne 5, 3) := by decide +kernel
theorem dX7_lowestTerm_14 : decode cX7_lowestTerm 14 = .ok (.lconst 0, 1) := by decide +kernel
theorem dX7_lowestTerm_15 : decode cX7_lowestTerm 15 = .ok (.lreturn, 1) := by decide +kernel
theorem dX7_lowestTerm_16 : decode cX7_lowestTerm 16 = .ok (.iload 4, 2) := by decide +kernel
theorem dX7_lowestTerm_18 : decode cX7_lowestTerm 18 = .ok (.ifCond .ne 10, 3) := by decide +kernel
theorem dX7_lowestTerm_21 : decode cX7_lowestTerm 21 = .ok (.lload_n 0, 1) := by decide +kernel
theorem dX7_lowestTerm_22 : decode cX7_lowestTerm 22 = .ok (.lload 5, 2) := by decide +kernel
theorem dX7_lowestTerm_24 : decode cX7_lowestTerm 24 = .ok (.ldiv, 1) := by decide +kernel
theorem dX7_lowestTerm_25 : decode cX7_lowestTerm 25 = .ok (.goto 7, 3) := by decide +kernel
theorem dX7_lowestTerm_28 : decode cX7_lowestTerm 28 = .ok (.lload_n 2, 1) := by decide +kernel
theorem dX7_lowestTerm_29 : decode cX7_lowestTerm 29 = .ok (.lload 5, 2) := by decide +kernel
theorem dX7_lowestTerm_31 : decode cX7_lowestTerm 31 = .ok (.ldiv, 1) := by decide +kernel
theorem dX7_lowestTerm_32 : decode cX7_lowestTerm 32 = .ok (.lreturn, 1) := by decide +kernel
theorem dX7_commonDivisor_0 : decode cX7_commonDivisor 0 = .ok (.lload_n 0, 1) := by decide +kernel
theorem dX7_commonDivisor_1 : decode cX7_commonDivisor 1 = .ok (.lstore 4, 2) := by decide +kernel
theorem dX7_commonDivisor_3 : decode cX7_commonDivisor 3 = .ok (.lload_n 2, 1) := by decide +kernel
theorem dX7_commonDivisor_4 : decode cX7_commonDivisor 4 = .ok (.lstore 6, 2) := by decide +kernel
theorem dX7_commonDivisor_6 : decode cX7_commonDivisor 6 = .ok (.iconst 0, 1) := by decide +kernel
theorem dX7_commonDivisor_7 : decode cX7_commonDivisor 7 = .ok (.istore 8, 2) := by decide +kernel
theorem dX7_commonDivisor_9 : decode cX7_commonDivisor 9 = .ok (.iload 8, 2) := by decide +kernel
theorem dX7_commonDivisor_11 : decode cX7_commonDivisor 11 = .ok (.bipush 100, 2) := by decide +kernel
theorem dX7_commonDivisor_13 : decode cX7_commonDivisor 13 = .ok (.if_icmp .ge 31, 3) := by decide +kernel
theorem dX7_commonDivisor_16 : decode cX7_commonDivisor 16 = .ok (.lload 6, 2) := by decide +kernel
theorem dX7_commonDivisor_18 : decode cX7_commonDivisor 18 = .ok (.lconst 0, 1) := by decide +kernel
theorem dX7_commonDivisor_19 : decode cX7_commonDivisor 19 = .ok (.lcmp, 1) := by decide +kernel
theorem dX7_commonDivisor_20 : decode cX7_commonDivisor 20 = .ok (.ifCond .eq 24, 3) := by decide +kernel
theorem dX7_commonDivisor_23 : decode cX7_commonDivisor 23 = .ok (.lload 4, 2) := by decide +kernel
theorem dX7_commonDivisor_25 : decode cX7_commonDivisor 25 = .ok (.lload 6, 2) := by decide +kernel
theorem dX7_commonDivisor_27 : decode cX7_commonDivisor 27 = .ok (.lrem, 1) := by decide +kernel
theorem dX7_commonDivisor_28 : decode cX7_commonDivisor 28 = .ok (.lstore 9, 2) := by decide +kernel
theorem dX7_commonDivisor_30 : decode cX7_commonDivisor 30 = .ok (.lload 6, 2) := by decide +kernel
theorem dX7_commonDivisor_32 : decode cX7_commonDivisor 32 = .ok (.lstore 4, 2) := by decide +kernel
theorem dX7_commonDivisor_34 : decode cX7_commonDivisor 34 = .ok (.lload 9, 2) := by decide +kernel
theorem dX7_commonDivisor_36 : decode cX7_commonDivisor 36 = .ok (.lstore 6, 2) := by decide +kernel
theorem dX7_commonDivisor_38 : decode cX7_commonDivisor 38 = .ok (.iinc 8 1, 3) := by decide +kernel
theorem dX7_commonDivisor_41 : decode cX7_commonDivisor 41 = .ok (.goto (-32), 3) := by decide +kernel
theorem dX7_commonDivisor_44 : decode cX7_commonDivisor 44 = .ok (.lload 4, 2) := by decide +kernel
theorem dX7_commonDivisor_46 : decode cX7_commonDivisor 46 = .ok (.lreturn, 1) := by decide +kernel
