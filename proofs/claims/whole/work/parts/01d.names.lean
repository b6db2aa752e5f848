theorem dX8_init_0 : decode cX8_init 0 = .ok (.aload_n 0, 1) := by decide +kernel
theorem dX8_init_1 : decode cX8_init 1 = .ok (.invokespecial 1, 3) := by decide +kernel
theorem dX8_init_4 : decode cX8_init 4 = .ok (.aload_n 0, 1) := by decide +kernel
theorem dX8_init_5 : decode cX8_init 5 = .ok (.bipush 10, 2) := by decide +kernel
theorem dX8_init_7 : decode cX8_init 7 = .ok (.newarray .int, 2) := by decide +kernel
theorem dX8_init_9 : decode cX8_init 9 = .ok (.putfield 7, 3) := by decide +kernel
theorem dX8_init_12 : decode cX8_init 12 = .ok (.aload_n 0, 1) := by decide +kernel
theorem dX8_init_13 : decode cX8_init 13 = .ok (.bipush 10, 2) := by decide +kernel
theorem dX8_init_15 : decode cX8_init 15 = .ok (.newarray .int, 2) := by decide +kernel
theorem dX8_init_17 : decode cX8_init 17 = .ok (.putfield 13, 3) := by decide +kernel
theorem dX8_init_20 : decode cX8_init 20 = .ok (.aload_n 0, 1) := by decide +kernel
theorem dX8_init_21 : decode cX8_init 21 = .ok (.bipush 9, 2) := by decide +kernel
theorem dX8_init_23 : decode cX8_init 23 = .ok (.newarray .int, 2) := by decide +kernel
theorem dX8_init_25 : decode cX8_init 25 = .ok (.putfield 16, 3) := by decide +kernel
theorem dX8_init_28 : decode cX8_init 28 = .ok (.aload_n 0, 1) := by decide +kernel
theorem dX8_init_29 : decode cX8_init 29 = .ok (.bipush 8, 2) := by decide +kernel
theorem dX8_init_31 : decode cX8_init 31 = .ok (.newarray .int, 2) := by decide +kernel
theorem dX8_init_33 : decode cX8_init 33 = .ok (.putfield 19, 3) := by decide +kernel
theorem dX8_init_36 : decode cX8_init 36 = .ok (.aload_n 0, 1) := by decide +kernel
theorem dX8_init_37 : decode cX8_init 37 = .ok (.bipush 8, 2) := by decide +kernel
theorem dX8_init_39 : decode cX8_init 39 = .ok (.newarray .int, 2) := by decide +kernel
theorem dX8_init_41 : decode cX8_init 41 = .ok (.putfield 22, 3) := by decide +kernel
theorem dX8_init_44 : decode cX8_init 44 = .ok (.aload_n 0, 1) := by decide +kernel
theorem dX8_init_45 : decode cX8_init 45 = .ok (.bipush 60, 2) := by decide +kernel
theorem dX8_init_47 : decode cX8_init 47 = .ok (.newarray .int, 2) := by decide +kernel
theorem dX8_init_49 : decode cX8_init 49 = .ok (.putfield 25, 3) := by decide +kernel
theorem dX8_init_52 : decode cX8_init 52 = .ok (.aload_n 0, 1) := by decide +kernel
theorem dX8_init_53 : decode cX8_init 53 = .ok (.bipush 60, 2) := by decide +kernel
theorem dX8_init_55 : decode cX8_init 55 = .ok (.newarray .int, 2) := by decide +kernel
theorem dX8_init_57 : decode cX8_init 57 = .ok (.putfield 28, 3) := by decide +kernel
theorem dX8_init_60 : decode cX8_init 60 = .ok (.aload_n 0, 1) := by decide +kernel
theorem dX8_init_61 : decode cX8_init 61 = .ok (.bipush 60, 2) := by decide +kernel
theorem dX8_init_63 : decode cX8_init 63 = .ok (.newarray .int, 2) := by decide +kernel
theorem dX8_init_65 : decode cX8_init 65 = .ok (.putfield 31, 3) := by decide +kernel
theorem dX8_init_68 : decode cX8_init 68 = .ok (.aload_n 0, 1) := by decide +kernel
theorem dX8_init_69 : decode cX8_init 69 = .ok (.bipush 60, 2) := by decide +kernel
theorem dX8_init_71 : decode cX8_init 71 = .ok (.newarray .int, 2) := by decide +kernel
theorem dX8_init_73 : decode cX8_init 73 = .ok (.putfield 34, 3) := by decide +kernel
theorem dX8_init_76 : decode cX8_init 76 = .ok (.aload_n 0, 1) := by decide +kernel
theorem dX8_init_77 : decode cX8_init 77 = .ok (.bipush 10, 2) := by decide +kernel
theorem dX8_init_79 : decode cX8_init 79 = .ok (.newarray .int, 2) := by decide +kernel
theorem dX8_init_81 : decode cX8_init 81 = .ok (.putfield 37, 3) := by decide +kernel
theorem dX8_init_84 : decode cX8_init 84 = .ok (.aload_n 0, 1) := by decide +kernel
theorem dX8_init_85 : decode cX8_init 85 = .ok (.bipush 32, 2) := by decide +kernel
theorem dX8_init_87 : decode cX8_init 87 = .ok (.newarray .int, 2) := by decide +kernel
theorem dX8_init_89 : decode cX8_init 89 = .ok (.putfield 40, 3) := by decide +kernel
theorem dX8_init_92 : decode cX8_init 92 = .ok (.aload_n 0, 1) := by decide +kernel
theorem dX8_init_93 : decode cX8_init 93 = .ok (.bipush 9, 2) := by decide +kernel
theorem dX8_init_95 : decode cX8_init 95 = .ok (.newarray .int, 2) := by decide +kernel
theorem dX8_init_97 : decode cX8_init 97 = .ok (.putfield 43, 3) := by decide +kernel
theorem dX8_init_100 : decode cX8_init 100 = .ok (.aload_n 0, 1) := by decide +kernel
theorem dX8_init_101 : decode cX8_init 101 = .ok (.bipush 100, 2) := by decide +kernel
theorem dX8_init_103 : decode cX8_init 103 = .ok (.newarray .int, 2) := by decide +kernel
theorem dX8_init_105 : decode cX8_init 105 = .ok (.putfield 46, 3) := by decide +kernel
theorem dX8_init_108 : decode cX8_init 108 = .ok (.aload_n 0, 1) := by decide +kernel
theorem dX8_init_109 : decode cX8_init 109 = .ok (.bipush 100, 2) := by decide +kernel
theorem dX8_init_111 : decode cX8_init 111 = .ok (.newarray .int, 2) := by decide +kernel
theorem dX8_init_113 : decode cX8_init 113 = .ok (.putfield 49, 3) := by decide +kernel
theorem dX8_init_116 : decode cX8_init 116 = .ok (.aload_n 0, 1) := by decide +kernel
theorem dX8_init_117 : decode cX8_init 117 = .ok (.iconst 4, 1) := by decide +kernel
theorem dX8_init_118 : decode cX8_init 118 = .ok (.newarray .int, 2) := by decide +kernel
theorem dX8_init_120 : decode cX8_init 120 = .ok (.putfield 52, 3) := by decide +kernel
theorem dX8_init_123 : decode cX8_init 123 = .ok (.aload_n 0, 1) := by decide +kernel
theorem dX8_init_124 : decode cX8_init 124 = .ok (.bipush 9, 2) := by decide +kernel
theorem dX8_init_126 : decode cX8_init 126 = .ok (.newarray .int, 2) := by decide +kernel
theorem dX8_init_128 : decode cX8_init 128 = .ok (.putfield 55, 3) := by decide +kernel
theorem dX8_init_131 : decode cX8_init 131 = .ok (.aload_n 0, 1) := by decide +kernel
theorem dX8_init_132 : decode cX8_init 132 = .ok (.bipush 10, 2) := by decide +kernel
theorem dX8_init_134 : decode cX8_init 134 = .ok (.newarray .int, 2) := by decide +kernel
theorem dX8_init_136 : decode cX8_init 136 = .ok (.putfield 58, 3) := by decide +kernel
theorem dX8_init_139 : decode cX8_init 139 = .ok (.aload_n 0, 1) := by decide +kernel
theorem dX8_init_140 : decode cX8_init 140 = .ok (.bipush 10, 2) := by decide +kernel
theorem dX8_init_142 : decode cX8_init 142 = .ok (.newarray .int, 2) := by decide +kernel
theorem dX8_init_144 : decode cX8_init 144 = .ok (.putfield 61, 3) := by decide +kernel
theorem dX8_init_147 : decode cX8_init 147 = .ok (.aload_n 0, 1) := by decide +kernel
theorem dX8_init_148 : decode cX8_init 148 = .ok (.bipush 10, 2) := by decide +kernel
theorem dX8_init_150 : decode cX8_init 150 = .ok (.newarray .int, 2) := by decide +kernel
theorem dX8_init_152 : decode cX8_init 152 = .ok (.putfield 64, 3) := by decide +kernel
theorem dX8_init_155 : decode cX8_init 155 = .ok (.aload_n 0, 1) := by decide +kernel
theorem dX8_init_156 : decode cX8_init 156 = .ok (.sipush 1000, 3) := by decide +kernel
theorem dX8_init_159 : decode cX8_init 159 = .ok (.newarray .boolean, 2) := by decide +kernel
theorem dX8_init_161 : decode cX8_init 161 = .ok (.putfield 67, 3) := by decide +kernel
theorem dX8_init_164 : decode cX8_init 164 = .ok (.aload_n 0, 1) := by decide +kernel
theorem dX8_init_165 : decode cX8_init 165 = .ok (.bipush 120, 2) := by decide +kernel
theorem dX8_init_167 : decode cX8_init 167 = .ok (.newarray .int, 2) := by decide +kernel
theorem dX8_init_169 : decode cX8_init 169 = .ok (.putfield 71, 3) := by decide +kernel
theorem dX8_init_172 : decode cX8_init 172 = .ok (.aload_n 0, 1) := by decide +kernel
theorem dX8_init_173 : decode cX8_init 173 = .ok (.iconst 2, 1) := by decide +kernel
theorem dX8_init_174 : decode cX8_init 174 = .ok (.newarray .boolean, 2) := by decide +kernel
theorem dX8_init_176 : decode cX8_init 176 = .ok (.putfield 74, 3) := by decide +kernel
theorem dX8_init_179 : decode cX8_init 179 = .ok (.iconst 0, 1) := by decide +kernel
theorem dX8_init_180 : decode cX8_init 180 = .ok (.istore_n 1, 1) := by decide +kernel
theorem dX8_init_181 : decode cX8_init 181 = .ok (.iload_n 1, 1) := by decide +kernel
theorem dX8_init_182 : decode cX8_init 182 = .ok (.bipush 10, 2) := by decide +kernel
theorem dX8_init_184 : decode cX8_init 184 = .ok (.if_icmp .ge 19, 3) := by decide +kernel
theorem dX8_init_187 : decode cX8_init 187 = .ok (.aload_n 0, 1) := by decide +kernel
theorem dX8_init_188 : decode cX8_init 188 = .ok (.getfield 7, 3) := by decide +kernel
theorem dX8_init_191 : decode cX8_init 191 = .ok (.iload_n 1, 1) := by decide +kernel
theorem dX8_init_192 : decode cX8_init 192 = .ok (.bipush 10, 2) := by decide +kernel
theorem dX8_init_194 : decode cX8_init 194 = .ok (.iload_n 1, 1) := by decide +kernel
theorem dX8_init_195 : decode cX8_init 195 = .ok (.imul, 1) := by decide +kernel
theorem dX8_init_196 : decode cX8_init 196 = .ok (.iastore, 1) := by decide +kernel
theorem dX8_init_197 : decode cX8_init 197 = .ok (.iinc 1 1, 3) := by decide +kernel
theorem dX8_init_200 : decode cX8_init 200 = .ok (.goto (-19), 3) := by decide +kernel
theorem dX8_init_203 : decode cX8_init 203 = .ok (.iconst 0, 1) := by decide +kernel
theorem dX8_init_204 : decode cX8_init 204 = .ok (.istore_n 1, 1) := by decide +kernel
theorem dX8_init_205 : decode cX8_init 205 = .ok (.iload_n 1, 1) := by decide +kernel
theorem dX8_init_206 : decode cX8_init 206 = .ok (.bipush 9, 2) := by decide +kernel
theorem dX8_init_208 : decode cX8_init 208 = .ok (.if_icmp .ge 17, 3) := by decide +kernel
theorem dX8_init_211 : decode cX8_init 211 = .ok (.aload_n 0, 1) := by decide +kernel
theorem dX8_init_212 : decode cX8_init 212 = .ok (.getfield 16, 3) := by decide +kernel
theorem dX8_init_215 : decode cX8_init 215 = .ok (.iload_n 1, 1) := by decide +kernel
theorem dX8_init_216 : decode cX8_init 216 = .ok (.bipush 15, 2) := by decide +kernel
theorem dX8_init_218 : decode cX8_init 218 = .ok (.iastore, 1) := by decide +kernel
theorem dX8_init_219 : decode cX8_init 219 = .ok (.iinc 1 1, 3) := by decide +kernel
theorem dX8_init_222 : decode cX8_init 222 = .ok (.goto (-17), 3) := by decide +kernel
theorem dX8_init_225 : decode cX8_init 225 = .ok (.aload_n 0, 1) := by decide +kernel
theorem dX8_init_226 : decode cX8_init 226 = .ok (.bipush 20, 2) := by decide +kernel
theorem dX8_init_228 : decode cX8_init 228 = .ok (.putfield 77, 3) := by decide +kernel
theorem dX8_init_231 : decode cX8_init 231 = .ok (.return_, 1) := by decide +kernel
theorem dX8_in_0 : decode cX8_in 0 = .ok (.lload_n 0, 1) := by decide +kernel
theorem dX8_in_1 : decode cX8_in 1 = .ok (.lload_n 2, 1) := by decide +kernel
theorem dX8_in_2 : decode cX8_in 2 = .ok (.lcmp, 1) := by decide +kernel
theorem dX8_in_3 : decode cX8_in 3 = .ok (.ifCond .lt 14, 3) := by decide +kernel
theorem dX8_in_6 : decode cX8_in 6 = .ok (.lload_n 0, 1) := by decide +kernel
theorem dX8_in_7 : decode cX8_in 7 = .ok (.lload 4, 2) := by decide +kernel
theorem dX8_in_9 : decode cX8_in 9 = .ok (.lcmp, 1) := by decide +kernel
theorem dX8_in_10 : decode cX8_in 10 = .ok (.ifCond .gt 7, 3) := by decide +kernel
theorem dX8_in_13 : decode cX8_in 13 = .ok (.iconst 1, 1) := by decide +kernel
theorem dX8_in_14 : decode cX8_in 14 = .ok (.goto 4, 3) := by decide +kernel
theorem dX8_in_17 : decode cX8_in 17 = .ok (.iconst 0, 1) := by decide +kernel
theorem dX8_in_18 : decode cX8_in 18 = .ok (.ireturn, 1) := by decide +kernel
set_option maxRecDepth 20000 in
theorem ggX8_isChild_X8_in : GoodIn wsX8_isChild wsX8_in := goodIn_r _ [5] (by decide +kernel) (by decide +kernel)
set_option maxRecDepth 20000 in
theorem gX8_isChild_X8_in : GoodIn wsX8_isChild (va_wsS RX8 83 yX8_in wsX8_in) := goodIn_app (goodIn_of _ (by decide +kernel)) ggX8_isChild_X8_in
theorem dX8_isChild_0 : decode cX8_isChild 0 = .ok (.iload_n 0, 1) := by decide +kernel
theorem dX8_isChild_1 : decode cX8_isChild 1 = .ok (.i2l, 1) := by decide +kernel
theorem dX8_isChild_2 : decode cX8_isChild 2 = .ok (.lconst 0, 1) := by decide +kernel
theorem dX8_isChild_3 : decode cX8_isChild 3 = .ok (.ldc2_w 81, 3) := by decide +kernel
theorem dX8_isChild_6 : decode cX8_isChild 6 = .ok (.invokestatic 83, 3) := by decide +kernel
theorem dX8_isChild_9 : decode cX8_isChild 9 = .ok (.ireturn, 1) := by decide +kernel
theorem dX8_has_0 : decode cX8_has 0 = .ok (.iload_n 0, 1) := by decide +kernel
theorem dX8_has_1 : decode cX8_has 1 = .ok (.iload_n 1, 1) := by decide +kernel
theorem dX8_has_2 : decode cX8_has 2 = .ok (.ishr, 1) := by decide +kernel
theorem dX8_has_3 : decode cX8_has 3 = .ok (.iconst 1, 1) := by decide +kernel
theorem dX8_has_4 : decode cX8_has 4 = .ok (.iand, 1) := by decide +kernel
theorem dX8_has_5 : decode cX8_has 5 = .ok (.iconst 1, 1) := by decide +kernel
theorem dX8_has_6 : decode cX8_has 6 = .ok (.if_icmp .ne 7, 3) := by decide +kernel
theorem dX8_has_9 : decode cX8_has 9 = .ok (.iconst 1, 1) := by decide +kernel
theorem dX8_has_10 : decode cX8_has 10 = .ok (.goto 4, 3) := by decide +kernel
theorem dX8_has_13 : decode cX8_has 13 = .ok (.iconst 0, 1) := by decide +kernel
theorem dX8_has_14 : decode cX8_has 14 = .ok (.ireturn, 1) := by decide +kernel
theorem dX8_less_0 : decode cX8_less 0 = .ok (.iload_n 0, 1) := by decide +kernel
theorem dX8_less_1 : decode cX8_less 1 = .ok (.iload_n 1, 1) := by decide +kernel
theorem dX8_less_2 : decode cX8_less 2 = .ok (.if_icmp .ge 7, 3) := by decide +kernel
theorem dX8_less_5 : decode cX8_less 5 = .ok (.iload_n 0, 1) := by decide +kernel
theorem dX8_less_6 : decode cX8_less 6 = .ok (.goto 4, 3) := by decide +kernel
theorem dX8_less_9 : decode cX8_less 9 = .ok (.iload_n 1, 1) := by decide +kernel
theorem dX8_less_10 : decode cX8_less 10 = .ok (.ireturn, 1) := by decide +kernel
theorem dX8_off_0 : decode cX8_off 0 = .ok (.iload_n 0, 1) := by decide +kernel
theorem dX8_off_1 : decode cX8_off 1 = .ok (.iload_n 1, 1) := by decide +kernel
theorem dX8_off_2 : decode cX8_off 2 = .ok (.if_icmp .ge 9, 3) := by decide +kernel
theorem dX8_off_5 : decode cX8_off 5 = .ok (.iload_n 1, 1) := by decide +kernel
theorem dX8_off_6 : decode cX8_off 6 = .ok (.iload_n 0, 1) := by decide +kernel
theorem dX8_off_7 : decode cX8_off 7 = .ok (.isub, 1) := by decide +kernel
theorem dX8_off_8 : decode cX8_off 8 = .ok (.goto 6, 3) := by decide +kernel
theorem dX8_off_11 : decode cX8_off 11 = .ok (.iload_n 0, 1) := by decide +kernel
theorem dX8_off_12 : decode cX8_off 12 = .ok (.iload_n 1, 1) := by decide +kernel
theorem dX8_off_13 : decode cX8_off 13 = .ok (.isub, 1) := by decide +kernel
theorem dX8_off_14 : decode cX8_off 14 = .ok (.ireturn, 1) := by decide +kernel
set_option maxRecDepth 20000 in
theorem ggX8_isReached_X8_off : GoodIn wsX8_isReached wsX8_off := goodIn_r _ [6] (by decide +kernel) (by decide +kernel)
set_option maxRecDepth 20000 in
theorem gX8_isReached_X8_off : GoodIn wsX8_isReached (va_wsS RX8 87 yX8_off wsX8_off) := goodIn_app (goodIn_of _ (by decide +kernel)) ggX8_isReached_X8_off
theorem dX8_isReached_0 : decode cX8_isReached 0 = .ok (.iload_n 1, 1) := by decide +kernel
theorem dX8_isReached_1 : decode cX8_isReached 1 = .ok (.ifCond .eq 26, 3) := by decide +kernel
theorem dX8_isReached_4 : decode cX8_isReached 4 = .ok (.iload_n 2, 1) := by decide +kernel
theorem dX8_isReached_5 : decode cX8_isReached 5 = .ok (.aload_n 0, 1) := by decide +kernel
theorem dX8_isReached_6 : decode cX8_isReached 6 = .ok (.getfield 7, 3) := by decide +kernel
theorem dX8_isReached_9 : decode cX8_isReached 9 = .ok (.iload_n 1, 1) := by decide +kernel
theorem dX8_isReached_10 : decode cX8_isReached 10 = .ok (.iconst 1, 1) := by decide +kernel
theorem dX8_isReached_11 : decode cX8_isReached 11 = .ok (.isub, 1) := by decide +kernel
theorem dX8_isReached_12 : decode cX8_isReached 12 = .ok (.iaload, 1) := by decide +kernel
theorem dX8_isReached_13 : decode cX8_isReached 13 = .ok (.invokestatic 87, 3) := by decide +kernel
theorem dX8_isReached_16 : decode cX8_isReached 16 = .ok (.aload_n 0, 1) := by decide +kernel
theorem dX8_isReached_17 : decode cX8_isReached 17 = .ok (.getfield 16, 3) := by decide +kernel
theorem dX8_isReached_20 : decode cX8_isReached 20 = .ok (.iload_n 1, 1) := by decide +kernel
theorem dX8_isReached_21 : decode cX8_isReached 21 = .ok (.iconst 1, 1) := by decide +kernel
theorem dX8_isReached_22 : decode cX8_isReached 22 = .ok (.isub, 1) := by decide +kernel
theorem dX8_isReached_23 : decode cX8_isReached 23 = .ok (.iaload, 1) := by decide +kernel
theorem dX8_isReached_24 : decode cX8_isReached 24 = .ok (.if_icmp .gt 7, 3) := by decide +kernel
theorem dX8_isReached_27 : decode cX8_isReached 27 = .ok (.iconst 1, 1) := by decide +kernel
theorem dX8_isReached_28 : decode cX8_isReached 28 = .ok (.goto 4, 3) := by decide +kernel
theorem dX8_isReached_31 : decode cX8_isReached 31 = .ok (.iconst 0, 1) := by decide +kernel
theorem dX8_isReached_32 : decode cX8_isReached 32 = .ok (.istore_n 3, 1) := by decide +kernel
theorem dX8_isReached_33 : decode cX8_isReached 33 = .ok (.iload_n 1, 1) := by decide +kernel
theorem dX8_isReached_34 : decode cX8_isReached 34 = .ok (.bipush 9, 2) := by decide +kernel
theorem dX8_isReached_36 : decode cX8_isReached 36 = .ok (.if_icmp .eq 24, 3) := by decide +kernel
theorem dX8_isReached_39 : decode cX8_isReached 39 = .ok (.iload_n 2, 1) := by decide +kernel
theorem dX8_isReached_40 : decode cX8_isReached 40 = .ok (.aload_n 0, 1) := by decide +kernel
theorem dX8_isReached_41 : decode cX8_isReached 41 = .ok (.getfield 7, 3) := by decide +kernel
theorem dX8_isReached_44 : decode cX8_isReached 44 = .ok (.iload_n 1, 1) := by decide +kernel
theorem dX8_isReached_45 : decode cX8_isReached 45 = .ok (.iconst 1, 1) := by decide +kernel
theorem dX8_isReached_46 : decode cX8_isReached 46 = .ok (.iadd, 1) := by decide +kernel
theorem dX8_isReached_47 : decode cX8_isReached 47 = .ok (.iaload, 1) := by decide +kernel
theorem dX8_isReached_48 : decode cX8_isReached 48 = .ok (.invokestatic 87, 3) := by decide +kernel
theorem dX8_isReached_51 : decode cX8_isReached 51 = .ok (.aload_n 0, 1) := by decide +kernel
theorem dX8_isReached_52 : decode cX8_isReached 52 = .ok (.getfield 16, 3) := by decide +kernel
theorem dX8_isReached_55 : decode cX8_isReached 55 = .ok (.iload_n 1, 1) := by decide +kernel
theorem dX8_isReached_56 : decode cX8_isReached 56 = .ok (.iaload, 1) := by decide +kernel
theorem dX8_isReached_57 : decode cX8_isReached 57 = .ok (.if_icmp .gt 7, 3) := by decide +kernel
theorem dX8_isReached_60 : decode cX8_isReached 60 = .ok (.iconst 1, 1) := by decide +kernel
theorem dX8_isReached_61 : decode cX8_isReached 61 = .ok (.goto 4, 3) := by decide +kernel
theorem dX8_isReached_64 : decode cX8_isReached 64 = .ok (.iconst 0, 1) := by decide +kernel
theorem dX8_isReached_65 : decode cX8_isReached 65 = .ok (.istore 4, 2) := by decide +kernel
theorem dX8_isReached_67 : decode cX8_isReached 67 = .ok (.iload_n 3, 1) := by decide +kernel
theorem dX8_isReached_68 : decode cX8_isReached 68 = .ok (.ifCond .eq 12, 3) := by decide +kernel
theorem dX8_isReached_71 : decode cX8_isReached 71 = .ok (.iload 4, 2) := by decide +kernel
theorem dX8_isReached_73 : decode cX8_isReached 73 = .ok (.ifCond .eq 7, 3) := by decide +kernel
theorem dX8_isReached_76 : decode cX8_isReached 76 = .ok (.iconst 1, 1) := by decide +kernel
theorem dX8_isReached_77 : decode cX8_isReached 77 = .ok (.goto 4, 3) := by decide +kernel
theorem dX8_isReached_80 : decode cX8_isReached 80 = .ok (.iconst 0, 1) := by decide +kernel
theorem dX8_isReached_81 : decode cX8_isReached 81 = .ok (.ireturn, 1) := by decide +kernel
set_option maxRecDepth 20000 in
theorem ggX8_child_X8_isChild : GoodIn wsX8_child wsX8_isChild := goodIn_r _ [7, 8, 9, 10, 6, 11] (by decide +kernel) (by decide +kernel)
set_option maxRecDepth 20000 in
theorem gX8_child_X8_isChild : GoodIn wsX8_child (va_wsS RX8 91 yX8_isChild wsX8_isChild) := goodIn_app (goodIn_of _ (by decide +kernel)) ggX8_child_X8_isChild
set_option maxRecDepth 20000 in
theorem ggX8_child_X8_in : GoodIn wsX8_child wsX8_in := goodIn_r _ [11] (by decide +kernel) (by decide +kernel)
set_option maxRecDepth 20000 in
theorem gX8_child_X8_in : GoodIn wsX8_child (va_wsS RX8 83 yX8_in wsX8_in) := goodIn_app (goodIn_of _ (by decide +kernel)) ggX8_child_X8_in
set_option maxRecDepth 20000 in
theorem ggX8_child_X8_isReached : GoodIn wsX8_child wsX8_isReached := goodIn_r _ [15, 2, 16, 17, 18, 6, 19, 20, 21, 22, 23, 24, 25, 26, 27, 28, 29, 30, 31, 32, 33, 34, 35, 36, 37, 38, 39, 40, 41, 42, 43, 44, 45, 46, 47, 48, 49, 50, 51, 52, 53, 54, 55, 56] (by decide +kernel) (by decide +kernel)
set_option maxRecDepth 20000 in
theorem gX8_child_X8_isReached : GoodIn wsX8_child (wsV RX8 97 RX8 yX8_isReached wsX8_isReached) := goodIn_app (goodIn_of _ (by decide +kernel)) ggX8_child_X8_isReached
theorem dX8_child_0 : decode cX8_child 0 = .ok (.iload_n 1, 1) := by decide +kernel
theorem dX8_child_1 : decode cX8_child 1 = .ok (.invokestatic 91, 3) := by decide +kernel
theorem dX8_child_4 : decode cX8_child 4 = .ok (.ifCond .ne 5, 3) := by decide +kernel
theorem dX8_child_7 : decode cX8_child 7 = .ok (.iconst (-1), 1) := by decide +kernel
theorem dX8_child_8 : decode cX8_child 8 = .ok (.ireturn, 1) := by decide +kernel
theorem dX8_child_9 : decode cX8_child 9 = .ok (.iload_n 2, 1) := by decide +kernel
theorem dX8_child_10 : decode cX8_child 10 = .ok (.i2l, 1) := by decide +kernel
theorem dX8_child_11 : decode cX8_child 11 = .ok (.lconst 0, 1) := by decide +kernel
theorem dX8_child_12 : decode cX8_child 12 = .ok (.ldc2_w 95, 3) := by decide +kernel
theorem dX8_child_15 : decode cX8_child 15 = .ok (.invokestatic 83, 3) := by decide +kernel
theorem dX8_child_18 : decode cX8_child 18 = .ok (.ifCond .eq 13, 3) := by decide +kernel
theorem dX8_child_21 : decode cX8_child 21 = .ok (.iload_n 3, 1) := by decide +kernel
theorem dX8_child_22 : decode cX8_child 22 = .ok (.i2l, 1) := by decide +kernel
theorem dX8_child_23 : decode cX8_child 23 = .ok (.lconst 0, 1) := by decide +kernel
theorem dX8_child_24 : decode cX8_child 24 = .ok (.lconst 1, 1) := by decide +kernel
theorem dX8_child_25 : decode cX8_child 25 = .ok (.invokestatic 83, 3) := by decide +kernel
theorem dX8_child_28 : decode cX8_child 28 = .ok (.ifCond .ne 6, 3) := by decide +kernel
theorem dX8_child_31 : decode cX8_child 31 = .ok (.bipush (-2), 2) := by decide +kernel
theorem dX8_child_33 : decode cX8_child 33 = .ok (.ireturn, 1) := by decide +kernel
theorem dX8_child_34 : decode cX8_child 34 = .ok (.aload_n 0, 1) := by decide +kernel
theorem dX8_child_35 : decode cX8_child 35 = .ok (.iload_n 1, 1) := by decide +kernel
theorem dX8_child_36 : decode cX8_child 36 = .ok (.iload_n 2, 1) := by decide +kernel
theorem dX8_child_37 : decode cX8_child 37 = .ok (.invokevirtual 97, 3) := by decide +kernel
theorem dX8_child_40 : decode cX8_child 40 = .ok (.ifCond .ne 6, 3) := by decide +kernel
theorem dX8_child_43 : decode cX8_child 43 = .ok (.bipush (-3), 2) := by decide +kernel
theorem dX8_child_45 : decode cX8_child 45 = .ok (.ireturn, 1) := by decide +kernel
theorem dX8_child_46 : decode cX8_child 46 = .ok (.aload_n 0, 1) := by decide +kernel
theorem dX8_child_47 : decode cX8_child 47 = .ok (.getfield 7, 3) := by decide +kernel
theorem dX8_child_50 : decode cX8_child 50 = .ok (.iload_n 1, 1) := by decide +kernel
theorem dX8_child_51 : decode cX8_child 51 = .ok (.iaload, 1) := by decide +kernel
theorem dX8_child_52 : decode cX8_child 52 = .ok (.istore 4, 2) := by decide +kernel
theorem dX8_child_54 : decode cX8_child 54 = .ok (.aload_n 0, 1) := by decide +kernel
theorem dX8_child_55 : decode cX8_child 55 = .ok (.getfield 7, 3) := by decide +kernel
theorem dX8_child_58 : decode cX8_child 58 = .ok (.iload_n 1, 1) := by decide +kernel
theorem dX8_child_59 : decode cX8_child 59 = .ok (.iload_n 2, 1) := by decide +kernel
theorem dX8_child_60 : decode cX8_child 60 = .ok (.iastore, 1) := by decide +kernel
theorem dX8_child_61 : decode cX8_child 61 = .ok (.aload_n 0, 1) := by decide +kernel
theorem dX8_child_62 : decode cX8_child 62 = .ok (.iload_n 3, 1) := by decide +kernel
theorem dX8_child_63 : decode cX8_child 63 = .ok (.iconst 1, 1) := by decide +kernel
theorem dX8_child_64 : decode cX8_child 64 = .ok (.if_icmp .ne 14, 3) := by decide +kernel
theorem dX8_child_67 : decode cX8_child 67 = .ok (.aload_n 0, 1) := by decide +kernel
theorem dX8_child_68 : decode cX8_child 68 = .ok (.getfield 101, 3) := by decide +kernel
theorem dX8_child_71 : decode cX8_child 71 = .ok (.iconst 1, 1) := by decide +kernel
theorem dX8_child_72 : decode cX8_child 72 = .ok (.iload_n 1, 1) := by decide +kernel
theorem dX8_child_73 : decode cX8_child 73 = .ok (.ishl, 1) := by decide +kernel
theorem dX8_child_74 : decode cX8_child 74 = .ok (.ior, 1) := by decide +kernel
theorem dX8_child_75 : decode cX8_child 75 = .ok (.goto 13, 3) := by decide +kernel
theorem dX8_child_78 : decode cX8_child 78 = .ok (.aload_n 0, 1) := by decide +kernel
theorem dX8_child_79 : decode cX8_child 79 = .ok (.getfield 101, 3) := by decide +kernel
theorem dX8_child_82 : decode cX8_child 82 = .ok (.iconst 1, 1) := by decide +kernel
theorem dX8_child_83 : decode cX8_child 83 = .ok (.iload_n 1, 1) := by decide +kernel
theorem dX8_child_84 : decode cX8_child 84 = .ok (.ishl, 1) := by decide +kernel
theorem dX8_child_85 : decode cX8_child 85 = .ok (.iconst (-1), 1) := by decide +kernel
theorem dX8_child_86 : decode cX8_child 86 = .ok (.ixor, 1) := by decide +kernel
theorem dX8_child_87 : decode cX8_child 87 = .ok (.iand, 1) := by decide +kernel
theorem dX8_child_88 : decode cX8_child 88 = .ok (.putfield 101, 3) := by decide +kernel
theorem dX8_child_91 : decode cX8_child 91 = .ok (.iload 4, 2) := by decide +kernel
theorem dX8_child_93 : decode cX8_child 93 = .ok (.ireturn, 1) := by decide +kernel
set_option maxRecDepth 20000 in
theorem ggX8_string_X8_in : GoodIn wsX8_string wsX8_in := goodIn_r _ [8] (by decide +kernel) (by decide +kernel)
set_option maxRecDepth 20000 in
theorem gX8_string_X8_in : GoodIn wsX8_string (va_wsS RX8 83 yX8_in wsX8_in) := goodIn_app (goodIn_of _ (by decide +kernel)) ggX8_string_X8_in
set_option maxRecDepth 20000 in
theorem ggX8_string_X8_off : GoodIn wsX8_string wsX8_off := goodIn_r _ [11] (by decide +kernel) (by decide +kernel)
set_option maxRecDepth 20000 in
theorem gX8_string_X8_off : GoodIn wsX8_string (va_wsS RX8 87 yX8_off wsX8_off) := goodIn_app (goodIn_of _ (by decide +kernel)) ggX8_string_X8_off
theorem dX8_string_0 : decode cX8_string 0 = .ok (.iload_n 1, 1) := by decide +kernel
theorem dX8_string_1 : decode cX8_string 1 = .ok (.i2l, 1) := by decide +kernel
theorem dX8_string_2 : decode cX8_string 2 = .ok (.lconst 0, 1) := by decide +kernel
theorem dX8_string_3 : decode cX8_string 3 = .ok (.ldc2_w 104, 3) := by decide +kernel
theorem dX8_string_6 : decode cX8_string 6 = .ok (.invokestatic 83, 3) := by decide +kernel
theorem dX8_string_9 : decode cX8_string 9 = .ok (.ifCond .ne 5, 3) := by decide +kernel
theorem dX8_string_12 : decode cX8_string 12 = .ok (.iconst (-1), 1) := by decide +kernel
theorem dX8_string_13 : decode cX8_string 13 = .ok (.ireturn, 1) := by decide +kernel
theorem dX8_string_14 : decode cX8_string 14 = .ok (.iload_n 2, 1) := by decide +kernel
theorem dX8_string_15 : decode cX8_string 15 = .ok (.i2l, 1) := by decide +kernel
theorem dX8_string_16 : decode cX8_string 16 = .ok (.lconst 1, 1) := by decide +kernel
theorem dX8_string_17 : decode cX8_string 17 = .ok (.ldc2_w 106, 3) := by decide +kernel
theorem dX8_string_20 : decode cX8_string 20 = .ok (.invokestatic 83, 3) := by decide +kernel
theorem dX8_string_23 : decode cX8_string 23 = .ok (.ifCond .ne 6, 3) := by decide +kernel
theorem dX8_string_26 : decode cX8_string 26 = .ok (.bipush (-2), 2) := by decide +kernel
theorem dX8_string_28 : decode cX8_string 28 = .ok (.ireturn, 1) := by decide +kernel
theorem dX8_string_29 : decode cX8_string 29 = .ok (.aload_n 0, 1) := by decide +kernel
theorem dX8_string_30 : decode cX8_string 30 = .ok (.getfield 7, 3) := by decide +kernel
theorem dX8_string_33 : decode cX8_string 33 = .ok (.iload_n 1, 1) := by decide +kernel
theorem dX8_string_34 : decode cX8_string 34 = .ok (.iaload, 1) := by decide +kernel
theorem dX8_string_35 : decode cX8_string 35 = .ok (.aload_n 0, 1) := by decide +kernel
theorem dX8_string_36 : decode cX8_string 36 = .ok (.getfield 7, 3) := by decide +kernel
theorem dX8_string_39 : decode cX8_string 39 = .ok (.iload_n 1, 1) := by decide +kernel
theorem dX8_string_40 : decode cX8_string 40 = .ok (.iconst 1, 1) := by decide +kernel
theorem dX8_string_41 : decode cX8_string 41 = .ok (.iadd, 1) := by decide +kernel
theorem dX8_string_42 : decode cX8_string 42 = .ok (.iaload, 1) := by decide +kernel
theorem dX8_string_43 : decode cX8_string 43 = .ok (.invokestatic 87, 3) := by decide +kernel
theorem dX8_string_46 : decode cX8_string 46 = .ok (.iload_n 2, 1) := by decide +kernel
theorem dX8_string_47 : decode cX8_string 47 = .ok (.if_icmp .le 6, 3) := by decide +kernel
theorem dX8_string_50 : decode cX8_string 50 = .ok (.bipush (-3), 2) := by decide +kernel
theorem dX8_string_52 : decode cX8_string 52 = .ok (.ireturn, 1) := by decide +kernel
theorem dX8_string_53 : decode cX8_string 53 = .ok (.aload_n 0, 1) := by decide +kernel
theorem dX8_string_54 : decode cX8_string 54 = .ok (.getfield 16, 3) := by decide +kernel
theorem dX8_string_57 : decode cX8_string 57 = .ok (.iload_n 1, 1) := by decide +kernel
theorem dX8_string_58 : decode cX8_string 58 = .ok (.iaload, 1) := by decide +kernel
theorem dX8_string_59 : decode cX8_string 59 = .ok (.istore_n 3, 1) := by decide +kernel
theorem dX8_string_60 : decode cX8_string 60 = .ok (.aload_n 0, 1) := by decide +kernel
theorem dX8_string_61 : decode cX8_string 61 = .ok (.getfield 16, 3) := by decide +kernel
theorem dX8_string_64 : decode cX8_string 64 = .ok (.iload_n 1, 1) := by decide +kernel
theorem dX8_string_65 : decode cX8_string 65 = .ok (.iload_n 2, 1) := by decide +kernel
theorem dX8_string_66 : decode cX8_string 66 = .ok (.iastore, 1) := by decide +kernel
theorem dX8_string_67 : decode cX8_string 67 = .ok (.iload_n 3, 1) := by decide +kernel
theorem dX8_string_68 : decode cX8_string 68 = .ok (.ireturn, 1) := by decide +kernel
set_option maxRecDepth 20000 in
theorem ggX8_ball_X8_in : GoodIn wsX8_ball wsX8_in := goodIn_r _ [6] (by decide +kernel) (by decide +kernel)
set_option maxRecDepth 20000 in
theorem gX8_ball_X8_in : GoodIn wsX8_ball (va_wsS RX8 83 yX8_in wsX8_in) := goodIn_app (goodIn_of _ (by decide +kernel)) ggX8_ball_X8_in
theorem dX8_ball_0 : decode cX8_ball 0 = .ok (.iload_n 1, 1) := by decide +kernel
theorem dX8_ball_1 : decode cX8_ball 1 = .ok (.i2l, 1) := by decide +kernel
theorem dX8_ball_2 : decode cX8_ball 2 = .ok (.lconst 0, 1) := by decide +kernel
theorem dX8_ball_3 : decode cX8_ball 3 = .ok (.ldc2_w 95, 3) := by decide +kernel
theorem dX8_ball_6 : decode cX8_ball 6 = .ok (.invokestatic 83, 3) := by decide +kernel
theorem dX8_ball_9 : decode cX8_ball 9 = .ok (.ifCond .ne 6, 3) := by decide +kernel
theorem dX8_ball_12 : decode cX8_ball 12 = .ok (.bipush (-2), 2) := by decide +kernel
theorem dX8_ball_14 : decode cX8_ball 14 = .ok (.ireturn, 1) := by decide +kernel
theorem dX8_ball_15 : decode cX8_ball 15 = .ok (.aload_n 0, 1) := by decide +kernel
theorem dX8_ball_16 : decode cX8_ball 16 = .ok (.getfield 77, 3) := by decide +kernel
theorem dX8_ball_19 : decode cX8_ball 19 = .ok (.istore_n 2, 1) := by decide +kernel
theorem dX8_ball_20 : decode cX8_ball 20 = .ok (.aload_n 0, 1) := by decide +kernel
theorem dX8_ball_21 : decode cX8_ball 21 = .ok (.iload_n 1, 1) := by decide +kernel
theorem dX8_ball_22 : decode cX8_ball 22 = .ok (.putfield 77, 3) := by decide +kernel
theorem dX8_ball_25 : decode cX8_ball 25 = .ok (.iload_n 2, 1) := by decide +kernel
theorem dX8_ball_26 : decode cX8_ball 26 = .ok (.ireturn, 1) := by decide +kernel
set_option maxRecDepth 20000 in
theorem ggX8_say_X8_in : GoodIn wsX8_say wsX8_in := goodIn_r _ [8] (by decide +kernel) (by decide +kernel)
set_option maxRecDepth 20000 in
theorem gX8_say_X8_in : GoodIn wsX8_say (va_wsS RX8 83 yX8_in wsX8_in) := goodIn_app (goodIn_of _ (by decide +kernel)) ggX8_say_X8_in
theorem dX8_say_0 : decode cX8_say 0 = .ok (.iload_n 1, 1) := by decide +kernel
theorem dX8_say_1 : decode cX8_say 1 = .ok (.i2l, 1) := by decide +kernel
theorem dX8_say_2 : decode cX8_say 2 = .ok (.ldc2_w 108, 3) := by decide +kernel
theorem dX8_say_5 : decode cX8_say 5 = .ok (.ldc2_w 110, 3) := by decide +kernel
theorem dX8_say_8 : decode cX8_say 8 = .ok (.invokestatic 83, 3) := by decide +kernel
theorem dX8_say_11 : decode cX8_say 11 = .ok (.ifCond .ne 6, 3) := by decide +kernel
theorem dX8_say_14 : decode cX8_say 14 = .ok (.bipush (-2), 2) := by decide +kernel
theorem dX8_say_16 : decode cX8_say 16 = .ok (.ireturn, 1) := by decide +kernel
theorem dX8_say_17 : decode cX8_say 17 = .ok (.aload_n 0, 1) := by decide +kernel
theorem dX8_say_18 : decode cX8_say 18 = .ok (.getfield 112, 3) := by decide +kernel
theorem dX8_say_21 : decode cX8_say 21 = .ok (.bipush 60, 2) := by decide +kernel
theorem dX8_say_23 : decode cX8_say 23 = .ok (.if_icmp .ne 6, 3) := by decide +kernel
theorem dX8_say_26 : decode cX8_say 26 = .ok (.bipush (-4), 2) := by decide +kernel
theorem dX8_say_28 : decode cX8_say 28 = .ok (.ireturn, 1) := by decide +kernel
theorem dX8_say_29 : decode cX8_say 29 = .ok (.aload_n 0, 1) := by decide +kernel
theorem dX8_say_30 : decode cX8_say 30 = .ok (.getfield 25, 3) := by decide +kernel
theorem dX8_say_33 : decode cX8_say 33 = .ok (.aload_n 0, 1) := by decide +kernel
theorem dX8_say_34 : decode cX8_say 34 = .ok (.getfield 112, 3) := by decide +kernel
theorem dX8_say_37 : decode cX8_say 37 = .ok (.iload_n 1, 1) := by decide +kernel
theorem dX8_say_38 : decode cX8_say 38 = .ok (.iastore, 1) := by decide +kernel
theorem dX8_say_39 : decode cX8_say 39 = .ok (.aload_n 0, 1) := by decide +kernel
theorem dX8_say_40 : decode cX8_say 40 = .ok (.dup, 1) := by decide +kernel
theorem dX8_say_41 : decode cX8_say 41 = .ok (.getfield 112, 3) := by decide +kernel
theorem dX8_say_44 : decode cX8_say 44 = .ok (.iconst 1, 1) := by decide +kernel
theorem dX8_say_45 : decode cX8_say 45 = .ok (.iadd, 1) := by decide +kernel
theorem dX8_say_46 : decode cX8_say 46 = .ok (.putfield 112, 3) := by decide +kernel
theorem dX8_say_49 : decode cX8_say 49 = .ok (.aload_n 0, 1) := by decide +kernel
theorem dX8_say_50 : decode cX8_say 50 = .ok (.getfield 112, 3) := by decide +kernel
theorem dX8_say_53 : decode cX8_say 53 = .ok (.ireturn, 1) := by decide +kernel
theorem dX8_wipe_0 : decode cX8_wipe 0 = .ok (.aload_n 0, 1) := by decide +kernel
theorem dX8_wipe_1 : decode cX8_wipe 1 = .ok (.getfield 112, 3) := by decide +kernel
theorem dX8_wipe_4 : decode cX8_wipe 4 = .ok (.istore_n 1, 1) := by decide +kernel
theorem dX8_wipe_5 : decode cX8_wipe 5 = .ok (.aload_n 0, 1) := by decide +kernel
theorem dX8_wipe_6 : decode cX8_wipe 6 = .ok (.iconst 0, 1) := by decide +kernel
theorem dX8_wipe_7 : decode cX8_wipe 7 = .ok (.putfield 112, 3) := by decide +kernel
theorem dX8_wipe_10 : decode cX8_wipe 10 = .ok (.iload_n 1, 1) := by decide +kernel
theorem dX8_wipe_11 : decode cX8_wipe 11 = .ok (.ireturn, 1) := by decide +kernel
theorem dX8_close_0 : decode cX8_close 0 = .ok (.aload_n 0, 1) := by decide +kernel
theorem dX8_close_1 : decode cX8_close 1 = .ok (.getfield 28, 3) := by decide +kernel
theorem dX8_close_4 : decode cX8_close 4 = .ok (.aload_n 0, 1) := by decide +kernel
theorem dX8_close_5 : decode cX8_close 5 = .ok (.getfield 115, 3) := by decide +kernel
theorem dX8_close_8 : decode cX8_close 8 = .ok (.iload_n 1, 1) := by decide +kernel
theorem dX8_close_9 : decode cX8_close 9 = .ok (.iastore, 1) := by decide +kernel
theorem dX8_close_10 : decode cX8_close 10 = .ok (.aload_n 0, 1) := by decide +kernel
theorem dX8_close_11 : decode cX8_close 11 = .ok (.dup, 1) := by decide +kernel
theorem dX8_close_12 : decode cX8_close 12 = .ok (.getfield 115, 3) := by decide +kernel
theorem dX8_close_15 : decode cX8_close 15 = .ok (.iconst 1, 1) := by decide +kernel
theorem dX8_close_16 : decode cX8_close 16 = .ok (.iadd, 1) := by decide +kernel
theorem dX8_close_17 : decode cX8_close 17 = .ok (.putfield 115, 3) := by decide +kernel
theorem dX8_close_20 : decode cX8_close 20 = .ok (.iconst 0, 1) := by decide +kernel
theorem dX8_close_21 : decode cX8_close 21 = .ok (.ireturn, 1) := by decide +kernel
set_option maxRecDepth 20000 in
theorem ggX8_begin_X8_in : GoodIn wsX8_begin wsX8_in := goodIn_r _ [9] (by decide +kernel) (by decide +kernel)
set_option maxRecDepth 20000 in
theorem gX8_begin_X8_in : GoodIn wsX8_begin (va_wsS RX8 83 yX8_in wsX8_in) := goodIn_app (goodIn_of _ (by decide +kernel)) ggX8_begin_X8_in
set_option maxRecDepth 20000 in
theorem ggX8_begin_X8_close : GoodIn wsX8_begin wsX8_close := goodIn_r _ [13, 14, 4, 15, 16, 17, 18, 19, 20, 21, 22, 23, 24, 25, 26, 27, 28, 29, 30, 31, 32, 33, 34, 35, 36, 37, 38, 39, 40, 41, 42, 43, 44, 45, 46, 47, 48, 49, 50, 51] (by decide +kernel) (by decide +kernel)
set_option maxRecDepth 20000 in
theorem gX8_begin_X8_close : GoodIn wsX8_begin (wsV RX8 122 RX8 yX8_close wsX8_close) := goodIn_app (goodIn_of _ (by decide +kernel)) ggX8_begin_X8_close
theorem dX8_begin_0 : decode cX8_begin 0 = .ok (.iload_n 1, 1) := by decide +kernel
theorem dX8_begin_1 : decode cX8_begin 1 = .ok (.i2l, 1) := by decide +kernel
theorem dX8_begin_2 : decode cX8_begin 2 = .ok (.ldc2_w 118, 3) := by decide +kernel
theorem dX8_begin_5 : decode cX8_begin 5 = .ok (.ldc2_w 120, 3) := by decide +kernel
theorem dX8_begin_8 : decode cX8_begin 8 = .ok (.invokestatic 83, 3) := by decide +kernel
theorem dX8_begin_11 : decode cX8_begin 11 = .ok (.istore_n 2, 1) := by decide +kernel
theorem dX8_begin_12 : decode cX8_begin 12 = .ok (.aload_n 0, 1) := by decide +kernel
theorem dX8_begin_13 : decode cX8_begin 13 = .ok (.getfield 31, 3) := by decide +kernel
theorem dX8_begin_16 : decode cX8_begin 16 = .ok (.aload_n 0, 1) := by decide +kernel
theorem dX8_begin_17 : decode cX8_begin 17 = .ok (.getfield 115, 3) := by decide +kernel
theorem dX8_begin_20 : decode cX8_begin 20 = .ok (.iload_n 2, 1) := by decide +kernel
theorem dX8_begin_21 : decode cX8_begin 21 = .ok (.ifCond .eq 10, 3) := by decide +kernel
theorem dX8_begin_24 : decode cX8_begin 24 = .ok (.iload_n 1, 1) := by decide +kernel
theorem dX8_begin_25 : decode cX8_begin 25 = .ok (.bipush 65, 2) := by decide +kernel
theorem dX8_begin_27 : decode cX8_begin 27 = .ok (.isub, 1) := by decide +kernel
theorem dX8_begin_28 : decode cX8_begin 28 = .ok (.goto 4, 3) := by decide +kernel
theorem dX8_begin_31 : decode cX8_begin 31 = .ok (.iconst 0, 1) := by decide +kernel
theorem dX8_begin_32 : decode cX8_begin 32 = .ok (.iastore, 1) := by decide +kernel
theorem dX8_begin_33 : decode cX8_begin 33 = .ok (.aload_n 0, 1) := by decide +kernel
theorem dX8_begin_34 : decode cX8_begin 34 = .ok (.getfield 34, 3) := by decide +kernel
theorem dX8_begin_37 : decode cX8_begin 37 = .ok (.aload_n 0, 1) := by decide +kernel
theorem dX8_begin_38 : decode cX8_begin 38 = .ok (.getfield 115, 3) := by decide +kernel
theorem dX8_begin_41 : decode cX8_begin 41 = .ok (.iconst 0, 1) := by decide +kernel
theorem dX8_begin_42 : decode cX8_begin 42 = .ok (.iastore, 1) := by decide +kernel
theorem dX8_begin_43 : decode cX8_begin 43 = .ok (.iload_n 2, 1) := by decide +kernel
theorem dX8_begin_44 : decode cX8_begin 44 = .ok (.ifCond .eq 7, 3) := by decide +kernel
theorem dX8_begin_47 : decode cX8_begin 47 = .ok (.iconst 1, 1) := by decide +kernel
theorem dX8_begin_48 : decode cX8_begin 48 = .ok (.goto 20, 3) := by decide +kernel
theorem dX8_begin_51 : decode cX8_begin 51 = .ok (.iload_n 1, 1) := by decide +kernel
theorem dX8_begin_52 : decode cX8_begin 52 = .ok (.bipush 46, 2) := by decide +kernel
theorem dX8_begin_54 : decode cX8_begin 54 = .ok (.if_icmp .ne 12, 3) := by decide +kernel
theorem dX8_begin_57 : decode cX8_begin 57 = .ok (.aload_n 0, 1) := by decide +kernel
theorem dX8_begin_58 : decode cX8_begin 58 = .ok (.bipush 6, 2) := by decide +kernel
theorem dX8_begin_60 : decode cX8_begin 60 = .ok (.invokevirtual 122, 3) := by decide +kernel
theorem dX8_begin_63 : decode cX8_begin 63 = .ok (.goto 5, 3) := by decide +kernel
theorem dX8_begin_66 : decode cX8_begin 66 = .ok (.bipush (-6), 2) := by decide +kernel
theorem dX8_begin_68 : decode cX8_begin 68 = .ok (.ireturn, 1) := by decide +kernel
set_option maxRecDepth 20000 in
theorem ggX8_deed_X8_close : GoodIn wsX8_deed wsX8_close := goodIn_r _ [5, 6, 7, 8, 9, 10, 11, 12, 13, 14, 15, 16, 17, 18, 19, 20, 21, 22, 23, 24, 25, 26, 27, 28, 29, 30, 31, 32, 33, 34, 35, 36, 37, 38, 39, 40, 41, 42, 43, 44] (by decide +kernel) (by decide +kernel)
set_option maxRecDepth 20000 in
theorem gX8_deed_X8_close : GoodIn wsX8_deed (wsV RX8 122 RX8 yX8_close wsX8_close) := goodIn_app (goodIn_of _ (by decide +kernel)) ggX8_deed_X8_close
theorem dX8_deed_0 : decode cX8_deed 0 = .ok (.iload_n 1, 1) := by decide +kernel
theorem dX8_deed_1 : decode cX8_deed 1 = .ok (.lookupswitch 83 #[(33, 63), (35, 65), (43, 71), (45, 77), (60, 61), (62, 59)], 59) := by decide +kernel
theorem dX8_deed_60 : decode cX8_deed 60 = .ok (.iconst 2, 1) := by decide +kernel
theorem dX8_deed_61 : decode cX8_deed 61 = .ok (.ireturn, 1) := by decide +kernel
theorem dX8_deed_62 : decode cX8_deed 62 = .ok (.iconst 3, 1) := by decide +kernel
theorem dX8_deed_63 : decode cX8_deed 63 = .ok (.ireturn, 1) := by decide +kernel
theorem dX8_deed_64 : decode cX8_deed 64 = .ok (.iconst 4, 1) := by decide +kernel
theorem dX8_deed_65 : decode cX8_deed 65 = .ok (.ireturn, 1) := by decide +kernel
theorem dX8_deed_66 : decode cX8_deed 66 = .ok (.aload_n 0, 1) := by decide +kernel
theorem dX8_deed_67 : decode cX8_deed 67 = .ok (.iconst 2, 1) := by decide +kernel
theorem dX8_deed_68 : decode cX8_deed 68 = .ok (.invokevirtual 122, 3) := by decide +kernel
theorem dX8_deed_71 : decode cX8_deed 71 = .ok (.ireturn, 1) := by decide +kernel
theorem dX8_deed_72 : decode cX8_deed 72 = .ok (.aload_n 0, 1) := by decide +kernel
theorem dX8_deed_73 : decode cX8_deed 73 = .ok (.iconst 4, 1) := by decide +kernel
theorem dX8_deed_74 : decode cX8_deed 74 = .ok (.invokevirtual 122, 3) := by decide +kernel
theorem dX8_deed_77 : decode cX8_deed 77 = .ok (.ireturn, 1) := by decide +kernel
theorem dX8_deed_78 : decode cX8_deed 78 = .ok (.aload_n 0, 1) := by decide +kernel
theorem dX8_deed_79 : decode cX8_deed 79 = .ok (.iconst 5, 1) := by decide +kernel
theorem dX8_deed_80 : decode cX8_deed 80 = .ok (.invokevirtual 122, 3) := by decide +kernel
theorem dX8_deed_83 : decode cX8_deed 83 = .ok (.ireturn, 1) := by decide +kernel
theorem dX8_deed_84 : decode cX8_deed 84 = .ok (.bipush (-6), 2) := by decide +kernel
theorem dX8_deed_86 : decode cX8_deed 86 = .ok (.ireturn, 1) := by decide +kernel
set_option maxRecDepth 20000 in
theorem ggX8_digit_X8_in : GoodIn wsX8_digit wsX8_in := goodIn_r _ [8] (by decide +kernel) (by decide +kernel)
set_option maxRecDepth 20000 in
theorem gX8_digit_X8_in : GoodIn wsX8_digit (va_wsS RX8 83 yX8_in wsX8_in) := goodIn_app (goodIn_of _ (by decide +kernel)) ggX8_digit_X8_in
set_option maxRecDepth 20000 in
theorem ggX8_digit_X8_close : GoodIn wsX8_digit wsX8_close := goodIn_r _ [12, 13, 2, 14, 15, 16, 17, 18, 19, 20, 21, 22, 23, 24, 25, 26, 27, 28, 29, 30, 31, 32, 33, 34, 35, 36, 37, 38, 39, 40, 41, 42, 43, 44, 45, 46, 47, 48, 49, 50] (by decide +kernel) (by decide +kernel)
set_option maxRecDepth 20000 in
theorem gX8_digit_X8_close : GoodIn wsX8_digit (wsV RX8 122 RX8 yX8_close wsX8_close) := goodIn_app (goodIn_of _ (by decide +kernel)) ggX8_digit_X8_close
theorem dX8_digit_0 : decode cX8_digit 0 = .ok (.aload_n 0, 1) := by decide +kernel
theorem dX8_digit_1 : decode cX8_digit 1 = .ok (.getfield 34, 3) := by decide +kernel
theorem dX8_digit_4 : decode cX8_digit 4 = .ok (.aload_n 0, 1) := by decide +kernel
theorem dX8_digit_5 : decode cX8_digit 5 = .ok (.getfield 115, 3) := by decide +kernel
theorem dX8_digit_8 : decode cX8_digit 8 = .ok (.iload_n 2, 1) := by decide +kernel
theorem dX8_digit_9 : decode cX8_digit 9 = .ok (.bipush 48, 2) := by decide +kernel
theorem dX8_digit_11 : decode cX8_digit 11 = .ok (.isub, 1) := by decide +kernel
theorem dX8_digit_12 : decode cX8_digit 12 = .ok (.iastore, 1) := by decide +kernel
theorem dX8_digit_13 : decode cX8_digit 13 = .ok (.iload_n 2, 1) := by decide +kernel
theorem dX8_digit_14 : decode cX8_digit 14 = .ok (.i2l, 1) := by decide +kernel
theorem dX8_digit_15 : decode cX8_digit 15 = .ok (.ldc2_w 126, 3) := by decide +kernel
theorem dX8_digit_18 : decode cX8_digit 18 = .ok (.ldc2_w 128, 3) := by decide +kernel
theorem dX8_digit_21 : decode cX8_digit 21 = .ok (.invokestatic 83, 3) := by decide +kernel
theorem dX8_digit_24 : decode cX8_digit 24 = .ok (.ifCond .eq 29, 3) := by decide +kernel
theorem dX8_digit_27 : decode cX8_digit 27 = .ok (.aload_n 0, 1) := by decide +kernel
theorem dX8_digit_28 : decode cX8_digit 28 = .ok (.iload_n 1, 1) := by decide +kernel
theorem dX8_digit_29 : decode cX8_digit 29 = .ok (.iconst 2, 1) := by decide +kernel
theorem dX8_digit_30 : decode cX8_digit 30 = .ok (.if_icmp .ne 7, 3) := by decide +kernel
theorem dX8_digit_33 : decode cX8_digit 33 = .ok (.iconst 0, 1) := by decide +kernel
theorem dX8_digit_34 : decode cX8_digit 34 = .ok (.goto 13, 3) := by decide +kernel
theorem dX8_digit_37 : decode cX8_digit 37 = .ok (.iload_n 1, 1) := by decide +kernel
theorem dX8_digit_38 : decode cX8_digit 38 = .ok (.iconst 3, 1) := by decide +kernel
theorem dX8_digit_39 : decode cX8_digit 39 = .ok (.if_icmp .ne 7, 3) := by decide +kernel
theorem dX8_digit_42 : decode cX8_digit 42 = .ok (.iconst 1, 1) := by decide +kernel
theorem dX8_digit_43 : decode cX8_digit 43 = .ok (.goto 4, 3) := by decide +kernel
theorem dX8_digit_46 : decode cX8_digit 46 = .ok (.iconst 3, 1) := by decide +kernel
theorem dX8_digit_47 : decode cX8_digit 47 = .ok (.invokevirtual 122, 3) := by decide +kernel
theorem dX8_digit_50 : decode cX8_digit 50 = .ok (.goto 5, 3) := by decide +kernel
theorem dX8_digit_53 : decode cX8_digit 53 = .ok (.bipush (-6), 2) := by decide +kernel
theorem dX8_digit_55 : decode cX8_digit 55 = .ok (.ireturn, 1) := by decide +kernel
set_option maxRecDepth 20000 in
theorem ggX8_readOn_X8_begin : GoodIn wsX8_readOn wsX8_begin := goodIn_r _ [5, 6, 7, 8, 9, 10, 11, 12, 4, 13, 14, 15, 16, 17, 18, 29, 30, 31, 32, 33, 34, 35, 36, 37, 38, 39, 40, 41, 42, 43, 44, 45, 46, 47, 48, 49, 50, 51, 52, 53, 54, 55, 56, 57, 58, 59, 60, 61, 62, 63, 64, 65] (by decide +kernel) (by decide +kernel)
set_option maxRecDepth 20000 in
theorem gX8_readOn_X8_begin : GoodIn wsX8_readOn (wsV RX8 130 RX8 yX8_begin wsX8_begin) := goodIn_app (goodIn_of _ (by decide +kernel)) ggX8_readOn_X8_begin
set_option maxRecDepth 20000 in
theorem ggX8_readOn_X8_deed : GoodIn wsX8_readOn wsX8_deed := goodIn_r _ [22, 14, 15, 16, 4, 17, 18, 9, 29, 30, 31, 32, 33, 34, 35, 36, 37, 38, 39, 40, 41, 42, 43, 44, 45, 46, 47, 48, 49, 50, 51, 52, 53, 54, 55, 56, 57, 58, 59, 60, 61, 62, 63, 64, 65] (by decide +kernel) (by decide +kernel)
set_option maxRecDepth 20000 in
theorem gX8_readOn_X8_deed : GoodIn wsX8_readOn (wsV RX8 133 RX8 yX8_deed wsX8_deed) := goodIn_app (goodIn_of _ (by decide +kernel)) ggX8_readOn_X8_deed
set_option maxRecDepth 20000 in
theorem ggX8_readOn_X8_digit : GoodIn wsX8_readOn wsX8_digit := goodIn_r _ [26, 10, 9, 27, 28, 11, 12, 4, 13, 14, 15, 16, 17, 18, 29, 30, 31, 32, 33, 34, 35, 36, 37, 38, 39, 40, 41, 42, 43, 44, 45, 46, 47, 48, 49, 50, 51, 52, 53, 54, 55, 56, 57, 58, 59, 60, 61, 62, 63, 64, 65] (by decide +kernel) (by decide +kernel)
set_option maxRecDepth 20000 in
theorem gX8_readOn_X8_digit : GoodIn wsX8_readOn (wsV RX8 136 RX8 yX8_digit wsX8_digit) := goodIn_app (goodIn_of _ (by decide +kernel)) ggX8_readOn_X8_digit
theorem dX8_readOn_0 : decode cX8_readOn 0 = .ok (.iload_n 1, 1) := by decide +kernel
theorem dX8_readOn_1 : decode cX8_readOn 1 = .ok (.ifCond .ne 11, 3) := by decide +kernel
theorem dX8_readOn_4 : decode cX8_readOn 4 = .ok (.aload_n 0, 1) := by decide +kernel
theorem dX8_readOn_5 : decode cX8_readOn 5 = .ok (.iload_n 2, 1) := by decide +kernel
theorem dX8_readOn_6 : decode cX8_readOn 6 = .ok (.invokevirtual 130, 3) := by decide +kernel
theorem dX8_readOn_9 : decode cX8_readOn 9 = .ok (.goto 22, 3) := by decide +kernel
theorem dX8_readOn_12 : decode cX8_readOn 12 = .ok (.iload_n 1, 1) := by decide +kernel
theorem dX8_readOn_13 : decode cX8_readOn 13 = .ok (.iconst 1, 1) := by decide +kernel
theorem dX8_readOn_14 : decode cX8_readOn 14 = .ok (.if_icmp .ne 11, 3) := by decide +kernel
theorem dX8_readOn_17 : decode cX8_readOn 17 = .ok (.aload_n 0, 1) := by decide +kernel
theorem dX8_readOn_18 : decode cX8_readOn 18 = .ok (.iload_n 2, 1) := by decide +kernel
theorem dX8_readOn_19 : decode cX8_readOn 19 = .ok (.invokevirtual 133, 3) := by decide +kernel
theorem dX8_readOn_22 : decode cX8_readOn 22 = .ok (.goto 9, 3) := by decide +kernel
theorem dX8_readOn_25 : decode cX8_readOn 25 = .ok (.aload_n 0, 1) := by decide +kernel
theorem dX8_readOn_26 : decode cX8_readOn 26 = .ok (.iload_n 1, 1) := by decide +kernel
theorem dX8_readOn_27 : decode cX8_readOn 27 = .ok (.iload_n 2, 1) := by decide +kernel
theorem dX8_readOn_28 : decode cX8_readOn 28 = .ok (.invokevirtual 136, 3) := by decide +kernel
theorem dX8_readOn_31 : decode cX8_readOn 31 = .ok (.ireturn, 1) := by decide +kernel
set_option maxRecDepth 20000 in
theorem ggX8_fault_X8_readOn : GoodIn wsX8_fault wsX8_readOn := goodIn_r _ [8, 9, 10, 11, 7, 12, 13, 14, 15, 1, 16, 17, 18, 19, 20, 21, 22, 23, 24, 25, 26, 27, 28, 29, 30, 31, 32, 33, 34, 35, 36, 37, 38, 39, 40, 41, 42, 43, 44, 45, 46, 47, 48, 49, 50, 51, 52, 53, 54, 55, 56, 57, 58, 59, 60, 61, 62, 63, 64, 65, 66, 67, 68, 69, 70, 71] (by decide +kernel) (by decide +kernel)
set_option maxRecDepth 20000 in
theorem gX8_fault_X8_readOn : GoodIn wsX8_fault (wsV RX8 139 RX8 yX8_readOn wsX8_readOn) := goodIn_app (goodIn_of _ (by decide +kernel)) ggX8_fault_X8_readOn
theorem dX8_fault_0 : decode cX8_fault 0 = .ok (.aload_n 0, 1) := by decide +kernel
theorem dX8_fault_1 : decode cX8_fault 1 = .ok (.iconst 0, 1) := by decide +kernel
theorem dX8_fault_2 : decode cX8_fault 2 = .ok (.putfield 115, 3) := by decide +kernel
theorem dX8_fault_5 : decode cX8_fault 5 = .ok (.iconst 0, 1) := by decide +kernel
theorem dX8_fault_6 : decode cX8_fault 6 = .ok (.istore_n 1, 1) := by decide +kernel
theorem dX8_fault_7 : decode cX8_fault 7 = .ok (.iconst 0, 1) := by decide +kernel
theorem dX8_fault_8 : decode cX8_fault 8 = .ok (.istore_n 2, 1) := by decide +kernel
theorem dX8_fault_9 : decode cX8_fault 9 = .ok (.iload_n 2, 1) := by decide +kernel
theorem dX8_fault_10 : decode cX8_fault 10 = .ok (.aload_n 0, 1) := by decide +kernel
theorem dX8_fault_11 : decode cX8_fault 11 = .ok (.getfield 112, 3) := by decide +kernel
theorem dX8_fault_14 : decode cX8_fault 14 = .ok (.if_icmp .ge 27, 3) := by decide +kernel
theorem dX8_fault_17 : decode cX8_fault 17 = .ok (.aload_n 0, 1) := by decide +kernel
theorem dX8_fault_18 : decode cX8_fault 18 = .ok (.iload_n 1, 1) := by decide +kernel
theorem dX8_fault_19 : decode cX8_fault 19 = .ok (.aload_n 0, 1) := by decide +kernel
theorem dX8_fault_20 : decode cX8_fault 20 = .ok (.getfield 25, 3) := by decide +kernel
theorem dX8_fault_23 : decode cX8_fault 23 = .ok (.iload_n 2, 1) := by decide +kernel
theorem dX8_fault_24 : decode cX8_fault 24 = .ok (.iaload, 1) := by decide +kernel
theorem dX8_fault_25 : decode cX8_fault 25 = .ok (.invokevirtual 139, 3) := by decide +kernel
theorem dX8_fault_28 : decode cX8_fault 28 = .ok (.istore_n 1, 1) := by decide +kernel
theorem dX8_fault_29 : decode cX8_fault 29 = .ok (.iload_n 1, 1) := by decide +kernel
theorem dX8_fault_30 : decode cX8_fault 30 = .ok (.ifCond .ge 5, 3) := by decide +kernel
theorem dX8_fault_33 : decode cX8_fault 33 = .ok (.iload_n 2, 1) := by decide +kernel
theorem dX8_fault_34 : decode cX8_fault 34 = .ok (.ireturn, 1) := by decide +kernel
theorem dX8_fault_35 : decode cX8_fault 35 = .ok (.iinc 2 1, 3) := by decide +kernel
theorem dX8_fault_38 : decode cX8_fault 38 = .ok (.goto (-29), 3) := by decide +kernel
theorem dX8_fault_41 : decode cX8_fault 41 = .ok (.iload_n 1, 1) := by decide +kernel
theorem dX8_fault_42 : decode cX8_fault 42 = .ok (.ifCond .ne 8, 3) := by decide +kernel
theorem dX8_fault_45 : decode cX8_fault 45 = .ok (.bipush (-6), 2) := by decide +kernel
theorem dX8_fault_47 : decode cX8_fault 47 = .ok (.goto 7, 3) := by decide +kernel
theorem dX8_fault_50 : decode cX8_fault 50 = .ok (.aload_n 0, 1) := by decide +kernel
theorem dX8_fault_51 : decode cX8_fault 51 = .ok (.getfield 112, 3) := by decide +kernel
theorem dX8_fault_54 : decode cX8_fault 54 = .ok (.ireturn, 1) := by decide +kernel
set_option maxRecDepth 20000 in
theorem ggX8_draws_X8_off : GoodIn wsX8_draws wsX8_off := goodIn_r _ [7] (by decide +kernel) (by decide +kernel)
set_option maxRecDepth 20000 in
theorem gX8_draws_X8_off : GoodIn wsX8_draws (va_wsS RX8 87 yX8_off wsX8_off) := goodIn_app (goodIn_of _ (by decide +kernel)) ggX8_draws_X8_off
theorem dX8_draws_0 : decode cX8_draws 0 = .ok (.aload_n 0, 1) := by decide +kernel
theorem dX8_draws_1 : decode cX8_draws 1 = .ok (.getfield 37, 3) := by decide +kernel
theorem dX8_draws_4 : decode cX8_draws 4 = .ok (.iload_n 1, 1) := by decide +kernel
theorem dX8_draws_5 : decode cX8_draws 5 = .ok (.iaload, 1) := by decide +kernel
theorem dX8_draws_6 : decode cX8_draws 6 = .ok (.aload_n 0, 1) := by decide +kernel
theorem dX8_draws_7 : decode cX8_draws 7 = .ok (.getfield 37, 3) := by decide +kernel
theorem dX8_draws_10 : decode cX8_draws 10 = .ok (.iload_n 2, 1) := by decide +kernel
theorem dX8_draws_11 : decode cX8_draws 11 = .ok (.iaload, 1) := by decide +kernel
theorem dX8_draws_12 : decode cX8_draws 12 = .ok (.invokestatic 87, 3) := by decide +kernel
theorem dX8_draws_15 : decode cX8_draws 15 = .ok (.aload_n 0, 1) := by decide +kernel
theorem dX8_draws_16 : decode cX8_draws 16 = .ok (.getfield 16, 3) := by decide +kernel
theorem dX8_draws_19 : decode cX8_draws 19 = .ok (.iload_n 3, 1) := by decide +kernel
theorem dX8_draws_20 : decode cX8_draws 20 = .ok (.iaload, 1) := by decide +kernel
theorem dX8_draws_21 : decode cX8_draws 21 = .ok (.if_icmp .gt 5, 3) := by decide +kernel
theorem dX8_draws_24 : decode cX8_draws 24 = .ok (.iconst 0, 1) := by decide +kernel
theorem dX8_draws_25 : decode cX8_draws 25 = .ok (.ireturn, 1) := by decide +kernel
theorem dX8_draws_26 : decode cX8_draws 26 = .ok (.aload_n 0, 1) := by decide +kernel
theorem dX8_draws_27 : decode cX8_draws 27 = .ok (.getfield 37, 3) := by decide +kernel
theorem dX8_draws_30 : decode cX8_draws 30 = .ok (.iload_n 1, 1) := by decide +kernel
theorem dX8_draws_31 : decode cX8_draws 31 = .ok (.aload_n 0, 1) := by decide +kernel
theorem dX8_draws_32 : decode cX8_draws 32 = .ok (.getfield 37, 3) := by decide +kernel
theorem dX8_draws_35 : decode cX8_draws 35 = .ok (.iload_n 1, 1) := by decide +kernel
theorem dX8_draws_36 : decode cX8_draws 36 = .ok (.iaload, 1) := by decide +kernel
theorem dX8_draws_37 : decode cX8_draws 37 = .ok (.aload_n 0, 1) := by decide +kernel
theorem dX8_draws_38 : decode cX8_draws 38 = .ok (.getfield 37, 3) := by decide +kernel
theorem dX8_draws_41 : decode cX8_draws 41 = .ok (.iload_n 2, 1) := by decide +kernel
theorem dX8_draws_42 : decode cX8_draws 42 = .ok (.iaload, 1) := by decide +kernel
theorem dX8_draws_43 : decode cX8_draws 43 = .ok (.if_icmp .le 19, 3) := by decide +kernel
theorem dX8_draws_46 : decode cX8_draws 46 = .ok (.aload_n 0, 1) := by decide +kernel
theorem dX8_draws_47 : decode cX8_draws 47 = .ok (.getfield 37, 3) := by decide +kernel
theorem dX8_draws_50 : decode cX8_draws 50 = .ok (.iload_n 2, 1) := by decide +kernel
theorem dX8_draws_51 : decode cX8_draws 51 = .ok (.iaload, 1) := by decide +kernel
theorem dX8_draws_52 : decode cX8_draws 52 = .ok (.aload_n 0, 1) := by decide +kernel
theorem dX8_draws_53 : decode cX8_draws 53 = .ok (.getfield 16, 3) := by decide +kernel
theorem dX8_draws_56 : decode cX8_draws 56 = .ok (.iload_n 3, 1) := by decide +kernel
theorem dX8_draws_57 : decode cX8_draws 57 = .ok (.iaload, 1) := by decide +kernel
theorem dX8_draws_58 : decode cX8_draws 58 = .ok (.iadd, 1) := by decide +kernel
theorem dX8_draws_59 : decode cX8_draws 59 = .ok (.goto 16, 3) := by decide +kernel
theorem dX8_draws_62 : decode cX8_draws 62 = .ok (.aload_n 0, 1) := by decide +kernel
theorem dX8_draws_63 : decode cX8_draws 63 = .ok (.getfield 37, 3) := by decide +kernel
theorem dX8_draws_66 : decode cX8_draws 66 = .ok (.iload_n 2, 1) := by decide +kernel
theorem dX8_draws_67 : decode cX8_draws 67 = .ok (.iaload, 1) := by decide +kernel
theorem dX8_draws_68 : decode cX8_draws 68 = .ok (.aload_n 0, 1) := by decide +kernel
theorem dX8_draws_69 : decode cX8_draws 69 = .ok (.getfield 16, 3) := by decide +kernel
theorem dX8_draws_72 : decode cX8_draws 72 = .ok (.iload_n 3, 1) := by decide +kernel
theorem dX8_draws_73 : decode cX8_draws 73 = .ok (.iaload, 1) := by decide +kernel
theorem dX8_draws_74 : decode cX8_draws 74 = .ok (.isub, 1) := by decide +kernel
theorem dX8_draws_75 : decode cX8_draws 75 = .ok (.iastore, 1) := by decide +kernel
theorem dX8_draws_76 : decode cX8_draws 76 = .ok (.aload_n 0, 1) := by decide +kernel
theorem dX8_draws_77 : decode cX8_draws 77 = .ok (.dup, 1) := by decide +kernel
theorem dX8_draws_78 : decode cX8_draws 78 = .ok (.getfield 142, 3) := by decide +kernel
theorem dX8_draws_81 : decode cX8_draws 81 = .ok (.iconst 1, 1) := by decide +kernel
theorem dX8_draws_82 : decode cX8_draws 82 = .ok (.iload_n 1, 1) := by decide +kernel
theorem dX8_draws_83 : decode cX8_draws 83 = .ok (.ishl, 1) := by decide +kernel
theorem dX8_draws_84 : decode cX8_draws 84 = .ok (.ior, 1) := by decide +kernel
theorem dX8_draws_85 : decode cX8_draws 85 = .ok (.putfield 142, 3) := by decide +kernel
theorem dX8_draws_88 : decode cX8_draws 88 = .ok (.iconst 1, 1) := by decide +kernel
theorem dX8_draws_89 : decode cX8_draws 89 = .ok (.ireturn, 1) := by decide +kernel
set_option maxRecDepth 20000 in
theorem ggX8_findThen_X8_draws : GoodIn wsX8_findThen wsX8_draws := goodIn_r _ [8, 1, 9, 3, 10, 11, 7, 12, 13, 14, 15, 16, 17, 18, 19, 20, 21, 22, 23, 24, 25, 26, 27, 28, 29, 30, 31, 32, 33, 34, 35, 36, 37, 38, 39, 40, 41, 42, 43, 44, 45, 46, 47, 48, 49] (by decide +kernel) (by decide +kernel)
set_option maxRecDepth 20000 in
theorem gX8_findThen_X8_draws : GoodIn wsX8_findThen (wsV RX8 145 RX8 yX8_draws wsX8_draws) := goodIn_app (goodIn_of _ (by decide +kernel)) ggX8_findThen_X8_draws
theorem dX8_findThen_0 : decode cX8_findThen 0 = .ok (.iconst 0, 1) := by decide +kernel
theorem dX8_findThen_1 : decode cX8_findThen 1 = .ok (.istore_n 3, 1) := by decide +kernel
theorem dX8_findThen_2 : decode cX8_findThen 2 = .ok (.iload_n 3, 1) := by decide +kernel
theorem dX8_findThen_3 : decode cX8_findThen 3 = .ok (.bipush 10, 2) := by decide +kernel
theorem dX8_findThen_5 : decode cX8_findThen 5 = .ok (.if_icmp .ge 21, 3) := by decide +kernel
theorem dX8_findThen_8 : decode cX8_findThen 8 = .ok (.aload_n 0, 1) := by decide +kernel
theorem dX8_findThen_9 : decode cX8_findThen 9 = .ok (.getfield 37, 3) := by decide +kernel
theorem dX8_findThen_12 : decode cX8_findThen 12 = .ok (.iload_n 3, 1) := by decide +kernel
theorem dX8_findThen_13 : decode cX8_findThen 13 = .ok (.aload_n 0, 1) := by decide +kernel
theorem dX8_findThen_14 : decode cX8_findThen 14 = .ok (.getfield 7, 3) := by decide +kernel
theorem dX8_findThen_17 : decode cX8_findThen 17 = .ok (.iload_n 3, 1) := by decide +kernel
theorem dX8_findThen_18 : decode cX8_findThen 18 = .ok (.iaload, 1) := by decide +kernel
theorem dX8_findThen_19 : decode cX8_findThen 19 = .ok (.iastore, 1) := by decide +kernel
theorem dX8_findThen_20 : decode cX8_findThen 20 = .ok (.iinc 3 1, 3) := by decide +kernel
theorem dX8_findThen_23 : decode cX8_findThen 23 = .ok (.goto (-21), 3) := by decide +kernel
theorem dX8_findThen_26 : decode cX8_findThen 26 = .ok (.aload_n 0, 1) := by decide +kernel
theorem dX8_findThen_27 : decode cX8_findThen 27 = .ok (.iconst 0, 1) := by decide +kernel
theorem dX8_findThen_28 : decode cX8_findThen 28 = .ok (.putfield 142, 3) := by decide +kernel
theorem dX8_findThen_31 : decode cX8_findThen 31 = .ok (.aload_n 0, 1) := by decide +kernel
theorem dX8_findThen_32 : decode cX8_findThen 32 = .ok (.getfield 37, 3) := by decide +kernel
theorem dX8_findThen_35 : decode cX8_findThen 35 = .ok (.iload_n 1, 1) := by decide +kernel
theorem dX8_findThen_36 : decode cX8_findThen 36 = .ok (.dup2, 1) := by decide +kernel
theorem dX8_findThen_37 : decode cX8_findThen 37 = .ok (.iaload, 1) := by decide +kernel
theorem dX8_findThen_38 : decode cX8_findThen 38 = .ok (.iload_n 2, 1) := by decide +kernel
theorem dX8_findThen_39 : decode cX8_findThen 39 = .ok (.iadd, 1) := by decide +kernel
theorem dX8_findThen_40 : decode cX8_findThen 40 = .ok (.iastore, 1) := by decide +kernel
theorem dX8_findThen_41 : decode cX8_findThen 41 = .ok (.iconst 1, 1) := by decide +kernel
theorem dX8_findThen_42 : decode cX8_findThen 42 = .ok (.istore_n 3, 1) := by decide +kernel
theorem dX8_findThen_43 : decode cX8_findThen 43 = .ok (.iload_n 1, 1) := by decide +kernel
theorem dX8_findThen_44 : decode cX8_findThen 44 = .ok (.iconst 1, 1) := by decide +kernel
theorem dX8_findThen_45 : decode cX8_findThen 45 = .ok (.iadd, 1) := by decide +kernel
theorem dX8_findThen_46 : decode cX8_findThen 46 = .ok (.istore 4, 2) := by decide +kernel
theorem dX8_findThen_48 : decode cX8_findThen 48 = .ok (.iload 4, 2) := by decide +kernel
theorem dX8_findThen_50 : decode cX8_findThen 50 = .ok (.bipush 10, 2) := by decide +kernel
theorem dX8_findThen_52 : decode cX8_findThen 52 = .ok (.if_icmp .ge 28, 3) := by decide +kernel
theorem dX8_findThen_55 : decode cX8_findThen 55 = .ok (.iload_n 3, 1) := by decide +kernel
theorem dX8_findThen_56 : decode cX8_findThen 56 = .ok (.ifCond .eq 24, 3) := by decide +kernel
theorem dX8_findThen_59 : decode cX8_findThen 59 = .ok (.aload_n 0, 1) := by decide +kernel
theorem dX8_findThen_60 : decode cX8_findThen 60 = .ok (.iload 4, 2) := by decide +kernel
theorem dX8_findThen_62 : decode cX8_findThen 62 = .ok (.iload 4, 2) := by decide +kernel
theorem dX8_findThen_64 : decode cX8_findThen 64 = .ok (.iconst 1, 1) := by decide +kernel
theorem dX8_findThen_65 : decode cX8_findThen 65 = .ok (.isub, 1) := by decide +kernel
theorem dX8_findThen_66 : decode cX8_findThen 66 = .ok (.iload 4, 2) := by decide +kernel
theorem dX8_findThen_68 : decode cX8_findThen 68 = .ok (.iconst 1, 1) := by decide +kernel
theorem dX8_findThen_69 : decode cX8_findThen 69 = .ok (.isub, 1) := by decide +kernel
theorem dX8_findThen_70 : decode cX8_findThen 70 = .ok (.invokevirtual 145, 3) := by decide +kernel
theorem dX8_findThen_73 : decode cX8_findThen 73 = .ok (.istore_n 3, 1) := by decide +kernel
theorem dX8_findThen_74 : decode cX8_findThen 74 = .ok (.iinc 4 1, 3) := by decide +kernel
theorem dX8_findThen_77 : decode cX8_findThen 77 = .ok (.goto (-29), 3) := by decide +kernel
theorem dX8_findThen_80 : decode cX8_findThen 80 = .ok (.iconst 1, 1) := by decide +kernel
theorem dX8_findThen_81 : decode cX8_findThen 81 = .ok (.istore_n 3, 1) := by decide +kernel
theorem dX8_findThen_82 : decode cX8_findThen 82 = .ok (.iload_n 1, 1) := by decide +kernel
theorem dX8_findThen_83 : decode cX8_findThen 83 = .ok (.iconst 1, 1) := by decide +kernel
theorem dX8_findThen_84 : decode cX8_findThen 84 = .ok (.isub, 1) := by decide +kernel
theorem dX8_findThen_85 : decode cX8_findThen 85 = .ok (.istore 4, 2) := by decide +kernel
theorem dX8_findThen_87 : decode cX8_findThen 87 = .ok (.iload 4, 2) := by decide +kernel
theorem dX8_findThen_89 : decode cX8_findThen 89 = .ok (.ifCond .lt 26, 3) := by decide +kernel
theorem dX8_findThen_92 : decode cX8_findThen 92 = .ok (.iload_n 3, 1) := by decide +kernel
theorem dX8_findThen_93 : decode cX8_findThen 93 = .ok (.ifCond .eq 22, 3) := by decide +kernel
theorem dX8_findThen_96 : decode cX8_findThen 96 = .ok (.aload_n 0, 1) := by decide +kernel
theorem dX8_findThen_97 : decode cX8_findThen 97 = .ok (.iload 4, 2) := by decide +kernel
theorem dX8_findThen_99 : decode cX8_findThen 99 = .ok (.iload 4, 2) := by decide +kernel
theorem dX8_findThen_101 : decode cX8_findThen 101 = .ok (.iconst 1, 1) := by decide +kernel
theorem dX8_findThen_102 : decode cX8_findThen 102 = .ok (.iadd, 1) := by decide +kernel
theorem dX8_findThen_103 : decode cX8_findThen 103 = .ok (.iload 4, 2) := by decide +kernel
theorem dX8_findThen_105 : decode cX8_findThen 105 = .ok (.invokevirtual 145, 3) := by decide +kernel
theorem dX8_findThen_108 : decode cX8_findThen 108 = .ok (.istore_n 3, 1) := by decide +kernel
theorem dX8_findThen_109 : decode cX8_findThen 109 = .ok (.iinc 4 (-1), 3) := by decide +kernel
theorem dX8_findThen_112 : decode cX8_findThen 112 = .ok (.goto (-25), 3) := by decide +kernel
theorem dX8_findThen_115 : decode cX8_findThen 115 = .ok (.return_, 1) := by decide +kernel
set_option maxRecDepth 20000 in
theorem ggX8_whyNotGo_X8_in : GoodIn wsX8_whyNotGo wsX8_in := goodIn_r _ [8] (by decide +kernel) (by decide +kernel)
set_option maxRecDepth 20000 in
theorem gX8_whyNotGo_X8_in : GoodIn wsX8_whyNotGo (va_wsS RX8 83 yX8_in wsX8_in) := goodIn_app (goodIn_of _ (by decide +kernel)) ggX8_whyNotGo_X8_in
set_option maxRecDepth 20000 in
theorem ggX8_whyNotGo_X8_findThen : GoodIn wsX8_whyNotGo wsX8_findThen := goodIn_r _ [12, 13, 1, 4, 14, 15, 16, 7, 17, 18, 19, 20, 21, 25, 26, 27, 28, 29, 30, 31, 32, 33, 34, 35, 36, 37, 38, 39, 40, 41, 42, 43, 44, 45, 46, 47, 48, 49, 50, 51, 52, 53, 54, 55, 56, 57, 58, 59, 60, 61] (by decide +kernel) (by decide +kernel)
set_option maxRecDepth 20000 in
theorem gX8_whyNotGo_X8_findThen : GoodIn wsX8_whyNotGo (wsV RX8 149 RX8 yX8_findThen wsX8_findThen) := goodIn_app (goodIn_of _ (by decide +kernel)) ggX8_whyNotGo_X8_findThen
set_option maxRecDepth 20000 in
theorem ggX8_whyNotGo_X8_has : GoodIn wsX8_whyNotGo wsX8_has := goodIn_r _ [24] (by decide +kernel) (by decide +kernel)
set_option maxRecDepth 20000 in
theorem gX8_whyNotGo_X8_has : GoodIn wsX8_whyNotGo (va_wsS RX8 153 yX8_has wsX8_has) := goodIn_app (goodIn_of _ (by decide +kernel)) ggX8_whyNotGo_X8_has
theorem dX8_whyNotGo_0 : decode cX8_whyNotGo 0 = .ok (.aload_n 0, 1) := by decide +kernel
theorem dX8_whyNotGo_1 : decode cX8_whyNotGo 1 = .ok (.getfield 7, 3) := by decide +kernel
theorem dX8_whyNotGo_4 : decode cX8_whyNotGo 4 = .ok (.iload_n 1, 1) := by decide +kernel
theorem dX8_whyNotGo_5 : decode cX8_whyNotGo 5 = .ok (.iaload, 1) := by decide +kernel
theorem dX8_whyNotGo_6 : decode cX8_whyNotGo 6 = .ok (.iload_n 2, 1) := by decide +kernel
theorem dX8_whyNotGo_7 : decode cX8_whyNotGo 7 = .ok (.iadd, 1) := by decide +kernel
theorem dX8_whyNotGo_8 : decode cX8_whyNotGo 8 = .ok (.i2l, 1) := by decide +kernel
theorem dX8_whyNotGo_9 : decode cX8_whyNotGo 9 = .ok (.lconst 0, 1) := by decide +kernel
theorem dX8_whyNotGo_10 : decode cX8_whyNotGo 10 = .ok (.ldc2_w 95, 3) := by decide +kernel
theorem dX8_whyNotGo_13 : decode cX8_whyNotGo 13 = .ok (.invokestatic 83, 3) := by decide +kernel
theorem dX8_whyNotGo_16 : decode cX8_whyNotGo 16 = .ok (.ifCond .ne 5, 3) := by decide +kernel
theorem dX8_whyNotGo_19 : decode cX8_whyNotGo 19 = .ok (.iconst 1, 1) := by decide +kernel
theorem dX8_whyNotGo_20 : decode cX8_whyNotGo 20 = .ok (.ireturn, 1) := by decide +kernel
theorem dX8_whyNotGo_21 : decode cX8_whyNotGo 21 = .ok (.aload_n 0, 1) := by decide +kernel
theorem dX8_whyNotGo_22 : decode cX8_whyNotGo 22 = .ok (.iload_n 1, 1) := by decide +kernel
theorem dX8_whyNotGo_23 : decode cX8_whyNotGo 23 = .ok (.iload_n 2, 1) := by decide +kernel
theorem dX8_whyNotGo_24 : decode cX8_whyNotGo 24 = .ok (.invokevirtual 149, 3) := by decide +kernel
theorem dX8_whyNotGo_27 : decode cX8_whyNotGo 27 = .ok (.aload_n 0, 1) := by decide +kernel
theorem dX8_whyNotGo_28 : decode cX8_whyNotGo 28 = .ok (.getfield 101, 3) := by decide +kernel
theorem dX8_whyNotGo_31 : decode cX8_whyNotGo 31 = .ok (.iload_n 1, 1) := by decide +kernel
theorem dX8_whyNotGo_32 : decode cX8_whyNotGo 32 = .ok (.invokestatic 153, 3) := by decide +kernel
theorem dX8_whyNotGo_35 : decode cX8_whyNotGo 35 = .ok (.ifCond .ne 15, 3) := by decide +kernel
theorem dX8_whyNotGo_38 : decode cX8_whyNotGo 38 = .ok (.aload_n 0, 1) := by decide +kernel
theorem dX8_whyNotGo_39 : decode cX8_whyNotGo 39 = .ok (.getfield 142, 3) := by decide +kernel
theorem dX8_whyNotGo_42 : decode cX8_whyNotGo 42 = .ok (.aload_n 0, 1) := by decide +kernel
theorem dX8_whyNotGo_43 : decode cX8_whyNotGo 43 = .ok (.getfield 101, 3) := by decide +kernel
theorem dX8_whyNotGo_46 : decode cX8_whyNotGo 46 = .ok (.iand, 1) := by decide +kernel
theorem dX8_whyNotGo_47 : decode cX8_whyNotGo 47 = .ok (.ifCond .eq 7, 3) := by decide +kernel
theorem dX8_whyNotGo_50 : decode cX8_whyNotGo 50 = .ok (.iconst 2, 1) := by decide +kernel
theorem dX8_whyNotGo_51 : decode cX8_whyNotGo 51 = .ok (.goto 4, 3) := by decide +kernel
theorem dX8_whyNotGo_54 : decode cX8_whyNotGo 54 = .ok (.iconst 0, 1) := by decide +kernel
theorem dX8_whyNotGo_55 : decode cX8_whyNotGo 55 = .ok (.ireturn, 1) := by decide +kernel
set_option maxRecDepth 20000 in
theorem ggX8_isTaut_X8_off : GoodIn wsX8_isTaut wsX8_off := goodIn_r _ [6] (by decide +kernel) (by decide +kernel)
set_option maxRecDepth 20000 in
theorem gX8_isTaut_X8_off : GoodIn wsX8_isTaut (va_wsS RX8 87 yX8_off wsX8_off) := goodIn_app (goodIn_of _ (by decide +kernel)) ggX8_isTaut_X8_off
theorem dX8_isTaut_0 : decode cX8_isTaut 0 = .ok (.aload_n 0, 1) := by decide +kernel
theorem dX8_isTaut_1 : decode cX8_isTaut 1 = .ok (.getfield 7, 3) := by decide +kernel
theorem dX8_isTaut_4 : decode cX8_isTaut 4 = .ok (.iload_n 1, 1) := by decide +kernel
theorem dX8_isTaut_5 : decode cX8_isTaut 5 = .ok (.iaload, 1) := by decide +kernel
theorem dX8_isTaut_6 : decode cX8_isTaut 6 = .ok (.aload_n 0, 1) := by decide +kernel
theorem dX8_isTaut_7 : decode cX8_isTaut 7 = .ok (.getfield 7, 3) := by decide +kernel
theorem dX8_isTaut_10 : decode cX8_isTaut 10 = .ok (.iload_n 1, 1) := by decide +kernel
theorem dX8_isTaut_11 : decode cX8_isTaut 11 = .ok (.iconst 1, 1) := by decide +kernel
theorem dX8_isTaut_12 : decode cX8_isTaut 12 = .ok (.iadd, 1) := by decide +kernel
theorem dX8_isTaut_13 : decode cX8_isTaut 13 = .ok (.iaload, 1) := by decide +kernel
theorem dX8_isTaut_14 : decode cX8_isTaut 14 = .ok (.invokestatic 87, 3) := by decide +kernel
theorem dX8_isTaut_17 : decode cX8_isTaut 17 = .ok (.aload_n 0, 1) := by decide +kernel
theorem dX8_isTaut_18 : decode cX8_isTaut 18 = .ok (.getfield 16, 3) := by decide +kernel
theorem dX8_isTaut_21 : decode cX8_isTaut 21 = .ok (.iload_n 1, 1) := by decide +kernel
theorem dX8_isTaut_22 : decode cX8_isTaut 22 = .ok (.iaload, 1) := by decide +kernel
theorem dX8_isTaut_23 : decode cX8_isTaut 23 = .ok (.if_icmp .ne 7, 3) := by decide +kernel
theorem dX8_isTaut_26 : decode cX8_isTaut 26 = .ok (.iconst 1, 1) := by decide +kernel
theorem dX8_isTaut_27 : decode cX8_isTaut 27 = .ok (.goto 4, 3) := by decide +kernel
theorem dX8_isTaut_30 : decode cX8_isTaut 30 = .ok (.iconst 0, 1) := by decide +kernel
theorem dX8_isTaut_31 : decode cX8_isTaut 31 = .ok (.ireturn, 1) := by decide +kernel
theorem dX8_whyNotLet_0 : decode cX8_whyNotLet 0 = .ok (.iload_n 1, 1) := by decide +kernel
theorem dX8_whyNotLet_1 : decode cX8_whyNotLet 1 = .ok (.bipush 9, 2) := by decide +kernel
theorem dX8_whyNotLet_3 : decode cX8_whyNotLet 3 = .ok (.if_icmp .ne 7, 3) := by decide +kernel
theorem dX8_whyNotLet_6 : decode cX8_whyNotLet 6 = .ok (.iconst 3, 1) := by decide +kernel
theorem dX8_whyNotLet_7 : decode cX8_whyNotLet 7 = .ok (.goto 30, 3) := by decide +kernel
theorem dX8_whyNotLet_10 : decode cX8_whyNotLet 10 = .ok (.aload_n 0, 1) := by decide +kernel
theorem dX8_whyNotLet_11 : decode cX8_whyNotLet 11 = .ok (.getfield 77, 3) := by decide +kernel
theorem dX8_whyNotLet_14 : decode cX8_whyNotLet 14 = .ok (.ifCond .ne 7, 3) := by decide +kernel
theorem dX8_whyNotLet_17 : decode cX8_whyNotLet 17 = .ok (.iconst 4, 1) := by decide +kernel
theorem dX8_whyNotLet_18 : decode cX8_whyNotLet 18 = .ok (.goto 19, 3) := by decide +kernel
theorem dX8_whyNotLet_21 : decode cX8_whyNotLet 21 = .ok (.aload_n 0, 1) := by decide +kernel
theorem dX8_whyNotLet_22 : decode cX8_whyNotLet 22 = .ok (.getfield 16, 3) := by decide +kernel
theorem dX8_whyNotLet_25 : decode cX8_whyNotLet 25 = .ok (.iload_n 1, 1) := by decide +kernel
theorem dX8_whyNotLet_26 : decode cX8_whyNotLet 26 = .ok (.iaload, 1) := by decide +kernel
theorem dX8_whyNotLet_27 : decode cX8_whyNotLet 27 = .ok (.bipush 99, 2) := by decide +kernel
theorem dX8_whyNotLet_29 : decode cX8_whyNotLet 29 = .ok (.if_icmp .ne 7, 3) := by decide +kernel
theorem dX8_whyNotLet_32 : decode cX8_whyNotLet 32 = .ok (.iconst 5, 1) := by decide +kernel
theorem dX8_whyNotLet_33 : decode cX8_whyNotLet 33 = .ok (.goto 4, 3) := by decide +kernel
theorem dX8_whyNotLet_36 : decode cX8_whyNotLet 36 = .ok (.iconst 0, 1) := by decide +kernel
theorem dX8_whyNotLet_37 : decode cX8_whyNotLet 37 = .ok (.ireturn, 1) := by decide +kernel
set_option maxRecDepth 20000 in
theorem ggX8_whyNotTake_X8_isTaut : GoodIn wsX8_whyNotTake wsX8_isTaut := goodIn_r _ [6, 7, 1, 8, 9, 5, 10, 11, 12, 13, 14, 15, 16, 17, 18, 19, 20, 21, 22, 23, 24, 25, 26, 27, 28, 29, 30, 31, 32, 33, 34, 35, 36, 37, 38, 39, 40, 41, 42, 43, 44, 45, 46, 47] (by decide +kernel) (by decide +kernel)
set_option maxRecDepth 20000 in
theorem gX8_whyNotTake_X8_isTaut : GoodIn wsX8_whyNotTake (wsV RX8 156 RX8 yX8_isTaut wsX8_isTaut) := goodIn_app (goodIn_of _ (by decide +kernel)) ggX8_whyNotTake_X8_isTaut
theorem dX8_whyNotTake_0 : decode cX8_whyNotTake 0 = .ok (.iload_n 1, 1) := by decide +kernel
theorem dX8_whyNotTake_1 : decode cX8_whyNotTake 1 = .ok (.bipush 9, 2) := by decide +kernel
theorem dX8_whyNotTake_3 : decode cX8_whyNotTake 3 = .ok (.if_icmp .ne 7, 3) := by decide +kernel
theorem dX8_whyNotTake_6 : decode cX8_whyNotTake 6 = .ok (.iconst 3, 1) := by decide +kernel
theorem dX8_whyNotTake_7 : decode cX8_whyNotTake 7 = .ok (.goto 26, 3) := by decide +kernel
theorem dX8_whyNotTake_10 : decode cX8_whyNotTake 10 = .ok (.aload_n 0, 1) := by decide +kernel
theorem dX8_whyNotTake_11 : decode cX8_whyNotTake 11 = .ok (.iload_n 1, 1) := by decide +kernel
theorem dX8_whyNotTake_12 : decode cX8_whyNotTake 12 = .ok (.invokevirtual 156, 3) := by decide +kernel
theorem dX8_whyNotTake_15 : decode cX8_whyNotTake 15 = .ok (.ifCond .ne 13, 3) := by decide +kernel
theorem dX8_whyNotTake_18 : decode cX8_whyNotTake 18 = .ok (.aload_n 0, 1) := by decide +kernel
theorem dX8_whyNotTake_19 : decode cX8_whyNotTake 19 = .ok (.getfield 16, 3) := by decide +kernel
theorem dX8_whyNotTake_22 : decode cX8_whyNotTake 22 = .ok (.iload_n 1, 1) := by decide +kernel
theorem dX8_whyNotTake_23 : decode cX8_whyNotTake 23 = .ok (.iaload, 1) := by decide +kernel
theorem dX8_whyNotTake_24 : decode cX8_whyNotTake 24 = .ok (.iconst 1, 1) := by decide +kernel
theorem dX8_whyNotTake_25 : decode cX8_whyNotTake 25 = .ok (.if_icmp .ne 7, 3) := by decide +kernel
theorem dX8_whyNotTake_28 : decode cX8_whyNotTake 28 = .ok (.iconst 5, 1) := by decide +kernel
theorem dX8_whyNotTake_29 : decode cX8_whyNotTake 29 = .ok (.goto 4, 3) := by decide +kernel
theorem dX8_whyNotTake_32 : decode cX8_whyNotTake 32 = .ok (.iconst 0, 1) := by decide +kernel
theorem dX8_whyNotTake_33 : decode cX8_whyNotTake 33 = .ok (.ireturn, 1) := by decide +kernel
set_option maxRecDepth 20000 in
theorem ggX8_whyNot_X8_whyNotGo : GoodIn wsX8_whyNot wsX8_whyNotGo := goodIn_r _ [6, 7, 8, 9, 10, 11, 12, 5, 13, 14, 15, 16, 17, 18, 19, 20, 21, 22, 23, 24, 25, 26, 27, 28, 29, 43, 44, 45, 46, 47, 48, 49, 50, 51, 52, 53, 54, 55, 56, 57, 58, 59, 60, 61, 62, 63, 64, 65, 66, 67, 68, 69, 70, 71, 72, 73, 74, 75, 76, 77, 78, 79] (by decide +kernel) (by decide +kernel)
set_option maxRecDepth 20000 in
theorem gX8_whyNot_X8_whyNotGo : GoodIn wsX8_whyNot (wsV RX8 159 RX8 yX8_whyNotGo wsX8_whyNotGo) := goodIn_app (goodIn_of _ (by decide +kernel)) ggX8_whyNot_X8_whyNotGo
set_option maxRecDepth 20000 in
theorem ggX8_whyNot_X8_whyNotLet : GoodIn wsX8_whyNot wsX8_whyNotLet := goodIn_r _ [33, 34, 23, 43, 44, 45, 46, 47, 48, 49, 50, 51, 52, 53, 54, 55, 56, 57, 58, 59, 60, 61, 62, 63, 64, 65, 66, 67, 68, 69, 70, 71, 72, 73, 74, 75, 76, 77, 78, 79] (by decide +kernel) (by decide +kernel)
set_option maxRecDepth 20000 in
theorem gX8_whyNot_X8_whyNotLet : GoodIn wsX8_whyNot (wsV RX8 162 RX8 yX8_whyNotLet wsX8_whyNotLet) := goodIn_app (goodIn_of _ (by decide +kernel)) ggX8_whyNot_X8_whyNotLet
set_option maxRecDepth 20000 in
theorem ggX8_whyNot_X8_whyNotTake : GoodIn wsX8_whyNot wsX8_whyNotTake := goodIn_r _ [38, 23, 39, 40, 41, 5, 42, 7, 24, 25, 26, 43, 44, 45, 46, 47, 48, 49, 50, 51, 52, 53, 54, 55, 56, 57, 58, 59, 60, 61, 62, 63, 64, 65, 66, 67, 68, 69, 70, 71, 72, 73, 74, 75, 76, 77, 78, 79] (by decide +kernel) (by decide +kernel)
set_option maxRecDepth 20000 in
theorem gX8_whyNot_X8_whyNotTake : GoodIn wsX8_whyNot (wsV RX8 165 RX8 yX8_whyNotTake wsX8_whyNotTake) := goodIn_app (goodIn_of _ (by decide +kernel)) ggX8_whyNot_X8_whyNotTake
theorem dX8_whyNot_0 : decode cX8_whyNot 0 = .ok (.iload_n 1, 1) := by decide +kernel
theorem dX8_whyNot_1 : decode cX8_whyNot 1 = .ok (.tableswitch 86 0 6 #[43, 50, 86, 86, 58, 64, 70], 43) := by decide +kernel
theorem dX8_whyNot_44 : decode cX8_whyNot 44 = .ok (.aload_n 0, 1) := by decide +kernel
theorem dX8_whyNot_45 : decode cX8_whyNot 45 = .ok (.iload_n 2, 1) := by decide +kernel
theorem dX8_whyNot_46 : decode cX8_whyNot 46 = .ok (.iload_n 3, 1) := by decide +kernel
theorem dX8_whyNot_47 : decode cX8_whyNot 47 = .ok (.invokevirtual 159, 3) := by decide +kernel
theorem dX8_whyNot_50 : decode cX8_whyNot 50 = .ok (.ireturn, 1) := by decide +kernel
theorem dX8_whyNot_51 : decode cX8_whyNot 51 = .ok (.aload_n 0, 1) := by decide +kernel
theorem dX8_whyNot_52 : decode cX8_whyNot 52 = .ok (.iload_n 2, 1) := by decide +kernel
theorem dX8_whyNot_53 : decode cX8_whyNot 53 = .ok (.iload_n 3, 1) := by decide +kernel
theorem dX8_whyNot_54 : decode cX8_whyNot 54 = .ok (.ineg, 1) := by decide +kernel
theorem dX8_whyNot_55 : decode cX8_whyNot 55 = .ok (.invokevirtual 159, 3) := by decide +kernel
theorem dX8_whyNot_58 : decode cX8_whyNot 58 = .ok (.ireturn, 1) := by decide +kernel
theorem dX8_whyNot_59 : decode cX8_whyNot 59 = .ok (.aload_n 0, 1) := by decide +kernel
theorem dX8_whyNot_60 : decode cX8_whyNot 60 = .ok (.iload_n 2, 1) := by decide +kernel
theorem dX8_whyNot_61 : decode cX8_whyNot 61 = .ok (.invokevirtual 162, 3) := by decide +kernel
theorem dX8_whyNot_64 : decode cX8_whyNot 64 = .ok (.ireturn, 1) := by decide +kernel
theorem dX8_whyNot_65 : decode cX8_whyNot 65 = .ok (.aload_n 0, 1) := by decide +kernel
theorem dX8_whyNot_66 : decode cX8_whyNot 66 = .ok (.iload_n 2, 1) := by decide +kernel
theorem dX8_whyNot_67 : decode cX8_whyNot 67 = .ok (.invokevirtual 165, 3) := by decide +kernel
theorem dX8_whyNot_70 : decode cX8_whyNot 70 = .ok (.ireturn, 1) := by decide +kernel
theorem dX8_whyNot_71 : decode cX8_whyNot 71 = .ok (.aload_n 0, 1) := by decide +kernel
theorem dX8_whyNot_72 : decode cX8_whyNot 72 = .ok (.getfield 168, 3) := by decide +kernel
theorem dX8_whyNot_75 : decode cX8_whyNot 75 = .ok (.bipush 99, 2) := by decide +kernel
theorem dX8_whyNot_77 : decode cX8_whyNot 77 = .ok (.if_icmp .ne 8, 3) := by decide +kernel
theorem dX8_whyNot_80 : decode cX8_whyNot 80 = .ok (.bipush 6, 2) := by decide +kernel
theorem dX8_whyNot_82 : decode cX8_whyNot 82 = .ok (.goto 4, 3) := by decide +kernel
theorem dX8_whyNot_85 : decode cX8_whyNot 85 = .ok (.iconst 0, 1) := by decide +kernel
theorem dX8_whyNot_86 : decode cX8_whyNot 86 = .ok (.ireturn, 1) := by decide +kernel
theorem dX8_whyNot_87 : decode cX8_whyNot 87 = .ok (.iconst 0, 1) := by decide +kernel
theorem dX8_whyNot_88 : decode cX8_whyNot 88 = .ok (.ireturn, 1) := by decide +kernel
theorem dX8_ones_0 : decode cX8_ones 0 = .ok (.iconst 0, 1) := by decide +kernel
theorem dX8_ones_1 : decode cX8_ones 1 = .ok (.istore_n 1, 1) := by decide +kernel
theorem dX8_ones_2 : decode cX8_ones 2 = .ok (.iload_n 0, 1) := by decide +kernel
theorem dX8_ones_3 : decode cX8_ones 3 = .ok (.istore_n 2, 1) := by decide +kernel
theorem dX8_ones_4 : decode cX8_ones 4 = .ok (.iload_n 2, 1) := by decide +kernel
theorem dX8_ones_5 : decode cX8_ones 5 = .ok (.ifCond .eq 15, 3) := by decide +kernel
theorem dX8_ones_8 : decode cX8_ones 8 = .ok (.iinc 1 1, 3) := by decide +kernel
theorem dX8_ones_11 : decode cX8_ones 11 = .ok (.iload_n 2, 1) := by decide +kernel
theorem dX8_ones_12 : decode cX8_ones 12 = .ok (.iload_n 2, 1) := by decide +kernel
theorem dX8_ones_13 : decode cX8_ones 13 = .ok (.iconst 1, 1) := by decide +kernel
theorem dX8_ones_14 : decode cX8_ones 14 = .ok (.isub, 1) := by decide +kernel
theorem dX8_ones_15 : decode cX8_ones 15 = .ok (.iand, 1) := by decide +kernel
theorem dX8_ones_16 : decode cX8_ones 16 = .ok (.istore_n 2, 1) := by decide +kernel
theorem dX8_ones_17 : decode cX8_ones 17 = .ok (.goto (-13), 3) := by decide +kernel
theorem dX8_ones_20 : decode cX8_ones 20 = .ok (.iload_n 1, 1) := by decide +kernel
theorem dX8_ones_21 : decode cX8_ones 21 = .ok (.ireturn, 1) := by decide +kernel
set_option maxRecDepth 20000 in
theorem ggX8_go_X8_findThen : GoodIn wsX8_go wsX8_findThen := goodIn_r _ [10, 5, 4, 1, 11, 12, 13, 9, 14, 15, 16, 17, 18, 22, 23, 24, 25, 26, 27, 28, 29, 30, 31, 32, 33, 34, 35, 36, 37, 38, 39, 40, 41, 42, 43, 44, 45, 46, 47, 48, 49, 50, 51, 52, 53, 54, 55, 56, 57, 58] (by decide +kernel) (by decide +kernel)
set_option maxRecDepth 20000 in
theorem gX8_go_X8_findThen : GoodIn wsX8_go (wsV RX8 149 RX8 yX8_findThen wsX8_findThen) := goodIn_app (goodIn_of _ (by decide +kernel)) ggX8_go_X8_findThen
set_option maxRecDepth 20000 in
theorem ggX8_go_X8_ones : GoodIn wsX8_go wsX8_ones := goodIn_r _ [21] (by decide +kernel) (by decide +kernel)
set_option maxRecDepth 20000 in
theorem gX8_go_X8_ones : GoodIn wsX8_go (va_wsS RX8 177 yX8_ones wsX8_ones) := goodIn_app (goodIn_of _ (by decide +kernel)) ggX8_go_X8_ones
theorem dX8_go_0 : decode cX8_go 0 = .ok (.aload_n 0, 1) := by decide +kernel
theorem dX8_go_1 : decode cX8_go 1 = .ok (.iload_n 1, 1) := by decide +kernel
theorem dX8_go_2 : decode cX8_go 2 = .ok (.iload_n 2, 1) := by decide +kernel
theorem dX8_go_3 : decode cX8_go 3 = .ok (.invokevirtual 149, 3) := by decide +kernel
theorem dX8_go_6 : decode cX8_go 6 = .ok (.aload_n 0, 1) := by decide +kernel
theorem dX8_go_7 : decode cX8_go 7 = .ok (.aload_n 0, 1) := by decide +kernel
theorem dX8_go_8 : decode cX8_go 8 = .ok (.getfield 142, 3) := by decide +kernel
theorem dX8_go_11 : decode cX8_go 11 = .ok (.putfield 171, 3) := by decide +kernel
theorem dX8_go_14 : decode cX8_go 14 = .ok (.aload_n 0, 1) := by decide +kernel
theorem dX8_go_15 : decode cX8_go 15 = .ok (.dup, 1) := by decide +kernel
theorem dX8_go_16 : decode cX8_go 16 = .ok (.getfield 174, 3) := by decide +kernel
theorem dX8_go_19 : decode cX8_go 19 = .ok (.aload_n 0, 1) := by decide +kernel
theorem dX8_go_20 : decode cX8_go 20 = .ok (.getfield 142, 3) := by decide +kernel
theorem dX8_go_23 : decode cX8_go 23 = .ok (.invokestatic 177, 3) := by decide +kernel
theorem dX8_go_26 : decode cX8_go 26 = .ok (.iadd, 1) := by decide +kernel
theorem dX8_go_27 : decode cX8_go 27 = .ok (.putfield 174, 3) := by decide +kernel
theorem dX8_go_30 : decode cX8_go 30 = .ok (.iconst 0, 1) := by decide +kernel
theorem dX8_go_31 : decode cX8_go 31 = .ok (.istore_n 3, 1) := by decide +kernel
theorem dX8_go_32 : decode cX8_go 32 = .ok (.iload_n 3, 1) := by decide +kernel
theorem dX8_go_33 : decode cX8_go 33 = .ok (.bipush 10, 2) := by decide +kernel
theorem dX8_go_35 : decode cX8_go 35 = .ok (.if_icmp .ge 21, 3) := by decide +kernel
theorem dX8_go_38 : decode cX8_go 38 = .ok (.aload_n 0, 1) := by decide +kernel
theorem dX8_go_39 : decode cX8_go 39 = .ok (.getfield 7, 3) := by decide +kernel
theorem dX8_go_42 : decode cX8_go 42 = .ok (.iload_n 3, 1) := by decide +kernel
theorem dX8_go_43 : decode cX8_go 43 = .ok (.aload_n 0, 1) := by decide +kernel
theorem dX8_go_44 : decode cX8_go 44 = .ok (.getfield 37, 3) := by decide +kernel
theorem dX8_go_47 : decode cX8_go 47 = .ok (.iload_n 3, 1) := by decide +kernel
theorem dX8_go_48 : decode cX8_go 48 = .ok (.iaload, 1) := by decide +kernel
theorem dX8_go_49 : decode cX8_go 49 = .ok (.iastore, 1) := by decide +kernel
theorem dX8_go_50 : decode cX8_go 50 = .ok (.iinc 3 1, 3) := by decide +kernel
theorem dX8_go_53 : decode cX8_go 53 = .ok (.goto (-21), 3) := by decide +kernel
theorem dX8_go_56 : decode cX8_go 56 = .ok (.return_, 1) := by decide +kernel
set_option maxRecDepth 20000 in
theorem ggX8_feel_X8_less : GoodIn wsX8_feel wsX8_less := goodIn_r _ [5] (by decide +kernel) (by decide +kernel)
set_option maxRecDepth 20000 in
theorem gX8_feel_X8_less : GoodIn wsX8_feel (va_wsS RX8 180 yX8_less wsX8_less) := goodIn_app (goodIn_of _ (by decide +kernel)) ggX8_feel_X8_less
theorem dX8_feel_0 : decode cX8_feel 0 = .ok (.aload_n 0, 1) := by decide +kernel
theorem dX8_feel_1 : decode cX8_feel 1 = .ok (.getfield 13, 3) := by decide +kernel
theorem dX8_feel_4 : decode cX8_feel 4 = .ok (.iload_n 1, 1) := by decide +kernel
theorem dX8_feel_5 : decode cX8_feel 5 = .ok (.bipush 99, 2) := by decide +kernel
theorem dX8_feel_7 : decode cX8_feel 7 = .ok (.aload_n 0, 1) := by decide +kernel
theorem dX8_feel_8 : decode cX8_feel 8 = .ok (.getfield 13, 3) := by decide +kernel
theorem dX8_feel_11 : decode cX8_feel 11 = .ok (.iload_n 1, 1) := by decide +kernel
theorem dX8_feel_12 : decode cX8_feel 12 = .ok (.iaload, 1) := by decide +kernel
theorem dX8_feel_13 : decode cX8_feel 13 = .ok (.iload_n 2, 1) := by decide +kernel
theorem dX8_feel_14 : decode cX8_feel 14 = .ok (.iadd, 1) := by decide +kernel
theorem dX8_feel_15 : decode cX8_feel 15 = .ok (.invokestatic 180, 3) := by decide +kernel
theorem dX8_feel_18 : decode cX8_feel 18 = .ok (.iastore, 1) := by decide +kernel
theorem dX8_feel_19 : decode cX8_feel 19 = .ok (.return_, 1) := by decide +kernel
set_option maxRecDepth 20000 in
theorem ggX8_squeeze_X8_isTaut : GoodIn wsX8_squeeze wsX8_isTaut := goodIn_r _ [5, 6, 7, 8, 9, 4, 10, 19, 20, 21, 22, 23, 24, 25, 26, 27, 28, 29, 30, 31, 32, 33, 34, 35, 36, 37, 38, 39, 40, 41, 42, 43, 44, 45, 46, 47, 48, 49, 50, 51, 52, 53, 54, 55] (by decide +kernel) (by decide +kernel)
set_option maxRecDepth 20000 in
theorem gX8_squeeze_X8_isTaut : GoodIn wsX8_squeeze (wsV RX8 156 RX8 yX8_isTaut wsX8_isTaut) := goodIn_app (goodIn_of _ (by decide +kernel)) ggX8_squeeze_X8_isTaut
set_option maxRecDepth 20000 in
theorem ggX8_squeeze_X8_feel : GoodIn wsX8_squeeze wsX8_feel := goodIn_r _ [14, 15, 16, 17, 4, 18, 19, 20, 21, 22, 23, 24, 25, 26, 27, 28, 29, 30, 31, 32, 33, 34, 35, 36, 37, 38, 39, 40, 41, 42, 43, 44, 45, 46, 47, 48, 49, 50, 51, 52, 53, 54, 55] (by decide +kernel) (by decide +kernel)
set_option maxRecDepth 20000 in
theorem gX8_squeeze_X8_feel : GoodIn wsX8_squeeze (wsV RX8 183 RX8 yX8_feel wsX8_feel) := goodIn_app (goodIn_of _ (by decide +kernel)) ggX8_squeeze_X8_feel
theorem dX8_squeeze_0 : decode cX8_squeeze 0 = .ok (.iload_n 2, 1) := by decide +kernel
theorem dX8_squeeze_1 : decode cX8_squeeze 1 = .ok (.istore_n 3, 1) := by decide +kernel
theorem dX8_squeeze_2 : decode cX8_squeeze 2 = .ok (.iload_n 1, 1) := by decide +kernel
theorem dX8_squeeze_3 : decode cX8_squeeze 3 = .ok (.iconst 1, 1) := by decide +kernel
theorem dX8_squeeze_4 : decode cX8_squeeze 4 = .ok (.iadd, 1) := by decide +kernel
theorem dX8_squeeze_5 : decode cX8_squeeze 5 = .ok (.istore 4, 2) := by decide +kernel
theorem dX8_squeeze_7 : decode cX8_squeeze 7 = .ok (.iload 4, 2) := by decide +kernel
theorem dX8_squeeze_9 : decode cX8_squeeze 9 = .ok (.bipush 10, 2) := by decide +kernel
theorem dX8_squeeze_11 : decode cX8_squeeze 11 = .ok (.if_icmp .ge 47, 3) := by decide +kernel
theorem dX8_squeeze_14 : decode cX8_squeeze 14 = .ok (.iload_n 3, 1) := by decide +kernel
theorem dX8_squeeze_15 : decode cX8_squeeze 15 = .ok (.ifCond .le 43, 3) := by decide +kernel
theorem dX8_squeeze_18 : decode cX8_squeeze 18 = .ok (.iload_n 3, 1) := by decide +kernel
theorem dX8_squeeze_19 : decode cX8_squeeze 19 = .ok (.aload_n 0, 1) := by decide +kernel
theorem dX8_squeeze_20 : decode cX8_squeeze 20 = .ok (.iload 4, 2) := by decide +kernel
theorem dX8_squeeze_22 : decode cX8_squeeze 22 = .ok (.iconst 1, 1) := by decide +kernel
theorem dX8_squeeze_23 : decode cX8_squeeze 23 = .ok (.isub, 1) := by decide +kernel
theorem dX8_squeeze_24 : decode cX8_squeeze 24 = .ok (.invokevirtual 156, 3) := by decide +kernel
theorem dX8_squeeze_27 : decode cX8_squeeze 27 = .ok (.ifCond .eq 7, 3) := by decide +kernel
theorem dX8_squeeze_30 : decode cX8_squeeze 30 = .ok (.iconst 1, 1) := by decide +kernel
theorem dX8_squeeze_31 : decode cX8_squeeze 31 = .ok (.goto 4, 3) := by decide +kernel
theorem dX8_squeeze_34 : decode cX8_squeeze 34 = .ok (.iconst 3, 1) := by decide +kernel
theorem dX8_squeeze_35 : decode cX8_squeeze 35 = .ok (.isub, 1) := by decide +kernel
theorem dX8_squeeze_36 : decode cX8_squeeze 36 = .ok (.istore_n 3, 1) := by decide +kernel
theorem dX8_squeeze_37 : decode cX8_squeeze 37 = .ok (.aload_n 0, 1) := by decide +kernel
theorem dX8_squeeze_38 : decode cX8_squeeze 38 = .ok (.iload 4, 2) := by decide +kernel
theorem dX8_squeeze_40 : decode cX8_squeeze 40 = .ok (.iload_n 3, 1) := by decide +kernel
theorem dX8_squeeze_41 : decode cX8_squeeze 41 = .ok (.ifCond .le 7, 3) := by decide +kernel
theorem dX8_squeeze_44 : decode cX8_squeeze 44 = .ok (.iload_n 3, 1) := by decide +kernel
theorem dX8_squeeze_45 : decode cX8_squeeze 45 = .ok (.goto 4, 3) := by decide +kernel
theorem dX8_squeeze_48 : decode cX8_squeeze 48 = .ok (.iconst 0, 1) := by decide +kernel
theorem dX8_squeeze_49 : decode cX8_squeeze 49 = .ok (.invokevirtual 183, 3) := by decide +kernel
theorem dX8_squeeze_52 : decode cX8_squeeze 52 = .ok (.iinc 4 1, 3) := by decide +kernel
theorem dX8_squeeze_55 : decode cX8_squeeze 55 = .ok (.goto (-48), 3) := by decide +kernel
theorem dX8_squeeze_58 : decode cX8_squeeze 58 = .ok (.iload_n 2, 1) := by decide +kernel
theorem dX8_squeeze_59 : decode cX8_squeeze 59 = .ok (.istore_n 3, 1) := by decide +kernel
theorem dX8_squeeze_60 : decode cX8_squeeze 60 = .ok (.iload_n 1, 1) := by decide +kernel
theorem dX8_squeeze_61 : decode cX8_squeeze 61 = .ok (.iconst 1, 1) := by decide +kernel
theorem dX8_squeeze_62 : decode cX8_squeeze 62 = .ok (.isub, 1) := by decide +kernel
theorem dX8_squeeze_63 : decode cX8_squeeze 63 = .ok (.istore 4, 2) := by decide +kernel
theorem dX8_squeeze_65 : decode cX8_squeeze 65 = .ok (.iload 4, 2) := by decide +kernel
theorem dX8_squeeze_67 : decode cX8_squeeze 67 = .ok (.ifCond .lt 45, 3) := by decide +kernel
theorem dX8_squeeze_70 : decode cX8_squeeze 70 = .ok (.iload_n 3, 1) := by decide +kernel
theorem dX8_squeeze_71 : decode cX8_squeeze 71 = .ok (.ifCond .le 41, 3) := by decide +kernel
theorem dX8_squeeze_74 : decode cX8_squeeze 74 = .ok (.iload_n 3, 1) := by decide +kernel
theorem dX8_squeeze_75 : decode cX8_squeeze 75 = .ok (.aload_n 0, 1) := by decide +kernel
theorem dX8_squeeze_76 : decode cX8_squeeze 76 = .ok (.iload 4, 2) := by decide +kernel
theorem dX8_squeeze_78 : decode cX8_squeeze 78 = .ok (.invokevirtual 156, 3) := by decide +kernel
theorem dX8_squeeze_81 : decode cX8_squeeze 81 = .ok (.ifCond .eq 7, 3) := by decide +kernel
theorem dX8_squeeze_84 : decode cX8_squeeze 84 = .ok (.iconst 1, 1) := by decide +kernel
theorem dX8_squeeze_85 : decode cX8_squeeze 85 = .ok (.goto 4, 3) := by decide +kernel
theorem dX8_squeeze_88 : decode cX8_squeeze 88 = .ok (.iconst 3, 1) := by decide +kernel
theorem dX8_squeeze_89 : decode cX8_squeeze 89 = .ok (.isub, 1) := by decide +kernel
theorem dX8_squeeze_90 : decode cX8_squeeze 90 = .ok (.istore_n 3, 1) := by decide +kernel
theorem dX8_squeeze_91 : decode cX8_squeeze 91 = .ok (.aload_n 0, 1) := by decide +kernel
theorem dX8_squeeze_92 : decode cX8_squeeze 92 = .ok (.iload 4, 2) := by decide +kernel
theorem dX8_squeeze_94 : decode cX8_squeeze 94 = .ok (.iload_n 3, 1) := by decide +kernel
theorem dX8_squeeze_95 : decode cX8_squeeze 95 = .ok (.ifCond .le 7, 3) := by decide +kernel
theorem dX8_squeeze_98 : decode cX8_squeeze 98 = .ok (.iload_n 3, 1) := by decide +kernel
theorem dX8_squeeze_99 : decode cX8_squeeze 99 = .ok (.goto 4, 3) := by decide +kernel
theorem dX8_squeeze_102 : decode cX8_squeeze 102 = .ok (.iconst 0, 1) := by decide +kernel
theorem dX8_squeeze_103 : decode cX8_squeeze 103 = .ok (.invokevirtual 183, 3) := by decide +kernel
theorem dX8_squeeze_106 : decode cX8_squeeze 106 = .ok (.iinc 4 (-1), 3) := by decide +kernel
theorem dX8_squeeze_109 : decode cX8_squeeze 109 = .ok (.goto (-44), 3) := by decide +kernel
theorem dX8_squeeze_112 : decode cX8_squeeze 112 = .ok (.return_, 1) := by decide +kernel
theorem dX8_passDay_0 : decode cX8_passDay 0 = .ok (.iconst 0, 1) := by decide +kernel
theorem dX8_passDay_1 : decode cX8_passDay 1 = .ok (.istore_n 1, 1) := by decide +kernel
theorem dX8_passDay_2 : decode cX8_passDay 2 = .ok (.iload_n 1, 1) := by decide +kernel
theorem dX8_passDay_3 : decode cX8_passDay 3 = .ok (.bipush 10, 2) := by decide +kernel
theorem dX8_passDay_5 : decode cX8_passDay 5 = .ok (.if_icmp .ge 16, 3) := by decide +kernel
theorem dX8_passDay_8 : decode cX8_passDay 8 = .ok (.aload_n 0, 1) := by decide +kernel
theorem dX8_passDay_9 : decode cX8_passDay 9 = .ok (.getfield 13, 3) := by decide +kernel
theorem dX8_passDay_12 : decode cX8_passDay 12 = .ok (.iload_n 1, 1) := by decide +kernel
theorem dX8_passDay_13 : decode cX8_passDay 13 = .ok (.iconst 0, 1) := by decide +kernel
theorem dX8_passDay_14 : decode cX8_passDay 14 = .ok (.iastore, 1) := by decide +kernel
theorem dX8_passDay_15 : decode cX8_passDay 15 = .ok (.iinc 1 1, 3) := by decide +kernel
theorem dX8_passDay_18 : decode cX8_passDay 18 = .ok (.goto (-16), 3) := by decide +kernel
theorem dX8_passDay_21 : decode cX8_passDay 21 = .ok (.aload_n 0, 1) := by decide +kernel
theorem dX8_passDay_22 : decode cX8_passDay 22 = .ok (.dup, 1) := by decide +kernel
theorem dX8_passDay_23 : decode cX8_passDay 23 = .ok (.getfield 168, 3) := by decide +kernel
theorem dX8_passDay_26 : decode cX8_passDay 26 = .ok (.iconst 1, 1) := by decide +kernel
theorem dX8_passDay_27 : decode cX8_passDay 27 = .ok (.iadd, 1) := by decide +kernel
theorem dX8_passDay_28 : decode cX8_passDay 28 = .ok (.putfield 168, 3) := by decide +kernel
theorem dX8_passDay_31 : decode cX8_passDay 31 = .ok (.return_, 1) := by decide +kernel
set_option maxRecDepth 20000 in
theorem ggX8_happen_X8_go : GoodIn wsX8_happen wsX8_go := goodIn_r _ [8, 9, 10, 11, 12, 13, 14, 15, 16, 7, 17, 18, 19, 20, 21, 2, 22, 23, 24, 25, 26, 27, 49, 50, 51, 52, 53, 54, 55, 56, 57, 58, 59, 60, 61, 62, 63, 64, 65, 66, 67, 68, 69, 70, 71, 72, 73, 74, 75, 76, 77, 78, 79, 80, 81, 82, 83, 84, 85] (by decide +kernel) (by decide +kernel)
set_option maxRecDepth 20000 in
theorem gX8_happen_X8_go : GoodIn wsX8_happen (wsV RX8 186 RX8 yX8_go wsX8_go) := goodIn_app (goodIn_of _ (by decide +kernel)) ggX8_happen_X8_go
set_option maxRecDepth 20000 in
theorem ggX8_happen_X8_squeeze : GoodIn wsX8_happen wsX8_squeeze := goodIn_r _ [31, 32, 33, 34, 7, 35, 12, 2, 22, 23, 24, 36, 37, 38, 39, 40, 41, 42, 43, 49, 50, 51, 52, 53, 54, 55, 56, 57, 58, 59, 60, 61, 62, 63, 64, 65, 66, 67, 68, 69, 70, 71, 72, 73, 74, 75, 76, 77, 78, 79, 80, 81, 82, 83, 84, 85] (by decide +kernel) (by decide +kernel)
set_option maxRecDepth 20000 in
theorem gX8_happen_X8_squeeze : GoodIn wsX8_happen (wsV RX8 189 RX8 yX8_squeeze wsX8_squeeze) := goodIn_app (goodIn_of _ (by decide +kernel)) ggX8_happen_X8_squeeze
set_option maxRecDepth 20000 in
theorem ggX8_happen_X8_less : GoodIn wsX8_happen wsX8_less := goodIn_r _ [43] (by decide +kernel) (by decide +kernel)
set_option maxRecDepth 20000 in
theorem gX8_happen_X8_less : GoodIn wsX8_happen (va_wsS RX8 180 yX8_less wsX8_less) := goodIn_app (goodIn_of _ (by decide +kernel)) ggX8_happen_X8_less
set_option maxRecDepth 20000 in
theorem ggX8_happen_X8_passDay : GoodIn wsX8_happen wsX8_passDay := goodIn_r _ [47, 40, 48, 49, 50, 51, 52, 53, 54, 55, 56, 57, 58, 59, 60, 61, 62, 63, 64, 65, 66, 67, 68, 69, 70, 71, 72, 73, 74, 75, 76, 77, 78, 79, 80, 81, 82, 83, 84, 85] (by decide +kernel) (by decide +kernel)
set_option maxRecDepth 20000 in
theorem gX8_happen_X8_passDay : GoodIn wsX8_happen (wsV RX8 192 RX8 yX8_passDay wsX8_passDay) := goodIn_app (goodIn_of _ (by decide +kernel)) ggX8_happen_X8_passDay
theorem dX8_happen_0 : decode cX8_happen 0 = .ok (.iload_n 1, 1) := by decide +kernel
theorem dX8_happen_1 : decode cX8_happen 1 = .ok (.tableswitch 134 0 5 #[39, 48, 58, 73, 82, 105], 39) := by decide +kernel
theorem dX8_happen_40 : decode cX8_happen 40 = .ok (.aload_n 0, 1) := by decide +kernel
theorem dX8_happen_41 : decode cX8_happen 41 = .ok (.iload_n 2, 1) := by decide +kernel
theorem dX8_happen_42 : decode cX8_happen 42 = .ok (.iload_n 3, 1) := by decide +kernel
theorem dX8_happen_43 : decode cX8_happen 43 = .ok (.invokevirtual 186, 3) := by decide +kernel
theorem dX8_happen_46 : decode cX8_happen 46 = .ok (.goto 93, 3) := by decide +kernel
theorem dX8_happen_49 : decode cX8_happen 49 = .ok (.aload_n 0, 1) := by decide +kernel
theorem dX8_happen_50 : decode cX8_happen 50 = .ok (.iload_n 2, 1) := by decide +kernel
theorem dX8_happen_51 : decode cX8_happen 51 = .ok (.iload_n 3, 1) := by decide +kernel
theorem dX8_happen_52 : decode cX8_happen 52 = .ok (.ineg, 1) := by decide +kernel
theorem dX8_happen_53 : decode cX8_happen 53 = .ok (.invokevirtual 186, 3) := by decide +kernel
theorem dX8_happen_56 : decode cX8_happen 56 = .ok (.goto 83, 3) := by decide +kernel
theorem dX8_happen_59 : decode cX8_happen 59 = .ok (.aload_n 0, 1) := by decide +kernel
theorem dX8_happen_60 : decode cX8_happen 60 = .ok (.dup, 1) := by decide +kernel
theorem dX8_happen_61 : decode cX8_happen 61 = .ok (.getfield 101, 3) := by decide +kernel
theorem dX8_happen_64 : decode cX8_happen 64 = .ok (.iconst 1, 1) := by decide +kernel
theorem dX8_happen_65 : decode cX8_happen 65 = .ok (.iload_n 2, 1) := by decide +kernel
theorem dX8_happen_66 : decode cX8_happen 66 = .ok (.ishl, 1) := by decide +kernel
theorem dX8_happen_67 : decode cX8_happen 67 = .ok (.ixor, 1) := by decide +kernel
theorem dX8_happen_68 : decode cX8_happen 68 = .ok (.putfield 101, 3) := by decide +kernel
theorem dX8_happen_71 : decode cX8_happen 71 = .ok (.goto 68, 3) := by decide +kernel
theorem dX8_happen_74 : decode cX8_happen 74 = .ok (.aload_n 0, 1) := by decide +kernel
theorem dX8_happen_75 : decode cX8_happen 75 = .ok (.iload_n 2, 1) := by decide +kernel
theorem dX8_happen_76 : decode cX8_happen 76 = .ok (.iload_n 3, 1) := by decide +kernel
theorem dX8_happen_77 : decode cX8_happen 77 = .ok (.invokevirtual 189, 3) := by decide +kernel
theorem dX8_happen_80 : decode cX8_happen 80 = .ok (.goto 59, 3) := by decide +kernel
theorem dX8_happen_83 : decode cX8_happen 83 = .ok (.aload_n 0, 1) := by decide +kernel
theorem dX8_happen_84 : decode cX8_happen 84 = .ok (.getfield 16, 3) := by decide +kernel
theorem dX8_happen_87 : decode cX8_happen 87 = .ok (.iload_n 2, 1) := by decide +kernel
theorem dX8_happen_88 : decode cX8_happen 88 = .ok (.dup2, 1) := by decide +kernel
theorem dX8_happen_89 : decode cX8_happen 89 = .ok (.iaload, 1) := by decide +kernel
theorem dX8_happen_90 : decode cX8_happen 90 = .ok (.iconst 1, 1) := by decide +kernel
theorem dX8_happen_91 : decode cX8_happen 91 = .ok (.iadd, 1) := by decide +kernel
theorem dX8_happen_92 : decode cX8_happen 92 = .ok (.iastore, 1) := by decide +kernel
theorem dX8_happen_93 : decode cX8_happen 93 = .ok (.aload_n 0, 1) := by decide +kernel
theorem dX8_happen_94 : decode cX8_happen 94 = .ok (.dup, 1) := by decide +kernel
theorem dX8_happen_95 : decode cX8_happen 95 = .ok (.getfield 77, 3) := by decide +kernel
theorem dX8_happen_98 : decode cX8_happen 98 = .ok (.iconst 1, 1) := by decide +kernel
theorem dX8_happen_99 : decode cX8_happen 99 = .ok (.isub, 1) := by decide +kernel
theorem dX8_happen_100 : decode cX8_happen 100 = .ok (.putfield 77, 3) := by decide +kernel
theorem dX8_happen_103 : decode cX8_happen 103 = .ok (.goto 36, 3) := by decide +kernel
theorem dX8_happen_106 : decode cX8_happen 106 = .ok (.aload_n 0, 1) := by decide +kernel
theorem dX8_happen_107 : decode cX8_happen 107 = .ok (.getfield 16, 3) := by decide +kernel
theorem dX8_happen_110 : decode cX8_happen 110 = .ok (.iload_n 2, 1) := by decide +kernel
theorem dX8_happen_111 : decode cX8_happen 111 = .ok (.dup2, 1) := by decide +kernel
theorem dX8_happen_112 : decode cX8_happen 112 = .ok (.iaload, 1) := by decide +kernel
theorem dX8_happen_113 : decode cX8_happen 113 = .ok (.iconst 1, 1) := by decide +kernel
theorem dX8_happen_114 : decode cX8_happen 114 = .ok (.isub, 1) := by decide +kernel
theorem dX8_happen_115 : decode cX8_happen 115 = .ok (.iastore, 1) := by decide +kernel
theorem dX8_happen_116 : decode cX8_happen 116 = .ok (.aload_n 0, 1) := by decide +kernel
theorem dX8_happen_117 : decode cX8_happen 117 = .ok (.sipush 999, 3) := by decide +kernel
theorem dX8_happen_120 : decode cX8_happen 120 = .ok (.aload_n 0, 1) := by decide +kernel
theorem dX8_happen_121 : decode cX8_happen 121 = .ok (.getfield 77, 3) := by decide +kernel
theorem dX8_happen_124 : decode cX8_happen 124 = .ok (.iconst 1, 1) := by decide +kernel
theorem dX8_happen_125 : decode cX8_happen 125 = .ok (.iadd, 1) := by decide +kernel
theorem dX8_happen_126 : decode cX8_happen 126 = .ok (.invokestatic 180, 3) := by decide +kernel
theorem dX8_happen_129 : decode cX8_happen 129 = .ok (.putfield 77, 3) := by decide +kernel
theorem dX8_happen_132 : decode cX8_happen 132 = .ok (.goto 7, 3) := by decide +kernel
theorem dX8_happen_135 : decode cX8_happen 135 = .ok (.aload_n 0, 1) := by decide +kernel
theorem dX8_happen_136 : decode cX8_happen 136 = .ok (.invokevirtual 192, 3) := by decide +kernel
theorem dX8_happen_139 : decode cX8_happen 139 = .ok (.return_, 1) := by decide +kernel
theorem dX8_keepNow_0 : decode cX8_keepNow 0 = .ok (.iconst 0, 1) := by decide +kernel
theorem dX8_keepNow_1 : decode cX8_keepNow 1 = .ok (.istore_n 1, 1) := by decide +kernel
theorem dX8_keepNow_2 : decode cX8_keepNow 2 = .ok (.iload_n 1, 1) := by decide +kernel
theorem dX8_keepNow_3 : decode cX8_keepNow 3 = .ok (.bipush 10, 2) := by decide +kernel
theorem dX8_keepNow_5 : decode cX8_keepNow 5 = .ok (.if_icmp .ge 36, 3) := by decide +kernel
theorem dX8_keepNow_8 : decode cX8_keepNow 8 = .ok (.aload_n 0, 1) := by decide +kernel
theorem dX8_keepNow_9 : decode cX8_keepNow 9 = .ok (.getfield 40, 3) := by decide +kernel
theorem dX8_keepNow_12 : decode cX8_keepNow 12 = .ok (.iload_n 1, 1) := by decide +kernel
theorem dX8_keepNow_13 : decode cX8_keepNow 13 = .ok (.aload_n 0, 1) := by decide +kernel
theorem dX8_keepNow_14 : decode cX8_keepNow 14 = .ok (.getfield 7, 3) := by decide +kernel
theorem dX8_keepNow_17 : decode cX8_keepNow 17 = .ok (.iload_n 1, 1) := by decide +kernel
theorem dX8_keepNow_18 : decode cX8_keepNow 18 = .ok (.iaload, 1) := by decide +kernel
theorem dX8_keepNow_19 : decode cX8_keepNow 19 = .ok (.iastore, 1) := by decide +kernel
theorem dX8_keepNow_20 : decode cX8_keepNow 20 = .ok (.aload_n 0, 1) := by decide +kernel
theorem dX8_keepNow_21 : decode cX8_keepNow 21 = .ok (.getfield 40, 3) := by decide +kernel
theorem dX8_keepNow_24 : decode cX8_keepNow 24 = .ok (.bipush 10, 2) := by decide +kernel
theorem dX8_keepNow_26 : decode cX8_keepNow 26 = .ok (.iload_n 1, 1) := by decide +kernel
theorem dX8_keepNow_27 : decode cX8_keepNow 27 = .ok (.iadd, 1) := by decide +kernel
theorem dX8_keepNow_28 : decode cX8_keepNow 28 = .ok (.aload_n 0, 1) := by decide +kernel
theorem dX8_keepNow_29 : decode cX8_keepNow 29 = .ok (.getfield 13, 3) := by decide +kernel
theorem dX8_keepNow_32 : decode cX8_keepNow 32 = .ok (.iload_n 1, 1) := by decide +kernel
theorem dX8_keepNow_33 : decode cX8_keepNow 33 = .ok (.iaload, 1) := by decide +kernel
theorem dX8_keepNow_34 : decode cX8_keepNow 34 = .ok (.iastore, 1) := by decide +kernel
theorem dX8_keepNow_35 : decode cX8_keepNow 35 = .ok (.iinc 1 1, 3) := by decide +kernel
theorem dX8_keepNow_38 : decode cX8_keepNow 38 = .ok (.goto (-36), 3) := by decide +kernel
theorem dX8_keepNow_41 : decode cX8_keepNow 41 = .ok (.iconst 0, 1) := by decide +kernel
theorem dX8_keepNow_42 : decode cX8_keepNow 42 = .ok (.istore_n 1, 1) := by decide +kernel
theorem dX8_keepNow_43 : decode cX8_keepNow 43 = .ok (.iload_n 1, 1) := by decide +kernel
theorem dX8_keepNow_44 : decode cX8_keepNow 44 = .ok (.bipush 9, 2) := by decide +kernel
theorem dX8_keepNow_46 : decode cX8_keepNow 46 = .ok (.if_icmp .ge 24, 3) := by decide +kernel
theorem dX8_keepNow_49 : decode cX8_keepNow 49 = .ok (.aload_n 0, 1) := by decide +kernel
theorem dX8_keepNow_50 : decode cX8_keepNow 50 = .ok (.getfield 40, 3) := by decide +kernel
theorem dX8_keepNow_53 : decode cX8_keepNow 53 = .ok (.bipush 20, 2) := by decide +kernel
theorem dX8_keepNow_55 : decode cX8_keepNow 55 = .ok (.iload_n 1, 1) := by decide +kernel
theorem dX8_keepNow_56 : decode cX8_keepNow 56 = .ok (.iadd, 1) := by decide +kernel
theorem dX8_keepNow_57 : decode cX8_keepNow 57 = .ok (.aload_n 0, 1) := by decide +kernel
theorem dX8_keepNow_58 : decode cX8_keepNow 58 = .ok (.getfield 16, 3) := by decide +kernel
theorem dX8_keepNow_61 : decode cX8_keepNow 61 = .ok (.iload_n 1, 1) := by decide +kernel
theorem dX8_keepNow_62 : decode cX8_keepNow 62 = .ok (.iaload, 1) := by decide +kernel
theorem dX8_keepNow_63 : decode cX8_keepNow 63 = .ok (.iastore, 1) := by decide +kernel
theorem dX8_keepNow_64 : decode cX8_keepNow 64 = .ok (.iinc 1 1, 3) := by decide +kernel
theorem dX8_keepNow_67 : decode cX8_keepNow 67 = .ok (.goto (-24), 3) := by decide +kernel
theorem dX8_keepNow_70 : decode cX8_keepNow 70 = .ok (.aload_n 0, 1) := by decide +kernel
theorem dX8_keepNow_71 : decode cX8_keepNow 71 = .ok (.getfield 40, 3) := by decide +kernel
theorem dX8_keepNow_74 : decode cX8_keepNow 74 = .ok (.bipush 29, 2) := by decide +kernel
theorem dX8_keepNow_76 : decode cX8_keepNow 76 = .ok (.aload_n 0, 1) := by decide +kernel
theorem dX8_keepNow_77 : decode cX8_keepNow 77 = .ok (.getfield 101, 3) := by decide +kernel
theorem dX8_keepNow_80 : decode cX8_keepNow 80 = .ok (.iastore, 1) := by decide +kernel
theorem dX8_keepNow_81 : decode cX8_keepNow 81 = .ok (.aload_n 0, 1) := by decide +kernel
theorem dX8_keepNow_82 : decode cX8_keepNow 82 = .ok (.getfield 40, 3) := by decide +kernel
theorem dX8_keepNow_85 : decode cX8_keepNow 85 = .ok (.bipush 30, 2) := by decide +kernel
theorem dX8_keepNow_87 : decode cX8_keepNow 87 = .ok (.aload_n 0, 1) := by decide +kernel
theorem dX8_keepNow_88 : decode cX8_keepNow 88 = .ok (.getfield 77, 3) := by decide +kernel
theorem dX8_keepNow_91 : decode cX8_keepNow 91 = .ok (.iastore, 1) := by decide +kernel
theorem dX8_keepNow_92 : decode cX8_keepNow 92 = .ok (.aload_n 0, 1) := by decide +kernel
theorem dX8_keepNow_93 : decode cX8_keepNow 93 = .ok (.getfield 40, 3) := by decide +kernel
theorem dX8_keepNow_96 : decode cX8_keepNow 96 = .ok (.bipush 31, 2) := by decide +kernel
theorem dX8_keepNow_98 : decode cX8_keepNow 98 = .ok (.aload_n 0, 1) := by decide +kernel
theorem dX8_keepNow_99 : decode cX8_keepNow 99 = .ok (.getfield 168, 3) := by decide +kernel
theorem dX8_keepNow_102 : decode cX8_keepNow 102 = .ok (.iastore, 1) := by decide +kernel
theorem dX8_keepNow_103 : decode cX8_keepNow 103 = .ok (.return_, 1) := by decide +kernel
theorem dX8_back_0 : decode cX8_back 0 = .ok (.iconst 0, 1) := by decide +kernel
theorem dX8_back_1 : decode cX8_back 1 = .ok (.istore_n 2, 1) := by decide +kernel
theorem dX8_back_2 : decode cX8_back 2 = .ok (.iload_n 2, 1) := by decide +kernel
theorem dX8_back_3 : decode cX8_back 3 = .ok (.bipush 10, 2) := by decide +kernel
theorem dX8_back_5 : decode cX8_back 5 = .ok (.if_icmp .ge 36, 3) := by decide +kernel
theorem dX8_back_8 : decode cX8_back 8 = .ok (.aload_n 0, 1) := by decide +kernel
theorem dX8_back_9 : decode cX8_back 9 = .ok (.getfield 7, 3) := by decide +kernel
theorem dX8_back_12 : decode cX8_back 12 = .ok (.iload_n 2, 1) := by decide +kernel
theorem dX8_back_13 : decode cX8_back 13 = .ok (.aload_n 0, 1) := by decide +kernel
theorem dX8_back_14 : decode cX8_back 14 = .ok (.getfield 40, 3) := by decide +kernel
theorem dX8_back_17 : decode cX8_back 17 = .ok (.iload_n 2, 1) := by decide +kernel
theorem dX8_back_18 : decode cX8_back 18 = .ok (.iaload, 1) := by decide +kernel
theorem dX8_back_19 : decode cX8_back 19 = .ok (.iastore, 1) := by decide +kernel
theorem dX8_back_20 : decode cX8_back 20 = .ok (.aload_n 0, 1) := by decide +kernel
theorem dX8_back_21 : decode cX8_back 21 = .ok (.getfield 13, 3) := by decide +kernel
theorem dX8_back_24 : decode cX8_back 24 = .ok (.iload_n 2, 1) := by decide +kernel
theorem dX8_back_25 : decode cX8_back 25 = .ok (.aload_n 0, 1) := by decide +kernel
theorem dX8_back_26 : decode cX8_back 26 = .ok (.getfield 40, 3) := by decide +kernel
theorem dX8_back_29 : decode cX8_back 29 = .ok (.bipush 10, 2) := by decide +kernel
theorem dX8_back_31 : decode cX8_back 31 = .ok (.iload_n 2, 1) := by decide +kernel
theorem dX8_back_32 : decode cX8_back 32 = .ok (.iadd, 1) := by decide +kernel
theorem dX8_back_33 : decode cX8_back 33 = .ok (.iaload, 1) := by decide +kernel
theorem dX8_back_34 : decode cX8_back 34 = .ok (.iastore, 1) := by decide +kernel
theorem dX8_back_35 : decode cX8_back 35 = .ok (.iinc 2 1, 3) := by decide +kernel
theorem dX8_back_38 : decode cX8_back 38 = .ok (.goto (-36), 3) := by decide +kernel
theorem dX8_back_41 : decode cX8_back 41 = .ok (.iconst 0, 1) := by decide +kernel
theorem dX8_back_42 : decode cX8_back 42 = .ok (.istore_n 2, 1) := by decide +kernel
theorem dX8_back_43 : decode cX8_back 43 = .ok (.iload_n 2, 1) := by decide +kernel
theorem dX8_back_44 : decode cX8_back 44 = .ok (.bipush 9, 2) := by decide +kernel
theorem dX8_back_46 : decode cX8_back 46 = .ok (.if_icmp .ge 24, 3) := by decide +kernel
theorem dX8_back_49 : decode cX8_back 49 = .ok (.aload_n 0, 1) := by decide +kernel
theorem dX8_back_50 : decode cX8_back 50 = .ok (.getfield 16, 3) := by decide +kernel
theorem dX8_back_53 : decode cX8_back 53 = .ok (.iload_n 2, 1) := by decide +kernel
theorem dX8_back_54 : decode cX8_back 54 = .ok (.aload_n 0, 1) := by decide +kernel
theorem dX8_back_55 : decode cX8_back 55 = .ok (.getfield 40, 3) := by decide +kernel
theorem dX8_back_58 : decode cX8_back 58 = .ok (.bipush 20, 2) := by decide +kernel
theorem dX8_back_60 : decode cX8_back 60 = .ok (.iload_n 2, 1) := by decide +kernel
theorem dX8_back_61 : decode cX8_back 61 = .ok (.iadd, 1) := by decide +kernel
theorem dX8_back_62 : decode cX8_back 62 = .ok (.iaload, 1) := by decide +kernel
theorem dX8_back_63 : decode cX8_back 63 = .ok (.iastore, 1) := by decide +kernel
theorem dX8_back_64 : decode cX8_back 64 = .ok (.iinc 2 1, 3) := by decide +kernel
theorem dX8_back_67 : decode cX8_back 67 = .ok (.goto (-24), 3) := by decide +kernel
theorem dX8_back_70 : decode cX8_back 70 = .ok (.aload_n 0, 1) := by decide +kernel
theorem dX8_back_71 : decode cX8_back 71 = .ok (.aload_n 0, 1) := by decide +kernel
theorem dX8_back_72 : decode cX8_back 72 = .ok (.getfield 40, 3) := by decide +kernel
theorem dX8_back_75 : decode cX8_back 75 = .ok (.bipush 29, 2) := by decide +kernel
theorem dX8_back_77 : decode cX8_back 77 = .ok (.iaload, 1) := by decide +kernel
theorem dX8_back_78 : decode cX8_back 78 = .ok (.putfield 101, 3) := by decide +kernel
theorem dX8_back_81 : decode cX8_back 81 = .ok (.aload_n 0, 1) := by decide +kernel
theorem dX8_back_82 : decode cX8_back 82 = .ok (.aload_n 0, 1) := by decide +kernel
theorem dX8_back_83 : decode cX8_back 83 = .ok (.getfield 40, 3) := by decide +kernel
theorem dX8_back_86 : decode cX8_back 86 = .ok (.bipush 30, 2) := by decide +kernel
theorem dX8_back_88 : decode cX8_back 88 = .ok (.iaload, 1) := by decide +kernel
theorem dX8_back_89 : decode cX8_back 89 = .ok (.putfield 77, 3) := by decide +kernel
theorem dX8_back_92 : decode cX8_back 92 = .ok (.aload_n 0, 1) := by decide +kernel
theorem dX8_back_93 : decode cX8_back 93 = .ok (.aload_n 0, 1) := by decide +kernel
theorem dX8_back_94 : decode cX8_back 94 = .ok (.getfield 40, 3) := by decide +kernel
theorem dX8_back_97 : decode cX8_back 97 = .ok (.bipush 31, 2) := by decide +kernel
theorem dX8_back_99 : decode cX8_back 99 = .ok (.iaload, 1) := by decide +kernel
theorem dX8_back_100 : decode cX8_back 100 = .ok (.putfield 168, 3) := by decide +kernel
theorem dX8_back_103 : decode cX8_back 103 = .ok (.iload_n 1, 1) := by decide +kernel
theorem dX8_back_104 : decode cX8_back 104 = .ok (.ireturn, 1) := by decide +kernel
set_option maxRecDepth 20000 in
theorem ggX8_leastOf_X8_has : GoodIn wsX8_leastOf wsX8_has := goodIn_r _ [4] (by decide +kernel) (by decide +kernel)
set_option maxRecDepth 20000 in
theorem gX8_leastOf_X8_has : GoodIn wsX8_leastOf (va_wsS RX8 153 yX8_has wsX8_has) := goodIn_app (goodIn_of _ (by decide +kernel)) ggX8_leastOf_X8_has
theorem dX8_leastOf_0 : decode cX8_leastOf 0 = .ok (.bipush (-6), 2) := by decide +kernel
theorem dX8_leastOf_2 : decode cX8_leastOf 2 = .ok (.istore_n 1, 1) := by decide +kernel
theorem dX8_leastOf_3 : decode cX8_leastOf 3 = .ok (.bipush 9, 2) := by decide +kernel
theorem dX8_leastOf_5 : decode cX8_leastOf 5 = .ok (.istore_n 2, 1) := by decide +kernel
theorem dX8_leastOf_6 : decode cX8_leastOf 6 = .ok (.iload_n 2, 1) := by decide +kernel
theorem dX8_leastOf_7 : decode cX8_leastOf 7 = .ok (.ifCond .lt 23, 3) := by decide +kernel
theorem dX8_leastOf_10 : decode cX8_leastOf 10 = .ok (.iload_n 0, 1) := by decide +kernel
theorem dX8_leastOf_11 : decode cX8_leastOf 11 = .ok (.iload_n 2, 1) := by decide +kernel
theorem dX8_leastOf_12 : decode cX8_leastOf 12 = .ok (.invokestatic 153, 3) := by decide +kernel
theorem dX8_leastOf_15 : decode cX8_leastOf 15 = .ok (.ifCond .eq 7, 3) := by decide +kernel
theorem dX8_leastOf_18 : decode cX8_leastOf 18 = .ok (.iload_n 2, 1) := by decide +kernel
theorem dX8_leastOf_19 : decode cX8_leastOf 19 = .ok (.goto 4, 3) := by decide +kernel
theorem dX8_leastOf_22 : decode cX8_leastOf 22 = .ok (.iload_n 1, 1) := by decide +kernel
theorem dX8_leastOf_23 : decode cX8_leastOf 23 = .ok (.istore_n 1, 1) := by decide +kernel
theorem dX8_leastOf_24 : decode cX8_leastOf 24 = .ok (.iinc 2 (-1), 3) := by decide +kernel
theorem dX8_leastOf_27 : decode cX8_leastOf 27 = .ok (.goto (-21), 3) := by decide +kernel
theorem dX8_leastOf_30 : decode cX8_leastOf 30 = .ok (.iload_n 1, 1) := by decide +kernel
theorem dX8_leastOf_31 : decode cX8_leastOf 31 = .ok (.ireturn, 1) := by decide +kernel
set_option maxRecDepth 20000 in
theorem ggX8_goOne_X8_happen : GoodIn wsX8_goOne wsX8_happen := goodIn_r _ [11, 12, 13, 14, 15, 16, 17, 10, 18, 19, 1, 20, 21, 22, 23, 24, 25, 26, 27, 28, 29, 30, 31, 32, 33, 34, 35, 36, 37, 38, 39, 40, 41, 42, 43, 44, 45, 46, 47, 48, 49, 50, 51, 52, 53, 54, 55, 56, 57, 64, 65, 66, 67, 68, 69, 70, 71, 72, 73, 74, 75, 76, 77, 78, 79, 80, 81, 82, 83, 84, 85, 86, 87, 88, 89, 90, 91, 92, 93, 94, 95, 96, 97, 98, 99, 100] (by decide +kernel) (by decide +kernel)
set_option maxRecDepth 20000 in
theorem gX8_goOne_X8_happen : GoodIn wsX8_goOne (wsV RX8 195 RX8 yX8_happen wsX8_happen) := goodIn_app (goodIn_of _ (by decide +kernel)) ggX8_goOne_X8_happen
set_option maxRecDepth 20000 in
theorem ggX8_goOne_X8_leastOf : GoodIn wsX8_goOne wsX8_leastOf := goodIn_r _ [60, 61, 62, 10, 63] (by decide +kernel) (by decide +kernel)
set_option maxRecDepth 20000 in
theorem gX8_goOne_X8_leastOf : GoodIn wsX8_goOne (va_wsS RX8 202 yX8_leastOf wsX8_leastOf) := goodIn_app (goodIn_of _ (by decide +kernel)) ggX8_goOne_X8_leastOf
theorem dX8_goOne_0 : decode cX8_goOne 0 = .ok (.aload_n 0, 1) := by decide +kernel
theorem dX8_goOne_1 : decode cX8_goOne 1 = .ok (.iconst 0, 1) := by decide +kernel
theorem dX8_goOne_2 : decode cX8_goOne 2 = .ok (.putfield 171, 3) := by decide +kernel
theorem dX8_goOne_5 : decode cX8_goOne 5 = .ok (.aload_n 0, 1) := by decide +kernel
theorem dX8_goOne_6 : decode cX8_goOne 6 = .ok (.aload_n 0, 1) := by decide +kernel
theorem dX8_goOne_7 : decode cX8_goOne 7 = .ok (.getfield 28, 3) := by decide +kernel
theorem dX8_goOne_10 : decode cX8_goOne 10 = .ok (.iload_n 1, 1) := by decide +kernel
theorem dX8_goOne_11 : decode cX8_goOne 11 = .ok (.iaload, 1) := by decide +kernel
theorem dX8_goOne_12 : decode cX8_goOne 12 = .ok (.aload_n 0, 1) := by decide +kernel
theorem dX8_goOne_13 : decode cX8_goOne 13 = .ok (.getfield 31, 3) := by decide +kernel
theorem dX8_goOne_16 : decode cX8_goOne 16 = .ok (.iload_n 1, 1) := by decide +kernel
theorem dX8_goOne_17 : decode cX8_goOne 17 = .ok (.iaload, 1) := by decide +kernel
theorem dX8_goOne_18 : decode cX8_goOne 18 = .ok (.aload_n 0, 1) := by decide +kernel
theorem dX8_goOne_19 : decode cX8_goOne 19 = .ok (.getfield 34, 3) := by decide +kernel
theorem dX8_goOne_22 : decode cX8_goOne 22 = .ok (.iload_n 1, 1) := by decide +kernel
theorem dX8_goOne_23 : decode cX8_goOne 23 = .ok (.iaload, 1) := by decide +kernel
theorem dX8_goOne_24 : decode cX8_goOne 24 = .ok (.invokevirtual 195, 3) := by decide +kernel
theorem dX8_goOne_27 : decode cX8_goOne 27 = .ok (.aload_n 0, 1) := by decide +kernel
theorem dX8_goOne_28 : decode cX8_goOne 28 = .ok (.getfield 171, 3) := by decide +kernel
theorem dX8_goOne_31 : decode cX8_goOne 31 = .ok (.ifCond .eq 26, 3) := by decide +kernel
theorem dX8_goOne_34 : decode cX8_goOne 34 = .ok (.aload_n 0, 1) := by decide +kernel
theorem dX8_goOne_35 : decode cX8_goOne 35 = .ok (.getfield 199, 3) := by decide +kernel
theorem dX8_goOne_38 : decode cX8_goOne 38 = .ok (.ifCond .ge 19, 3) := by decide +kernel
theorem dX8_goOne_41 : decode cX8_goOne 41 = .ok (.aload_n 0, 1) := by decide +kernel
theorem dX8_goOne_42 : decode cX8_goOne 42 = .ok (.iload_n 1, 1) := by decide +kernel
theorem dX8_goOne_43 : decode cX8_goOne 43 = .ok (.putfield 199, 3) := by decide +kernel
theorem dX8_goOne_46 : decode cX8_goOne 46 = .ok (.aload_n 0, 1) := by decide +kernel
theorem dX8_goOne_47 : decode cX8_goOne 47 = .ok (.aload_n 0, 1) := by decide +kernel
theorem dX8_goOne_48 : decode cX8_goOne 48 = .ok (.getfield 171, 3) := by decide +kernel
theorem dX8_goOne_51 : decode cX8_goOne 51 = .ok (.invokestatic 202, 3) := by decide +kernel
theorem dX8_goOne_54 : decode cX8_goOne 54 = .ok (.putfield 205, 3) := by decide +kernel
theorem dX8_goOne_57 : decode cX8_goOne 57 = .ok (.return_, 1) := by decide +kernel
set_option maxRecDepth 20000 in
theorem ggX8_goDays_X8_whyNot : GoodIn wsX8_goDays wsX8_whyNot := goodIn_r _ [14, 15, 16, 17, 18, 13, 19, 20, 21, 22, 23, 24, 25, 26, 27, 28, 29, 30, 31, 32, 33, 34, 35, 36, 37, 38, 39, 40, 41, 42, 43, 44, 45, 46, 47, 48, 49, 50, 51, 52, 53, 54, 55, 91, 92, 93, 94, 95, 96, 97, 98, 99, 100, 101, 102, 103, 104, 105, 106, 107, 108, 109, 110, 111, 112, 113, 114, 115, 116, 117, 118, 119, 120, 121, 122, 123, 124, 125, 126, 127] (by decide +kernel) (by decide +kernel)
set_option maxRecDepth 20000 in
theorem gX8_goDays_X8_whyNot : GoodIn wsX8_goDays (wsV RX8 214 RX8 yX8_whyNot wsX8_whyNot) := goodIn_app (goodIn_of _ (by decide +kernel)) ggX8_goDays_X8_whyNot
set_option maxRecDepth 20000 in
theorem ggX8_goDays_X8_goOne : GoodIn wsX8_goDays wsX8_goOne := goodIn_r _ [59, 60, 7, 8, 9, 3, 4, 61, 62, 63, 13, 64, 22, 36, 47, 65, 66, 67, 68, 23, 5, 20, 31, 27, 28, 29, 30, 32, 33, 34, 35, 37, 38, 39, 69, 70, 71, 72, 73, 74, 75, 52, 53, 54, 55, 76, 77, 78, 79, 80, 81, 82, 83, 84, 85, 86, 87, 15, 88, 89, 90, 40, 41, 42, 91, 92, 93, 94, 95, 96, 97, 98, 99, 100, 101, 102, 103, 104, 105, 106, 107, 108, 109, 110, 111, 112, 113, 114, 115, 116, 117, 118, 119, 120, 121, 122, 123, 124, 125, 126, 127] (by decide +kernel) (by decide +kernel)
set_option maxRecDepth 20000 in
theorem gX8_goDays_X8_goOne : GoodIn wsX8_goDays (wsV RX8 218 RX8 yX8_goOne wsX8_goOne) := goodIn_app (goodIn_of _ (by decide +kernel)) ggX8_goDays_X8_goOne
theorem dX8_goDays_0 : decode cX8_goDays 0 = .ok (.aload_n 0, 1) := by decide +kernel
theorem dX8_goDays_1 : decode cX8_goDays 1 = .ok (.bipush (-6), 2) := by decide +kernel
theorem dX8_goDays_3 : decode cX8_goDays 3 = .ok (.putfield 208, 3) := by decide +kernel
theorem dX8_goDays_6 : decode cX8_goDays 6 = .ok (.aload_n 0, 1) := by decide +kernel
theorem dX8_goDays_7 : decode cX8_goDays 7 = .ok (.bipush (-6), 2) := by decide +kernel
theorem dX8_goDays_9 : decode cX8_goDays 9 = .ok (.putfield 211, 3) := by decide +kernel
theorem dX8_goDays_12 : decode cX8_goDays 12 = .ok (.aload_n 0, 1) := by decide +kernel
theorem dX8_goDays_13 : decode cX8_goDays 13 = .ok (.bipush (-6), 2) := by decide +kernel
theorem dX8_goDays_15 : decode cX8_goDays 15 = .ok (.putfield 199, 3) := by decide +kernel
theorem dX8_goDays_18 : decode cX8_goDays 18 = .ok (.aload_n 0, 1) := by decide +kernel
theorem dX8_goDays_19 : decode cX8_goDays 19 = .ok (.bipush (-6), 2) := by decide +kernel
theorem dX8_goDays_21 : decode cX8_goDays 21 = .ok (.putfield 205, 3) := by decide +kernel
theorem dX8_goDays_24 : decode cX8_goDays 24 = .ok (.aload_n 0, 1) := by decide +kernel
theorem dX8_goDays_25 : decode cX8_goDays 25 = .ok (.iconst 0, 1) := by decide +kernel
theorem dX8_goDays_26 : decode cX8_goDays 26 = .ok (.putfield 174, 3) := by decide +kernel
theorem dX8_goDays_29 : decode cX8_goDays 29 = .ok (.iconst 0, 1) := by decide +kernel
theorem dX8_goDays_30 : decode cX8_goDays 30 = .ok (.istore_n 1, 1) := by decide +kernel
theorem dX8_goDays_31 : decode cX8_goDays 31 = .ok (.iload_n 1, 1) := by decide +kernel
theorem dX8_goDays_32 : decode cX8_goDays 32 = .ok (.aload_n 0, 1) := by decide +kernel
theorem dX8_goDays_33 : decode cX8_goDays 33 = .ok (.getfield 115, 3) := by decide +kernel
theorem dX8_goDays_36 : decode cX8_goDays 36 = .ok (.if_icmp .ge 76, 3) := by decide +kernel
theorem dX8_goDays_39 : decode cX8_goDays 39 = .ok (.aload_n 0, 1) := by decide +kernel
theorem dX8_goDays_40 : decode cX8_goDays 40 = .ok (.getfield 208, 3) := by decide +kernel
theorem dX8_goDays_43 : decode cX8_goDays 43 = .ok (.ifCond .ge 69, 3) := by decide +kernel
theorem dX8_goDays_46 : decode cX8_goDays 46 = .ok (.aload_n 0, 1) := by decide +kernel
theorem dX8_goDays_47 : decode cX8_goDays 47 = .ok (.aload_n 0, 1) := by decide +kernel
theorem dX8_goDays_48 : decode cX8_goDays 48 = .ok (.getfield 28, 3) := by decide +kernel
theorem dX8_goDays_51 : decode cX8_goDays 51 = .ok (.iload_n 1, 1) := by decide +kernel
theorem dX8_goDays_52 : decode cX8_goDays 52 = .ok (.iaload, 1) := by decide +kernel
theorem dX8_goDays_53 : decode cX8_goDays 53 = .ok (.aload_n 0, 1) := by decide +kernel
theorem dX8_goDays_54 : decode cX8_goDays 54 = .ok (.getfield 31, 3) := by decide +kernel
theorem dX8_goDays_57 : decode cX8_goDays 57 = .ok (.iload_n 1, 1) := by decide +kernel
theorem dX8_goDays_58 : decode cX8_goDays 58 = .ok (.iaload, 1) := by decide +kernel
theorem dX8_goDays_59 : decode cX8_goDays 59 = .ok (.aload_n 0, 1) := by decide +kernel
theorem dX8_goDays_60 : decode cX8_goDays 60 = .ok (.getfield 34, 3) := by decide +kernel
theorem dX8_goDays_63 : decode cX8_goDays 63 = .ok (.iload_n 1, 1) := by decide +kernel
theorem dX8_goDays_64 : decode cX8_goDays 64 = .ok (.iaload, 1) := by decide +kernel
theorem dX8_goDays_65 : decode cX8_goDays 65 = .ok (.invokevirtual 214, 3) := by decide +kernel
theorem dX8_goDays_68 : decode cX8_goDays 68 = .ok (.istore_n 2, 1) := by decide +kernel
theorem dX8_goDays_69 : decode cX8_goDays 69 = .ok (.aload_n 0, 1) := by decide +kernel
theorem dX8_goDays_70 : decode cX8_goDays 70 = .ok (.iload_n 2, 1) := by decide +kernel
theorem dX8_goDays_71 : decode cX8_goDays 71 = .ok (.ifCond .le 7, 3) := by decide +kernel
theorem dX8_goDays_74 : decode cX8_goDays 74 = .ok (.iload_n 1, 1) := by decide +kernel
theorem dX8_goDays_75 : decode cX8_goDays 75 = .ok (.goto 5, 3) := by decide +kernel
theorem dX8_goDays_78 : decode cX8_goDays 78 = .ok (.bipush (-6), 2) := by decide +kernel
theorem dX8_goDays_80 : decode cX8_goDays 80 = .ok (.putfield 208, 3) := by decide +kernel
theorem dX8_goDays_83 : decode cX8_goDays 83 = .ok (.aload_n 0, 1) := by decide +kernel
theorem dX8_goDays_84 : decode cX8_goDays 84 = .ok (.iload_n 2, 1) := by decide +kernel
theorem dX8_goDays_85 : decode cX8_goDays 85 = .ok (.ifCond .le 7, 3) := by decide +kernel
theorem dX8_goDays_88 : decode cX8_goDays 88 = .ok (.iload_n 2, 1) := by decide +kernel
theorem dX8_goDays_89 : decode cX8_goDays 89 = .ok (.goto 5, 3) := by decide +kernel
theorem dX8_goDays_92 : decode cX8_goDays 92 = .ok (.bipush (-6), 2) := by decide +kernel
theorem dX8_goDays_94 : decode cX8_goDays 94 = .ok (.putfield 211, 3) := by decide +kernel
theorem dX8_goDays_97 : decode cX8_goDays 97 = .ok (.iload_n 2, 1) := by decide +kernel
theorem dX8_goDays_98 : decode cX8_goDays 98 = .ok (.ifCond .ne 8, 3) := by decide +kernel
theorem dX8_goDays_101 : decode cX8_goDays 101 = .ok (.aload_n 0, 1) := by decide +kernel
theorem dX8_goDays_102 : decode cX8_goDays 102 = .ok (.iload_n 1, 1) := by decide +kernel
theorem dX8_goDays_103 : decode cX8_goDays 103 = .ok (.invokevirtual 218, 3) := by decide +kernel
theorem dX8_goDays_106 : decode cX8_goDays 106 = .ok (.iinc 1 1, 3) := by decide +kernel
theorem dX8_goDays_109 : decode cX8_goDays 109 = .ok (.goto (-78), 3) := by decide +kernel
theorem dX8_goDays_112 : decode cX8_goDays 112 = .ok (.return_, 1) := by decide +kernel
set_option maxRecDepth 20000 in
theorem ggX8_refusal_X8_keepNow : GoodIn wsX8_refusal wsX8_keepNow := goodIn_r _ [6, 7, 8, 9, 10, 11, 12, 13, 130, 131, 132, 133, 134, 135, 136, 137, 138, 139, 140, 141, 142, 143, 144, 145, 146, 147, 148, 149, 150, 151, 152, 153, 154, 155, 156, 157, 158, 159, 160, 161, 162, 163, 164, 165, 166] (by decide +kernel) (by decide +kernel)
set_option maxRecDepth 20000 in
theorem gX8_refusal_X8_keepNow : GoodIn wsX8_refusal (wsV RX8 222 RX8 yX8_keepNow wsX8_keepNow) := goodIn_app (goodIn_of _ (by decide +kernel)) ggX8_refusal_X8_keepNow
set_option maxRecDepth 20000 in
theorem ggX8_refusal_X8_fault : GoodIn wsX8_refusal wsX8_fault := goodIn_r _ [17, 18, 19, 20, 21, 22, 23, 5, 24, 25, 26, 27, 28, 29, 30, 31, 32, 33, 34, 35, 36, 37, 38, 39, 40, 41, 42, 43, 44, 45, 46, 47, 48, 49, 50, 130, 131, 132, 133, 134, 135, 136, 137, 138, 139, 140, 141, 142, 143, 144, 145, 146, 147, 148, 149, 150, 151, 152, 153, 154, 155, 156, 157, 158, 159, 160, 161, 162, 163, 164, 165, 166] (by decide +kernel) (by decide +kernel)
set_option maxRecDepth 20000 in
theorem gX8_refusal_X8_fault : GoodIn wsX8_refusal (wsV RX8 225 RX8 yX8_fault wsX8_fault) := goodIn_app (goodIn_of _ (by decide +kernel)) ggX8_refusal_X8_fault
set_option maxRecDepth 20000 in
theorem ggX8_refusal_X8_goDays : GoodIn wsX8_refusal wsX8_goDays := goodIn_r _ [54, 1, 55, 56, 57, 58, 18, 40, 31, 32, 59, 60, 61, 5, 62, 13, 63, 64, 65, 66, 8, 67, 11, 68, 33, 34, 35, 69, 70, 71, 72, 73, 74, 75, 76, 77, 10, 78, 79, 80, 81, 82, 83, 84, 85, 86, 87, 12, 88, 89, 90, 91, 92, 93, 94, 95, 96, 97, 98, 99, 100, 101, 102, 103, 104, 105, 106, 107, 108, 109, 110, 111, 112, 113, 114, 115, 116, 117, 118, 119, 9, 120, 121, 122, 123, 124, 125, 126, 127, 128, 129, 130, 131, 132, 133, 134, 135, 136, 137, 138, 139, 140, 141, 142, 143, 144, 145, 146, 147, 148, 149, 150, 151, 152, 153, 154, 155, 156, 157, 158, 159, 160, 161, 162, 163, 164, 165, 166] (by decide +kernel) (by decide +kernel)
set_option maxRecDepth 20000 in
theorem gX8_refusal_X8_goDays : GoodIn wsX8_refusal (wsV RX8 229 RX8 yX8_goDays wsX8_goDays) := goodIn_app (goodIn_of _ (by decide +kernel)) ggX8_refusal_X8_goDays
theorem dX8_refusal_0 : decode cX8_refusal 0 = .ok (.aload_n 0, 1) := by decide +kernel
theorem dX8_refusal_1 : decode cX8_refusal 1 = .ok (.invokevirtual 222, 3) := by decide +kernel
theorem dX8_refusal_4 : decode cX8_refusal 4 = .ok (.aload_n 0, 1) := by decide +kernel
theorem dX8_refusal_5 : decode cX8_refusal 5 = .ok (.invokevirtual 225, 3) := by decide +kernel
theorem dX8_refusal_8 : decode cX8_refusal 8 = .ok (.ifCond .lt 6, 3) := by decide +kernel
theorem dX8_refusal_11 : decode cX8_refusal 11 = .ok (.bipush (-5), 2) := by decide +kernel
theorem dX8_refusal_13 : decode cX8_refusal 13 = .ok (.ireturn, 1) := by decide +kernel
theorem dX8_refusal_14 : decode cX8_refusal 14 = .ok (.aload_n 0, 1) := by decide +kernel
theorem dX8_refusal_15 : decode cX8_refusal 15 = .ok (.invokevirtual 229, 3) := by decide +kernel
theorem dX8_refusal_18 : decode cX8_refusal 18 = .ok (.aload_n 0, 1) := by decide +kernel
theorem dX8_refusal_19 : decode cX8_refusal 19 = .ok (.getfield 208, 3) := by decide +kernel
theorem dX8_refusal_22 : decode cX8_refusal 22 = .ok (.ifCond .lt 8, 3) := by decide +kernel
theorem dX8_refusal_25 : decode cX8_refusal 25 = .ok (.bipush (-3), 2) := by decide +kernel
theorem dX8_refusal_27 : decode cX8_refusal 27 = .ok (.goto 5, 3) := by decide +kernel
theorem dX8_refusal_30 : decode cX8_refusal 30 = .ok (.bipush (-6), 2) := by decide +kernel
theorem dX8_refusal_32 : decode cX8_refusal 32 = .ok (.ireturn, 1) := by decide +kernel
set_option maxRecDepth 20000 in
theorem ggX8_judge_X8_in : GoodIn wsX8_judge wsX8_in := goodIn_r _ [8] (by decide +kernel) (by decide +kernel)
set_option maxRecDepth 20000 in
theorem gX8_judge_X8_in : GoodIn wsX8_judge (va_wsS RX8 83 yX8_in wsX8_in) := goodIn_app (goodIn_of _ (by decide +kernel)) ggX8_judge_X8_in
set_option maxRecDepth 20000 in
theorem ggX8_judge_X8_refusal : GoodIn wsX8_judge wsX8_refusal := goodIn_r _ [12, 2, 13, 14, 15, 7, 16, 17, 18, 19, 20, 21, 22, 23, 24, 25, 26, 27, 28, 29, 30, 31, 32, 33, 34, 35, 36, 37, 38, 39, 40, 41, 42, 5, 6, 8, 43, 44, 45, 46, 47, 48, 49, 50, 51, 52, 53, 54, 55, 56, 57, 58, 59, 60, 61, 3, 62, 63, 4, 64, 65, 66, 67, 68, 69, 70, 71, 72, 73, 74, 75, 76, 77, 78, 79, 80, 81, 82, 83, 84, 85, 86, 87, 88, 89, 90, 91, 92, 93, 94, 95, 96, 97, 98, 99, 100, 101, 102, 103, 104, 105, 106, 107, 108, 109, 110, 111, 112, 113, 114, 115, 116, 117, 118, 119, 120, 121, 122, 123, 124, 125, 126, 127, 128, 129, 130, 131, 132, 133, 134, 139, 140, 141, 142, 143, 144, 145, 146, 147, 148, 149, 150, 151, 152, 153, 154, 155, 156, 157, 158, 159, 160, 161, 162, 163, 164, 165, 166, 167, 168, 169, 170, 171, 172, 173, 174, 175] (by decide +kernel) (by decide +kernel)
set_option maxRecDepth 20000 in
theorem gX8_judge_X8_refusal : GoodIn wsX8_judge (wsV RX8 234 RX8 yX8_refusal wsX8_refusal) := goodIn_app (goodIn_of _ (by decide +kernel)) ggX8_judge_X8_refusal
set_option maxRecDepth 20000 in
theorem ggX8_judge_X8_back : GoodIn wsX8_judge wsX8_back := goodIn_r _ [138, 18, 17, 19, 20, 21, 22, 23, 139, 140, 141, 142, 143, 144, 145, 146, 147, 148, 149, 150, 151, 152, 153, 154, 155, 156, 157, 158, 159, 160, 161, 162, 163, 164, 165, 166, 167, 168, 169, 170, 171, 172, 173, 174, 175] (by decide +kernel) (by decide +kernel)
set_option maxRecDepth 20000 in
theorem gX8_judge_X8_back : GoodIn wsX8_judge (wsV RX8 237 RX8 yX8_back wsX8_back) := goodIn_app (goodIn_of _ (by decide +kernel)) ggX8_judge_X8_back
theorem dX8_judge_0 : decode cX8_judge 0 = .ok (.iload_n 1, 1) := by decide +kernel
theorem dX8_judge_1 : decode cX8_judge 1 = .ok (.i2l, 1) := by decide +kernel
theorem dX8_judge_2 : decode cX8_judge 2 = .ok (.lconst 0, 1) := by decide +kernel
theorem dX8_judge_3 : decode cX8_judge 3 = .ok (.ldc2_w 232, 3) := by decide +kernel
theorem dX8_judge_6 : decode cX8_judge 6 = .ok (.invokestatic 83, 3) := by decide +kernel
theorem dX8_judge_9 : decode cX8_judge 9 = .ok (.ifCond .ne 6, 3) := by decide +kernel
theorem dX8_judge_12 : decode cX8_judge 12 = .ok (.bipush (-2), 2) := by decide +kernel
theorem dX8_judge_14 : decode cX8_judge 14 = .ok (.ireturn, 1) := by decide +kernel
theorem dX8_judge_15 : decode cX8_judge 15 = .ok (.aload_n 0, 1) := by decide +kernel
theorem dX8_judge_16 : decode cX8_judge 16 = .ok (.aload_n 0, 1) := by decide +kernel
theorem dX8_judge_17 : decode cX8_judge 17 = .ok (.invokevirtual 234, 3) := by decide +kernel
theorem dX8_judge_20 : decode cX8_judge 20 = .ok (.invokevirtual 237, 3) := by decide +kernel
theorem dX8_judge_23 : decode cX8_judge 23 = .ok (.istore_n 2, 1) := by decide +kernel
theorem dX8_judge_24 : decode cX8_judge 24 = .ok (.iload_n 2, 1) := by decide +kernel
theorem dX8_judge_25 : decode cX8_judge 25 = .ok (.bipush (-5), 2) := by decide +kernel
theorem dX8_judge_27 : decode cX8_judge 27 = .ok (.if_icmp .eq 14, 3) := by decide +kernel
theorem dX8_judge_30 : decode cX8_judge 30 = .ok (.iload_n 1, 1) := by decide +kernel
theorem dX8_judge_31 : decode cX8_judge 31 = .ok (.iconst 1, 1) := by decide +kernel
theorem dX8_judge_32 : decode cX8_judge 32 = .ok (.if_icmp .le 11, 3) := by decide +kernel
theorem dX8_judge_35 : decode cX8_judge 35 = .ok (.iload_n 2, 1) := by decide +kernel
theorem dX8_judge_36 : decode cX8_judge 36 = .ok (.bipush (-3), 2) := by decide +kernel
theorem dX8_judge_38 : decode cX8_judge 38 = .ok (.if_icmp .ne 5, 3) := by decide +kernel
theorem dX8_judge_41 : decode cX8_judge 41 = .ok (.iload_n 2, 1) := by decide +kernel
theorem dX8_judge_42 : decode cX8_judge 42 = .ok (.ireturn, 1) := by decide +kernel
theorem dX8_judge_43 : decode cX8_judge 43 = .ok (.iload_n 1, 1) := by decide +kernel
theorem dX8_judge_44 : decode cX8_judge 44 = .ok (.ifCond .ne 10, 3) := by decide +kernel
theorem dX8_judge_47 : decode cX8_judge 47 = .ok (.aload_n 0, 1) := by decide +kernel
theorem dX8_judge_48 : decode cX8_judge 48 = .ok (.getfield 208, 3) := by decide +kernel
theorem dX8_judge_51 : decode cX8_judge 51 = .ok (.goto 19, 3) := by decide +kernel
theorem dX8_judge_54 : decode cX8_judge 54 = .ok (.iload_n 1, 1) := by decide +kernel
theorem dX8_judge_55 : decode cX8_judge 55 = .ok (.iconst 1, 1) := by decide +kernel
theorem dX8_judge_56 : decode cX8_judge 56 = .ok (.if_icmp .ne 10, 3) := by decide +kernel
theorem dX8_judge_59 : decode cX8_judge 59 = .ok (.aload_n 0, 1) := by decide +kernel
theorem dX8_judge_60 : decode cX8_judge 60 = .ok (.getfield 211, 3) := by decide +kernel
theorem dX8_judge_63 : decode cX8_judge 63 = .ok (.goto 7, 3) := by decide +kernel
theorem dX8_judge_66 : decode cX8_judge 66 = .ok (.aload_n 0, 1) := by decide +kernel
theorem dX8_judge_67 : decode cX8_judge 67 = .ok (.getfield 174, 3) := by decide +kernel
theorem dX8_judge_70 : decode cX8_judge 70 = .ok (.ireturn, 1) := by decide +kernel
set_option maxRecDepth 20000 in
theorem ggX8_behind_X8_isChild : GoodIn wsX8_behind wsX8_isChild := goodIn_r _ [8, 9, 10, 11, 7, 12] (by decide +kernel) (by decide +kernel)
set_option maxRecDepth 20000 in
theorem gX8_behind_X8_isChild : GoodIn wsX8_behind (va_wsS RX8 91 yX8_isChild wsX8_isChild) := goodIn_app (goodIn_of _ (by decide +kernel)) ggX8_behind_X8_isChild
set_option maxRecDepth 20000 in
theorem ggX8_behind_X8_in : GoodIn wsX8_behind wsX8_in := goodIn_r _ [12] (by decide +kernel) (by decide +kernel)
set_option maxRecDepth 20000 in
theorem gX8_behind_X8_in : GoodIn wsX8_behind (va_wsS RX8 83 yX8_in wsX8_in) := goodIn_app (goodIn_of _ (by decide +kernel)) ggX8_behind_X8_in
set_option maxRecDepth 20000 in
theorem ggX8_behind_X8_refusal : GoodIn wsX8_behind wsX8_refusal := goodIn_r _ [16, 17, 18, 19, 20, 7, 21, 22, 2, 3, 23, 4, 24, 25, 26, 27, 28, 29, 30, 31, 32, 33, 34, 35, 36, 37, 38, 39, 40, 41, 42, 43, 44, 10, 11, 12, 45, 46, 47, 48, 49, 50, 51, 52, 53, 54, 55, 56, 57, 58, 59, 60, 61, 62, 63, 64, 65, 66, 67, 68, 69, 70, 71, 72, 73, 74, 75, 76, 77, 78, 79, 80, 81, 82, 83, 84, 85, 86, 87, 88, 89, 90, 91, 92, 93, 94, 95, 96, 97, 98, 99, 100, 101, 102, 103, 104, 105, 106, 107, 108, 109, 110, 111, 112, 113, 114, 115, 116, 117, 118, 119, 120, 121, 122, 123, 124, 125, 126, 127, 128, 129, 130, 131, 132, 133, 134, 135, 136, 137, 138, 143, 144, 145, 146, 147, 148, 149, 150, 151, 152, 153, 154, 155, 156, 157, 158, 159, 160, 161, 162, 163, 164, 165, 166, 167, 168, 169, 170, 171, 172, 173, 174, 175, 176, 177, 178, 179] (by decide +kernel) (by decide +kernel)
set_option maxRecDepth 20000 in
theorem gX8_behind_X8_refusal : GoodIn wsX8_behind (wsV RX8 234 RX8 yX8_refusal wsX8_refusal) := goodIn_app (goodIn_of _ (by decide +kernel)) ggX8_behind_X8_refusal
set_option maxRecDepth 20000 in
theorem ggX8_behind_X8_back : GoodIn wsX8_behind wsX8_back := goodIn_r _ [142, 2, 22, 3, 23, 4, 24, 25, 143, 144, 145, 146, 147, 148, 149, 150, 151, 152, 153, 154, 155, 156, 157, 158, 159, 160, 161, 162, 163, 164, 165, 166, 167, 168, 169, 170, 171, 172, 173, 174, 175, 176, 177, 178, 179] (by decide +kernel) (by decide +kernel)
set_option maxRecDepth 20000 in
theorem gX8_behind_X8_back : GoodIn wsX8_behind (wsV RX8 237 RX8 yX8_back wsX8_back) := goodIn_app (goodIn_of _ (by decide +kernel)) ggX8_behind_X8_back
theorem dX8_behind_0 : decode cX8_behind 0 = .ok (.iload_n 1, 1) := by decide +kernel
theorem dX8_behind_1 : decode cX8_behind 1 = .ok (.invokestatic 91, 3) := by decide +kernel
theorem dX8_behind_4 : decode cX8_behind 4 = .ok (.ifCond .ne 5, 3) := by decide +kernel
theorem dX8_behind_7 : decode cX8_behind 7 = .ok (.iconst (-1), 1) := by decide +kernel
theorem dX8_behind_8 : decode cX8_behind 8 = .ok (.ireturn, 1) := by decide +kernel
theorem dX8_behind_9 : decode cX8_behind 9 = .ok (.iload_n 2, 1) := by decide +kernel
theorem dX8_behind_10 : decode cX8_behind 10 = .ok (.i2l, 1) := by decide +kernel
theorem dX8_behind_11 : decode cX8_behind 11 = .ok (.lconst 0, 1) := by decide +kernel
theorem dX8_behind_12 : decode cX8_behind 12 = .ok (.ldc2_w 232, 3) := by decide +kernel
theorem dX8_behind_15 : decode cX8_behind 15 = .ok (.invokestatic 83, 3) := by decide +kernel
theorem dX8_behind_18 : decode cX8_behind 18 = .ok (.ifCond .ne 6, 3) := by decide +kernel
theorem dX8_behind_21 : decode cX8_behind 21 = .ok (.bipush (-2), 2) := by decide +kernel
theorem dX8_behind_23 : decode cX8_behind 23 = .ok (.ireturn, 1) := by decide +kernel
theorem dX8_behind_24 : decode cX8_behind 24 = .ok (.aload_n 0, 1) := by decide +kernel
theorem dX8_behind_25 : decode cX8_behind 25 = .ok (.invokevirtual 234, 3) := by decide +kernel
theorem dX8_behind_28 : decode cX8_behind 28 = .ok (.istore_n 3, 1) := by decide +kernel
theorem dX8_behind_29 : decode cX8_behind 29 = .ok (.aload_n 0, 1) := by decide +kernel
theorem dX8_behind_30 : decode cX8_behind 30 = .ok (.iload_n 3, 1) := by decide +kernel
theorem dX8_behind_31 : decode cX8_behind 31 = .ok (.bipush (-6), 2) := by decide +kernel
theorem dX8_behind_33 : decode cX8_behind 33 = .ok (.if_icmp .eq 7, 3) := by decide +kernel
theorem dX8_behind_36 : decode cX8_behind 36 = .ok (.iload_n 3, 1) := by decide +kernel
theorem dX8_behind_37 : decode cX8_behind 37 = .ok (.goto 38, 3) := by decide +kernel
theorem dX8_behind_40 : decode cX8_behind 40 = .ok (.iload_n 2, 1) := by decide +kernel
theorem dX8_behind_41 : decode cX8_behind 41 = .ok (.ifCond .ne 12, 3) := by decide +kernel
theorem dX8_behind_44 : decode cX8_behind 44 = .ok (.aload_n 0, 1) := by decide +kernel
theorem dX8_behind_45 : decode cX8_behind 45 = .ok (.getfield 7, 3) := by decide +kernel
theorem dX8_behind_48 : decode cX8_behind 48 = .ok (.iload_n 1, 1) := by decide +kernel
theorem dX8_behind_49 : decode cX8_behind 49 = .ok (.iaload, 1) := by decide +kernel
theorem dX8_behind_50 : decode cX8_behind 50 = .ok (.goto 25, 3) := by decide +kernel
theorem dX8_behind_53 : decode cX8_behind 53 = .ok (.iload_n 2, 1) := by decide +kernel
theorem dX8_behind_54 : decode cX8_behind 54 = .ok (.iconst 1, 1) := by decide +kernel
theorem dX8_behind_55 : decode cX8_behind 55 = .ok (.if_icmp .ne 12, 3) := by decide +kernel
theorem dX8_behind_58 : decode cX8_behind 58 = .ok (.aload_n 0, 1) := by decide +kernel
theorem dX8_behind_59 : decode cX8_behind 59 = .ok (.getfield 13, 3) := by decide +kernel
theorem dX8_behind_62 : decode cX8_behind 62 = .ok (.iload_n 1, 1) := by decide +kernel
theorem dX8_behind_63 : decode cX8_behind 63 = .ok (.iaload, 1) := by decide +kernel
theorem dX8_behind_64 : decode cX8_behind 64 = .ok (.goto 11, 3) := by decide +kernel
theorem dX8_behind_67 : decode cX8_behind 67 = .ok (.aload_n 0, 1) := by decide +kernel
theorem dX8_behind_68 : decode cX8_behind 68 = .ok (.getfield 101, 3) := by decide +kernel
theorem dX8_behind_71 : decode cX8_behind 71 = .ok (.iload_n 1, 1) := by decide +kernel
theorem dX8_behind_72 : decode cX8_behind 72 = .ok (.ishr, 1) := by decide +kernel
theorem dX8_behind_73 : decode cX8_behind 73 = .ok (.iconst 1, 1) := by decide +kernel
theorem dX8_behind_74 : decode cX8_behind 74 = .ok (.iand, 1) := by decide +kernel
theorem dX8_behind_75 : decode cX8_behind 75 = .ok (.invokevirtual 237, 3) := by decide +kernel
theorem dX8_behind_78 : decode cX8_behind 78 = .ok (.ireturn, 1) := by decide +kernel
set_option maxRecDepth 20000 in
theorem ggX8_taut_X8_isTaut : GoodIn wsX8_taut wsX8_isTaut := goodIn_r _ [5, 6, 7, 8, 9, 4, 10, 11, 12, 13, 14, 15, 16, 17, 18, 19, 20, 21, 22, 23, 24, 25, 26, 27, 28, 29, 30, 31, 32, 33, 34, 35, 36, 37, 38, 39, 40, 41, 42, 43, 44, 45, 46, 47] (by decide +kernel) (by decide +kernel)
set_option maxRecDepth 20000 in
theorem gX8_taut_X8_isTaut : GoodIn wsX8_taut (wsV RX8 156 RX8 yX8_isTaut wsX8_isTaut) := goodIn_app (goodIn_of _ (by decide +kernel)) ggX8_taut_X8_isTaut
theorem dX8_taut_0 : decode cX8_taut 0 = .ok (.iconst 0, 1) := by decide +kernel
theorem dX8_taut_1 : decode cX8_taut 1 = .ok (.istore_n 1, 1) := by decide +kernel
theorem dX8_taut_2 : decode cX8_taut 2 = .ok (.iconst 0, 1) := by decide +kernel
theorem dX8_taut_3 : decode cX8_taut 3 = .ok (.istore_n 2, 1) := by decide +kernel
theorem dX8_taut_4 : decode cX8_taut 4 = .ok (.iload_n 2, 1) := by decide +kernel
theorem dX8_taut_5 : decode cX8_taut 5 = .ok (.bipush 9, 2) := by decide +kernel
theorem dX8_taut_7 : decode cX8_taut 7 = .ok (.if_icmp .ge 27, 3) := by decide +kernel
theorem dX8_taut_10 : decode cX8_taut 10 = .ok (.iload_n 1, 1) := by decide +kernel
theorem dX8_taut_11 : decode cX8_taut 11 = .ok (.aload_n 0, 1) := by decide +kernel
theorem dX8_taut_12 : decode cX8_taut 12 = .ok (.iload_n 2, 1) := by decide +kernel
theorem dX8_taut_13 : decode cX8_taut 13 = .ok (.invokevirtual 156, 3) := by decide +kernel
theorem dX8_taut_16 : decode cX8_taut 16 = .ok (.ifCond .eq 9, 3) := by decide +kernel
theorem dX8_taut_19 : decode cX8_taut 19 = .ok (.iconst 1, 1) := by decide +kernel
theorem dX8_taut_20 : decode cX8_taut 20 = .ok (.iload_n 2, 1) := by decide +kernel
theorem dX8_taut_21 : decode cX8_taut 21 = .ok (.ishl, 1) := by decide +kernel
theorem dX8_taut_22 : decode cX8_taut 22 = .ok (.goto 4, 3) := by decide +kernel
theorem dX8_taut_25 : decode cX8_taut 25 = .ok (.iconst 0, 1) := by decide +kernel
theorem dX8_taut_26 : decode cX8_taut 26 = .ok (.ior, 1) := by decide +kernel
theorem dX8_taut_27 : decode cX8_taut 27 = .ok (.istore_n 1, 1) := by decide +kernel
theorem dX8_taut_28 : decode cX8_taut 28 = .ok (.iinc 2 1, 3) := by decide +kernel
theorem dX8_taut_31 : decode cX8_taut 31 = .ok (.goto (-27), 3) := by decide +kernel
theorem dX8_taut_34 : decode cX8_taut 34 = .ok (.iload_n 1, 1) := by decide +kernel
theorem dX8_taut_35 : decode cX8_taut 35 = .ok (.ireturn, 1) := by decide +kernel
theorem dX8_allYards_0 : decode cX8_allYards 0 = .ok (.iconst 0, 1) := by decide +kernel
theorem dX8_allYards_1 : decode cX8_allYards 1 = .ok (.istore_n 1, 1) := by decide +kernel
theorem dX8_allYards_2 : decode cX8_allYards 2 = .ok (.iconst 0, 1) := by decide +kernel
theorem dX8_allYards_3 : decode cX8_allYards 3 = .ok (.istore_n 2, 1) := by decide +kernel
theorem dX8_allYards_4 : decode cX8_allYards 4 = .ok (.iload_n 2, 1) := by decide +kernel
theorem dX8_allYards_5 : decode cX8_allYards 5 = .ok (.bipush 9, 2) := by decide +kernel
theorem dX8_allYards_7 : decode cX8_allYards 7 = .ok (.if_icmp .ge 18, 3) := by decide +kernel
theorem dX8_allYards_10 : decode cX8_allYards 10 = .ok (.iload_n 1, 1) := by decide +kernel
theorem dX8_allYards_11 : decode cX8_allYards 11 = .ok (.aload_n 0, 1) := by decide +kernel
theorem dX8_allYards_12 : decode cX8_allYards 12 = .ok (.getfield 16, 3) := by decide +kernel
theorem dX8_allYards_15 : decode cX8_allYards 15 = .ok (.iload_n 2, 1) := by decide +kernel
theorem dX8_allYards_16 : decode cX8_allYards 16 = .ok (.iaload, 1) := by decide +kernel
theorem dX8_allYards_17 : decode cX8_allYards 17 = .ok (.iadd, 1) := by decide +kernel
theorem dX8_allYards_18 : decode cX8_allYards 18 = .ok (.istore_n 1, 1) := by decide +kernel
theorem dX8_allYards_19 : decode cX8_allYards 19 = .ok (.iinc 2 1, 3) := by decide +kernel
theorem dX8_allYards_22 : decode cX8_allYards 22 = .ok (.goto (-18), 3) := by decide +kernel
theorem dX8_allYards_25 : decode cX8_allYards 25 = .ok (.iload_n 1, 1) := by decide +kernel
theorem dX8_allYards_26 : decode cX8_allYards 26 = .ok (.ireturn, 1) := by decide +kernel
set_option maxRecDepth 20000 in
theorem ggX8_line_X8_in : GoodIn wsX8_line wsX8_in := goodIn_r _ [7] (by decide +kernel) (by decide +kernel)
set_option maxRecDepth 20000 in
theorem gX8_line_X8_in : GoodIn wsX8_line (va_wsS RX8 83 yX8_in wsX8_in) := goodIn_app (goodIn_of _ (by decide +kernel)) ggX8_line_X8_in
set_option maxRecDepth 20000 in
theorem ggX8_line_X8_refusal : GoodIn wsX8_line wsX8_refusal := goodIn_r _ [11, 12, 13, 14, 15, 6, 16, 17, 18, 19, 20, 21, 2, 3, 22, 23, 24, 25, 26, 27, 28, 29, 30, 31, 32, 33, 34, 35, 36, 37, 38, 39, 40, 4, 5, 7, 41, 42, 43, 44, 45, 46, 47, 48, 49, 50, 51, 52, 53, 54, 55, 56, 57, 58, 59, 60, 61, 62, 63, 64, 65, 66, 67, 68, 69, 70, 71, 72, 73, 74, 75, 76, 77, 78, 79, 80, 81, 82, 83, 84, 85, 86, 87, 88, 89, 90, 91, 92, 93, 94, 95, 96, 97, 98, 99, 100, 101, 102, 103, 104, 105, 106, 107, 108, 109, 110, 111, 112, 113, 114, 115, 116, 117, 118, 119, 120, 121, 122, 123, 124, 125, 126, 127, 128, 129, 130, 131, 132, 133, 134, 147, 148, 149, 150, 151, 152, 153, 154, 155, 156, 157, 158, 159, 160, 161, 162, 163, 164, 165, 166, 167, 168, 169, 170, 171, 172, 173, 174, 175, 176, 177, 178, 179, 180, 181, 182, 183] (by decide +kernel) (by decide +kernel)
set_option maxRecDepth 20000 in
theorem gX8_line_X8_refusal : GoodIn wsX8_line (wsV RX8 234 RX8 yX8_refusal wsX8_refusal) := goodIn_app (goodIn_of _ (by decide +kernel)) ggX8_line_X8_refusal
set_option maxRecDepth 20000 in
theorem ggX8_line_X8_taut : GoodIn wsX8_line wsX8_taut := goodIn_r _ [138, 97, 98, 99, 6, 100, 18, 20, 83, 84, 85, 147, 148, 149, 150, 151, 152, 153, 154, 155, 156, 157, 158, 159, 160, 161, 162, 163, 164, 165, 166, 167, 168, 169, 170, 171, 172, 173, 174, 175, 176, 177, 178, 179, 180, 181, 182, 183] (by decide +kernel) (by decide +kernel)
set_option maxRecDepth 20000 in
theorem gX8_line_X8_taut : GoodIn wsX8_line (wsV RX8 242 RX8 yX8_taut wsX8_taut) := goodIn_app (goodIn_of _ (by decide +kernel)) ggX8_line_X8_taut
set_option maxRecDepth 20000 in
theorem ggX8_line_X8_allYards : GoodIn wsX8_line wsX8_allYards := goodIn_r _ [142, 20, 147, 148, 149, 150, 151, 152, 153, 154, 155, 156, 157, 158, 159, 160, 161, 162, 163, 164, 165, 166, 167, 168, 169, 170, 171, 172, 173, 174, 175, 176, 177, 178, 179, 180, 181, 182, 183] (by decide +kernel) (by decide +kernel)
set_option maxRecDepth 20000 in
theorem gX8_line_X8_allYards : GoodIn wsX8_line (wsV RX8 245 RX8 yX8_allYards wsX8_allYards) := goodIn_app (goodIn_of _ (by decide +kernel)) ggX8_line_X8_allYards
set_option maxRecDepth 20000 in
theorem ggX8_line_X8_back : GoodIn wsX8_line wsX8_back := goodIn_r _ [146, 18, 17, 19, 20, 21, 2, 3, 147, 148, 149, 150, 151, 152, 153, 154, 155, 156, 157, 158, 159, 160, 161, 162, 163, 164, 165, 166, 167, 168, 169, 170, 171, 172, 173, 174, 175, 176, 177, 178, 179, 180, 181, 182, 183] (by decide +kernel) (by decide +kernel)
set_option maxRecDepth 20000 in
theorem gX8_line_X8_back : GoodIn wsX8_line (wsV RX8 237 RX8 yX8_back wsX8_back) := goodIn_app (goodIn_of _ (by decide +kernel)) ggX8_line_X8_back
theorem dX8_line_0 : decode cX8_line 0 = .ok (.iload_n 1, 1) := by decide +kernel
theorem dX8_line_1 : decode cX8_line 1 = .ok (.i2l, 1) := by decide +kernel
theorem dX8_line_2 : decode cX8_line 2 = .ok (.lconst 0, 1) := by decide +kernel
theorem dX8_line_3 : decode cX8_line 3 = .ok (.ldc2_w 240, 3) := by decide +kernel
theorem dX8_line_6 : decode cX8_line 6 = .ok (.invokestatic 83, 3) := by decide +kernel
theorem dX8_line_9 : decode cX8_line 9 = .ok (.ifCond .ne 6, 3) := by decide +kernel
theorem dX8_line_12 : decode cX8_line 12 = .ok (.bipush (-2), 2) := by decide +kernel
theorem dX8_line_14 : decode cX8_line 14 = .ok (.ireturn, 1) := by decide +kernel
theorem dX8_line_15 : decode cX8_line 15 = .ok (.aload_n 0, 1) := by decide +kernel
theorem dX8_line_16 : decode cX8_line 16 = .ok (.invokevirtual 234, 3) := by decide +kernel
theorem dX8_line_19 : decode cX8_line 19 = .ok (.istore_n 2, 1) := by decide +kernel
theorem dX8_line_20 : decode cX8_line 20 = .ok (.aload_n 0, 1) := by decide +kernel
theorem dX8_line_21 : decode cX8_line 21 = .ok (.iload_n 2, 1) := by decide +kernel
theorem dX8_line_22 : decode cX8_line 22 = .ok (.bipush (-6), 2) := by decide +kernel
theorem dX8_line_24 : decode cX8_line 24 = .ok (.if_icmp .eq 7, 3) := by decide +kernel
theorem dX8_line_27 : decode cX8_line 27 = .ok (.iload_n 2, 1) := by decide +kernel
theorem dX8_line_28 : decode cX8_line 28 = .ok (.goto 42, 3) := by decide +kernel
theorem dX8_line_31 : decode cX8_line 31 = .ok (.iload_n 1, 1) := by decide +kernel
theorem dX8_line_32 : decode cX8_line 32 = .ok (.ifCond .ne 10, 3) := by decide +kernel
theorem dX8_line_35 : decode cX8_line 35 = .ok (.aload_n 0, 1) := by decide +kernel
theorem dX8_line_36 : decode cX8_line 36 = .ok (.invokevirtual 242, 3) := by decide +kernel
theorem dX8_line_39 : decode cX8_line 39 = .ok (.goto 31, 3) := by decide +kernel
theorem dX8_line_42 : decode cX8_line 42 = .ok (.iload_n 1, 1) := by decide +kernel
theorem dX8_line_43 : decode cX8_line 43 = .ok (.iconst 1, 1) := by decide +kernel
theorem dX8_line_44 : decode cX8_line 44 = .ok (.if_icmp .ne 10, 3) := by decide +kernel
theorem dX8_line_47 : decode cX8_line 47 = .ok (.aload_n 0, 1) := by decide +kernel
theorem dX8_line_48 : decode cX8_line 48 = .ok (.getfield 77, 3) := by decide +kernel
theorem dX8_line_51 : decode cX8_line 51 = .ok (.goto 19, 3) := by decide +kernel
theorem dX8_line_54 : decode cX8_line 54 = .ok (.iload_n 1, 1) := by decide +kernel
theorem dX8_line_55 : decode cX8_line 55 = .ok (.iconst 2, 1) := by decide +kernel
theorem dX8_line_56 : decode cX8_line 56 = .ok (.if_icmp .ne 10, 3) := by decide +kernel
theorem dX8_line_59 : decode cX8_line 59 = .ok (.aload_n 0, 1) := by decide +kernel
theorem dX8_line_60 : decode cX8_line 60 = .ok (.invokevirtual 245, 3) := by decide +kernel
theorem dX8_line_63 : decode cX8_line 63 = .ok (.goto 7, 3) := by decide +kernel
theorem dX8_line_66 : decode cX8_line 66 = .ok (.aload_n 0, 1) := by decide +kernel
theorem dX8_line_67 : decode cX8_line 67 = .ok (.getfield 168, 3) := by decide +kernel
theorem dX8_line_70 : decode cX8_line 70 = .ok (.invokevirtual 237, 3) := by decide +kernel
theorem dX8_line_73 : decode cX8_line 73 = .ok (.ireturn, 1) := by decide +kernel
set_option maxRecDepth 20000 in
theorem ggX8_drawn_X8_in : GoodIn wsX8_drawn wsX8_in := goodIn_r _ [6] (by decide +kernel) (by decide +kernel)
set_option maxRecDepth 20000 in
theorem gX8_drawn_X8_in : GoodIn wsX8_drawn (va_wsS RX8 83 yX8_in wsX8_in) := goodIn_app (goodIn_of _ (by decide +kernel)) ggX8_drawn_X8_in
set_option maxRecDepth 20000 in
theorem ggX8_drawn_X8_refusal : GoodIn wsX8_drawn wsX8_refusal := goodIn_r _ [10, 11, 12, 13, 14, 5, 15, 16, 17, 18, 19, 20, 21, 22, 23, 24, 25, 26, 27, 28, 29, 30, 31, 32, 33, 34, 35, 36, 37, 38, 39, 40, 41, 3, 4, 6, 42, 43, 44, 45, 46, 47, 48, 49, 50, 51, 52, 53, 54, 55, 56, 57, 58, 59, 60, 61, 1, 2, 62, 63, 64, 65, 66, 67, 68, 69, 70, 71, 72, 73, 74, 75, 76, 77, 78, 79, 80, 81, 82, 83, 84, 85, 86, 87, 88, 89, 90, 91, 92, 93, 94, 95, 96, 97, 98, 99, 100, 101, 102, 103, 104, 105, 106, 107, 108, 109, 110, 111, 112, 113, 114, 115, 116, 117, 118, 119, 120, 121, 122, 123, 124, 125, 126, 127, 128, 129, 130, 131, 132, 133, 138, 139, 140, 141, 142, 143, 144, 145, 146, 147, 148, 149, 150, 151, 152, 153, 154, 155, 156, 157, 158, 159, 160, 161, 162, 163, 164, 165, 166, 167, 168, 169, 170, 171, 172, 173, 174] (by decide +kernel) (by decide +kernel)
set_option maxRecDepth 20000 in
theorem gX8_drawn_X8_refusal : GoodIn wsX8_drawn (wsV RX8 234 RX8 yX8_refusal wsX8_refusal) := goodIn_app (goodIn_of _ (by decide +kernel)) ggX8_drawn_X8_refusal
set_option maxRecDepth 20000 in
theorem ggX8_drawn_X8_back : GoodIn wsX8_drawn wsX8_back := goodIn_r _ [137, 17, 16, 18, 19, 20, 21, 22, 138, 139, 140, 141, 142, 143, 144, 145, 146, 147, 148, 149, 150, 151, 152, 153, 154, 155, 156, 157, 158, 159, 160, 161, 162, 163, 164, 165, 166, 167, 168, 169, 170, 171, 172, 173, 174] (by decide +kernel) (by decide +kernel)
set_option maxRecDepth 20000 in
theorem gX8_drawn_X8_back : GoodIn wsX8_drawn (wsV RX8 237 RX8 yX8_back wsX8_back) := goodIn_app (goodIn_of _ (by decide +kernel)) ggX8_drawn_X8_back
theorem dX8_drawn_0 : decode cX8_drawn 0 = .ok (.iload_n 1, 1) := by decide +kernel
theorem dX8_drawn_1 : decode cX8_drawn 1 = .ok (.i2l, 1) := by decide +kernel
theorem dX8_drawn_2 : decode cX8_drawn 2 = .ok (.lconst 0, 1) := by decide +kernel
theorem dX8_drawn_3 : decode cX8_drawn 3 = .ok (.lconst 1, 1) := by decide +kernel
theorem dX8_drawn_4 : decode cX8_drawn 4 = .ok (.invokestatic 83, 3) := by decide +kernel
theorem dX8_drawn_7 : decode cX8_drawn 7 = .ok (.ifCond .ne 6, 3) := by decide +kernel
theorem dX8_drawn_10 : decode cX8_drawn 10 = .ok (.bipush (-2), 2) := by decide +kernel
theorem dX8_drawn_12 : decode cX8_drawn 12 = .ok (.ireturn, 1) := by decide +kernel
theorem dX8_drawn_13 : decode cX8_drawn 13 = .ok (.aload_n 0, 1) := by decide +kernel
theorem dX8_drawn_14 : decode cX8_drawn 14 = .ok (.aload_n 0, 1) := by decide +kernel
theorem dX8_drawn_15 : decode cX8_drawn 15 = .ok (.invokevirtual 234, 3) := by decide +kernel
theorem dX8_drawn_18 : decode cX8_drawn 18 = .ok (.invokevirtual 237, 3) := by decide +kernel
theorem dX8_drawn_21 : decode cX8_drawn 21 = .ok (.istore_n 2, 1) := by decide +kernel
theorem dX8_drawn_22 : decode cX8_drawn 22 = .ok (.iload_n 2, 1) := by decide +kernel
theorem dX8_drawn_23 : decode cX8_drawn 23 = .ok (.bipush (-6), 2) := by decide +kernel
theorem dX8_drawn_25 : decode cX8_drawn 25 = .ok (.if_icmp .eq 7, 3) := by decide +kernel
theorem dX8_drawn_28 : decode cX8_drawn 28 = .ok (.iload_n 2, 1) := by decide +kernel
theorem dX8_drawn_29 : decode cX8_drawn 29 = .ok (.goto 18, 3) := by decide +kernel
theorem dX8_drawn_32 : decode cX8_drawn 32 = .ok (.iload_n 1, 1) := by decide +kernel
theorem dX8_drawn_33 : decode cX8_drawn 33 = .ok (.ifCond .ne 10, 3) := by decide +kernel
theorem dX8_drawn_36 : decode cX8_drawn 36 = .ok (.aload_n 0, 1) := by decide +kernel
theorem dX8_drawn_37 : decode cX8_drawn 37 = .ok (.getfield 199, 3) := by decide +kernel
theorem dX8_drawn_40 : decode cX8_drawn 40 = .ok (.goto 7, 3) := by decide +kernel
theorem dX8_drawn_43 : decode cX8_drawn 43 = .ok (.aload_n 0, 1) := by decide +kernel
theorem dX8_drawn_44 : decode cX8_drawn 44 = .ok (.getfield 205, 3) := by decide +kernel
theorem dX8_drawn_47 : decode cX8_drawn 47 = .ok (.ireturn, 1) := by decide +kernel
set_option maxRecDepth 20000 in
theorem ggX8_done_X8_refusal : GoodIn wsX8_done wsX8_refusal := goodIn_r _ [7, 8, 9, 10, 11, 6, 12, 13, 14, 15, 16, 17, 18, 19, 20, 21, 22, 23, 2, 1, 24, 25, 26, 27, 28, 29, 30, 31, 32, 33, 34, 35, 36, 37, 38, 39, 40, 41, 42, 43, 44, 45, 46, 47, 48, 49, 50, 51, 52, 53, 54, 55, 56, 57, 58, 59, 60, 61, 62, 63, 64, 65, 66, 67, 68, 69, 70, 71, 72, 73, 74, 75, 76, 77, 78, 79, 80, 81, 82, 83, 84, 85, 86, 87, 88, 89, 90, 91, 92, 93, 94, 95, 96, 97, 98, 99, 100, 101, 102, 103, 104, 105, 106, 107, 108, 109, 110, 111, 112, 113, 114, 115, 116, 117, 118, 119, 120, 121, 122, 123, 124, 125, 126, 127, 128, 129, 130, 131, 132, 133, 138, 139, 140, 141, 142, 143, 144, 145, 146, 147, 148, 149, 150, 151, 152, 153, 154, 155, 156, 157, 158, 159, 160, 161, 162, 163, 164, 165, 166, 167, 168, 169, 170, 171, 172, 173, 174] (by decide +kernel) (by decide +kernel)
set_option maxRecDepth 20000 in
theorem gX8_done_X8_refusal : GoodIn wsX8_done (wsV RX8 234 RX8 yX8_refusal wsX8_refusal) := goodIn_app (goodIn_of _ (by decide +kernel)) ggX8_done_X8_refusal
set_option maxRecDepth 20000 in
theorem ggX8_done_X8_back : GoodIn wsX8_done wsX8_back := goodIn_r _ [137, 14, 13, 15, 16, 17, 18, 19, 138, 139, 140, 141, 142, 143, 144, 145, 146, 147, 148, 149, 150, 151, 152, 153, 154, 155, 156, 157, 158, 159, 160, 161, 162, 163, 164, 165, 166, 167, 168, 169, 170, 171, 172, 173, 174] (by decide +kernel) (by decide +kernel)
set_option maxRecDepth 20000 in
theorem gX8_done_X8_back : GoodIn wsX8_done (wsV RX8 237 RX8 yX8_back wsX8_back) := goodIn_app (goodIn_of _ (by decide +kernel)) ggX8_done_X8_back
theorem dX8_done_0 : decode cX8_done 0 = .ok (.aload_n 0, 1) := by decide +kernel
theorem dX8_done_1 : decode cX8_done 1 = .ok (.invokevirtual 234, 3) := by decide +kernel
theorem dX8_done_4 : decode cX8_done 4 = .ok (.istore_n 1, 1) := by decide +kernel
theorem dX8_done_5 : decode cX8_done 5 = .ok (.iload_n 1, 1) := by decide +kernel
theorem dX8_done_6 : decode cX8_done 6 = .ok (.bipush (-6), 2) := by decide +kernel
theorem dX8_done_8 : decode cX8_done 8 = .ok (.if_icmp .eq 9, 3) := by decide +kernel
theorem dX8_done_11 : decode cX8_done 11 = .ok (.aload_n 0, 1) := by decide +kernel
theorem dX8_done_12 : decode cX8_done 12 = .ok (.iload_n 1, 1) := by decide +kernel
theorem dX8_done_13 : decode cX8_done 13 = .ok (.invokevirtual 237, 3) := by decide +kernel
theorem dX8_done_16 : decode cX8_done 16 = .ok (.ireturn, 1) := by decide +kernel
theorem dX8_done_17 : decode cX8_done 17 = .ok (.aload_n 0, 1) := by decide +kernel
theorem dX8_done_18 : decode cX8_done 18 = .ok (.iconst 0, 1) := by decide +kernel
theorem dX8_done_19 : decode cX8_done 19 = .ok (.putfield 112, 3) := by decide +kernel
theorem dX8_done_22 : decode cX8_done 22 = .ok (.aload_n 0, 1) := by decide +kernel
theorem dX8_done_23 : decode cX8_done 23 = .ok (.getfield 115, 3) := by decide +kernel
theorem dX8_done_26 : decode cX8_done 26 = .ok (.ireturn, 1) := by decide +kernel
set_option maxRecDepth 20000 in
theorem ggX8_reach_X8_isChild : GoodIn wsX8_reach wsX8_isChild := goodIn_r _ [4, 5, 6, 7, 3, 8] (by decide +kernel) (by decide +kernel)
set_option maxRecDepth 20000 in
theorem gX8_reach_X8_isChild : GoodIn wsX8_reach (va_wsS RX8 91 yX8_isChild wsX8_isChild) := goodIn_app (goodIn_of _ (by decide +kernel)) ggX8_reach_X8_isChild
set_option maxRecDepth 20000 in
theorem ggX8_reach_X8_in : GoodIn wsX8_reach wsX8_in := goodIn_r _ [8] (by decide +kernel) (by decide +kernel)
set_option maxRecDepth 20000 in
theorem gX8_reach_X8_in : GoodIn wsX8_reach (va_wsS RX8 83 yX8_in wsX8_in) := goodIn_app (goodIn_of _ (by decide +kernel)) ggX8_reach_X8_in
set_option maxRecDepth 20000 in
theorem ggX8_reach_X8_whyNotGo : GoodIn wsX8_reach wsX8_whyNotGo := goodIn_r _ [12, 13, 14, 15, 16, 6, 7, 3, 8, 17, 18, 19, 20, 21, 22, 23, 24, 25, 26, 27, 28, 29, 30, 31, 32, 33, 34, 35, 36, 37, 38, 39, 40, 41, 42, 43, 44, 45, 46, 47, 48, 49, 50, 51, 52, 53, 54, 55, 56, 57, 58, 59, 60, 61, 62, 63, 64, 65, 66, 67, 68, 69] (by decide +kernel) (by decide +kernel)
set_option maxRecDepth 20000 in
theorem gX8_reach_X8_whyNotGo : GoodIn wsX8_reach (wsV RX8 159 RX8 yX8_whyNotGo wsX8_whyNotGo) := goodIn_app (goodIn_of _ (by decide +kernel)) ggX8_reach_X8_whyNotGo
theorem dX8_reach_0 : decode cX8_reach 0 = .ok (.iload_n 1, 1) := by decide +kernel
theorem dX8_reach_1 : decode cX8_reach 1 = .ok (.invokestatic 91, 3) := by decide +kernel
theorem dX8_reach_4 : decode cX8_reach 4 = .ok (.ifCond .ne 5, 3) := by decide +kernel
theorem dX8_reach_7 : decode cX8_reach 7 = .ok (.iconst (-1), 1) := by decide +kernel
theorem dX8_reach_8 : decode cX8_reach 8 = .ok (.ireturn, 1) := by decide +kernel
theorem dX8_reach_9 : decode cX8_reach 9 = .ok (.iload_n 2, 1) := by decide +kernel
theorem dX8_reach_10 : decode cX8_reach 10 = .ok (.i2l, 1) := by decide +kernel
theorem dX8_reach_11 : decode cX8_reach 11 = .ok (.lconst 0, 1) := by decide +kernel
theorem dX8_reach_12 : decode cX8_reach 12 = .ok (.lconst 1, 1) := by decide +kernel
theorem dX8_reach_13 : decode cX8_reach 13 = .ok (.invokestatic 83, 3) := by decide +kernel
theorem dX8_reach_16 : decode cX8_reach 16 = .ok (.ifCond .ne 6, 3) := by decide +kernel
theorem dX8_reach_19 : decode cX8_reach 19 = .ok (.bipush (-2), 2) := by decide +kernel
theorem dX8_reach_21 : decode cX8_reach 21 = .ok (.ireturn, 1) := by decide +kernel
theorem dX8_reach_22 : decode cX8_reach 22 = .ok (.iconst 0, 1) := by decide +kernel
theorem dX8_reach_23 : decode cX8_reach 23 = .ok (.istore_n 3, 1) := by decide +kernel
theorem dX8_reach_24 : decode cX8_reach 24 = .ok (.aload_n 0, 1) := by decide +kernel
theorem dX8_reach_25 : decode cX8_reach 25 = .ok (.iload_n 1, 1) := by decide +kernel
theorem dX8_reach_26 : decode cX8_reach 26 = .ok (.iload_n 2, 1) := by decide +kernel
theorem dX8_reach_27 : decode cX8_reach 27 = .ok (.ifCond .ne 9, 3) := by decide +kernel
theorem dX8_reach_30 : decode cX8_reach 30 = .ok (.iload_n 3, 1) := by decide +kernel
theorem dX8_reach_31 : decode cX8_reach 31 = .ok (.iconst 1, 1) := by decide +kernel
theorem dX8_reach_32 : decode cX8_reach 32 = .ok (.iadd, 1) := by decide +kernel
theorem dX8_reach_33 : decode cX8_reach 33 = .ok (.goto 7, 3) := by decide +kernel
theorem dX8_reach_36 : decode cX8_reach 36 = .ok (.iload_n 3, 1) := by decide +kernel
theorem dX8_reach_37 : decode cX8_reach 37 = .ok (.ineg, 1) := by decide +kernel
theorem dX8_reach_38 : decode cX8_reach 38 = .ok (.iconst 1, 1) := by decide +kernel
theorem dX8_reach_39 : decode cX8_reach 39 = .ok (.isub, 1) := by decide +kernel
theorem dX8_reach_40 : decode cX8_reach 40 = .ok (.invokevirtual 159, 3) := by decide +kernel
theorem dX8_reach_43 : decode cX8_reach 43 = .ok (.ifCond .ne 9, 3) := by decide +kernel
theorem dX8_reach_46 : decode cX8_reach 46 = .ok (.iinc 3 1, 3) := by decide +kernel
theorem dX8_reach_49 : decode cX8_reach 49 = .ok (.goto (-25), 3) := by decide +kernel
theorem dX8_reach_52 : decode cX8_reach 52 = .ok (.iload_n 3, 1) := by decide +kernel
theorem dX8_reach_53 : decode cX8_reach 53 = .ok (.ireturn, 1) := by decide +kernel
theorem dX8_readBalls_0 : decode cX8_readBalls 0 = .ok (.iload_n 1, 1) := by decide +kernel
theorem dX8_readBalls_1 : decode cX8_readBalls 1 = .ok (.istore_n 3, 1) := by decide +kernel
theorem dX8_readBalls_2 : decode cX8_readBalls 2 = .ok (.iload_n 2, 1) := by decide +kernel
theorem dX8_readBalls_3 : decode cX8_readBalls 3 = .ok (.iconst 1, 1) := by decide +kernel
theorem dX8_readBalls_4 : decode cX8_readBalls 4 = .ok (.isub, 1) := by decide +kernel
theorem dX8_readBalls_5 : decode cX8_readBalls 5 = .ok (.istore 4, 2) := by decide +kernel
theorem dX8_readBalls_7 : decode cX8_readBalls 7 = .ok (.iload 4, 2) := by decide +kernel
theorem dX8_readBalls_9 : decode cX8_readBalls 9 = .ok (.ifCond .lt 25, 3) := by decide +kernel
theorem dX8_readBalls_12 : decode cX8_readBalls 12 = .ok (.aload_n 0, 1) := by decide +kernel
theorem dX8_readBalls_13 : decode cX8_readBalls 13 = .ok (.getfield 43, 3) := by decide +kernel
theorem dX8_readBalls_16 : decode cX8_readBalls 16 = .ok (.iload 4, 2) := by decide +kernel
theorem dX8_readBalls_18 : decode cX8_readBalls 18 = .ok (.iload_n 3, 1) := by decide +kernel
theorem dX8_readBalls_19 : decode cX8_readBalls 19 = .ok (.bipush 10, 2) := by decide +kernel
theorem dX8_readBalls_21 : decode cX8_readBalls 21 = .ok (.irem, 1) := by decide +kernel
theorem dX8_readBalls_22 : decode cX8_readBalls 22 = .ok (.iastore, 1) := by decide +kernel
theorem dX8_readBalls_23 : decode cX8_readBalls 23 = .ok (.iload_n 3, 1) := by decide +kernel
theorem dX8_readBalls_24 : decode cX8_readBalls 24 = .ok (.bipush 10, 2) := by decide +kernel
theorem dX8_readBalls_26 : decode cX8_readBalls 26 = .ok (.idiv, 1) := by decide +kernel
theorem dX8_readBalls_27 : decode cX8_readBalls 27 = .ok (.istore_n 3, 1) := by decide +kernel
theorem dX8_readBalls_28 : decode cX8_readBalls 28 = .ok (.iinc 4 (-1), 3) := by decide +kernel
theorem dX8_readBalls_31 : decode cX8_readBalls 31 = .ok (.goto (-24), 3) := by decide +kernel
theorem dX8_readBalls_34 : decode cX8_readBalls 34 = .ok (.iload_n 1, 1) := by decide +kernel
theorem dX8_readBalls_35 : decode cX8_readBalls 35 = .ok (.ifCond .lt 11, 3) := by decide +kernel
theorem dX8_readBalls_38 : decode cX8_readBalls 38 = .ok (.iload_n 3, 1) := by decide +kernel
theorem dX8_readBalls_39 : decode cX8_readBalls 39 = .ok (.ifCond .ne 7, 3) := by decide +kernel
theorem dX8_readBalls_42 : decode cX8_readBalls 42 = .ok (.iconst 1, 1) := by decide +kernel
theorem dX8_readBalls_43 : decode cX8_readBalls 43 = .ok (.goto 4, 3) := by decide +kernel
theorem dX8_readBalls_46 : decode cX8_readBalls 46 = .ok (.iconst 0, 1) := by decide +kernel
theorem dX8_readBalls_47 : decode cX8_readBalls 47 = .ok (.ireturn, 1) := by decide +kernel
theorem dX8_sizeOf_0 : decode cX8_sizeOf 0 = .ok (.iconst 0, 1) := by decide +kernel
theorem dX8_sizeOf_1 : decode cX8_sizeOf 1 = .ok (.istore_n 3, 1) := by decide +kernel
theorem dX8_sizeOf_2 : decode cX8_sizeOf 2 = .ok (.iload_n 1, 1) := by decide +kernel
theorem dX8_sizeOf_3 : decode cX8_sizeOf 3 = .ok (.istore 4, 2) := by decide +kernel
theorem dX8_sizeOf_5 : decode cX8_sizeOf 5 = .ok (.iload 4, 2) := by decide +kernel
theorem dX8_sizeOf_7 : decode cX8_sizeOf 7 = .ok (.iload_n 2, 1) := by decide +kernel
theorem dX8_sizeOf_8 : decode cX8_sizeOf 8 = .ok (.if_icmp .ge 19, 3) := by decide +kernel
theorem dX8_sizeOf_11 : decode cX8_sizeOf 11 = .ok (.iload_n 3, 1) := by decide +kernel
theorem dX8_sizeOf_12 : decode cX8_sizeOf 12 = .ok (.aload_n 0, 1) := by decide +kernel
theorem dX8_sizeOf_13 : decode cX8_sizeOf 13 = .ok (.getfield 43, 3) := by decide +kernel
theorem dX8_sizeOf_16 : decode cX8_sizeOf 16 = .ok (.iload 4, 2) := by decide +kernel
theorem dX8_sizeOf_18 : decode cX8_sizeOf 18 = .ok (.iaload, 1) := by decide +kernel
theorem dX8_sizeOf_19 : decode cX8_sizeOf 19 = .ok (.iadd, 1) := by decide +kernel
theorem dX8_sizeOf_20 : decode cX8_sizeOf 20 = .ok (.istore_n 3, 1) := by decide +kernel
theorem dX8_sizeOf_21 : decode cX8_sizeOf 21 = .ok (.iinc 4 1, 3) := by decide +kernel
theorem dX8_sizeOf_24 : decode cX8_sizeOf 24 = .ok (.goto (-19), 3) := by decide +kernel
theorem dX8_sizeOf_27 : decode cX8_sizeOf 27 = .ok (.iload_n 3, 1) := by decide +kernel
theorem dX8_sizeOf_28 : decode cX8_sizeOf 28 = .ok (.ireturn, 1) := by decide +kernel
set_option maxRecDepth 20000 in
theorem ggX8_windOne_X8_less : GoodIn wsX8_windOne wsX8_less := goodIn_r _ [6] (by decide +kernel) (by decide +kernel)
set_option maxRecDepth 20000 in
theorem gX8_windOne_X8_less : GoodIn wsX8_windOne (va_wsS RX8 180 yX8_less wsX8_less) := goodIn_app (goodIn_of _ (by decide +kernel)) ggX8_windOne_X8_less
set_option maxRecDepth 20000 in
theorem ggX8_windOne_X8_sizeOf : GoodIn wsX8_windOne wsX8_sizeOf := goodIn_r _ [10, 11, 12, 13, 14, 15, 16, 17, 18, 19, 20, 21, 22, 23, 24, 25, 26, 27, 28, 29, 30, 31, 32, 33, 34, 35, 36, 37, 38, 39, 40, 41, 42, 43, 44, 45, 46, 47, 48] (by decide +kernel) (by decide +kernel)
set_option maxRecDepth 20000 in
theorem gX8_windOne_X8_sizeOf : GoodIn wsX8_windOne (wsV RX8 248 RX8 yX8_sizeOf wsX8_sizeOf) := goodIn_app (goodIn_of _ (by decide +kernel)) ggX8_windOne_X8_sizeOf
theorem dX8_windOne_0 : decode cX8_windOne 0 = .ok (.iconst 0, 1) := by decide +kernel
theorem dX8_windOne_1 : decode cX8_windOne 1 = .ok (.istore_n 3, 1) := by decide +kernel
theorem dX8_windOne_2 : decode cX8_windOne 2 = .ok (.iconst 0, 1) := by decide +kernel
theorem dX8_windOne_3 : decode cX8_windOne 3 = .ok (.istore 4, 2) := by decide +kernel
theorem dX8_windOne_5 : decode cX8_windOne 5 = .ok (.iload_n 1, 1) := by decide +kernel
theorem dX8_windOne_6 : decode cX8_windOne 6 = .ok (.iconst 1, 1) := by decide +kernel
theorem dX8_windOne_7 : decode cX8_windOne 7 = .ok (.iadd, 1) := by decide +kernel
theorem dX8_windOne_8 : decode cX8_windOne 8 = .ok (.istore 5, 2) := by decide +kernel
theorem dX8_windOne_10 : decode cX8_windOne 10 = .ok (.iload 5, 2) := by decide +kernel
theorem dX8_windOne_12 : decode cX8_windOne 12 = .ok (.iload_n 2, 1) := by decide +kernel
theorem dX8_windOne_13 : decode cX8_windOne 13 = .ok (.if_icmp .ge 99, 3) := by decide +kernel
theorem dX8_windOne_16 : decode cX8_windOne 16 = .ok (.aload_n 0, 1) := by decide +kernel
theorem dX8_windOne_17 : decode cX8_windOne 17 = .ok (.getfield 46, 3) := by decide +kernel
theorem dX8_windOne_20 : decode cX8_windOne 20 = .ok (.bipush 10, 2) := by decide +kernel
theorem dX8_windOne_22 : decode cX8_windOne 22 = .ok (.iload_n 1, 1) := by decide +kernel
theorem dX8_windOne_23 : decode cX8_windOne 23 = .ok (.imul, 1) := by decide +kernel
theorem dX8_windOne_24 : decode cX8_windOne 24 = .ok (.iload 5, 2) := by decide +kernel
theorem dX8_windOne_26 : decode cX8_windOne 26 = .ok (.iadd, 1) := by decide +kernel
theorem dX8_windOne_27 : decode cX8_windOne 27 = .ok (.iaload, 1) := by decide +kernel
theorem dX8_windOne_28 : decode cX8_windOne 28 = .ok (.aload_n 0, 1) := by decide +kernel
theorem dX8_windOne_29 : decode cX8_windOne 29 = .ok (.getfield 46, 3) := by decide +kernel
theorem dX8_windOne_32 : decode cX8_windOne 32 = .ok (.bipush 10, 2) := by decide +kernel
theorem dX8_windOne_34 : decode cX8_windOne 34 = .ok (.iload 5, 2) := by decide +kernel
theorem dX8_windOne_36 : decode cX8_windOne 36 = .ok (.imul, 1) := by decide +kernel
theorem dX8_windOne_37 : decode cX8_windOne 37 = .ok (.iload_n 2, 1) := by decide +kernel
theorem dX8_windOne_38 : decode cX8_windOne 38 = .ok (.iadd, 1) := by decide +kernel
theorem dX8_windOne_39 : decode cX8_windOne 39 = .ok (.iaload, 1) := by decide +kernel
theorem dX8_windOne_40 : decode cX8_windOne 40 = .ok (.iadd, 1) := by decide +kernel
theorem dX8_windOne_41 : decode cX8_windOne 41 = .ok (.istore 6, 2) := by decide +kernel
theorem dX8_windOne_43 : decode cX8_windOne 43 = .ok (.aload_n 0, 1) := by decide +kernel
theorem dX8_windOne_44 : decode cX8_windOne 44 = .ok (.getfield 49, 3) := by decide +kernel
theorem dX8_windOne_47 : decode cX8_windOne 47 = .ok (.bipush 10, 2) := by decide +kernel
theorem dX8_windOne_49 : decode cX8_windOne 49 = .ok (.iload_n 1, 1) := by decide +kernel
theorem dX8_windOne_50 : decode cX8_windOne 50 = .ok (.imul, 1) := by decide +kernel
theorem dX8_windOne_51 : decode cX8_windOne 51 = .ok (.iload 5, 2) := by decide +kernel
theorem dX8_windOne_53 : decode cX8_windOne 53 = .ok (.iadd, 1) := by decide +kernel
theorem dX8_windOne_54 : decode cX8_windOne 54 = .ok (.iaload, 1) := by decide +kernel
theorem dX8_windOne_55 : decode cX8_windOne 55 = .ok (.aload_n 0, 1) := by decide +kernel
theorem dX8_windOne_56 : decode cX8_windOne 56 = .ok (.getfield 49, 3) := by decide +kernel
theorem dX8_windOne_59 : decode cX8_windOne 59 = .ok (.bipush 10, 2) := by decide +kernel
theorem dX8_windOne_61 : decode cX8_windOne 61 = .ok (.iload 5, 2) := by decide +kernel
theorem dX8_windOne_63 : decode cX8_windOne 63 = .ok (.imul, 1) := by decide +kernel
theorem dX8_windOne_64 : decode cX8_windOne 64 = .ok (.iload_n 2, 1) := by decide +kernel
theorem dX8_windOne_65 : decode cX8_windOne 65 = .ok (.iadd, 1) := by decide +kernel
theorem dX8_windOne_66 : decode cX8_windOne 66 = .ok (.iaload, 1) := by decide +kernel
theorem dX8_windOne_67 : decode cX8_windOne 67 = .ok (.iadd, 1) := by decide +kernel
theorem dX8_windOne_68 : decode cX8_windOne 68 = .ok (.istore 7, 2) := by decide +kernel
theorem dX8_windOne_70 : decode cX8_windOne 70 = .ok (.iload 5, 2) := by decide +kernel
theorem dX8_windOne_72 : decode cX8_windOne 72 = .ok (.iload_n 1, 1) := by decide +kernel
theorem dX8_windOne_73 : decode cX8_windOne 73 = .ok (.iconst 1, 1) := by decide +kernel
theorem dX8_windOne_74 : decode cX8_windOne 74 = .ok (.iadd, 1) := by decide +kernel
theorem dX8_windOne_75 : decode cX8_windOne 75 = .ok (.if_icmp .ne 8, 3) := by decide +kernel
theorem dX8_windOne_78 : decode cX8_windOne 78 = .ok (.iload 6, 2) := by decide +kernel
theorem dX8_windOne_80 : decode cX8_windOne 80 = .ok (.goto 9, 3) := by decide +kernel
theorem dX8_windOne_83 : decode cX8_windOne 83 = .ok (.iload_n 3, 1) := by decide +kernel
theorem dX8_windOne_84 : decode cX8_windOne 84 = .ok (.iload 6, 2) := by decide +kernel
theorem dX8_windOne_86 : decode cX8_windOne 86 = .ok (.invokestatic 180, 3) := by decide +kernel
theorem dX8_windOne_89 : decode cX8_windOne 89 = .ok (.istore_n 3, 1) := by decide +kernel
theorem dX8_windOne_90 : decode cX8_windOne 90 = .ok (.iload 7, 2) := by decide +kernel
theorem dX8_windOne_92 : decode cX8_windOne 92 = .ok (.iload 4, 2) := by decide +kernel
theorem dX8_windOne_94 : decode cX8_windOne 94 = .ok (.if_icmp .le 8, 3) := by decide +kernel
theorem dX8_windOne_97 : decode cX8_windOne 97 = .ok (.iload 7, 2) := by decide +kernel
theorem dX8_windOne_99 : decode cX8_windOne 99 = .ok (.goto 5, 3) := by decide +kernel
theorem dX8_windOne_102 : decode cX8_windOne 102 = .ok (.iload 4, 2) := by decide +kernel
theorem dX8_windOne_104 : decode cX8_windOne 104 = .ok (.istore 4, 2) := by decide +kernel
theorem dX8_windOne_106 : decode cX8_windOne 106 = .ok (.iinc 5 1, 3) := by decide +kernel
theorem dX8_windOne_109 : decode cX8_windOne 109 = .ok (.goto (-99), 3) := by decide +kernel
theorem dX8_windOne_112 : decode cX8_windOne 112 = .ok (.iload_n 2, 1) := by decide +kernel
theorem dX8_windOne_113 : decode cX8_windOne 113 = .ok (.iload_n 1, 1) := by decide +kernel
theorem dX8_windOne_114 : decode cX8_windOne 114 = .ok (.isub, 1) := by decide +kernel
theorem dX8_windOne_115 : decode cX8_windOne 115 = .ok (.iconst 1, 1) := by decide +kernel
theorem dX8_windOne_116 : decode cX8_windOne 116 = .ok (.if_icmp .le 12, 3) := by decide +kernel
theorem dX8_windOne_119 : decode cX8_windOne 119 = .ok (.aload_n 0, 1) := by decide +kernel
theorem dX8_windOne_120 : decode cX8_windOne 120 = .ok (.iload_n 1, 1) := by decide +kernel
theorem dX8_windOne_121 : decode cX8_windOne 121 = .ok (.iload_n 2, 1) := by decide +kernel
theorem dX8_windOne_122 : decode cX8_windOne 122 = .ok (.invokevirtual 248, 3) := by decide +kernel
theorem dX8_windOne_125 : decode cX8_windOne 125 = .ok (.goto 4, 3) := by decide +kernel
theorem dX8_windOne_128 : decode cX8_windOne 128 = .ok (.iconst 0, 1) := by decide +kernel
theorem dX8_windOne_129 : decode cX8_windOne 129 = .ok (.istore 5, 2) := by decide +kernel
theorem dX8_windOne_131 : decode cX8_windOne 131 = .ok (.aload_n 0, 1) := by decide +kernel
theorem dX8_windOne_132 : decode cX8_windOne 132 = .ok (.getfield 46, 3) := by decide +kernel
theorem dX8_windOne_135 : decode cX8_windOne 135 = .ok (.bipush 10, 2) := by decide +kernel
theorem dX8_windOne_137 : decode cX8_windOne 137 = .ok (.iload_n 1, 1) := by decide +kernel
theorem dX8_windOne_138 : decode cX8_windOne 138 = .ok (.imul, 1) := by decide +kernel
theorem dX8_windOne_139 : decode cX8_windOne 139 = .ok (.iload_n 2, 1) := by decide +kernel
theorem dX8_windOne_140 : decode cX8_windOne 140 = .ok (.iadd, 1) := by decide +kernel
theorem dX8_windOne_141 : decode cX8_windOne 141 = .ok (.iload_n 3, 1) := by decide +kernel
theorem dX8_windOne_142 : decode cX8_windOne 142 = .ok (.iload 5, 2) := by decide +kernel
theorem dX8_windOne_144 : decode cX8_windOne 144 = .ok (.iadd, 1) := by decide +kernel
theorem dX8_windOne_145 : decode cX8_windOne 145 = .ok (.iastore, 1) := by decide +kernel
theorem dX8_windOne_146 : decode cX8_windOne 146 = .ok (.aload_n 0, 1) := by decide +kernel
theorem dX8_windOne_147 : decode cX8_windOne 147 = .ok (.getfield 49, 3) := by decide +kernel
theorem dX8_windOne_150 : decode cX8_windOne 150 = .ok (.bipush 10, 2) := by decide +kernel
theorem dX8_windOne_152 : decode cX8_windOne 152 = .ok (.iload_n 1, 1) := by decide +kernel
theorem dX8_windOne_153 : decode cX8_windOne 153 = .ok (.imul, 1) := by decide +kernel
theorem dX8_windOne_154 : decode cX8_windOne 154 = .ok (.iload_n 2, 1) := by decide +kernel
theorem dX8_windOne_155 : decode cX8_windOne 155 = .ok (.iadd, 1) := by decide +kernel
theorem dX8_windOne_156 : decode cX8_windOne 156 = .ok (.iload 4, 2) := by decide +kernel
theorem dX8_windOne_158 : decode cX8_windOne 158 = .ok (.iload 5, 2) := by decide +kernel
theorem dX8_windOne_160 : decode cX8_windOne 160 = .ok (.iadd, 1) := by decide +kernel
theorem dX8_windOne_161 : decode cX8_windOne 161 = .ok (.iastore, 1) := by decide +kernel
theorem dX8_windOne_162 : decode cX8_windOne 162 = .ok (.return_, 1) := by decide +kernel
set_option maxRecDepth 20000 in
theorem ggX8_wind_X8_in : GoodIn wsX8_wind wsX8_in := goodIn_r _ [7] (by decide +kernel) (by decide +kernel)
set_option maxRecDepth 20000 in
theorem gX8_wind_X8_in : GoodIn wsX8_wind (va_wsS RX8 83 yX8_in wsX8_in) := goodIn_app (goodIn_of _ (by decide +kernel)) ggX8_wind_X8_in
set_option maxRecDepth 20000 in
theorem ggX8_wind_X8_readBalls : GoodIn wsX8_wind wsX8_readBalls := goodIn_r _ [11, 12, 24, 25, 26, 27, 28, 29, 30, 31, 32, 33, 34, 35, 36, 37, 38, 39, 40, 41, 42, 43, 44, 45, 46, 47, 48, 49, 50, 51, 52, 53, 54, 55, 56, 57, 58, 59, 60] (by decide +kernel) (by decide +kernel)
set_option maxRecDepth 20000 in
theorem gX8_wind_X8_readBalls : GoodIn wsX8_wind (wsV RX8 251 RX8 yX8_readBalls wsX8_readBalls) := goodIn_app (goodIn_of _ (by decide +kernel)) ggX8_wind_X8_readBalls
set_option maxRecDepth 20000 in
theorem ggX8_wind_X8_windOne : GoodIn wsX8_wind wsX8_windOne := goodIn_r _ [16, 2, 3, 17, 18, 6, 19, 20, 21, 22, 23, 12, 24, 25, 26, 27, 28, 29, 30, 31, 32, 33, 34, 35, 36, 37, 38, 39, 40, 41, 42, 43, 44, 45, 46, 47, 48, 49, 50, 51, 52, 53, 54, 55, 56, 57, 58, 59, 60] (by decide +kernel) (by decide +kernel)
set_option maxRecDepth 20000 in
theorem gX8_wind_X8_windOne : GoodIn wsX8_wind (wsV RX8 254 RX8 yX8_windOne wsX8_windOne) := goodIn_app (goodIn_of _ (by decide +kernel)) ggX8_wind_X8_windOne
theorem dX8_wind_0 : decode cX8_wind 0 = .ok (.iload_n 2, 1) := by decide +kernel
theorem dX8_wind_1 : decode cX8_wind 1 = .ok (.i2l, 1) := by decide +kernel
theorem dX8_wind_2 : decode cX8_wind 2 = .ok (.lconst 1, 1) := by decide +kernel
theorem dX8_wind_3 : decode cX8_wind 3 = .ok (.ldc2_w 81, 3) := by decide +kernel
theorem dX8_wind_6 : decode cX8_wind 6 = .ok (.invokestatic 83, 3) := by decide +kernel
theorem dX8_wind_9 : decode cX8_wind 9 = .ok (.ifCond .eq 22, 3) := by decide +kernel
theorem dX8_wind_12 : decode cX8_wind 12 = .ok (.aload_n 0, 1) := by decide +kernel
theorem dX8_wind_13 : decode cX8_wind 13 = .ok (.iload_n 1, 1) := by decide +kernel
theorem dX8_wind_14 : decode cX8_wind 14 = .ok (.iload_n 2, 1) := by decide +kernel
theorem dX8_wind_15 : decode cX8_wind 15 = .ok (.invokevirtual 251, 3) := by decide +kernel
theorem dX8_wind_18 : decode cX8_wind 18 = .ok (.ifCond .eq 13, 3) := by decide +kernel
theorem dX8_wind_21 : decode cX8_wind 21 = .ok (.iload_n 3, 1) := by decide +kernel
theorem dX8_wind_22 : decode cX8_wind 22 = .ok (.i2l, 1) := by decide +kernel
theorem dX8_wind_23 : decode cX8_wind 23 = .ok (.lconst 0, 1) := by decide +kernel
theorem dX8_wind_24 : decode cX8_wind 24 = .ok (.lconst 1, 1) := by decide +kernel
theorem dX8_wind_25 : decode cX8_wind 25 = .ok (.invokestatic 83, 3) := by decide +kernel
theorem dX8_wind_28 : decode cX8_wind 28 = .ok (.ifCond .ne 6, 3) := by decide +kernel
theorem dX8_wind_31 : decode cX8_wind 31 = .ok (.bipush (-2), 2) := by decide +kernel
theorem dX8_wind_33 : decode cX8_wind 33 = .ok (.ireturn, 1) := by decide +kernel
theorem dX8_wind_34 : decode cX8_wind 34 = .ok (.iconst 1, 1) := by decide +kernel
theorem dX8_wind_35 : decode cX8_wind 35 = .ok (.istore 4, 2) := by decide +kernel
theorem dX8_wind_37 : decode cX8_wind 37 = .ok (.iload 4, 2) := by decide +kernel
theorem dX8_wind_39 : decode cX8_wind 39 = .ok (.iload_n 2, 1) := by decide +kernel
theorem dX8_wind_40 : decode cX8_wind 40 = .ok (.if_icmp .gt 38, 3) := by decide +kernel
theorem dX8_wind_43 : decode cX8_wind 43 = .ok (.iconst 0, 1) := by decide +kernel
theorem dX8_wind_44 : decode cX8_wind 44 = .ok (.istore 5, 2) := by decide +kernel
theorem dX8_wind_46 : decode cX8_wind 46 = .ok (.iload 5, 2) := by decide +kernel
theorem dX8_wind_48 : decode cX8_wind 48 = .ok (.iload 4, 2) := by decide +kernel
theorem dX8_wind_50 : decode cX8_wind 50 = .ok (.iadd, 1) := by decide +kernel
theorem dX8_wind_51 : decode cX8_wind 51 = .ok (.iload_n 2, 1) := by decide +kernel
theorem dX8_wind_52 : decode cX8_wind 52 = .ok (.if_icmp .gt 20, 3) := by decide +kernel
theorem dX8_wind_55 : decode cX8_wind 55 = .ok (.aload_n 0, 1) := by decide +kernel
theorem dX8_wind_56 : decode cX8_wind 56 = .ok (.iload 5, 2) := by decide +kernel
theorem dX8_wind_58 : decode cX8_wind 58 = .ok (.iload 5, 2) := by decide +kernel
theorem dX8_wind_60 : decode cX8_wind 60 = .ok (.iload 4, 2) := by decide +kernel
theorem dX8_wind_62 : decode cX8_wind 62 = .ok (.iadd, 1) := by decide +kernel
theorem dX8_wind_63 : decode cX8_wind 63 = .ok (.invokevirtual 254, 3) := by decide +kernel
theorem dX8_wind_66 : decode cX8_wind 66 = .ok (.iinc 5 1, 3) := by decide +kernel
theorem dX8_wind_69 : decode cX8_wind 69 = .ok (.goto (-23), 3) := by decide +kernel
theorem dX8_wind_72 : decode cX8_wind 72 = .ok (.iinc 4 1, 3) := by decide +kernel
theorem dX8_wind_75 : decode cX8_wind 75 = .ok (.goto (-38), 3) := by decide +kernel
theorem dX8_wind_78 : decode cX8_wind 78 = .ok (.iload_n 3, 1) := by decide +kernel
theorem dX8_wind_79 : decode cX8_wind 79 = .ok (.ifCond .ne 12, 3) := by decide +kernel
theorem dX8_wind_82 : decode cX8_wind 82 = .ok (.aload_n 0, 1) := by decide +kernel
theorem dX8_wind_83 : decode cX8_wind 83 = .ok (.getfield 46, 3) := by decide +kernel
theorem dX8_wind_86 : decode cX8_wind 86 = .ok (.iload_n 2, 1) := by decide +kernel
theorem dX8_wind_87 : decode cX8_wind 87 = .ok (.iaload, 1) := by decide +kernel
theorem dX8_wind_88 : decode cX8_wind 88 = .ok (.goto 9, 3) := by decide +kernel
theorem dX8_wind_91 : decode cX8_wind 91 = .ok (.aload_n 0, 1) := by decide +kernel
theorem dX8_wind_92 : decode cX8_wind 92 = .ok (.getfield 49, 3) := by decide +kernel
theorem dX8_wind_95 : decode cX8_wind 95 = .ok (.iload_n 2, 1) := by decide +kernel
theorem dX8_wind_96 : decode cX8_wind 96 = .ok (.iaload, 1) := by decide +kernel
theorem dX8_wind_97 : decode cX8_wind 97 = .ok (.ireturn, 1) := by decide +kernel
theorem dX8_digitsOf_0 : decode cX8_digitsOf 0 = .ok (.iload_n 0, 1) := by decide +kernel
theorem dX8_digitsOf_1 : decode cX8_digitsOf 1 = .ok (.bipush 99, 2) := by decide +kernel
theorem dX8_digitsOf_3 : decode cX8_digitsOf 3 = .ok (.if_icmp .le 7, 3) := by decide +kernel
theorem dX8_digitsOf_6 : decode cX8_digitsOf 6 = .ok (.iconst 3, 1) := by decide +kernel
theorem dX8_digitsOf_7 : decode cX8_digitsOf 7 = .ok (.goto 14, 3) := by decide +kernel
theorem dX8_digitsOf_10 : decode cX8_digitsOf 10 = .ok (.iload_n 0, 1) := by decide +kernel
theorem dX8_digitsOf_11 : decode cX8_digitsOf 11 = .ok (.bipush 9, 2) := by decide +kernel
theorem dX8_digitsOf_13 : decode cX8_digitsOf 13 = .ok (.if_icmp .le 7, 3) := by decide +kernel
theorem dX8_digitsOf_16 : decode cX8_digitsOf 16 = .ok (.iconst 2, 1) := by decide +kernel
theorem dX8_digitsOf_17 : decode cX8_digitsOf 17 = .ok (.goto 4, 3) := by decide +kernel
theorem dX8_digitsOf_20 : decode cX8_digitsOf 20 = .ok (.iconst 1, 1) := by decide +kernel
theorem dX8_digitsOf_21 : decode cX8_digitsOf 21 = .ok (.ireturn, 1) := by decide +kernel
set_option maxRecDepth 20000 in
theorem ggX8_isWord_X8_digitsOf : GoodIn wsX8_isWord wsX8_digitsOf := goodIn_r _ [5] (by decide +kernel) (by decide +kernel)
set_option maxRecDepth 20000 in
theorem gX8_isWord_X8_digitsOf : GoodIn wsX8_isWord (va_wsS RX8 257 yX8_digitsOf wsX8_digitsOf) := goodIn_app (goodIn_of _ (by decide +kernel)) ggX8_isWord_X8_digitsOf
theorem dX8_isWord_0 : decode cX8_isWord 0 = .ok (.iload_n 1, 1) := by decide +kernel
theorem dX8_isWord_1 : decode cX8_isWord 1 = .ok (.invokestatic 257, 3) := by decide +kernel
theorem dX8_isWord_4 : decode cX8_isWord 4 = .ok (.istore 4, 2) := by decide +kernel
theorem dX8_isWord_6 : decode cX8_isWord 6 = .ok (.iload_n 2, 1) := by decide +kernel
theorem dX8_isWord_7 : decode cX8_isWord 7 = .ok (.iload 4, 2) := by decide +kernel
theorem dX8_isWord_9 : decode cX8_isWord 9 = .ok (.iadd, 1) := by decide +kernel
theorem dX8_isWord_10 : decode cX8_isWord 10 = .ok (.iload_n 3, 1) := by decide +kernel
theorem dX8_isWord_11 : decode cX8_isWord 11 = .ok (.if_icmp .le 5, 3) := by decide +kernel
theorem dX8_isWord_14 : decode cX8_isWord 14 = .ok (.iconst 0, 1) := by decide +kernel
theorem dX8_isWord_15 : decode cX8_isWord 15 = .ok (.ireturn, 1) := by decide +kernel
theorem dX8_isWord_16 : decode cX8_isWord 16 = .ok (.iconst 0, 1) := by decide +kernel
theorem dX8_isWord_17 : decode cX8_isWord 17 = .ok (.istore 5, 2) := by decide +kernel
theorem dX8_isWord_19 : decode cX8_isWord 19 = .ok (.iload_n 2, 1) := by decide +kernel
theorem dX8_isWord_20 : decode cX8_isWord 20 = .ok (.istore 6, 2) := by decide +kernel
theorem dX8_isWord_22 : decode cX8_isWord 22 = .ok (.iload 6, 2) := by decide +kernel
theorem dX8_isWord_24 : decode cX8_isWord 24 = .ok (.iload_n 2, 1) := by decide +kernel
theorem dX8_isWord_25 : decode cX8_isWord 25 = .ok (.iload 4, 2) := by decide +kernel
theorem dX8_isWord_27 : decode cX8_isWord 27 = .ok (.iadd, 1) := by decide +kernel
theorem dX8_isWord_28 : decode cX8_isWord 28 = .ok (.if_icmp .ge 24, 3) := by decide +kernel
theorem dX8_isWord_31 : decode cX8_isWord 31 = .ok (.bipush 10, 2) := by decide +kernel
theorem dX8_isWord_33 : decode cX8_isWord 33 = .ok (.iload 5, 2) := by decide +kernel
theorem dX8_isWord_35 : decode cX8_isWord 35 = .ok (.imul, 1) := by decide +kernel
theorem dX8_isWord_36 : decode cX8_isWord 36 = .ok (.aload_n 0, 1) := by decide +kernel
theorem dX8_isWord_37 : decode cX8_isWord 37 = .ok (.getfield 55, 3) := by decide +kernel
theorem dX8_isWord_40 : decode cX8_isWord 40 = .ok (.iload 6, 2) := by decide +kernel
theorem dX8_isWord_42 : decode cX8_isWord 42 = .ok (.iaload, 1) := by decide +kernel
theorem dX8_isWord_43 : decode cX8_isWord 43 = .ok (.iadd, 1) := by decide +kernel
theorem dX8_isWord_44 : decode cX8_isWord 44 = .ok (.istore 5, 2) := by decide +kernel
theorem dX8_isWord_46 : decode cX8_isWord 46 = .ok (.iinc 6 1, 3) := by decide +kernel
theorem dX8_isWord_49 : decode cX8_isWord 49 = .ok (.goto (-27), 3) := by decide +kernel
theorem dX8_isWord_52 : decode cX8_isWord 52 = .ok (.iload 5, 2) := by decide +kernel
theorem dX8_isWord_54 : decode cX8_isWord 54 = .ok (.iload_n 1, 1) := by decide +kernel
theorem dX8_isWord_55 : decode cX8_isWord 55 = .ok (.if_icmp .ne 7, 3) := by decide +kernel
theorem dX8_isWord_58 : decode cX8_isWord 58 = .ok (.iconst 1, 1) := by decide +kernel
theorem dX8_isWord_59 : decode cX8_isWord 59 = .ok (.goto 4, 3) := by decide +kernel
theorem dX8_isWord_62 : decode cX8_isWord 62 = .ok (.iconst 0, 1) := by decide +kernel
theorem dX8_isWord_63 : decode cX8_isWord 63 = .ok (.ireturn, 1) := by decide +kernel
theorem dX8_isAnew_0 : decode cX8_isAnew 0 = .ok (.iconst 1, 1) := by decide +kernel
theorem dX8_isAnew_1 : decode cX8_isAnew 1 = .ok (.istore_n 2, 1) := by decide +kernel
theorem dX8_isAnew_2 : decode cX8_isAnew 2 = .ok (.iconst 0, 1) := by decide +kernel
theorem dX8_isAnew_3 : decode cX8_isAnew 3 = .ok (.istore_n 3, 1) := by decide +kernel
theorem dX8_isAnew_4 : decode cX8_isAnew 4 = .ok (.iload_n 3, 1) := by decide +kernel
theorem dX8_isAnew_5 : decode cX8_isAnew 5 = .ok (.iload_n 1, 1) := by decide +kernel
theorem dX8_isAnew_6 : decode cX8_isAnew 6 = .ok (.if_icmp .ge 34, 3) := by decide +kernel
theorem dX8_isAnew_9 : decode cX8_isAnew 9 = .ok (.iload_n 2, 1) := by decide +kernel
theorem dX8_isAnew_10 : decode cX8_isAnew 10 = .ok (.ifCond .eq 22, 3) := by decide +kernel
theorem dX8_isAnew_13 : decode cX8_isAnew 13 = .ok (.aload_n 0, 1) := by decide +kernel
theorem dX8_isAnew_14 : decode cX8_isAnew 14 = .ok (.getfield 52, 3) := by decide +kernel
theorem dX8_isAnew_17 : decode cX8_isAnew 17 = .ok (.iload_n 3, 1) := by decide +kernel
theorem dX8_isAnew_18 : decode cX8_isAnew 18 = .ok (.iaload, 1) := by decide +kernel
theorem dX8_isAnew_19 : decode cX8_isAnew 19 = .ok (.aload_n 0, 1) := by decide +kernel
theorem dX8_isAnew_20 : decode cX8_isAnew 20 = .ok (.getfield 52, 3) := by decide +kernel
theorem dX8_isAnew_23 : decode cX8_isAnew 23 = .ok (.iload_n 1, 1) := by decide +kernel
theorem dX8_isAnew_24 : decode cX8_isAnew 24 = .ok (.iaload, 1) := by decide +kernel
theorem dX8_isAnew_25 : decode cX8_isAnew 25 = .ok (.if_icmp .eq 7, 3) := by decide +kernel
theorem dX8_isAnew_28 : decode cX8_isAnew 28 = .ok (.iconst 1, 1) := by decide +kernel
theorem dX8_isAnew_29 : decode cX8_isAnew 29 = .ok (.goto 4, 3) := by decide +kernel
theorem dX8_isAnew_32 : decode cX8_isAnew 32 = .ok (.iconst 0, 1) := by decide +kernel
theorem dX8_isAnew_33 : decode cX8_isAnew 33 = .ok (.istore_n 2, 1) := by decide +kernel
theorem dX8_isAnew_34 : decode cX8_isAnew 34 = .ok (.iinc 3 1, 3) := by decide +kernel
theorem dX8_isAnew_37 : decode cX8_isAnew 37 = .ok (.goto (-33), 3) := by decide +kernel
theorem dX8_isAnew_40 : decode cX8_isAnew 40 = .ok (.iload_n 2, 1) := by decide +kernel
theorem dX8_isAnew_41 : decode cX8_isAnew 41 = .ok (.ireturn, 1) := by decide +kernel
set_option maxRecDepth 20000 in
theorem ggX8_readFrom_X8_isAnew : GoodIn wsX8_readFrom wsX8_isAnew := goodIn_r _ [8, 3, 17, 18, 19, 20, 21, 22, 23, 24, 25, 26, 27, 28, 29, 30, 31, 32, 33, 34, 35, 36, 37, 38, 39, 40, 41, 42, 43, 44, 45, 46, 47, 48, 49, 50, 51, 52, 53] (by decide +kernel) (by decide +kernel)
set_option maxRecDepth 20000 in
theorem gX8_readFrom_X8_isAnew : GoodIn wsX8_readFrom (wsV RX8 260 RX8 yX8_isAnew wsX8_isAnew) := goodIn_app (goodIn_of _ (by decide +kernel)) ggX8_readFrom_X8_isAnew
set_option maxRecDepth 20000 in
theorem ggX8_readFrom_X8_isWord : GoodIn wsX8_readFrom wsX8_isWord := goodIn_r _ [12, 13, 14, 15, 7, 16, 17, 18, 19, 20, 21, 22, 23, 24, 25, 26, 27, 28, 29, 30, 31, 32, 33, 34, 35, 36, 37, 38, 39, 40, 41, 42, 43, 44, 45, 46, 47, 48, 49, 50, 51, 52, 53] (by decide +kernel) (by decide +kernel)
set_option maxRecDepth 20000 in
theorem gX8_readFrom_X8_isWord : GoodIn wsX8_readFrom (wsV RX8 263 RX8 yX8_isWord wsX8_isWord) := goodIn_app (goodIn_of _ (by decide +kernel)) ggX8_readFrom_X8_isWord
set_option maxRecDepth 20000 in
theorem ggX8_readFrom_X8_digitsOf : GoodIn wsX8_readFrom wsX8_digitsOf := goodIn_r _ [16] (by decide +kernel) (by decide +kernel)
set_option maxRecDepth 20000 in
theorem gX8_readFrom_X8_digitsOf : GoodIn wsX8_readFrom (va_wsS RX8 257 yX8_digitsOf wsX8_digitsOf) := goodIn_app (goodIn_of _ (by decide +kernel)) ggX8_readFrom_X8_digitsOf
theorem dX8_readFrom_0 : decode cX8_readFrom 0 = .ok (.aload_n 0, 1) := by decide +kernel
theorem dX8_readFrom_1 : decode cX8_readFrom 1 = .ok (.getfield 58, 3) := by decide +kernel
theorem dX8_readFrom_4 : decode cX8_readFrom 4 = .ok (.iload_n 1, 1) := by decide +kernel
theorem dX8_readFrom_5 : decode cX8_readFrom 5 = .ok (.iconst 0, 1) := by decide +kernel
theorem dX8_readFrom_6 : decode cX8_readFrom 6 = .ok (.iastore, 1) := by decide +kernel
theorem dX8_readFrom_7 : decode cX8_readFrom 7 = .ok (.aload_n 0, 1) := by decide +kernel
theorem dX8_readFrom_8 : decode cX8_readFrom 8 = .ok (.getfield 61, 3) := by decide +kernel
theorem dX8_readFrom_11 : decode cX8_readFrom 11 = .ok (.iload_n 1, 1) := by decide +kernel
theorem dX8_readFrom_12 : decode cX8_readFrom 12 = .ok (.bipush (-6), 2) := by decide +kernel
theorem dX8_readFrom_14 : decode cX8_readFrom 14 = .ok (.iastore, 1) := by decide +kernel
theorem dX8_readFrom_15 : decode cX8_readFrom 15 = .ok (.iconst 0, 1) := by decide +kernel
theorem dX8_readFrom_16 : decode cX8_readFrom 16 = .ok (.istore_n 3, 1) := by decide +kernel
theorem dX8_readFrom_17 : decode cX8_readFrom 17 = .ok (.iload_n 3, 1) := by decide +kernel
theorem dX8_readFrom_18 : decode cX8_readFrom 18 = .ok (.iconst 4, 1) := by decide +kernel
theorem dX8_readFrom_19 : decode cX8_readFrom 19 = .ok (.if_icmp .ge 134, 3) := by decide +kernel
theorem dX8_readFrom_22 : decode cX8_readFrom 22 = .ok (.aload_n 0, 1) := by decide +kernel
theorem dX8_readFrom_23 : decode cX8_readFrom 23 = .ok (.iload_n 3, 1) := by decide +kernel
theorem dX8_readFrom_24 : decode cX8_readFrom 24 = .ok (.invokevirtual 260, 3) := by decide +kernel
theorem dX8_readFrom_27 : decode cX8_readFrom 27 = .ok (.ifCond .eq 120, 3) := by decide +kernel
theorem dX8_readFrom_30 : decode cX8_readFrom 30 = .ok (.aload_n 0, 1) := by decide +kernel
theorem dX8_readFrom_31 : decode cX8_readFrom 31 = .ok (.aload_n 0, 1) := by decide +kernel
theorem dX8_readFrom_32 : decode cX8_readFrom 32 = .ok (.getfield 52, 3) := by decide +kernel
theorem dX8_readFrom_35 : decode cX8_readFrom 35 = .ok (.iload_n 3, 1) := by decide +kernel
theorem dX8_readFrom_36 : decode cX8_readFrom 36 = .ok (.iaload, 1) := by decide +kernel
theorem dX8_readFrom_37 : decode cX8_readFrom 37 = .ok (.iload_n 1, 1) := by decide +kernel
theorem dX8_readFrom_38 : decode cX8_readFrom 38 = .ok (.iload_n 2, 1) := by decide +kernel
theorem dX8_readFrom_39 : decode cX8_readFrom 39 = .ok (.invokevirtual 263, 3) := by decide +kernel
theorem dX8_readFrom_42 : decode cX8_readFrom 42 = .ok (.ifCond .eq 105, 3) := by decide +kernel
theorem dX8_readFrom_45 : decode cX8_readFrom 45 = .ok (.iload_n 1, 1) := by decide +kernel
theorem dX8_readFrom_46 : decode cX8_readFrom 46 = .ok (.aload_n 0, 1) := by decide +kernel
theorem dX8_readFrom_47 : decode cX8_readFrom 47 = .ok (.getfield 52, 3) := by decide +kernel
theorem dX8_readFrom_50 : decode cX8_readFrom 50 = .ok (.iload_n 3, 1) := by decide +kernel
theorem dX8_readFrom_51 : decode cX8_readFrom 51 = .ok (.iaload, 1) := by decide +kernel
theorem dX8_readFrom_52 : decode cX8_readFrom 52 = .ok (.invokestatic 257, 3) := by decide +kernel
theorem dX8_readFrom_55 : decode cX8_readFrom 55 = .ok (.iadd, 1) := by decide +kernel
theorem dX8_readFrom_56 : decode cX8_readFrom 56 = .ok (.istore 4, 2) := by decide +kernel
theorem dX8_readFrom_58 : decode cX8_readFrom 58 = .ok (.aload_n 0, 1) := by decide +kernel
theorem dX8_readFrom_59 : decode cX8_readFrom 59 = .ok (.getfield 58, 3) := by decide +kernel
theorem dX8_readFrom_62 : decode cX8_readFrom 62 = .ok (.iload_n 1, 1) := by decide +kernel
theorem dX8_readFrom_63 : decode cX8_readFrom 63 = .ok (.dup2, 1) := by decide +kernel
theorem dX8_readFrom_64 : decode cX8_readFrom 64 = .ok (.iaload, 1) := by decide +kernel
theorem dX8_readFrom_65 : decode cX8_readFrom 65 = .ok (.aload_n 0, 1) := by decide +kernel
theorem dX8_readFrom_66 : decode cX8_readFrom 66 = .ok (.getfield 58, 3) := by decide +kernel
theorem dX8_readFrom_69 : decode cX8_readFrom 69 = .ok (.iload 4, 2) := by decide +kernel
theorem dX8_readFrom_71 : decode cX8_readFrom 71 = .ok (.iaload, 1) := by decide +kernel
theorem dX8_readFrom_72 : decode cX8_readFrom 72 = .ok (.iadd, 1) := by decide +kernel
theorem dX8_readFrom_73 : decode cX8_readFrom 73 = .ok (.iastore, 1) := by decide +kernel
theorem dX8_readFrom_74 : decode cX8_readFrom 74 = .ok (.aload_n 0, 1) := by decide +kernel
theorem dX8_readFrom_75 : decode cX8_readFrom 75 = .ok (.getfield 61, 3) := by decide +kernel
theorem dX8_readFrom_78 : decode cX8_readFrom 78 = .ok (.iload 4, 2) := by decide +kernel
theorem dX8_readFrom_80 : decode cX8_readFrom 80 = .ok (.iaload, 1) := by decide +kernel
theorem dX8_readFrom_81 : decode cX8_readFrom 81 = .ok (.ifCond .lt 34, 3) := by decide +kernel
theorem dX8_readFrom_84 : decode cX8_readFrom 84 = .ok (.aload_n 0, 1) := by decide +kernel
theorem dX8_readFrom_85 : decode cX8_readFrom 85 = .ok (.getfield 61, 3) := by decide +kernel
theorem dX8_readFrom_88 : decode cX8_readFrom 88 = .ok (.iload_n 1, 1) := by decide +kernel
theorem dX8_readFrom_89 : decode cX8_readFrom 89 = .ok (.iaload, 1) := by decide +kernel
theorem dX8_readFrom_90 : decode cX8_readFrom 90 = .ok (.ifCond .lt 21, 3) := by decide +kernel
theorem dX8_readFrom_93 : decode cX8_readFrom 93 = .ok (.aload_n 0, 1) := by decide +kernel
theorem dX8_readFrom_94 : decode cX8_readFrom 94 = .ok (.getfield 61, 3) := by decide +kernel
theorem dX8_readFrom_97 : decode cX8_readFrom 97 = .ok (.iload 4, 2) := by decide +kernel
theorem dX8_readFrom_99 : decode cX8_readFrom 99 = .ok (.iaload, 1) := by decide +kernel
theorem dX8_readFrom_100 : decode cX8_readFrom 100 = .ok (.iconst 1, 1) := by decide +kernel
theorem dX8_readFrom_101 : decode cX8_readFrom 101 = .ok (.iadd, 1) := by decide +kernel
theorem dX8_readFrom_102 : decode cX8_readFrom 102 = .ok (.aload_n 0, 1) := by decide +kernel
theorem dX8_readFrom_103 : decode cX8_readFrom 103 = .ok (.getfield 61, 3) := by decide +kernel
theorem dX8_readFrom_106 : decode cX8_readFrom 106 = .ok (.iload_n 1, 1) := by decide +kernel
theorem dX8_readFrom_107 : decode cX8_readFrom 107 = .ok (.iaload, 1) := by decide +kernel
theorem dX8_readFrom_108 : decode cX8_readFrom 108 = .ok (.if_icmp .ge 7, 3) := by decide +kernel
theorem dX8_readFrom_111 : decode cX8_readFrom 111 = .ok (.iconst 1, 1) := by decide +kernel
theorem dX8_readFrom_112 : decode cX8_readFrom 112 = .ok (.goto 4, 3) := by decide +kernel
theorem dX8_readFrom_115 : decode cX8_readFrom 115 = .ok (.iconst 0, 1) := by decide +kernel
theorem dX8_readFrom_116 : decode cX8_readFrom 116 = .ok (.istore 5, 2) := by decide +kernel
theorem dX8_readFrom_118 : decode cX8_readFrom 118 = .ok (.aload_n 0, 1) := by decide +kernel
theorem dX8_readFrom_119 : decode cX8_readFrom 119 = .ok (.getfield 61, 3) := by decide +kernel
theorem dX8_readFrom_122 : decode cX8_readFrom 122 = .ok (.iload_n 1, 1) := by decide +kernel
theorem dX8_readFrom_123 : decode cX8_readFrom 123 = .ok (.iload 5, 2) := by decide +kernel
theorem dX8_readFrom_125 : decode cX8_readFrom 125 = .ok (.ifCond .eq 15, 3) := by decide +kernel
theorem dX8_readFrom_128 : decode cX8_readFrom 128 = .ok (.aload_n 0, 1) := by decide +kernel
theorem dX8_readFrom_129 : decode cX8_readFrom 129 = .ok (.getfield 61, 3) := by decide +kernel
theorem dX8_readFrom_132 : decode cX8_readFrom 132 = .ok (.iload 4, 2) := by decide +kernel
theorem dX8_readFrom_134 : decode cX8_readFrom 134 = .ok (.iaload, 1) := by decide +kernel
theorem dX8_readFrom_135 : decode cX8_readFrom 135 = .ok (.iconst 1, 1) := by decide +kernel
theorem dX8_readFrom_136 : decode cX8_readFrom 136 = .ok (.iadd, 1) := by decide +kernel
theorem dX8_readFrom_137 : decode cX8_readFrom 137 = .ok (.goto 9, 3) := by decide +kernel
theorem dX8_readFrom_140 : decode cX8_readFrom 140 = .ok (.aload_n 0, 1) := by decide +kernel
theorem dX8_readFrom_141 : decode cX8_readFrom 141 = .ok (.getfield 61, 3) := by decide +kernel
theorem dX8_readFrom_144 : decode cX8_readFrom 144 = .ok (.iload_n 1, 1) := by decide +kernel
theorem dX8_readFrom_145 : decode cX8_readFrom 145 = .ok (.iaload, 1) := by decide +kernel
theorem dX8_readFrom_146 : decode cX8_readFrom 146 = .ok (.iastore, 1) := by decide +kernel
theorem dX8_readFrom_147 : decode cX8_readFrom 147 = .ok (.iinc 3 1, 3) := by decide +kernel
theorem dX8_readFrom_150 : decode cX8_readFrom 150 = .ok (.goto (-133), 3) := by decide +kernel
theorem dX8_readFrom_153 : decode cX8_readFrom 153 = .ok (.return_, 1) := by decide +kernel
set_option maxRecDepth 20000 in
theorem ggX8_isAWord_X8_in : GoodIn wsX8_isAWord wsX8_in := goodIn_r _ [5] (by decide +kernel) (by decide +kernel)
set_option maxRecDepth 20000 in
theorem gX8_isAWord_X8_in : GoodIn wsX8_isAWord (va_wsS RX8 83 yX8_in wsX8_in) := goodIn_app (goodIn_of _ (by decide +kernel)) ggX8_isAWord_X8_in
theorem dX8_isAWord_0 : decode cX8_isAWord 0 = .ok (.iload_n 0, 1) := by decide +kernel
theorem dX8_isAWord_1 : decode cX8_isAWord 1 = .ok (.i2l, 1) := by decide +kernel
theorem dX8_isAWord_2 : decode cX8_isAWord 2 = .ok (.lconst 1, 1) := by decide +kernel
theorem dX8_isAWord_3 : decode cX8_isAWord 3 = .ok (.ldc2_w 95, 3) := by decide +kernel
theorem dX8_isAWord_6 : decode cX8_isAWord 6 = .ok (.invokestatic 83, 3) := by decide +kernel
theorem dX8_isAWord_9 : decode cX8_isAWord 9 = .ok (.ireturn, 1) := by decide +kernel
set_option maxRecDepth 20000 in
theorem ggX8_read_X8_isAWord : GoodIn wsX8_read wsX8_isAWord := goodIn_r _ [9, 10, 11, 12, 8, 13] (by decide +kernel) (by decide +kernel)
set_option maxRecDepth 20000 in
theorem gX8_read_X8_isAWord : GoodIn wsX8_read (va_wsS RX8 266 yX8_isAWord wsX8_isAWord) := goodIn_app (goodIn_of _ (by decide +kernel)) ggX8_read_X8_isAWord
set_option maxRecDepth 20000 in
theorem ggX8_read_X8_in : GoodIn wsX8_read wsX8_in := goodIn_r _ [13] (by decide +kernel) (by decide +kernel)
set_option maxRecDepth 20000 in
theorem gX8_read_X8_in : GoodIn wsX8_read (va_wsS RX8 83 yX8_in wsX8_in) := goodIn_app (goodIn_of _ (by decide +kernel)) ggX8_read_X8_in
set_option maxRecDepth 20000 in
theorem ggX8_read_X8_readFrom : GoodIn wsX8_read wsX8_readFrom := goodIn_r _ [17, 4, 5, 2, 18, 19, 20, 8, 21, 22, 23, 24, 25, 3, 26, 27, 28, 29, 30, 31, 32, 33, 34, 35, 36, 37, 38, 39, 40, 41, 42, 43, 44, 45, 46, 47, 48, 49, 50, 51, 52, 53, 54, 55, 56, 57, 58, 59, 60, 61, 62, 63, 64, 65] (by decide +kernel) (by decide +kernel)
set_option maxRecDepth 20000 in
theorem gX8_read_X8_readFrom : GoodIn wsX8_read (wsV RX8 271 RX8 yX8_readFrom wsX8_readFrom) := goodIn_app (goodIn_of _ (by decide +kernel)) ggX8_read_X8_readFrom
theorem dX8_read_0 : decode cX8_read 0 = .ok (.iload_n 1, 1) := by decide +kernel
theorem dX8_read_1 : decode cX8_read 1 = .ok (.invokestatic 266, 3) := by decide +kernel
theorem dX8_read_4 : decode cX8_read 4 = .ok (.ifCond .eq 49, 3) := by decide +kernel
theorem dX8_read_7 : decode cX8_read 7 = .ok (.iload_n 2, 1) := by decide +kernel
theorem dX8_read_8 : decode cX8_read 8 = .ok (.invokestatic 266, 3) := by decide +kernel
theorem dX8_read_11 : decode cX8_read 11 = .ok (.ifCond .eq 42, 3) := by decide +kernel
theorem dX8_read_14 : decode cX8_read 14 = .ok (.iload_n 3, 1) := by decide +kernel
theorem dX8_read_15 : decode cX8_read 15 = .ok (.invokestatic 266, 3) := by decide +kernel
theorem dX8_read_18 : decode cX8_read 18 = .ok (.ifCond .eq 35, 3) := by decide +kernel
theorem dX8_read_21 : decode cX8_read 21 = .ok (.iload 4, 2) := by decide +kernel
theorem dX8_read_23 : decode cX8_read 23 = .ok (.invokestatic 266, 3) := by decide +kernel
theorem dX8_read_26 : decode cX8_read 26 = .ok (.ifCond .eq 27, 3) := by decide +kernel
theorem dX8_read_29 : decode cX8_read 29 = .ok (.iload 5, 2) := by decide +kernel
theorem dX8_read_31 : decode cX8_read 31 = .ok (.i2l, 1) := by decide +kernel
theorem dX8_read_32 : decode cX8_read 32 = .ok (.lconst 0, 1) := by decide +kernel
theorem dX8_read_33 : decode cX8_read 33 = .ok (.ldc2_w 269, 3) := by decide +kernel
theorem dX8_read_36 : decode cX8_read 36 = .ok (.invokestatic 83, 3) := by decide +kernel
theorem dX8_read_39 : decode cX8_read 39 = .ok (.ifCond .eq 14, 3) := by decide +kernel
theorem dX8_read_42 : decode cX8_read 42 = .ok (.iload 6, 2) := by decide +kernel
theorem dX8_read_44 : decode cX8_read 44 = .ok (.i2l, 1) := by decide +kernel
theorem dX8_read_45 : decode cX8_read 45 = .ok (.lconst 0, 1) := by decide +kernel
theorem dX8_read_46 : decode cX8_read 46 = .ok (.lconst 1, 1) := by decide +kernel
theorem dX8_read_47 : decode cX8_read 47 = .ok (.invokestatic 83, 3) := by decide +kernel
theorem dX8_read_50 : decode cX8_read 50 = .ok (.ifCond .ne 6, 3) := by decide +kernel
theorem dX8_read_53 : decode cX8_read 53 = .ok (.bipush (-2), 2) := by decide +kernel
theorem dX8_read_55 : decode cX8_read 55 = .ok (.ireturn, 1) := by decide +kernel
theorem dX8_read_56 : decode cX8_read 56 = .ok (.aload_n 0, 1) := by decide +kernel
theorem dX8_read_57 : decode cX8_read 57 = .ok (.getfield 52, 3) := by decide +kernel
theorem dX8_read_60 : decode cX8_read 60 = .ok (.iconst 0, 1) := by decide +kernel
theorem dX8_read_61 : decode cX8_read 61 = .ok (.iload_n 1, 1) := by decide +kernel
theorem dX8_read_62 : decode cX8_read 62 = .ok (.iastore, 1) := by decide +kernel
theorem dX8_read_63 : decode cX8_read 63 = .ok (.aload_n 0, 1) := by decide +kernel
theorem dX8_read_64 : decode cX8_read 64 = .ok (.getfield 52, 3) := by decide +kernel
theorem dX8_read_67 : decode cX8_read 67 = .ok (.iconst 1, 1) := by decide +kernel
theorem dX8_read_68 : decode cX8_read 68 = .ok (.iload_n 2, 1) := by decide +kernel
theorem dX8_read_69 : decode cX8_read 69 = .ok (.iastore, 1) := by decide +kernel
theorem dX8_read_70 : decode cX8_read 70 = .ok (.aload_n 0, 1) := by decide +kernel
theorem dX8_read_71 : decode cX8_read 71 = .ok (.getfield 52, 3) := by decide +kernel
theorem dX8_read_74 : decode cX8_read 74 = .ok (.iconst 2, 1) := by decide +kernel
theorem dX8_read_75 : decode cX8_read 75 = .ok (.iload_n 3, 1) := by decide +kernel
theorem dX8_read_76 : decode cX8_read 76 = .ok (.iastore, 1) := by decide +kernel
theorem dX8_read_77 : decode cX8_read 77 = .ok (.aload_n 0, 1) := by decide +kernel
theorem dX8_read_78 : decode cX8_read 78 = .ok (.getfield 52, 3) := by decide +kernel
theorem dX8_read_81 : decode cX8_read 81 = .ok (.iconst 3, 1) := by decide +kernel
theorem dX8_read_82 : decode cX8_read 82 = .ok (.iload 4, 2) := by decide +kernel
theorem dX8_read_84 : decode cX8_read 84 = .ok (.iastore, 1) := by decide +kernel
theorem dX8_read_85 : decode cX8_read 85 = .ok (.iconst 1, 1) := by decide +kernel
theorem dX8_read_86 : decode cX8_read 86 = .ok (.istore 7, 2) := by decide +kernel
theorem dX8_read_88 : decode cX8_read 88 = .ok (.iload 5, 2) := by decide +kernel
theorem dX8_read_90 : decode cX8_read 90 = .ok (.bipush 10, 2) := by decide +kernel
theorem dX8_read_92 : decode cX8_read 92 = .ok (.idiv, 1) := by decide +kernel
theorem dX8_read_93 : decode cX8_read 93 = .ok (.istore 8, 2) := by decide +kernel
theorem dX8_read_95 : decode cX8_read 95 = .ok (.iload 8, 2) := by decide +kernel
theorem dX8_read_97 : decode cX8_read 97 = .ok (.ifCond .le 16, 3) := by decide +kernel
theorem dX8_read_100 : decode cX8_read 100 = .ok (.iinc 7 1, 3) := by decide +kernel
theorem dX8_read_103 : decode cX8_read 103 = .ok (.iload 8, 2) := by decide +kernel
theorem dX8_read_105 : decode cX8_read 105 = .ok (.bipush 10, 2) := by decide +kernel
theorem dX8_read_107 : decode cX8_read 107 = .ok (.idiv, 1) := by decide +kernel
theorem dX8_read_108 : decode cX8_read 108 = .ok (.istore 8, 2) := by decide +kernel
theorem dX8_read_110 : decode cX8_read 110 = .ok (.goto (-15), 3) := by decide +kernel
theorem dX8_read_113 : decode cX8_read 113 = .ok (.iload 5, 2) := by decide +kernel
theorem dX8_read_115 : decode cX8_read 115 = .ok (.istore 8, 2) := by decide +kernel
theorem dX8_read_117 : decode cX8_read 117 = .ok (.iload 7, 2) := by decide +kernel
theorem dX8_read_119 : decode cX8_read 119 = .ok (.iconst 1, 1) := by decide +kernel
theorem dX8_read_120 : decode cX8_read 120 = .ok (.isub, 1) := by decide +kernel
theorem dX8_read_121 : decode cX8_read 121 = .ok (.istore 9, 2) := by decide +kernel
theorem dX8_read_123 : decode cX8_read 123 = .ok (.iload 9, 2) := by decide +kernel
theorem dX8_read_125 : decode cX8_read 125 = .ok (.ifCond .lt 28, 3) := by decide +kernel
theorem dX8_read_128 : decode cX8_read 128 = .ok (.aload_n 0, 1) := by decide +kernel
theorem dX8_read_129 : decode cX8_read 129 = .ok (.getfield 55, 3) := by decide +kernel
theorem dX8_read_132 : decode cX8_read 132 = .ok (.iload 9, 2) := by decide +kernel
theorem dX8_read_134 : decode cX8_read 134 = .ok (.iload 8, 2) := by decide +kernel
theorem dX8_read_136 : decode cX8_read 136 = .ok (.bipush 10, 2) := by decide +kernel
theorem dX8_read_138 : decode cX8_read 138 = .ok (.irem, 1) := by decide +kernel
theorem dX8_read_139 : decode cX8_read 139 = .ok (.iastore, 1) := by decide +kernel
theorem dX8_read_140 : decode cX8_read 140 = .ok (.iload 8, 2) := by decide +kernel
theorem dX8_read_142 : decode cX8_read 142 = .ok (.bipush 10, 2) := by decide +kernel
theorem dX8_read_144 : decode cX8_read 144 = .ok (.idiv, 1) := by decide +kernel
theorem dX8_read_145 : decode cX8_read 145 = .ok (.istore 8, 2) := by decide +kernel
theorem dX8_read_147 : decode cX8_read 147 = .ok (.iinc 9 (-1), 3) := by decide +kernel
theorem dX8_read_150 : decode cX8_read 150 = .ok (.goto (-27), 3) := by decide +kernel
theorem dX8_read_153 : decode cX8_read 153 = .ok (.aload_n 0, 1) := by decide +kernel
theorem dX8_read_154 : decode cX8_read 154 = .ok (.getfield 58, 3) := by decide +kernel
theorem dX8_read_157 : decode cX8_read 157 = .ok (.iload 7, 2) := by decide +kernel
theorem dX8_read_159 : decode cX8_read 159 = .ok (.iconst 1, 1) := by decide +kernel
theorem dX8_read_160 : decode cX8_read 160 = .ok (.iastore, 1) := by decide +kernel
theorem dX8_read_161 : decode cX8_read 161 = .ok (.aload_n 0, 1) := by decide +kernel
theorem dX8_read_162 : decode cX8_read 162 = .ok (.getfield 61, 3) := by decide +kernel
theorem dX8_read_165 : decode cX8_read 165 = .ok (.iload 7, 2) := by decide +kernel
theorem dX8_read_167 : decode cX8_read 167 = .ok (.iconst 0, 1) := by decide +kernel
theorem dX8_read_168 : decode cX8_read 168 = .ok (.iastore, 1) := by decide +kernel
theorem dX8_read_169 : decode cX8_read 169 = .ok (.iload 7, 2) := by decide +kernel
theorem dX8_read_171 : decode cX8_read 171 = .ok (.iconst 1, 1) := by decide +kernel
theorem dX8_read_172 : decode cX8_read 172 = .ok (.isub, 1) := by decide +kernel
theorem dX8_read_173 : decode cX8_read 173 = .ok (.istore 9, 2) := by decide +kernel
theorem dX8_read_175 : decode cX8_read 175 = .ok (.iload 9, 2) := by decide +kernel
theorem dX8_read_177 : decode cX8_read 177 = .ok (.ifCond .lt 17, 3) := by decide +kernel
theorem dX8_read_180 : decode cX8_read 180 = .ok (.aload_n 0, 1) := by decide +kernel
theorem dX8_read_181 : decode cX8_read 181 = .ok (.iload 9, 2) := by decide +kernel
theorem dX8_read_183 : decode cX8_read 183 = .ok (.iload 7, 2) := by decide +kernel
theorem dX8_read_185 : decode cX8_read 185 = .ok (.invokevirtual 271, 3) := by decide +kernel
theorem dX8_read_188 : decode cX8_read 188 = .ok (.iinc 9 (-1), 3) := by decide +kernel
theorem dX8_read_191 : decode cX8_read 191 = .ok (.goto (-16), 3) := by decide +kernel
theorem dX8_read_194 : decode cX8_read 194 = .ok (.iload 6, 2) := by decide +kernel
theorem dX8_read_196 : decode cX8_read 196 = .ok (.ifCond .ne 12, 3) := by decide +kernel
theorem dX8_read_199 : decode cX8_read 199 = .ok (.aload_n 0, 1) := by decide +kernel
theorem dX8_read_200 : decode cX8_read 200 = .ok (.getfield 58, 3) := by decide +kernel
theorem dX8_read_203 : decode cX8_read 203 = .ok (.iconst 0, 1) := by decide +kernel
theorem dX8_read_204 : decode cX8_read 204 = .ok (.iaload, 1) := by decide +kernel
theorem dX8_read_205 : decode cX8_read 205 = .ok (.goto 9, 3) := by decide +kernel
theorem dX8_read_208 : decode cX8_read 208 = .ok (.aload_n 0, 1) := by decide +kernel
theorem dX8_read_209 : decode cX8_read 209 = .ok (.getfield 61, 3) := by decide +kernel
theorem dX8_read_212 : decode cX8_read 212 = .ok (.iconst 0, 1) := by decide +kernel
theorem dX8_read_213 : decode cX8_read 213 = .ok (.iaload, 1) := by decide +kernel
theorem dX8_read_214 : decode cX8_read 214 = .ok (.ireturn, 1) := by decide +kernel
set_option maxRecDepth 20000 in
theorem ggX8_felt_X8_isChild : GoodIn wsX8_felt wsX8_isChild := goodIn_r _ [8, 1, 9, 10, 7, 11] (by decide +kernel) (by decide +kernel)
set_option maxRecDepth 20000 in
theorem gX8_felt_X8_isChild : GoodIn wsX8_felt (va_wsS RX8 91 yX8_isChild wsX8_isChild) := goodIn_app (goodIn_of _ (by decide +kernel)) ggX8_felt_X8_isChild
set_option maxRecDepth 20000 in
theorem ggX8_felt_X8_in : GoodIn wsX8_felt wsX8_in := goodIn_r _ [11] (by decide +kernel) (by decide +kernel)
set_option maxRecDepth 20000 in
theorem gX8_felt_X8_in : GoodIn wsX8_felt (va_wsS RX8 83 yX8_in wsX8_in) := goodIn_app (goodIn_of _ (by decide +kernel)) ggX8_felt_X8_in
theorem dX8_felt_0 : decode cX8_felt 0 = .ok (.iload_n 1, 1) := by decide +kernel
theorem dX8_felt_1 : decode cX8_felt 1 = .ok (.invokestatic 91, 3) := by decide +kernel
theorem dX8_felt_4 : decode cX8_felt 4 = .ok (.ifCond .ne 5, 3) := by decide +kernel
theorem dX8_felt_7 : decode cX8_felt 7 = .ok (.iconst (-1), 1) := by decide +kernel
theorem dX8_felt_8 : decode cX8_felt 8 = .ok (.ireturn, 1) := by decide +kernel
theorem dX8_felt_9 : decode cX8_felt 9 = .ok (.iload_n 2, 1) := by decide +kernel
theorem dX8_felt_10 : decode cX8_felt 10 = .ok (.i2l, 1) := by decide +kernel
theorem dX8_felt_11 : decode cX8_felt 11 = .ok (.lconst 0, 1) := by decide +kernel
theorem dX8_felt_12 : decode cX8_felt 12 = .ok (.ldc2_w 81, 3) := by decide +kernel
theorem dX8_felt_15 : decode cX8_felt 15 = .ok (.invokestatic 83, 3) := by decide +kernel
theorem dX8_felt_18 : decode cX8_felt 18 = .ok (.ifCond .ne 6, 3) := by decide +kernel
theorem dX8_felt_21 : decode cX8_felt 21 = .ok (.bipush (-2), 2) := by decide +kernel
theorem dX8_felt_23 : decode cX8_felt 23 = .ok (.ireturn, 1) := by decide +kernel
theorem dX8_felt_24 : decode cX8_felt 24 = .ok (.aload_n 0, 1) := by decide +kernel
theorem dX8_felt_25 : decode cX8_felt 25 = .ok (.getfield 274, 3) := by decide +kernel
theorem dX8_felt_28 : decode cX8_felt 28 = .ok (.bipush 8, 2) := by decide +kernel
theorem dX8_felt_30 : decode cX8_felt 30 = .ok (.if_icmp .ne 6, 3) := by decide +kernel
theorem dX8_felt_33 : decode cX8_felt 33 = .ok (.bipush (-4), 2) := by decide +kernel
theorem dX8_felt_35 : decode cX8_felt 35 = .ok (.ireturn, 1) := by decide +kernel
theorem dX8_felt_36 : decode cX8_felt 36 = .ok (.aload_n 0, 1) := by decide +kernel
theorem dX8_felt_37 : decode cX8_felt 37 = .ok (.getfield 19, 3) := by decide +kernel
theorem dX8_felt_40 : decode cX8_felt 40 = .ok (.aload_n 0, 1) := by decide +kernel
theorem dX8_felt_41 : decode cX8_felt 41 = .ok (.getfield 274, 3) := by decide +kernel
theorem dX8_felt_44 : decode cX8_felt 44 = .ok (.iload_n 1, 1) := by decide +kernel
theorem dX8_felt_45 : decode cX8_felt 45 = .ok (.iastore, 1) := by decide +kernel
theorem dX8_felt_46 : decode cX8_felt 46 = .ok (.aload_n 0, 1) := by decide +kernel
theorem dX8_felt_47 : decode cX8_felt 47 = .ok (.getfield 22, 3) := by decide +kernel
theorem dX8_felt_50 : decode cX8_felt 50 = .ok (.aload_n 0, 1) := by decide +kernel
theorem dX8_felt_51 : decode cX8_felt 51 = .ok (.getfield 274, 3) := by decide +kernel
theorem dX8_felt_54 : decode cX8_felt 54 = .ok (.iload_n 2, 1) := by decide +kernel
theorem dX8_felt_55 : decode cX8_felt 55 = .ok (.iastore, 1) := by decide +kernel
theorem dX8_felt_56 : decode cX8_felt 56 = .ok (.aload_n 0, 1) := by decide +kernel
theorem dX8_felt_57 : decode cX8_felt 57 = .ok (.dup, 1) := by decide +kernel
theorem dX8_felt_58 : decode cX8_felt 58 = .ok (.getfield 274, 3) := by decide +kernel
theorem dX8_felt_61 : decode cX8_felt 61 = .ok (.iconst 1, 1) := by decide +kernel
theorem dX8_felt_62 : decode cX8_felt 62 = .ok (.iadd, 1) := by decide +kernel
theorem dX8_felt_63 : decode cX8_felt 63 = .ok (.putfield 274, 3) := by decide +kernel
theorem dX8_felt_66 : decode cX8_felt 66 = .ok (.aload_n 0, 1) := by decide +kernel
theorem dX8_felt_67 : decode cX8_felt 67 = .ok (.getfield 274, 3) := by decide +kernel
theorem dX8_felt_70 : decode cX8_felt 70 = .ok (.ireturn, 1) := by decide +kernel
theorem dX8_forget_0 : decode cX8_forget 0 = .ok (.aload_n 0, 1) := by decide +kernel
theorem dX8_forget_1 : decode cX8_forget 1 = .ok (.getfield 274, 3) := by decide +kernel
theorem dX8_forget_4 : decode cX8_forget 4 = .ok (.istore_n 1, 1) := by decide +kernel
theorem dX8_forget_5 : decode cX8_forget 5 = .ok (.aload_n 0, 1) := by decide +kernel
theorem dX8_forget_6 : decode cX8_forget 6 = .ok (.iconst 0, 1) := by decide +kernel
theorem dX8_forget_7 : decode cX8_forget 7 = .ok (.putfield 274, 3) := by decide +kernel
theorem dX8_forget_10 : decode cX8_forget 10 = .ok (.iload_n 1, 1) := by decide +kernel
theorem dX8_forget_11 : decode cX8_forget 11 = .ok (.ireturn, 1) := by decide +kernel
set_option maxRecDepth 20000 in
theorem ggX8_feltBy_X8_off : GoodIn wsX8_feltBy wsX8_off := goodIn_r _ [4] (by decide +kernel) (by decide +kernel)
set_option maxRecDepth 20000 in
theorem gX8_feltBy_X8_off : GoodIn wsX8_feltBy (va_wsS RX8 87 yX8_off wsX8_off) := goodIn_app (goodIn_of _ (by decide +kernel)) ggX8_feltBy_X8_off
theorem dX8_feltBy_0 : decode cX8_feltBy 0 = .ok (.iload_n 0, 1) := by decide +kernel
theorem dX8_feltBy_1 : decode cX8_feltBy 1 = .ok (.bipush 10, 2) := by decide +kernel
theorem dX8_feltBy_3 : decode cX8_feltBy 3 = .ok (.idiv, 1) := by decide +kernel
theorem dX8_feltBy_4 : decode cX8_feltBy 4 = .ok (.bipush 10, 2) := by decide +kernel
theorem dX8_feltBy_6 : decode cX8_feltBy 6 = .ok (.irem, 1) := by decide +kernel
theorem dX8_feltBy_7 : decode cX8_feltBy 7 = .ok (.iload_n 0, 1) := by decide +kernel
theorem dX8_feltBy_8 : decode cX8_feltBy 8 = .ok (.bipush 10, 2) := by decide +kernel
theorem dX8_feltBy_10 : decode cX8_feltBy 10 = .ok (.irem, 1) := by decide +kernel
theorem dX8_feltBy_11 : decode cX8_feltBy 11 = .ok (.iload_n 0, 1) := by decide +kernel
theorem dX8_feltBy_12 : decode cX8_feltBy 12 = .ok (.bipush 100, 2) := by decide +kernel
theorem dX8_feltBy_14 : decode cX8_feltBy 14 = .ok (.idiv, 1) := by decide +kernel
theorem dX8_feltBy_15 : decode cX8_feltBy 15 = .ok (.iload_n 1, 1) := by decide +kernel
theorem dX8_feltBy_16 : decode cX8_feltBy 16 = .ok (.invokestatic 87, 3) := by decide +kernel
theorem dX8_feltBy_19 : decode cX8_feltBy 19 = .ok (.imul, 1) := by decide +kernel
theorem dX8_feltBy_20 : decode cX8_feltBy 20 = .ok (.isub, 1) := by decide +kernel
theorem dX8_feltBy_21 : decode cX8_feltBy 21 = .ok (.istore_n 2, 1) := by decide +kernel
theorem dX8_feltBy_22 : decode cX8_feltBy 22 = .ok (.iload_n 2, 1) := by decide +kernel
theorem dX8_feltBy_23 : decode cX8_feltBy 23 = .ok (.ifCond .ge 7, 3) := by decide +kernel
theorem dX8_feltBy_26 : decode cX8_feltBy 26 = .ok (.iconst 0, 1) := by decide +kernel
theorem dX8_feltBy_27 : decode cX8_feltBy 27 = .ok (.goto 4, 3) := by decide +kernel
theorem dX8_feltBy_30 : decode cX8_feltBy 30 = .ok (.iload_n 2, 1) := by decide +kernel
theorem dX8_feltBy_31 : decode cX8_feltBy 31 = .ok (.ireturn, 1) := by decide +kernel
set_option maxRecDepth 20000 in
theorem ggX8_isFit_X8_in : GoodIn wsX8_isFit wsX8_in := goodIn_r _ [8] (by decide +kernel) (by decide +kernel)
set_option maxRecDepth 20000 in
theorem gX8_isFit_X8_in : GoodIn wsX8_isFit (va_wsS RX8 83 yX8_in wsX8_in) := goodIn_app (goodIn_of _ (by decide +kernel)) ggX8_isFit_X8_in
set_option maxRecDepth 20000 in
theorem ggX8_isFit_X8_feltBy : GoodIn wsX8_isFit wsX8_feltBy := goodIn_r _ [11, 12, 13, 7, 14] (by decide +kernel) (by decide +kernel)
set_option maxRecDepth 20000 in
theorem gX8_isFit_X8_feltBy : GoodIn wsX8_isFit (va_wsS RX8 277 yX8_feltBy wsX8_feltBy) := goodIn_app (goodIn_of _ (by decide +kernel)) ggX8_isFit_X8_feltBy
theorem dX8_isFit_0 : decode cX8_isFit 0 = .ok (.iload_n 1, 1) := by decide +kernel
theorem dX8_isFit_1 : decode cX8_isFit 1 = .ok (.bipush 10, 2) := by decide +kernel
theorem dX8_isFit_3 : decode cX8_isFit 3 = .ok (.idiv, 1) := by decide +kernel
theorem dX8_isFit_4 : decode cX8_isFit 4 = .ok (.bipush 10, 2) := by decide +kernel
theorem dX8_isFit_6 : decode cX8_isFit 6 = .ok (.irem, 1) := by decide +kernel
theorem dX8_isFit_7 : decode cX8_isFit 7 = .ok (.ifCond .le 22, 3) := by decide +kernel
theorem dX8_isFit_10 : decode cX8_isFit 10 = .ok (.iload_n 1, 1) := by decide +kernel
theorem dX8_isFit_11 : decode cX8_isFit 11 = .ok (.bipush 10, 2) := by decide +kernel
theorem dX8_isFit_13 : decode cX8_isFit 13 = .ok (.irem, 1) := by decide +kernel
theorem dX8_isFit_14 : decode cX8_isFit 14 = .ok (.i2l, 1) := by decide +kernel
theorem dX8_isFit_15 : decode cX8_isFit 15 = .ok (.lconst 1, 1) := by decide +kernel
theorem dX8_isFit_16 : decode cX8_isFit 16 = .ok (.ldc2_w 240, 3) := by decide +kernel
theorem dX8_isFit_19 : decode cX8_isFit 19 = .ok (.invokestatic 83, 3) := by decide +kernel
theorem dX8_isFit_22 : decode cX8_isFit 22 = .ok (.ifCond .eq 7, 3) := by decide +kernel
theorem dX8_isFit_25 : decode cX8_isFit 25 = .ok (.iconst 1, 1) := by decide +kernel
theorem dX8_isFit_26 : decode cX8_isFit 26 = .ok (.goto 4, 3) := by decide +kernel
theorem dX8_isFit_29 : decode cX8_isFit 29 = .ok (.iconst 0, 1) := by decide +kernel
theorem dX8_isFit_30 : decode cX8_isFit 30 = .ok (.istore_n 2, 1) := by decide +kernel
theorem dX8_isFit_31 : decode cX8_isFit 31 = .ok (.iconst 0, 1) := by decide +kernel
theorem dX8_isFit_32 : decode cX8_isFit 32 = .ok (.istore_n 3, 1) := by decide +kernel
theorem dX8_isFit_33 : decode cX8_isFit 33 = .ok (.iload_n 3, 1) := by decide +kernel
theorem dX8_isFit_34 : decode cX8_isFit 34 = .ok (.aload_n 0, 1) := by decide +kernel
theorem dX8_isFit_35 : decode cX8_isFit 35 = .ok (.getfield 274, 3) := by decide +kernel
theorem dX8_isFit_38 : decode cX8_isFit 38 = .ok (.if_icmp .ge 38, 3) := by decide +kernel
theorem dX8_isFit_41 : decode cX8_isFit 41 = .ok (.iload_n 2, 1) := by decide +kernel
theorem dX8_isFit_42 : decode cX8_isFit 42 = .ok (.ifCond .eq 34, 3) := by decide +kernel
theorem dX8_isFit_45 : decode cX8_isFit 45 = .ok (.iload_n 1, 1) := by decide +kernel
theorem dX8_isFit_46 : decode cX8_isFit 46 = .ok (.aload_n 0, 1) := by decide +kernel
theorem dX8_isFit_47 : decode cX8_isFit 47 = .ok (.getfield 19, 3) := by decide +kernel
theorem dX8_isFit_50 : decode cX8_isFit 50 = .ok (.iload_n 3, 1) := by decide +kernel
theorem dX8_isFit_51 : decode cX8_isFit 51 = .ok (.iaload, 1) := by decide +kernel
theorem dX8_isFit_52 : decode cX8_isFit 52 = .ok (.invokestatic 277, 3) := by decide +kernel
theorem dX8_isFit_55 : decode cX8_isFit 55 = .ok (.aload_n 0, 1) := by decide +kernel
theorem dX8_isFit_56 : decode cX8_isFit 56 = .ok (.getfield 22, 3) := by decide +kernel
theorem dX8_isFit_59 : decode cX8_isFit 59 = .ok (.iload_n 3, 1) := by decide +kernel
theorem dX8_isFit_60 : decode cX8_isFit 60 = .ok (.iaload, 1) := by decide +kernel
theorem dX8_isFit_61 : decode cX8_isFit 61 = .ok (.if_icmp .ne 7, 3) := by decide +kernel
theorem dX8_isFit_64 : decode cX8_isFit 64 = .ok (.iconst 1, 1) := by decide +kernel
theorem dX8_isFit_65 : decode cX8_isFit 65 = .ok (.goto 4, 3) := by decide +kernel
theorem dX8_isFit_68 : decode cX8_isFit 68 = .ok (.iconst 0, 1) := by decide +kernel
theorem dX8_isFit_69 : decode cX8_isFit 69 = .ok (.istore_n 2, 1) := by decide +kernel
theorem dX8_isFit_70 : decode cX8_isFit 70 = .ok (.iinc 3 1, 3) := by decide +kernel
theorem dX8_isFit_73 : decode cX8_isFit 73 = .ok (.goto (-40), 3) := by decide +kernel
theorem dX8_isFit_76 : decode cX8_isFit 76 = .ok (.iload_n 2, 1) := by decide +kernel
theorem dX8_isFit_77 : decode cX8_isFit 77 = .ok (.ireturn, 1) := by decide +kernel
set_option maxRecDepth 20000 in
theorem ggX8_fits_X8_isFit : GoodIn wsX8_fits wsX8_isFit := goodIn_r _ [5, 6, 7, 8, 9, 10, 11, 4, 12, 13, 14, 15, 16, 17, 18, 19, 20, 21, 22, 23, 24, 25, 26, 27, 28, 29, 30, 31, 32, 33, 34, 35, 36, 37, 38, 39, 40, 41, 42, 43, 44, 45, 46, 47, 48, 49, 50, 51, 52, 53, 54, 55] (by decide +kernel) (by decide +kernel)
set_option maxRecDepth 20000 in
theorem gX8_fits_X8_isFit : GoodIn wsX8_fits (wsV RX8 280 RX8 yX8_isFit wsX8_isFit) := goodIn_app (goodIn_of _ (by decide +kernel)) ggX8_fits_X8_isFit
theorem dX8_fits_0 : decode cX8_fits 0 = .ok (.iconst 0, 1) := by decide +kernel
theorem dX8_fits_1 : decode cX8_fits 1 = .ok (.istore_n 2, 1) := by decide +kernel
theorem dX8_fits_2 : decode cX8_fits 2 = .ok (.iconst 0, 1) := by decide +kernel
theorem dX8_fits_3 : decode cX8_fits 3 = .ok (.istore_n 3, 1) := by decide +kernel
theorem dX8_fits_4 : decode cX8_fits 4 = .ok (.iload_n 3, 1) := by decide +kernel
theorem dX8_fits_5 : decode cX8_fits 5 = .ok (.sipush 1000, 3) := by decide +kernel
theorem dX8_fits_8 : decode cX8_fits 8 = .ok (.if_icmp .ge 27, 3) := by decide +kernel
theorem dX8_fits_11 : decode cX8_fits 11 = .ok (.aload_n 0, 1) := by decide +kernel
theorem dX8_fits_12 : decode cX8_fits 12 = .ok (.iload_n 3, 1) := by decide +kernel
theorem dX8_fits_13 : decode cX8_fits 13 = .ok (.invokevirtual 280, 3) := by decide +kernel
theorem dX8_fits_16 : decode cX8_fits 16 = .ok (.ifCond .eq 13, 3) := by decide +kernel
theorem dX8_fits_19 : decode cX8_fits 19 = .ok (.iload_n 2, 1) := by decide +kernel
theorem dX8_fits_20 : decode cX8_fits 20 = .ok (.iload_n 1, 1) := by decide +kernel
theorem dX8_fits_21 : decode cX8_fits 21 = .ok (.if_icmp .ne 5, 3) := by decide +kernel
theorem dX8_fits_24 : decode cX8_fits 24 = .ok (.iload_n 3, 1) := by decide +kernel
theorem dX8_fits_25 : decode cX8_fits 25 = .ok (.ireturn, 1) := by decide +kernel
theorem dX8_fits_26 : decode cX8_fits 26 = .ok (.iinc 2 1, 3) := by decide +kernel
theorem dX8_fits_29 : decode cX8_fits 29 = .ok (.iinc 3 1, 3) := by decide +kernel
theorem dX8_fits_32 : decode cX8_fits 32 = .ok (.goto (-28), 3) := by decide +kernel
theorem dX8_fits_35 : decode cX8_fits 35 = .ok (.iload_n 1, 1) := by decide +kernel
theorem dX8_fits_36 : decode cX8_fits 36 = .ok (.iconst (-1), 1) := by decide +kernel
theorem dX8_fits_37 : decode cX8_fits 37 = .ok (.if_icmp .ne 7, 3) := by decide +kernel
theorem dX8_fits_40 : decode cX8_fits 40 = .ok (.iload_n 2, 1) := by decide +kernel
theorem dX8_fits_41 : decode cX8_fits 41 = .ok (.goto 5, 3) := by decide +kernel
theorem dX8_fits_44 : decode cX8_fits 44 = .ok (.bipush (-6), 2) := by decide +kernel
theorem dX8_fits_46 : decode cX8_fits 46 = .ok (.ireturn, 1) := by decide +kernel
set_option maxRecDepth 20000 in
theorem ggX8_mostLeft_X8_isFit : GoodIn wsX8_mostLeft wsX8_isFit := goodIn_r _ [6, 7, 8, 9, 10, 11, 12, 5, 13, 14, 15, 16, 17, 18, 19, 20, 21, 22, 23, 24, 25, 26, 27, 28, 29, 30, 31, 32, 33, 34, 35, 36, 37, 38, 39, 40, 41, 42, 43, 44, 45, 46, 47, 48, 49, 50, 51, 52, 53, 54, 55, 56] (by decide +kernel) (by decide +kernel)
set_option maxRecDepth 20000 in
theorem gX8_mostLeft_X8_isFit : GoodIn wsX8_mostLeft (wsV RX8 280 RX8 yX8_isFit wsX8_isFit) := goodIn_app (goodIn_of _ (by decide +kernel)) ggX8_mostLeft_X8_isFit
set_option maxRecDepth 20000 in
theorem ggX8_mostLeft_X8_feltBy : GoodIn wsX8_mostLeft wsX8_feltBy := goodIn_r _ [16, 17, 18, 5, 19] (by decide +kernel) (by decide +kernel)
set_option maxRecDepth 20000 in
theorem gX8_mostLeft_X8_feltBy : GoodIn wsX8_mostLeft (va_wsS RX8 277 yX8_feltBy wsX8_feltBy) := goodIn_app (goodIn_of _ (by decide +kernel)) ggX8_mostLeft_X8_feltBy
theorem dX8_mostLeft_0 : decode cX8_mostLeft 0 = .ok (.iconst 0, 1) := by decide +kernel
theorem dX8_mostLeft_1 : decode cX8_mostLeft 1 = .ok (.istore_n 2, 1) := by decide +kernel
theorem dX8_mostLeft_2 : decode cX8_mostLeft 2 = .ok (.iconst 0, 1) := by decide +kernel
theorem dX8_mostLeft_3 : decode cX8_mostLeft 3 = .ok (.istore_n 3, 1) := by decide +kernel
theorem dX8_mostLeft_4 : decode cX8_mostLeft 4 = .ok (.iload_n 3, 1) := by decide +kernel
theorem dX8_mostLeft_5 : decode cX8_mostLeft 5 = .ok (.bipush 10, 2) := by decide +kernel
theorem dX8_mostLeft_7 : decode cX8_mostLeft 7 = .ok (.if_icmp .ge 16, 3) := by decide +kernel
theorem dX8_mostLeft_10 : decode cX8_mostLeft 10 = .ok (.aload_n 0, 1) := by decide +kernel
theorem dX8_mostLeft_11 : decode cX8_mostLeft 11 = .ok (.getfield 64, 3) := by decide +kernel
theorem dX8_mostLeft_14 : decode cX8_mostLeft 14 = .ok (.iload_n 3, 1) := by decide +kernel
theorem dX8_mostLeft_15 : decode cX8_mostLeft 15 = .ok (.iconst 0, 1) := by decide +kernel
theorem dX8_mostLeft_16 : decode cX8_mostLeft 16 = .ok (.iastore, 1) := by decide +kernel
theorem dX8_mostLeft_17 : decode cX8_mostLeft 17 = .ok (.iinc 3 1, 3) := by decide +kernel
theorem dX8_mostLeft_20 : decode cX8_mostLeft 20 = .ok (.goto (-16), 3) := by decide +kernel
theorem dX8_mostLeft_23 : decode cX8_mostLeft 23 = .ok (.iconst 0, 1) := by decide +kernel
theorem dX8_mostLeft_24 : decode cX8_mostLeft 24 = .ok (.istore_n 3, 1) := by decide +kernel
theorem dX8_mostLeft_25 : decode cX8_mostLeft 25 = .ok (.iload_n 3, 1) := by decide +kernel
theorem dX8_mostLeft_26 : decode cX8_mostLeft 26 = .ok (.sipush 1000, 3) := by decide +kernel
theorem dX8_mostLeft_29 : decode cX8_mostLeft 29 = .ok (.if_icmp .ge 58, 3) := by decide +kernel
theorem dX8_mostLeft_32 : decode cX8_mostLeft 32 = .ok (.aload_n 0, 1) := by decide +kernel
theorem dX8_mostLeft_33 : decode cX8_mostLeft 33 = .ok (.iload_n 3, 1) := by decide +kernel
theorem dX8_mostLeft_34 : decode cX8_mostLeft 34 = .ok (.invokevirtual 280, 3) := by decide +kernel
theorem dX8_mostLeft_37 : decode cX8_mostLeft 37 = .ok (.ifCond .eq 44, 3) := by decide +kernel
theorem dX8_mostLeft_40 : decode cX8_mostLeft 40 = .ok (.iload_n 3, 1) := by decide +kernel
theorem dX8_mostLeft_41 : decode cX8_mostLeft 41 = .ok (.iload_n 1, 1) := by decide +kernel
theorem dX8_mostLeft_42 : decode cX8_mostLeft 42 = .ok (.invokestatic 277, 3) := by decide +kernel
theorem dX8_mostLeft_45 : decode cX8_mostLeft 45 = .ok (.istore 4, 2) := by decide +kernel
theorem dX8_mostLeft_47 : decode cX8_mostLeft 47 = .ok (.aload_n 0, 1) := by decide +kernel
theorem dX8_mostLeft_48 : decode cX8_mostLeft 48 = .ok (.getfield 64, 3) := by decide +kernel
theorem dX8_mostLeft_51 : decode cX8_mostLeft 51 = .ok (.iload 4, 2) := by decide +kernel
theorem dX8_mostLeft_53 : decode cX8_mostLeft 53 = .ok (.dup2, 1) := by decide +kernel
theorem dX8_mostLeft_54 : decode cX8_mostLeft 54 = .ok (.iaload, 1) := by decide +kernel
theorem dX8_mostLeft_55 : decode cX8_mostLeft 55 = .ok (.iconst 1, 1) := by decide +kernel
theorem dX8_mostLeft_56 : decode cX8_mostLeft 56 = .ok (.iadd, 1) := by decide +kernel
theorem dX8_mostLeft_57 : decode cX8_mostLeft 57 = .ok (.iastore, 1) := by decide +kernel
theorem dX8_mostLeft_58 : decode cX8_mostLeft 58 = .ok (.aload_n 0, 1) := by decide +kernel
theorem dX8_mostLeft_59 : decode cX8_mostLeft 59 = .ok (.getfield 64, 3) := by decide +kernel
theorem dX8_mostLeft_62 : decode cX8_mostLeft 62 = .ok (.iload 4, 2) := by decide +kernel
theorem dX8_mostLeft_64 : decode cX8_mostLeft 64 = .ok (.iaload, 1) := by decide +kernel
theorem dX8_mostLeft_65 : decode cX8_mostLeft 65 = .ok (.iload_n 2, 1) := by decide +kernel
theorem dX8_mostLeft_66 : decode cX8_mostLeft 66 = .ok (.if_icmp .le 13, 3) := by decide +kernel
theorem dX8_mostLeft_69 : decode cX8_mostLeft 69 = .ok (.aload_n 0, 1) := by decide +kernel
theorem dX8_mostLeft_70 : decode cX8_mostLeft 70 = .ok (.getfield 64, 3) := by decide +kernel
theorem dX8_mostLeft_73 : decode cX8_mostLeft 73 = .ok (.iload 4, 2) := by decide +kernel
theorem dX8_mostLeft_75 : decode cX8_mostLeft 75 = .ok (.iaload, 1) := by decide +kernel
theorem dX8_mostLeft_76 : decode cX8_mostLeft 76 = .ok (.goto 4, 3) := by decide +kernel
theorem dX8_mostLeft_79 : decode cX8_mostLeft 79 = .ok (.iload_n 2, 1) := by decide +kernel
theorem dX8_mostLeft_80 : decode cX8_mostLeft 80 = .ok (.istore_n 2, 1) := by decide +kernel
theorem dX8_mostLeft_81 : decode cX8_mostLeft 81 = .ok (.iinc 3 1, 3) := by decide +kernel
theorem dX8_mostLeft_84 : decode cX8_mostLeft 84 = .ok (.goto (-59), 3) := by decide +kernel
theorem dX8_mostLeft_87 : decode cX8_mostLeft 87 = .ok (.iload_n 2, 1) := by decide +kernel
theorem dX8_mostLeft_88 : decode cX8_mostLeft 88 = .ok (.ireturn, 1) := by decide +kernel
set_option maxRecDepth 20000 in
theorem ggX8_ask_X8_in : GoodIn wsX8_ask wsX8_in := goodIn_r _ [4] (by decide +kernel) (by decide +kernel)
set_option maxRecDepth 20000 in
theorem gX8_ask_X8_in : GoodIn wsX8_ask (va_wsS RX8 83 yX8_in wsX8_in) := goodIn_app (goodIn_of _ (by decide +kernel)) ggX8_ask_X8_in
set_option maxRecDepth 20000 in
theorem ggX8_ask_X8_mostLeft : GoodIn wsX8_ask wsX8_mostLeft := goodIn_r _ [8, 9, 10, 11, 12, 3, 13, 14, 15, 16, 17, 1, 2, 4, 18, 19, 20, 21, 22, 23, 27, 28, 29, 30, 31, 32, 33, 34, 35, 36, 37, 38, 39, 40, 41, 42, 43, 44, 45, 46, 47, 48, 49, 50, 51, 52, 53, 54, 55, 56, 57, 58, 59, 60, 61, 62, 63] (by decide +kernel) (by decide +kernel)
set_option maxRecDepth 20000 in
theorem gX8_ask_X8_mostLeft : GoodIn wsX8_ask (wsV RX8 283 RX8 yX8_mostLeft wsX8_mostLeft) := goodIn_app (goodIn_of _ (by decide +kernel)) ggX8_ask_X8_mostLeft
set_option maxRecDepth 20000 in
theorem ggX8_ask_X8_less : GoodIn wsX8_ask wsX8_less := goodIn_r _ [26] (by decide +kernel) (by decide +kernel)
set_option maxRecDepth 20000 in
theorem gX8_ask_X8_less : GoodIn wsX8_ask (va_wsS RX8 180 yX8_less wsX8_less) := goodIn_app (goodIn_of _ (by decide +kernel)) ggX8_ask_X8_less
theorem dX8_ask_0 : decode cX8_ask 0 = .ok (.iload_n 1, 1) := by decide +kernel
theorem dX8_ask_1 : decode cX8_ask 1 = .ok (.i2l, 1) := by decide +kernel
theorem dX8_ask_2 : decode cX8_ask 2 = .ok (.lconst 0, 1) := by decide +kernel
theorem dX8_ask_3 : decode cX8_ask 3 = .ok (.lconst 1, 1) := by decide +kernel
theorem dX8_ask_4 : decode cX8_ask 4 = .ok (.invokestatic 83, 3) := by decide +kernel
theorem dX8_ask_7 : decode cX8_ask 7 = .ok (.ifCond .ne 6, 3) := by decide +kernel
theorem dX8_ask_10 : decode cX8_ask 10 = .ok (.bipush (-2), 2) := by decide +kernel
theorem dX8_ask_12 : decode cX8_ask 12 = .ok (.ireturn, 1) := by decide +kernel
theorem dX8_ask_13 : decode cX8_ask 13 = .ok (.iconst 0, 1) := by decide +kernel
theorem dX8_ask_14 : decode cX8_ask 14 = .ok (.istore_n 2, 1) := by decide +kernel
theorem dX8_ask_15 : decode cX8_ask 15 = .ok (.aload_n 0, 1) := by decide +kernel
theorem dX8_ask_16 : decode cX8_ask 16 = .ok (.iconst 0, 1) := by decide +kernel
theorem dX8_ask_17 : decode cX8_ask 17 = .ok (.invokevirtual 283, 3) := by decide +kernel
theorem dX8_ask_20 : decode cX8_ask 20 = .ok (.istore_n 3, 1) := by decide +kernel
theorem dX8_ask_21 : decode cX8_ask 21 = .ok (.iconst 1, 1) := by decide +kernel
theorem dX8_ask_22 : decode cX8_ask 22 = .ok (.istore 4, 2) := by decide +kernel
theorem dX8_ask_24 : decode cX8_ask 24 = .ok (.iload 4, 2) := by decide +kernel
theorem dX8_ask_26 : decode cX8_ask 26 = .ok (.bipush 10, 2) := by decide +kernel
theorem dX8_ask_28 : decode cX8_ask 28 = .ok (.if_icmp .ge 37, 3) := by decide +kernel
theorem dX8_ask_31 : decode cX8_ask 31 = .ok (.aload_n 0, 1) := by decide +kernel
theorem dX8_ask_32 : decode cX8_ask 32 = .ok (.iload 4, 2) := by decide +kernel
theorem dX8_ask_34 : decode cX8_ask 34 = .ok (.invokevirtual 283, 3) := by decide +kernel
theorem dX8_ask_37 : decode cX8_ask 37 = .ok (.istore 5, 2) := by decide +kernel
theorem dX8_ask_39 : decode cX8_ask 39 = .ok (.iload 5, 2) := by decide +kernel
theorem dX8_ask_41 : decode cX8_ask 41 = .ok (.iload_n 3, 1) := by decide +kernel
theorem dX8_ask_42 : decode cX8_ask 42 = .ok (.if_icmp .ge 8, 3) := by decide +kernel
theorem dX8_ask_45 : decode cX8_ask 45 = .ok (.iload 4, 2) := by decide +kernel
theorem dX8_ask_47 : decode cX8_ask 47 = .ok (.goto 4, 3) := by decide +kernel
theorem dX8_ask_50 : decode cX8_ask 50 = .ok (.iload_n 2, 1) := by decide +kernel
theorem dX8_ask_51 : decode cX8_ask 51 = .ok (.istore_n 2, 1) := by decide +kernel
theorem dX8_ask_52 : decode cX8_ask 52 = .ok (.iload_n 3, 1) := by decide +kernel
theorem dX8_ask_53 : decode cX8_ask 53 = .ok (.iload 5, 2) := by decide +kernel
theorem dX8_ask_55 : decode cX8_ask 55 = .ok (.invokestatic 180, 3) := by decide +kernel
theorem dX8_ask_58 : decode cX8_ask 58 = .ok (.istore_n 3, 1) := by decide +kernel
theorem dX8_ask_59 : decode cX8_ask 59 = .ok (.iinc 4 1, 3) := by decide +kernel
theorem dX8_ask_62 : decode cX8_ask 62 = .ok (.goto (-38), 3) := by decide +kernel
theorem dX8_ask_65 : decode cX8_ask 65 = .ok (.iload_n 3, 1) := by decide +kernel
theorem dX8_ask_66 : decode cX8_ask 66 = .ok (.ifCond .ne 8, 3) := by decide +kernel
theorem dX8_ask_69 : decode cX8_ask 69 = .ok (.bipush (-6), 2) := by decide +kernel
theorem dX8_ask_71 : decode cX8_ask 71 = .ok (.goto 12, 3) := by decide +kernel
theorem dX8_ask_74 : decode cX8_ask 74 = .ok (.iload_n 1, 1) := by decide +kernel
theorem dX8_ask_75 : decode cX8_ask 75 = .ok (.ifCond .ne 7, 3) := by decide +kernel
theorem dX8_ask_78 : decode cX8_ask 78 = .ok (.iload_n 2, 1) := by decide +kernel
theorem dX8_ask_79 : decode cX8_ask 79 = .ok (.goto 4, 3) := by decide +kernel
theorem dX8_ask_82 : decode cX8_ask 82 = .ok (.iload_n 3, 1) := by decide +kernel
theorem dX8_ask_83 : decode cX8_ask 83 = .ok (.ireturn, 1) := by decide +kernel
set_option maxRecDepth 20000 in
theorem ggX8_leastPull_X8_less : GoodIn wsX8_leastPull wsX8_less := goodIn_r _ [5] (by decide +kernel) (by decide +kernel)
set_option maxRecDepth 20000 in
theorem gX8_leastPull_X8_less : GoodIn wsX8_leastPull (va_wsS RX8 180 yX8_less wsX8_less) := goodIn_app (goodIn_of _ (by decide +kernel)) ggX8_leastPull_X8_less
theorem dX8_leastPull_0 : decode cX8_leastPull 0 = .ok (.bipush (-6), 2) := by decide +kernel
theorem dX8_leastPull_2 : decode cX8_leastPull 2 = .ok (.istore 4, 2) := by decide +kernel
theorem dX8_leastPull_4 : decode cX8_leastPull 4 = .ok (.iload_n 1, 1) := by decide +kernel
theorem dX8_leastPull_5 : decode cX8_leastPull 5 = .ok (.iload_n 2, 1) := by decide +kernel
theorem dX8_leastPull_6 : decode cX8_leastPull 6 = .ok (.invokestatic 180, 3) := by decide +kernel
theorem dX8_leastPull_9 : decode cX8_leastPull 9 = .ok (.istore 5, 2) := by decide +kernel
theorem dX8_leastPull_11 : decode cX8_leastPull 11 = .ok (.iload 5, 2) := by decide +kernel
theorem dX8_leastPull_13 : decode cX8_leastPull 13 = .ok (.ifCond .le 54, 3) := by decide +kernel
theorem dX8_leastPull_16 : decode cX8_leastPull 16 = .ok (.iload 5, 2) := by decide +kernel
theorem dX8_leastPull_18 : decode cX8_leastPull 18 = .ok (.iload_n 3, 1) := by decide +kernel
theorem dX8_leastPull_19 : decode cX8_leastPull 19 = .ok (.if_icmp .eq 25, 3) := by decide +kernel
theorem dX8_leastPull_22 : decode cX8_leastPull 22 = .ok (.aload_n 0, 1) := by decide +kernel
theorem dX8_leastPull_23 : decode cX8_leastPull 23 = .ok (.getfield 67, 3) := by decide +kernel
theorem dX8_leastPull_26 : decode cX8_leastPull 26 = .ok (.bipush 10, 2) := by decide +kernel
theorem dX8_leastPull_28 : decode cX8_leastPull 28 = .ok (.iload_n 1, 1) := by decide +kernel
theorem dX8_leastPull_29 : decode cX8_leastPull 29 = .ok (.iload 5, 2) := by decide +kernel
theorem dX8_leastPull_31 : decode cX8_leastPull 31 = .ok (.isub, 1) := by decide +kernel
theorem dX8_leastPull_32 : decode cX8_leastPull 32 = .ok (.imul, 1) := by decide +kernel
theorem dX8_leastPull_33 : decode cX8_leastPull 33 = .ok (.iload 5, 2) := by decide +kernel
theorem dX8_leastPull_35 : decode cX8_leastPull 35 = .ok (.iadd, 1) := by decide +kernel
theorem dX8_leastPull_36 : decode cX8_leastPull 36 = .ok (.baload, 1) := by decide +kernel
theorem dX8_leastPull_37 : decode cX8_leastPull 37 = .ok (.ifCond .ne 7, 3) := by decide +kernel
theorem dX8_leastPull_40 : decode cX8_leastPull 40 = .ok (.iconst 1, 1) := by decide +kernel
theorem dX8_leastPull_41 : decode cX8_leastPull 41 = .ok (.goto 4, 3) := by decide +kernel
theorem dX8_leastPull_44 : decode cX8_leastPull 44 = .ok (.iconst 0, 1) := by decide +kernel
theorem dX8_leastPull_45 : decode cX8_leastPull 45 = .ok (.istore 6, 2) := by decide +kernel
theorem dX8_leastPull_47 : decode cX8_leastPull 47 = .ok (.iload 6, 2) := by decide +kernel
theorem dX8_leastPull_49 : decode cX8_leastPull 49 = .ok (.ifCond .eq 8, 3) := by decide +kernel
theorem dX8_leastPull_52 : decode cX8_leastPull 52 = .ok (.iload 5, 2) := by decide +kernel
theorem dX8_leastPull_54 : decode cX8_leastPull 54 = .ok (.goto 5, 3) := by decide +kernel
theorem dX8_leastPull_57 : decode cX8_leastPull 57 = .ok (.iload 4, 2) := by decide +kernel
theorem dX8_leastPull_59 : decode cX8_leastPull 59 = .ok (.istore 4, 2) := by decide +kernel
theorem dX8_leastPull_61 : decode cX8_leastPull 61 = .ok (.iinc 5 (-1), 3) := by decide +kernel
theorem dX8_leastPull_64 : decode cX8_leastPull 64 = .ok (.goto (-53), 3) := by decide +kernel
theorem dX8_leastPull_67 : decode cX8_leastPull 67 = .ok (.iload 4, 2) := by decide +kernel
theorem dX8_leastPull_69 : decode cX8_leastPull 69 = .ok (.ireturn, 1) := by decide +kernel
set_option maxRecDepth 20000 in
theorem ggX8_pull_X8_in : GoodIn wsX8_pull wsX8_in := goodIn_r _ [7] (by decide +kernel) (by decide +kernel)
set_option maxRecDepth 20000 in
theorem gX8_pull_X8_in : GoodIn wsX8_pull (va_wsS RX8 83 yX8_in wsX8_in) := goodIn_app (goodIn_of _ (by decide +kernel)) ggX8_pull_X8_in
set_option maxRecDepth 20000 in
theorem ggX8_pull_X8_leastPull : GoodIn wsX8_pull wsX8_leastPull := goodIn_r _ [11, 3, 12, 13, 6, 14, 15, 16, 17, 18, 19, 20, 21, 22, 23, 24, 25, 26, 27, 28, 29, 30, 31, 32, 33, 34, 35, 36, 37, 38, 39, 40, 41, 42, 43, 44, 45, 46, 47, 48, 49, 50, 51] (by decide +kernel) (by decide +kernel)
set_option maxRecDepth 20000 in
theorem gX8_pull_X8_leastPull : GoodIn wsX8_pull (wsV RX8 286 RX8 yX8_leastPull wsX8_leastPull) := goodIn_app (goodIn_of _ (by decide +kernel)) ggX8_pull_X8_leastPull
theorem dX8_pull_0 : decode cX8_pull 0 = .ok (.iload_n 1, 1) := by decide +kernel
theorem dX8_pull_1 : decode cX8_pull 1 = .ok (.i2l, 1) := by decide +kernel
theorem dX8_pull_2 : decode cX8_pull 2 = .ok (.lconst 0, 1) := by decide +kernel
theorem dX8_pull_3 : decode cX8_pull 3 = .ok (.ldc2_w 106, 3) := by decide +kernel
theorem dX8_pull_6 : decode cX8_pull 6 = .ok (.invokestatic 83, 3) := by decide +kernel
theorem dX8_pull_9 : decode cX8_pull 9 = .ok (.ifCond .eq 38, 3) := by decide +kernel
theorem dX8_pull_12 : decode cX8_pull 12 = .ok (.iload_n 2, 1) := by decide +kernel
theorem dX8_pull_13 : decode cX8_pull 13 = .ok (.i2l, 1) := by decide +kernel
theorem dX8_pull_14 : decode cX8_pull 14 = .ok (.lconst 1, 1) := by decide +kernel
theorem dX8_pull_15 : decode cX8_pull 15 = .ok (.ldc2_w 81, 3) := by decide +kernel
theorem dX8_pull_18 : decode cX8_pull 18 = .ok (.invokestatic 83, 3) := by decide +kernel
theorem dX8_pull_21 : decode cX8_pull 21 = .ok (.ifCond .eq 26, 3) := by decide +kernel
theorem dX8_pull_24 : decode cX8_pull 24 = .ok (.iload_n 3, 1) := by decide +kernel
theorem dX8_pull_25 : decode cX8_pull 25 = .ok (.i2l, 1) := by decide +kernel
theorem dX8_pull_26 : decode cX8_pull 26 = .ok (.lconst 0, 1) := by decide +kernel
theorem dX8_pull_27 : decode cX8_pull 27 = .ok (.ldc2_w 81, 3) := by decide +kernel
theorem dX8_pull_30 : decode cX8_pull 30 = .ok (.invokestatic 83, 3) := by decide +kernel
theorem dX8_pull_33 : decode cX8_pull 33 = .ok (.ifCond .eq 14, 3) := by decide +kernel
theorem dX8_pull_36 : decode cX8_pull 36 = .ok (.iload 4, 2) := by decide +kernel
theorem dX8_pull_38 : decode cX8_pull 38 = .ok (.i2l, 1) := by decide +kernel
theorem dX8_pull_39 : decode cX8_pull 39 = .ok (.lconst 0, 1) := by decide +kernel
theorem dX8_pull_40 : decode cX8_pull 40 = .ok (.lconst 1, 1) := by decide +kernel
theorem dX8_pull_41 : decode cX8_pull 41 = .ok (.invokestatic 83, 3) := by decide +kernel
theorem dX8_pull_44 : decode cX8_pull 44 = .ok (.ifCond .ne 6, 3) := by decide +kernel
theorem dX8_pull_47 : decode cX8_pull 47 = .ok (.bipush (-2), 2) := by decide +kernel
theorem dX8_pull_49 : decode cX8_pull 49 = .ok (.ireturn, 1) := by decide +kernel
theorem dX8_pull_50 : decode cX8_pull 50 = .ok (.iconst 0, 1) := by decide +kernel
theorem dX8_pull_51 : decode cX8_pull 51 = .ok (.istore 5, 2) := by decide +kernel
theorem dX8_pull_53 : decode cX8_pull 53 = .ok (.iload 5, 2) := by decide +kernel
theorem dX8_pull_55 : decode cX8_pull 55 = .ok (.bipush 10, 2) := by decide +kernel
theorem dX8_pull_57 : decode cX8_pull 57 = .ok (.iload_n 1, 1) := by decide +kernel
theorem dX8_pull_58 : decode cX8_pull 58 = .ok (.imul, 1) := by decide +kernel
theorem dX8_pull_59 : decode cX8_pull 59 = .ok (.if_icmp .ge 39, 3) := by decide +kernel
theorem dX8_pull_62 : decode cX8_pull 62 = .ok (.aload_n 0, 1) := by decide +kernel
theorem dX8_pull_63 : decode cX8_pull 63 = .ok (.getfield 67, 3) := by decide +kernel
theorem dX8_pull_66 : decode cX8_pull 66 = .ok (.iload 5, 2) := by decide +kernel
theorem dX8_pull_68 : decode cX8_pull 68 = .ok (.aload_n 0, 1) := by decide +kernel
theorem dX8_pull_69 : decode cX8_pull 69 = .ok (.iload 5, 2) := by decide +kernel
theorem dX8_pull_71 : decode cX8_pull 71 = .ok (.bipush 10, 2) := by decide +kernel
theorem dX8_pull_73 : decode cX8_pull 73 = .ok (.idiv, 1) := by decide +kernel
theorem dX8_pull_74 : decode cX8_pull 74 = .ok (.iload_n 2, 1) := by decide +kernel
theorem dX8_pull_75 : decode cX8_pull 75 = .ok (.iload 5, 2) := by decide +kernel
theorem dX8_pull_77 : decode cX8_pull 77 = .ok (.bipush 10, 2) := by decide +kernel
theorem dX8_pull_79 : decode cX8_pull 79 = .ok (.irem, 1) := by decide +kernel
theorem dX8_pull_80 : decode cX8_pull 80 = .ok (.invokevirtual 286, 3) := by decide +kernel
theorem dX8_pull_83 : decode cX8_pull 83 = .ok (.ifCond .lt 7, 3) := by decide +kernel
theorem dX8_pull_86 : decode cX8_pull 86 = .ok (.iconst 1, 1) := by decide +kernel
theorem dX8_pull_87 : decode cX8_pull 87 = .ok (.goto 4, 3) := by decide +kernel
theorem dX8_pull_90 : decode cX8_pull 90 = .ok (.iconst 0, 1) := by decide +kernel
theorem dX8_pull_91 : decode cX8_pull 91 = .ok (.bastore, 1) := by decide +kernel
theorem dX8_pull_92 : decode cX8_pull 92 = .ok (.iinc 5 1, 3) := by decide +kernel
theorem dX8_pull_95 : decode cX8_pull 95 = .ok (.goto (-42), 3) := by decide +kernel
theorem dX8_pull_98 : decode cX8_pull 98 = .ok (.aload_n 0, 1) := by decide +kernel
theorem dX8_pull_99 : decode cX8_pull 99 = .ok (.iload_n 1, 1) := by decide +kernel
theorem dX8_pull_100 : decode cX8_pull 100 = .ok (.iload_n 2, 1) := by decide +kernel
theorem dX8_pull_101 : decode cX8_pull 101 = .ok (.iload_n 3, 1) := by decide +kernel
theorem dX8_pull_102 : decode cX8_pull 102 = .ok (.invokevirtual 286, 3) := by decide +kernel
theorem dX8_pull_105 : decode cX8_pull 105 = .ok (.istore 5, 2) := by decide +kernel
theorem dX8_pull_107 : decode cX8_pull 107 = .ok (.iload 4, 2) := by decide +kernel
theorem dX8_pull_109 : decode cX8_pull 109 = .ok (.iconst 1, 1) := by decide +kernel
theorem dX8_pull_110 : decode cX8_pull 110 = .ok (.if_icmp .ne 8, 3) := by decide +kernel
theorem dX8_pull_113 : decode cX8_pull 113 = .ok (.iload 5, 2) := by decide +kernel
theorem dX8_pull_115 : decode cX8_pull 115 = .ok (.goto 13, 3) := by decide +kernel
theorem dX8_pull_118 : decode cX8_pull 118 = .ok (.iload 5, 2) := by decide +kernel
theorem dX8_pull_120 : decode cX8_pull 120 = .ok (.ifCond .ge 7, 3) := by decide +kernel
theorem dX8_pull_123 : decode cX8_pull 123 = .ok (.iconst 0, 1) := by decide +kernel
theorem dX8_pull_124 : decode cX8_pull 124 = .ok (.goto 4, 3) := by decide +kernel
theorem dX8_pull_127 : decode cX8_pull 127 = .ok (.iconst 1, 1) := by decide +kernel
theorem dX8_pull_128 : decode cX8_pull 128 = .ok (.ireturn, 1) := by decide +kernel
theorem dX8_lowest_0 : decode cX8_lowest 0 = .ok (.lload_n 2, 1) := by decide +kernel
theorem dX8_lowest_1 : decode cX8_lowest 1 = .ok (.lstore 5, 2) := by decide +kernel
theorem dX8_lowest_3 : decode cX8_lowest 3 = .ok (.lload_n 0, 1) := by decide +kernel
theorem dX8_lowest_4 : decode cX8_lowest 4 = .ok (.lstore 7, 2) := by decide +kernel
theorem dX8_lowest_6 : decode cX8_lowest 6 = .ok (.lload 7, 2) := by decide +kernel
theorem dX8_lowest_8 : decode cX8_lowest 8 = .ok (.lconst 0, 1) := by decide +kernel
theorem dX8_lowest_9 : decode cX8_lowest 9 = .ok (.lcmp, 1) := by decide +kernel
theorem dX8_lowest_10 : decode cX8_lowest 10 = .ok (.ifCond .eq 21, 3) := by decide +kernel
theorem dX8_lowest_13 : decode cX8_lowest 13 = .ok (.lload 5, 2) := by decide +kernel
theorem dX8_lowest_15 : decode cX8_lowest 15 = .ok (.lload 7, 2) := by decide +kernel
theorem dX8_lowest_17 : decode cX8_lowest 17 = .ok (.lrem, 1) := by decide +kernel
theorem dX8_lowest_18 : decode cX8_lowest 18 = .ok (.lstore 9, 2) := by decide +kernel
theorem dX8_lowest_20 : decode cX8_lowest 20 = .ok (.lload 7, 2) := by decide +kernel
theorem dX8_lowest_22 : decode cX8_lowest 22 = .ok (.lstore 5, 2) := by decide +kernel
theorem dX8_lowest_24 : decode cX8_lowest 24 = .ok (.lload 9, 2) := by decide +kernel
theorem dX8_lowest_26 : decode cX8_lowest 26 = .ok (.lstore 7, 2) := by decide +kernel
theorem dX8_lowest_28 : decode cX8_lowest 28 = .ok (.goto (-22), 3) := by decide +kernel
theorem dX8_lowest_31 : decode cX8_lowest 31 = .ok (.iload 4, 2) := by decide +kernel
theorem dX8_lowest_33 : decode cX8_lowest 33 = .ok (.ifCond .ne 10, 3) := by decide +kernel
theorem dX8_lowest_36 : decode cX8_lowest 36 = .ok (.lload_n 0, 1) := by decide +kernel
theorem dX8_lowest_37 : decode cX8_lowest 37 = .ok (.lload 5, 2) := by decide +kernel
theorem dX8_lowest_39 : decode cX8_lowest 39 = .ok (.ldiv, 1) := by decide +kernel
theorem dX8_lowest_40 : decode cX8_lowest 40 = .ok (.goto 7, 3) := by decide +kernel
theorem dX8_lowest_43 : decode cX8_lowest 43 = .ok (.lload_n 2, 1) := by decide +kernel
theorem dX8_lowest_44 : decode cX8_lowest 44 = .ok (.lload 5, 2) := by decide +kernel
theorem dX8_lowest_46 : decode cX8_lowest 46 = .ok (.ldiv, 1) := by decide +kernel
theorem dX8_lowest_47 : decode cX8_lowest 47 = .ok (.lreturn, 1) := by decide +kernel
set_option maxRecDepth 20000 in
theorem ggX8_passed_X8_in : GoodIn wsX8_passed wsX8_in := goodIn_r _ [7] (by decide +kernel) (by decide +kernel)
set_option maxRecDepth 20000 in
theorem gX8_passed_X8_in : GoodIn wsX8_passed (va_wsS RX8 83 yX8_in wsX8_in) := goodIn_app (goodIn_of _ (by decide +kernel)) ggX8_passed_X8_in
set_option maxRecDepth 20000 in
theorem ggX8_passed_X8_lowest : GoodIn wsX8_passed wsX8_lowest := goodIn_r _ [10] (by decide +kernel) (by decide +kernel)
set_option maxRecDepth 20000 in
theorem gX8_passed_X8_lowest : GoodIn wsX8_passed (va_wsS RX8 295 yX8_lowest wsX8_lowest) := goodIn_app (goodIn_of _ (by decide +kernel)) ggX8_passed_X8_lowest
theorem dX8_passed_0 : decode cX8_passed 0 = .ok (.iload_n 1, 1) := by decide +kernel
theorem dX8_passed_1 : decode cX8_passed 1 = .ok (.i2l, 1) := by decide +kernel
theorem dX8_passed_2 : decode cX8_passed 2 = .ok (.lconst 0, 1) := by decide +kernel
theorem dX8_passed_3 : decode cX8_passed 3 = .ok (.ldc2_w 289, 3) := by decide +kernel
theorem dX8_passed_6 : decode cX8_passed 6 = .ok (.invokestatic 83, 3) := by decide +kernel
theorem dX8_passed_9 : decode cX8_passed 9 = .ok (.ifCond .eq 36, 3) := by decide +kernel
theorem dX8_passed_12 : decode cX8_passed 12 = .ok (.iload_n 2, 1) := by decide +kernel
theorem dX8_passed_13 : decode cX8_passed 13 = .ok (.i2l, 1) := by decide +kernel
theorem dX8_passed_14 : decode cX8_passed 14 = .ok (.lconst 0, 1) := by decide +kernel
theorem dX8_passed_15 : decode cX8_passed 15 = .ok (.ldc2_w 291, 3) := by decide +kernel
theorem dX8_passed_18 : decode cX8_passed 18 = .ok (.invokestatic 83, 3) := by decide +kernel
theorem dX8_passed_21 : decode cX8_passed 21 = .ok (.ifCond .eq 24, 3) := by decide +kernel
theorem dX8_passed_24 : decode cX8_passed 24 = .ok (.iload_n 3, 1) := by decide +kernel
theorem dX8_passed_25 : decode cX8_passed 25 = .ok (.i2l, 1) := by decide +kernel
theorem dX8_passed_26 : decode cX8_passed 26 = .ok (.lconst 0, 1) := by decide +kernel
theorem dX8_passed_27 : decode cX8_passed 27 = .ok (.lconst 1, 1) := by decide +kernel
theorem dX8_passed_28 : decode cX8_passed 28 = .ok (.invokestatic 83, 3) := by decide +kernel
theorem dX8_passed_31 : decode cX8_passed 31 = .ok (.ifCond .eq 14, 3) := by decide +kernel
theorem dX8_passed_34 : decode cX8_passed 34 = .ok (.iload 4, 2) := by decide +kernel
theorem dX8_passed_36 : decode cX8_passed 36 = .ok (.i2l, 1) := by decide +kernel
theorem dX8_passed_37 : decode cX8_passed 37 = .ok (.lconst 0, 1) := by decide +kernel
theorem dX8_passed_38 : decode cX8_passed 38 = .ok (.lconst 1, 1) := by decide +kernel
theorem dX8_passed_39 : decode cX8_passed 39 = .ok (.invokestatic 83, 3) := by decide +kernel
theorem dX8_passed_42 : decode cX8_passed 42 = .ok (.ifCond .ne 7, 3) := by decide +kernel
theorem dX8_passed_45 : decode cX8_passed 45 = .ok (.ldc2_w 293, 3) := by decide +kernel
theorem dX8_passed_48 : decode cX8_passed 48 = .ok (.lreturn, 1) := by decide +kernel
theorem dX8_passed_49 : decode cX8_passed 49 = .ok (.iload_n 3, 1) := by decide +kernel
theorem dX8_passed_50 : decode cX8_passed 50 = .ok (.iconst 1, 1) := by decide +kernel
theorem dX8_passed_51 : decode cX8_passed 51 = .ok (.if_icmp .ne 16, 3) := by decide +kernel
theorem dX8_passed_54 : decode cX8_passed 54 = .ok (.iload_n 1, 1) := by decide +kernel
theorem dX8_passed_55 : decode cX8_passed 55 = .ok (.iload_n 2, 1) := by decide +kernel
theorem dX8_passed_56 : decode cX8_passed 56 = .ok (.imul, 1) := by decide +kernel
theorem dX8_passed_57 : decode cX8_passed 57 = .ok (.i2l, 1) := by decide +kernel
theorem dX8_passed_58 : decode cX8_passed 58 = .ok (.ldc2_w 291, 3) := by decide +kernel
theorem dX8_passed_61 : decode cX8_passed 61 = .ok (.iload 4, 2) := by decide +kernel
theorem dX8_passed_63 : decode cX8_passed 63 = .ok (.invokestatic 295, 3) := by decide +kernel
theorem dX8_passed_66 : decode cX8_passed 66 = .ok (.lreturn, 1) := by decide +kernel
theorem dX8_passed_67 : decode cX8_passed 67 = .ok (.lconst 1, 1) := by decide +kernel
theorem dX8_passed_68 : decode cX8_passed 68 = .ok (.lstore 5, 2) := by decide +kernel
theorem dX8_passed_70 : decode cX8_passed 70 = .ok (.lconst 0, 1) := by decide +kernel
theorem dX8_passed_71 : decode cX8_passed 71 = .ok (.lstore 7, 2) := by decide +kernel
theorem dX8_passed_73 : decode cX8_passed 73 = .ok (.iconst 0, 1) := by decide +kernel
theorem dX8_passed_74 : decode cX8_passed 74 = .ok (.istore 9, 2) := by decide +kernel
theorem dX8_passed_76 : decode cX8_passed 76 = .ok (.iload 9, 2) := by decide +kernel
theorem dX8_passed_78 : decode cX8_passed 78 = .ok (.iload_n 1, 1) := by decide +kernel
theorem dX8_passed_79 : decode cX8_passed 79 = .ok (.if_icmp .ge 45, 3) := by decide +kernel
theorem dX8_passed_82 : decode cX8_passed 82 = .ok (.lload 5, 2) := by decide +kernel
theorem dX8_passed_84 : decode cX8_passed 84 = .ok (.bipush 10, 2) := by decide +kernel
theorem dX8_passed_86 : decode cX8_passed 86 = .ok (.iload_n 2, 1) := by decide +kernel
theorem dX8_passed_87 : decode cX8_passed 87 = .ok (.isub, 1) := by decide +kernel
theorem dX8_passed_88 : decode cX8_passed 88 = .ok (.i2l, 1) := by decide +kernel
theorem dX8_passed_89 : decode cX8_passed 89 = .ok (.lmul, 1) := by decide +kernel
theorem dX8_passed_90 : decode cX8_passed 90 = .ok (.lload 7, 2) := by decide +kernel
theorem dX8_passed_92 : decode cX8_passed 92 = .ok (.iload_n 2, 1) := by decide +kernel
theorem dX8_passed_93 : decode cX8_passed 93 = .ok (.i2l, 1) := by decide +kernel
theorem dX8_passed_94 : decode cX8_passed 94 = .ok (.lmul, 1) := by decide +kernel
theorem dX8_passed_95 : decode cX8_passed 95 = .ok (.ladd, 1) := by decide +kernel
theorem dX8_passed_96 : decode cX8_passed 96 = .ok (.lstore 10, 2) := by decide +kernel
theorem dX8_passed_98 : decode cX8_passed 98 = .ok (.lload 5, 2) := by decide +kernel
theorem dX8_passed_100 : decode cX8_passed 100 = .ok (.iload_n 2, 1) := by decide +kernel
theorem dX8_passed_101 : decode cX8_passed 101 = .ok (.i2l, 1) := by decide +kernel
theorem dX8_passed_102 : decode cX8_passed 102 = .ok (.lmul, 1) := by decide +kernel
theorem dX8_passed_103 : decode cX8_passed 103 = .ok (.lload 7, 2) := by decide +kernel
theorem dX8_passed_105 : decode cX8_passed 105 = .ok (.bipush 10, 2) := by decide +kernel
theorem dX8_passed_107 : decode cX8_passed 107 = .ok (.iload_n 2, 1) := by decide +kernel
theorem dX8_passed_108 : decode cX8_passed 108 = .ok (.isub, 1) := by decide +kernel
theorem dX8_passed_109 : decode cX8_passed 109 = .ok (.i2l, 1) := by decide +kernel
theorem dX8_passed_110 : decode cX8_passed 110 = .ok (.lmul, 1) := by decide +kernel
theorem dX8_passed_111 : decode cX8_passed 111 = .ok (.ladd, 1) := by decide +kernel
theorem dX8_passed_112 : decode cX8_passed 112 = .ok (.lstore 7, 2) := by decide +kernel
theorem dX8_passed_114 : decode cX8_passed 114 = .ok (.lload 10, 2) := by decide +kernel
theorem dX8_passed_116 : decode cX8_passed 116 = .ok (.lstore 5, 2) := by decide +kernel
theorem dX8_passed_118 : decode cX8_passed 118 = .ok (.iinc 9 1, 3) := by decide +kernel
theorem dX8_passed_121 : decode cX8_passed 121 = .ok (.goto (-45), 3) := by decide +kernel
theorem dX8_passed_124 : decode cX8_passed 124 = .ok (.lload 5, 2) := by decide +kernel
theorem dX8_passed_126 : decode cX8_passed 126 = .ok (.lload 5, 2) := by decide +kernel
theorem dX8_passed_128 : decode cX8_passed 128 = .ok (.lload 7, 2) := by decide +kernel
theorem dX8_passed_130 : decode cX8_passed 130 = .ok (.ladd, 1) := by decide +kernel
theorem dX8_passed_131 : decode cX8_passed 131 = .ok (.iload 4, 2) := by decide +kernel
theorem dX8_passed_133 : decode cX8_passed 133 = .ok (.invokestatic 295, 3) := by decide +kernel
theorem dX8_passed_136 : decode cX8_passed 136 = .ok (.lreturn, 1) := by decide +kernel
theorem dX8_actBy_0 : decode cX8_actBy 0 = .ok (.iload_n 0, 1) := by decide +kernel
theorem dX8_actBy_1 : decode cX8_actBy 1 = .ok (.tableswitch 55 0 6 #[43, 43, 45, 47, 49, 51, 53], 43) := by decide +kernel
theorem dX8_actBy_44 : decode cX8_actBy 44 = .ok (.iconst 0, 1) := by decide +kernel
theorem dX8_actBy_45 : decode cX8_actBy 45 = .ok (.ireturn, 1) := by decide +kernel
theorem dX8_actBy_46 : decode cX8_actBy 46 = .ok (.iconst 1, 1) := by decide +kernel
theorem dX8_actBy_47 : decode cX8_actBy 47 = .ok (.ireturn, 1) := by decide +kernel
theorem dX8_actBy_48 : decode cX8_actBy 48 = .ok (.iconst 2, 1) := by decide +kernel
theorem dX8_actBy_49 : decode cX8_actBy 49 = .ok (.ireturn, 1) := by decide +kernel
theorem dX8_actBy_50 : decode cX8_actBy 50 = .ok (.iconst 3, 1) := by decide +kernel
theorem dX8_actBy_51 : decode cX8_actBy 51 = .ok (.ireturn, 1) := by decide +kernel
theorem dX8_actBy_52 : decode cX8_actBy 52 = .ok (.iconst 4, 1) := by decide +kernel
theorem dX8_actBy_53 : decode cX8_actBy 53 = .ok (.ireturn, 1) := by decide +kernel
theorem dX8_actBy_54 : decode cX8_actBy 54 = .ok (.iconst 5, 1) := by decide +kernel
theorem dX8_actBy_55 : decode cX8_actBy 55 = .ok (.ireturn, 1) := by decide +kernel
theorem dX8_actBy_56 : decode cX8_actBy 56 = .ok (.bipush 6, 2) := by decide +kernel
theorem dX8_actBy_58 : decode cX8_actBy 58 = .ok (.ireturn, 1) := by decide +kernel
set_option maxRecDepth 20000 in
theorem ggX8_year_X8_in : GoodIn wsX8_year wsX8_in := goodIn_r _ [13] (by decide +kernel) (by decide +kernel)
set_option maxRecDepth 20000 in
theorem gX8_year_X8_in : GoodIn wsX8_year (va_wsS RX8 83 yX8_in wsX8_in) := goodIn_app (goodIn_of _ (by decide +kernel)) ggX8_year_X8_in
set_option maxRecDepth 20000 in
theorem ggX8_year_X8_keepNow : GoodIn wsX8_year wsX8_keepNow := goodIn_r _ [17, 18, 8, 19, 20, 21, 9, 22, 94, 95, 96, 97, 98, 99, 100, 101, 102, 103, 104, 105, 106, 107, 108, 109, 110, 111, 112, 113, 114, 115, 116, 117, 118, 119, 120, 121, 122, 123, 124, 125, 126, 127, 128, 129, 130] (by decide +kernel) (by decide +kernel)
set_option maxRecDepth 20000 in
theorem gX8_year_X8_keepNow : GoodIn wsX8_year (wsV RX8 222 RX8 yX8_keepNow wsX8_keepNow) := goodIn_app (goodIn_of _ (by decide +kernel)) ggX8_year_X8_keepNow
set_option maxRecDepth 20000 in
theorem ggX8_year_X8_actBy : GoodIn wsX8_year wsX8_actBy := goodIn_r _ [25] (by decide +kernel) (by decide +kernel)
set_option maxRecDepth 20000 in
theorem gX8_year_X8_actBy : GoodIn wsX8_year (va_wsS RX8 305 yX8_actBy wsX8_actBy) := goodIn_app (goodIn_of _ (by decide +kernel)) ggX8_year_X8_actBy
set_option maxRecDepth 20000 in
theorem ggX8_year_X8_whyNot : GoodIn wsX8_year wsX8_whyNot := goodIn_r _ [29, 22, 30, 31, 32, 12, 33, 8, 34, 21, 35, 10, 11, 13, 36, 37, 38, 39, 40, 41, 42, 43, 44, 20, 45, 46, 47, 48, 49, 50, 51, 52, 53, 54, 9, 55, 56, 57, 58, 59, 60, 61, 62, 94, 95, 96, 97, 98, 99, 100, 101, 102, 103, 104, 105, 106, 107, 108, 109, 110, 111, 112, 113, 114, 115, 116, 117, 118, 119, 120, 121, 122, 123, 124, 125, 126, 127, 128, 129, 130] (by decide +kernel) (by decide +kernel)
set_option maxRecDepth 20000 in
theorem gX8_year_X8_whyNot : GoodIn wsX8_year (wsV RX8 214 RX8 yX8_whyNot wsX8_whyNot) := goodIn_app (goodIn_of _ (by decide +kernel)) ggX8_year_X8_whyNot
set_option maxRecDepth 20000 in
theorem ggX8_year_X8_happen : GoodIn wsX8_year wsX8_happen := goodIn_r _ [66, 21, 20, 9, 67, 68, 69, 12, 70, 35, 71, 4, 8, 40, 36, 37, 38, 39, 41, 42, 43, 44, 45, 46, 47, 72, 73, 74, 75, 76, 77, 78, 59, 60, 61, 62, 79, 80, 81, 82, 19, 83, 84, 85, 86, 87, 88, 89, 22, 94, 95, 96, 97, 98, 99, 100, 101, 102, 103, 104, 105, 106, 107, 108, 109, 110, 111, 112, 113, 114, 115, 116, 117, 118, 119, 120, 121, 122, 123, 124, 125, 126, 127, 128, 129, 130] (by decide +kernel) (by decide +kernel)
set_option maxRecDepth 20000 in
theorem gX8_year_X8_happen : GoodIn wsX8_year (wsV RX8 195 RX8 yX8_happen wsX8_happen) := goodIn_app (goodIn_of _ (by decide +kernel)) ggX8_year_X8_happen
set_option maxRecDepth 20000 in
theorem ggX8_year_X8_back : GoodIn wsX8_year wsX8_back := goodIn_r _ [93, 8, 18, 19, 20, 21, 9, 22, 94, 95, 96, 97, 98, 99, 100, 101, 102, 103, 104, 105, 106, 107, 108, 109, 110, 111, 112, 113, 114, 115, 116, 117, 118, 119, 120, 121, 122, 123, 124, 125, 126, 127, 128, 129, 130] (by decide +kernel) (by decide +kernel)
set_option maxRecDepth 20000 in
theorem gX8_year_X8_back : GoodIn wsX8_year (wsV RX8 237 RX8 yX8_back wsX8_back) := goodIn_app (goodIn_of _ (by decide +kernel)) ggX8_year_X8_back
theorem dX8_year_0 : decode cX8_year 0 = .ok (.iload_n 1, 1) := by decide +kernel
theorem dX8_year_1 : decode cX8_year 1 = .ok (.i2l, 1) := by decide +kernel
theorem dX8_year_2 : decode cX8_year 2 = .ok (.lconst 0, 1) := by decide +kernel
theorem dX8_year_3 : decode cX8_year 3 = .ok (.ldc2_w 299, 3) := by decide +kernel
theorem dX8_year_6 : decode cX8_year 6 = .ok (.invokestatic 83, 3) := by decide +kernel
theorem dX8_year_9 : decode cX8_year 9 = .ok (.ifCond .eq 27, 3) := by decide +kernel
theorem dX8_year_12 : decode cX8_year 12 = .ok (.iload_n 2, 1) := by decide +kernel
theorem dX8_year_13 : decode cX8_year 13 = .ok (.i2l, 1) := by decide +kernel
theorem dX8_year_14 : decode cX8_year 14 = .ok (.lconst 1, 1) := by decide +kernel
theorem dX8_year_15 : decode cX8_year 15 = .ok (.ldc2_w 106, 3) := by decide +kernel
theorem dX8_year_18 : decode cX8_year 18 = .ok (.invokestatic 83, 3) := by decide +kernel
theorem dX8_year_21 : decode cX8_year 21 = .ok (.ifCond .eq 15, 3) := by decide +kernel
theorem dX8_year_24 : decode cX8_year 24 = .ok (.iload_n 3, 1) := by decide +kernel
theorem dX8_year_25 : decode cX8_year 25 = .ok (.i2l, 1) := by decide +kernel
theorem dX8_year_26 : decode cX8_year 26 = .ok (.lconst 0, 1) := by decide +kernel
theorem dX8_year_27 : decode cX8_year 27 = .ok (.ldc2_w 232, 3) := by decide +kernel
theorem dX8_year_30 : decode cX8_year 30 = .ok (.invokestatic 83, 3) := by decide +kernel
theorem dX8_year_33 : decode cX8_year 33 = .ok (.ifCond .ne 6, 3) := by decide +kernel
theorem dX8_year_36 : decode cX8_year 36 = .ok (.bipush (-2), 2) := by decide +kernel
theorem dX8_year_38 : decode cX8_year 38 = .ok (.ireturn, 1) := by decide +kernel
theorem dX8_year_39 : decode cX8_year 39 = .ok (.aload_n 0, 1) := by decide +kernel
theorem dX8_year_40 : decode cX8_year 40 = .ok (.invokevirtual 222, 3) := by decide +kernel
theorem dX8_year_43 : decode cX8_year 43 = .ok (.aload_n 0, 1) := by decide +kernel
theorem dX8_year_44 : decode cX8_year 44 = .ok (.iconst 0, 1) := by decide +kernel
theorem dX8_year_45 : decode cX8_year 45 = .ok (.putfield 174, 3) := by decide +kernel
theorem dX8_year_48 : decode cX8_year 48 = .ok (.iload_n 1, 1) := by decide +kernel
theorem dX8_year_49 : decode cX8_year 49 = .ok (.istore 4, 2) := by decide +kernel
theorem dX8_year_51 : decode cX8_year 51 = .ok (.iconst 0, 1) := by decide +kernel
theorem dX8_year_52 : decode cX8_year 52 = .ok (.istore 5, 2) := by decide +kernel
theorem dX8_year_54 : decode cX8_year 54 = .ok (.iload 5, 2) := by decide +kernel
theorem dX8_year_56 : decode cX8_year 56 = .ok (.iload_n 2, 1) := by decide +kernel
theorem dX8_year_57 : decode cX8_year 57 = .ok (.if_icmp .ge 81, 3) := by decide +kernel
theorem dX8_year_60 : decode cX8_year 60 = .ok (.ldc2_w 301, 3) := by decide +kernel
theorem dX8_year_63 : decode cX8_year 63 = .ok (.iload 4, 2) := by decide +kernel
theorem dX8_year_65 : decode cX8_year 65 = .ok (.i2l, 1) := by decide +kernel
theorem dX8_year_66 : decode cX8_year 66 = .ok (.lmul, 1) := by decide +kernel
theorem dX8_year_67 : decode cX8_year 67 = .ok (.ldc2_w 120, 3) := by decide +kernel
theorem dX8_year_70 : decode cX8_year 70 = .ok (.ladd, 1) := by decide +kernel
theorem dX8_year_71 : decode cX8_year 71 = .ok (.ldc2_w 303, 3) := by decide +kernel
theorem dX8_year_74 : decode cX8_year 74 = .ok (.lrem, 1) := by decide +kernel
theorem dX8_year_75 : decode cX8_year 75 = .ok (.l2i, 1) := by decide +kernel
theorem dX8_year_76 : decode cX8_year 76 = .ok (.istore 4, 2) := by decide +kernel
theorem dX8_year_78 : decode cX8_year 78 = .ok (.iload 4, 2) := by decide +kernel
theorem dX8_year_80 : decode cX8_year 80 = .ok (.bipush 10, 2) := by decide +kernel
theorem dX8_year_82 : decode cX8_year 82 = .ok (.idiv, 1) := by decide +kernel
theorem dX8_year_83 : decode cX8_year 83 = .ok (.bipush 8, 2) := by decide +kernel
theorem dX8_year_85 : decode cX8_year 85 = .ok (.irem, 1) := by decide +kernel
theorem dX8_year_86 : decode cX8_year 86 = .ok (.invokestatic 305, 3) := by decide +kernel
theorem dX8_year_89 : decode cX8_year 89 = .ok (.istore 6, 2) := by decide +kernel
theorem dX8_year_91 : decode cX8_year 91 = .ok (.iconst 1, 1) := by decide +kernel
theorem dX8_year_92 : decode cX8_year 92 = .ok (.iload 4, 2) := by decide +kernel
theorem dX8_year_94 : decode cX8_year 94 = .ok (.bipush 80, 2) := by decide +kernel
theorem dX8_year_96 : decode cX8_year 96 = .ok (.idiv, 1) := by decide +kernel
theorem dX8_year_97 : decode cX8_year 97 = .ok (.bipush 9, 2) := by decide +kernel
theorem dX8_year_99 : decode cX8_year 99 = .ok (.irem, 1) := by decide +kernel
theorem dX8_year_100 : decode cX8_year 100 = .ok (.iadd, 1) := by decide +kernel
theorem dX8_year_101 : decode cX8_year 101 = .ok (.istore 7, 2) := by decide +kernel
theorem dX8_year_103 : decode cX8_year 103 = .ok (.aload_n 0, 1) := by decide +kernel
theorem dX8_year_104 : decode cX8_year 104 = .ok (.iload 6, 2) := by decide +kernel
theorem dX8_year_106 : decode cX8_year 106 = .ok (.iload 4, 2) := by decide +kernel
theorem dX8_year_108 : decode cX8_year 108 = .ok (.bipush 10, 2) := by decide +kernel
theorem dX8_year_110 : decode cX8_year 110 = .ok (.irem, 1) := by decide +kernel
theorem dX8_year_111 : decode cX8_year 111 = .ok (.iload 7, 2) := by decide +kernel
theorem dX8_year_113 : decode cX8_year 113 = .ok (.invokevirtual 214, 3) := by decide +kernel
theorem dX8_year_116 : decode cX8_year 116 = .ok (.ifCond .ne 16, 3) := by decide +kernel
theorem dX8_year_119 : decode cX8_year 119 = .ok (.aload_n 0, 1) := by decide +kernel
theorem dX8_year_120 : decode cX8_year 120 = .ok (.iload 6, 2) := by decide +kernel
theorem dX8_year_122 : decode cX8_year 122 = .ok (.iload 4, 2) := by decide +kernel
theorem dX8_year_124 : decode cX8_year 124 = .ok (.bipush 10, 2) := by decide +kernel
theorem dX8_year_126 : decode cX8_year 126 = .ok (.irem, 1) := by decide +kernel
theorem dX8_year_127 : decode cX8_year 127 = .ok (.iload 7, 2) := by decide +kernel
theorem dX8_year_129 : decode cX8_year 129 = .ok (.invokevirtual 195, 3) := by decide +kernel
theorem dX8_year_132 : decode cX8_year 132 = .ok (.iinc 5 1, 3) := by decide +kernel
theorem dX8_year_135 : decode cX8_year 135 = .ok (.goto (-81), 3) := by decide +kernel
theorem dX8_year_138 : decode cX8_year 138 = .ok (.aload_n 0, 1) := by decide +kernel
theorem dX8_year_139 : decode cX8_year 139 = .ok (.iload_n 3, 1) := by decide +kernel
theorem dX8_year_140 : decode cX8_year 140 = .ok (.ifCond .ne 12, 3) := by decide +kernel
theorem dX8_year_143 : decode cX8_year 143 = .ok (.aload_n 0, 1) := by decide +kernel
theorem dX8_year_144 : decode cX8_year 144 = .ok (.getfield 7, 3) := by decide +kernel
theorem dX8_year_147 : decode cX8_year 147 = .ok (.iconst 0, 1) := by decide +kernel
theorem dX8_year_148 : decode cX8_year 148 = .ok (.iaload, 1) := by decide +kernel
theorem dX8_year_149 : decode cX8_year 149 = .ok (.goto 19, 3) := by decide +kernel
theorem dX8_year_152 : decode cX8_year 152 = .ok (.iload_n 3, 1) := by decide +kernel
theorem dX8_year_153 : decode cX8_year 153 = .ok (.iconst 1, 1) := by decide +kernel
theorem dX8_year_154 : decode cX8_year 154 = .ok (.if_icmp .ne 10, 3) := by decide +kernel
theorem dX8_year_157 : decode cX8_year 157 = .ok (.aload_n 0, 1) := by decide +kernel
theorem dX8_year_158 : decode cX8_year 158 = .ok (.getfield 174, 3) := by decide +kernel
theorem dX8_year_161 : decode cX8_year 161 = .ok (.goto 7, 3) := by decide +kernel
theorem dX8_year_164 : decode cX8_year 164 = .ok (.aload_n 0, 1) := by decide +kernel
theorem dX8_year_165 : decode cX8_year 165 = .ok (.getfield 77, 3) := by decide +kernel
theorem dX8_year_168 : decode cX8_year 168 = .ok (.invokevirtual 237, 3) := by decide +kernel
theorem dX8_year_171 : decode cX8_year 171 = .ok (.ireturn, 1) := by decide +kernel
theorem dX8_pass_0 : decode cX8_pass 0 = .ok (.aload_n 0, 1) := by decide +kernel
theorem dX8_pass_1 : decode cX8_pass 1 = .ok (.getfield 308, 3) := by decide +kernel
theorem dX8_pass_4 : decode cX8_pass 4 = .ok (.ifCond .eq 7, 3) := by decide +kernel
theorem dX8_pass_7 : decode cX8_pass 7 = .ok (.iload_n 1, 1) := by decide +kernel
theorem dX8_pass_8 : decode cX8_pass 8 = .ok (.goto 12, 3) := by decide +kernel
theorem dX8_pass_11 : decode cX8_pass 11 = .ok (.aload_n 0, 1) := by decide +kernel
theorem dX8_pass_12 : decode cX8_pass 12 = .ok (.getfield 71, 3) := by decide +kernel
theorem dX8_pass_15 : decode cX8_pass 15 = .ok (.aload_n 0, 1) := by decide +kernel
theorem dX8_pass_16 : decode cX8_pass 16 = .ok (.getfield 312, 3) := by decide +kernel
theorem dX8_pass_19 : decode cX8_pass 19 = .ok (.iaload, 1) := by decide +kernel
theorem dX8_pass_20 : decode cX8_pass 20 = .ok (.istore_n 2, 1) := by decide +kernel
theorem dX8_pass_21 : decode cX8_pass 21 = .ok (.aload_n 0, 1) := by decide +kernel
theorem dX8_pass_22 : decode cX8_pass 22 = .ok (.getfield 71, 3) := by decide +kernel
theorem dX8_pass_25 : decode cX8_pass 25 = .ok (.aload_n 0, 1) := by decide +kernel
theorem dX8_pass_26 : decode cX8_pass 26 = .ok (.getfield 312, 3) := by decide +kernel
theorem dX8_pass_29 : decode cX8_pass 29 = .ok (.iload_n 2, 1) := by decide +kernel
theorem dX8_pass_30 : decode cX8_pass 30 = .ok (.iastore, 1) := by decide +kernel
theorem dX8_pass_31 : decode cX8_pass 31 = .ok (.aload_n 0, 1) := by decide +kernel
theorem dX8_pass_32 : decode cX8_pass 32 = .ok (.dup, 1) := by decide +kernel
theorem dX8_pass_33 : decode cX8_pass 33 = .ok (.getfield 312, 3) := by decide +kernel
theorem dX8_pass_36 : decode cX8_pass 36 = .ok (.iconst 1, 1) := by decide +kernel
theorem dX8_pass_37 : decode cX8_pass 37 = .ok (.iadd, 1) := by decide +kernel
theorem dX8_pass_38 : decode cX8_pass 38 = .ok (.putfield 312, 3) := by decide +kernel
theorem dX8_pass_41 : decode cX8_pass 41 = .ok (.iload_n 2, 1) := by decide +kernel
theorem dX8_pass_42 : decode cX8_pass 42 = .ok (.ireturn, 1) := by decide +kernel
set_option maxRecDepth 20000 in
theorem ggX8_passRow_X8_pass : GoodIn wsX8_passRow wsX8_pass := goodIn_r _ [5, 6, 7, 8, 9, 10, 11, 12, 13, 14, 15, 16, 17, 18, 19, 20, 21, 22, 23, 24, 25, 26, 27, 28, 29, 30, 31, 32, 33, 34, 35, 36, 37, 38, 39, 40, 41, 42, 43, 44, 45] (by decide +kernel) (by decide +kernel)
set_option maxRecDepth 20000 in
theorem gX8_passRow_X8_pass : GoodIn wsX8_passRow (wsV RX8 315 RX8 yX8_pass wsX8_pass) := goodIn_app (goodIn_of _ (by decide +kernel)) ggX8_passRow_X8_pass
theorem dX8_passRow_0 : decode cX8_passRow 0 = .ok (.iconst 0, 1) := by decide +kernel
theorem dX8_passRow_1 : decode cX8_passRow 1 = .ok (.istore_n 3, 1) := by decide +kernel
theorem dX8_passRow_2 : decode cX8_passRow 2 = .ok (.iload_n 3, 1) := by decide +kernel
theorem dX8_passRow_3 : decode cX8_passRow 3 = .ok (.iload_n 2, 1) := by decide +kernel
theorem dX8_passRow_4 : decode cX8_passRow 4 = .ok (.if_icmp .ge 19, 3) := by decide +kernel
theorem dX8_passRow_7 : decode cX8_passRow 7 = .ok (.aload_n 1, 1) := by decide +kernel
theorem dX8_passRow_8 : decode cX8_passRow 8 = .ok (.iload_n 3, 1) := by decide +kernel
theorem dX8_passRow_9 : decode cX8_passRow 9 = .ok (.aload_n 0, 1) := by decide +kernel
theorem dX8_passRow_10 : decode cX8_passRow 10 = .ok (.aload_n 1, 1) := by decide +kernel
theorem dX8_passRow_11 : decode cX8_passRow 11 = .ok (.iload_n 3, 1) := by decide +kernel
theorem dX8_passRow_12 : decode cX8_passRow 12 = .ok (.iaload, 1) := by decide +kernel
theorem dX8_passRow_13 : decode cX8_passRow 13 = .ok (.invokevirtual 315, 3) := by decide +kernel
theorem dX8_passRow_16 : decode cX8_passRow 16 = .ok (.iastore, 1) := by decide +kernel
theorem dX8_passRow_17 : decode cX8_passRow 17 = .ok (.iinc 3 1, 3) := by decide +kernel
theorem dX8_passRow_20 : decode cX8_passRow 20 = .ok (.goto (-18), 3) := by decide +kernel
theorem dX8_passRow_23 : decode cX8_passRow 23 = .ok (.return_, 1) := by decide +kernel
set_option maxRecDepth 20000 in
theorem ggX8_passAll_X8_pass : GoodIn wsX8_passAll wsX8_pass := goodIn_r _ [14, 15, 16, 17, 22, 23, 24, 25, 26, 27, 28, 29, 30, 31, 32, 33, 34, 35, 36, 37, 38, 39, 40, 41, 42, 43, 44, 45, 46, 47, 48, 49, 50, 51, 52, 53, 54, 55, 56, 57, 58] (by decide +kernel) (by decide +kernel)
set_option maxRecDepth 20000 in
theorem gX8_passAll_X8_pass : GoodIn wsX8_passAll (wsV RX8 315 RX8 yX8_pass wsX8_pass) := goodIn_app (goodIn_of _ (by decide +kernel)) ggX8_passAll_X8_pass
set_option maxRecDepth 20000 in
theorem ggX8_passAll_X8_passRow : GoodIn wsX8_passAll wsX8_passRow := goodIn_r _ [21, 10, 11, 12, 13, 14, 15, 16, 17, 22, 23, 24, 25, 26, 27, 28, 29, 30, 31, 32, 33, 34, 35, 36, 37, 38, 39, 40, 41, 42, 43, 44, 45, 46, 47, 48, 49, 50, 51, 52, 53, 54, 55, 56, 57, 58] (by decide +kernel) (by decide +kernel)
set_option maxRecDepth 20000 in
theorem gX8_passAll_X8_passRow : GoodIn wsX8_passAll (wsV RX8 318 RX8 yX8_passRow wsX8_passRow) := goodIn_app (goodIn_of _ (by decide +kernel)) ggX8_passAll_X8_passRow
theorem dX8_passAll_0 : decode cX8_passAll 0 = .ok (.aload_n 0, 1) := by decide +kernel
theorem dX8_passAll_1 : decode cX8_passAll 1 = .ok (.aload_n 0, 1) := by decide +kernel
theorem dX8_passAll_2 : decode cX8_passAll 2 = .ok (.aload_n 0, 1) := by decide +kernel
theorem dX8_passAll_3 : decode cX8_passAll 3 = .ok (.getfield 101, 3) := by decide +kernel
theorem dX8_passAll_6 : decode cX8_passAll 6 = .ok (.invokevirtual 315, 3) := by decide +kernel
theorem dX8_passAll_9 : decode cX8_passAll 9 = .ok (.putfield 101, 3) := by decide +kernel
theorem dX8_passAll_12 : decode cX8_passAll 12 = .ok (.aload_n 0, 1) := by decide +kernel
theorem dX8_passAll_13 : decode cX8_passAll 13 = .ok (.aload_n 0, 1) := by decide +kernel
theorem dX8_passAll_14 : decode cX8_passAll 14 = .ok (.aload_n 0, 1) := by decide +kernel
theorem dX8_passAll_15 : decode cX8_passAll 15 = .ok (.getfield 77, 3) := by decide +kernel
theorem dX8_passAll_18 : decode cX8_passAll 18 = .ok (.invokevirtual 315, 3) := by decide +kernel
theorem dX8_passAll_21 : decode cX8_passAll 21 = .ok (.putfield 77, 3) := by decide +kernel
theorem dX8_passAll_24 : decode cX8_passAll 24 = .ok (.aload_n 0, 1) := by decide +kernel
theorem dX8_passAll_25 : decode cX8_passAll 25 = .ok (.aload_n 0, 1) := by decide +kernel
theorem dX8_passAll_26 : decode cX8_passAll 26 = .ok (.aload_n 0, 1) := by decide +kernel
theorem dX8_passAll_27 : decode cX8_passAll 27 = .ok (.getfield 168, 3) := by decide +kernel
theorem dX8_passAll_30 : decode cX8_passAll 30 = .ok (.invokevirtual 315, 3) := by decide +kernel
theorem dX8_passAll_33 : decode cX8_passAll 33 = .ok (.putfield 168, 3) := by decide +kernel
theorem dX8_passAll_36 : decode cX8_passAll 36 = .ok (.aload_n 0, 1) := by decide +kernel
theorem dX8_passAll_37 : decode cX8_passAll 37 = .ok (.aload_n 0, 1) := by decide +kernel
theorem dX8_passAll_38 : decode cX8_passAll 38 = .ok (.aload_n 0, 1) := by decide +kernel
theorem dX8_passAll_39 : decode cX8_passAll 39 = .ok (.getfield 274, 3) := by decide +kernel
theorem dX8_passAll_42 : decode cX8_passAll 42 = .ok (.invokevirtual 315, 3) := by decide +kernel
theorem dX8_passAll_45 : decode cX8_passAll 45 = .ok (.putfield 274, 3) := by decide +kernel
theorem dX8_passAll_48 : decode cX8_passAll 48 = .ok (.aload_n 0, 1) := by decide +kernel
theorem dX8_passAll_49 : decode cX8_passAll 49 = .ok (.aload_n 0, 1) := by decide +kernel
theorem dX8_passAll_50 : decode cX8_passAll 50 = .ok (.getfield 7, 3) := by decide +kernel
theorem dX8_passAll_53 : decode cX8_passAll 53 = .ok (.bipush 10, 2) := by decide +kernel
theorem dX8_passAll_55 : decode cX8_passAll 55 = .ok (.invokevirtual 318, 3) := by decide +kernel
theorem dX8_passAll_58 : decode cX8_passAll 58 = .ok (.aload_n 0, 1) := by decide +kernel
theorem dX8_passAll_59 : decode cX8_passAll 59 = .ok (.aload_n 0, 1) := by decide +kernel
theorem dX8_passAll_60 : decode cX8_passAll 60 = .ok (.getfield 13, 3) := by decide +kernel
theorem dX8_passAll_63 : decode cX8_passAll 63 = .ok (.bipush 10, 2) := by decide +kernel
theorem dX8_passAll_65 : decode cX8_passAll 65 = .ok (.invokevirtual 318, 3) := by decide +kernel
theorem dX8_passAll_68 : decode cX8_passAll 68 = .ok (.aload_n 0, 1) := by decide +kernel
theorem dX8_passAll_69 : decode cX8_passAll 69 = .ok (.aload_n 0, 1) := by decide +kernel
theorem dX8_passAll_70 : decode cX8_passAll 70 = .ok (.getfield 16, 3) := by decide +kernel
theorem dX8_passAll_73 : decode cX8_passAll 73 = .ok (.bipush 9, 2) := by decide +kernel
theorem dX8_passAll_75 : decode cX8_passAll 75 = .ok (.invokevirtual 318, 3) := by decide +kernel
theorem dX8_passAll_78 : decode cX8_passAll 78 = .ok (.aload_n 0, 1) := by decide +kernel
theorem dX8_passAll_79 : decode cX8_passAll 79 = .ok (.aload_n 0, 1) := by decide +kernel
theorem dX8_passAll_80 : decode cX8_passAll 80 = .ok (.getfield 19, 3) := by decide +kernel
theorem dX8_passAll_83 : decode cX8_passAll 83 = .ok (.bipush 8, 2) := by decide +kernel
theorem dX8_passAll_85 : decode cX8_passAll 85 = .ok (.invokevirtual 318, 3) := by decide +kernel
theorem dX8_passAll_88 : decode cX8_passAll 88 = .ok (.aload_n 0, 1) := by decide +kernel
theorem dX8_passAll_89 : decode cX8_passAll 89 = .ok (.aload_n 0, 1) := by decide +kernel
theorem dX8_passAll_90 : decode cX8_passAll 90 = .ok (.getfield 22, 3) := by decide +kernel
theorem dX8_passAll_93 : decode cX8_passAll 93 = .ok (.bipush 8, 2) := by decide +kernel
theorem dX8_passAll_95 : decode cX8_passAll 95 = .ok (.invokevirtual 318, 3) := by decide +kernel
theorem dX8_passAll_98 : decode cX8_passAll 98 = .ok (.return_, 1) := by decide +kernel
set_option maxRecDepth 20000 in
theorem ggX8_image_X8_in : GoodIn wsX8_image wsX8_in := goodIn_r _ [7] (by decide +kernel) (by decide +kernel)
set_option maxRecDepth 20000 in
theorem gX8_image_X8_in : GoodIn wsX8_image (va_wsS RX8 83 yX8_in wsX8_in) := goodIn_app (goodIn_of _ (by decide +kernel)) ggX8_image_X8_in
set_option maxRecDepth 20000 in
theorem ggX8_image_X8_passAll : GoodIn wsX8_image wsX8_passAll := goodIn_r _ [11, 12, 13, 14, 15, 16, 17, 18, 19, 20, 21, 22, 23, 6, 24, 2, 25, 1, 26, 27, 28, 29, 30, 31, 32, 33, 34, 35, 36, 37, 38, 39, 40, 41, 42, 43, 44, 45, 46, 47, 48, 49, 50, 51, 52, 53, 54, 55, 56, 57, 58, 59, 60, 61, 62, 63, 64, 65, 66] (by decide +kernel) (by decide +kernel)
set_option maxRecDepth 20000 in
theorem gX8_image_X8_passAll : GoodIn wsX8_image (wsV RX8 322 RX8 yX8_passAll wsX8_passAll) := goodIn_app (goodIn_of _ (by decide +kernel)) ggX8_image_X8_passAll
theorem dX8_image_0 : decode cX8_image 0 = .ok (.iload_n 1, 1) := by decide +kernel
theorem dX8_image_1 : decode cX8_image 1 = .ok (.i2l, 1) := by decide +kernel
theorem dX8_image_2 : decode cX8_image 2 = .ok (.lconst 0, 1) := by decide +kernel
theorem dX8_image_3 : decode cX8_image 3 = .ok (.lconst 1, 1) := by decide +kernel
theorem dX8_image_4 : decode cX8_image 4 = .ok (.invokestatic 83, 3) := by decide +kernel
theorem dX8_image_7 : decode cX8_image 7 = .ok (.ifCond .ne 6, 3) := by decide +kernel
theorem dX8_image_10 : decode cX8_image 10 = .ok (.bipush (-2), 2) := by decide +kernel
theorem dX8_image_12 : decode cX8_image 12 = .ok (.ireturn, 1) := by decide +kernel
theorem dX8_image_13 : decode cX8_image 13 = .ok (.aload_n 0, 1) := by decide +kernel
theorem dX8_image_14 : decode cX8_image 14 = .ok (.bipush 60, 2) := by decide +kernel
theorem dX8_image_16 : decode cX8_image 16 = .ok (.iload_n 1, 1) := by decide +kernel
theorem dX8_image_17 : decode cX8_image 17 = .ok (.imul, 1) := by decide +kernel
theorem dX8_image_18 : decode cX8_image 18 = .ok (.putfield 312, 3) := by decide +kernel
theorem dX8_image_21 : decode cX8_image 21 = .ok (.aload_n 0, 1) := by decide +kernel
theorem dX8_image_22 : decode cX8_image 22 = .ok (.iconst 1, 1) := by decide +kernel
theorem dX8_image_23 : decode cX8_image 23 = .ok (.putfield 308, 3) := by decide +kernel
theorem dX8_image_26 : decode cX8_image 26 = .ok (.aload_n 0, 1) := by decide +kernel
theorem dX8_image_27 : decode cX8_image 27 = .ok (.invokevirtual 322, 3) := by decide +kernel
theorem dX8_image_30 : decode cX8_image 30 = .ok (.aload_n 0, 1) := by decide +kernel
theorem dX8_image_31 : decode cX8_image 31 = .ok (.getfield 74, 3) := by decide +kernel
theorem dX8_image_34 : decode cX8_image 34 = .ok (.iload_n 1, 1) := by decide +kernel
theorem dX8_image_35 : decode cX8_image 35 = .ok (.iconst 1, 1) := by decide +kernel
theorem dX8_image_36 : decode cX8_image 36 = .ok (.bastore, 1) := by decide +kernel
theorem dX8_image_37 : decode cX8_image 37 = .ok (.iconst 1, 1) := by decide +kernel
theorem dX8_image_38 : decode cX8_image 38 = .ok (.ireturn, 1) := by decide +kernel
set_option maxRecDepth 20000 in
theorem ggX8_restore_X8_in : GoodIn wsX8_restore wsX8_in := goodIn_r _ [7] (by decide +kernel) (by decide +kernel)
set_option maxRecDepth 20000 in
theorem gX8_restore_X8_in : GoodIn wsX8_restore (va_wsS RX8 83 yX8_in wsX8_in) := goodIn_app (goodIn_of _ (by decide +kernel)) ggX8_restore_X8_in
set_option maxRecDepth 20000 in
theorem ggX8_restore_X8_passAll : GoodIn wsX8_restore wsX8_passAll := goodIn_r _ [11, 12, 13, 14, 15, 16, 17, 18, 19, 20, 21, 22, 23, 6, 24, 3, 25, 2, 26, 27, 28, 29, 30, 31, 32, 33, 34, 35, 36, 37, 38, 39, 40, 41, 42, 43, 44, 45, 46, 47, 48, 49, 50, 51, 52, 53, 54, 55, 56, 57, 58, 59, 60, 61, 62, 63, 64, 65, 66] (by decide +kernel) (by decide +kernel)
set_option maxRecDepth 20000 in
theorem gX8_restore_X8_passAll : GoodIn wsX8_restore (wsV RX8 322 RX8 yX8_passAll wsX8_passAll) := goodIn_app (goodIn_of _ (by decide +kernel)) ggX8_restore_X8_passAll
theorem dX8_restore_0 : decode cX8_restore 0 = .ok (.iload_n 1, 1) := by decide +kernel
theorem dX8_restore_1 : decode cX8_restore 1 = .ok (.i2l, 1) := by decide +kernel
theorem dX8_restore_2 : decode cX8_restore 2 = .ok (.lconst 0, 1) := by decide +kernel
theorem dX8_restore_3 : decode cX8_restore 3 = .ok (.lconst 1, 1) := by decide +kernel
theorem dX8_restore_4 : decode cX8_restore 4 = .ok (.invokestatic 83, 3) := by decide +kernel
theorem dX8_restore_7 : decode cX8_restore 7 = .ok (.ifCond .ne 6, 3) := by decide +kernel
theorem dX8_restore_10 : decode cX8_restore 10 = .ok (.bipush (-2), 2) := by decide +kernel
theorem dX8_restore_12 : decode cX8_restore 12 = .ok (.ireturn, 1) := by decide +kernel
theorem dX8_restore_13 : decode cX8_restore 13 = .ok (.aload_n 0, 1) := by decide +kernel
theorem dX8_restore_14 : decode cX8_restore 14 = .ok (.getfield 74, 3) := by decide +kernel
theorem dX8_restore_17 : decode cX8_restore 17 = .ok (.iload_n 1, 1) := by decide +kernel
theorem dX8_restore_18 : decode cX8_restore 18 = .ok (.baload, 1) := by decide +kernel
theorem dX8_restore_19 : decode cX8_restore 19 = .ok (.ifCond .ne 6, 3) := by decide +kernel
theorem dX8_restore_22 : decode cX8_restore 22 = .ok (.bipush (-3), 2) := by decide +kernel
theorem dX8_restore_24 : decode cX8_restore 24 = .ok (.ireturn, 1) := by decide +kernel
theorem dX8_restore_25 : decode cX8_restore 25 = .ok (.aload_n 0, 1) := by decide +kernel
theorem dX8_restore_26 : decode cX8_restore 26 = .ok (.bipush 60, 2) := by decide +kernel
theorem dX8_restore_28 : decode cX8_restore 28 = .ok (.iload_n 1, 1) := by decide +kernel
theorem dX8_restore_29 : decode cX8_restore 29 = .ok (.imul, 1) := by decide +kernel
theorem dX8_restore_30 : decode cX8_restore 30 = .ok (.putfield 312, 3) := by decide +kernel
theorem dX8_restore_33 : decode cX8_restore 33 = .ok (.aload_n 0, 1) := by decide +kernel
theorem dX8_restore_34 : decode cX8_restore 34 = .ok (.iconst 0, 1) := by decide +kernel
theorem dX8_restore_35 : decode cX8_restore 35 = .ok (.putfield 308, 3) := by decide +kernel
theorem dX8_restore_38 : decode cX8_restore 38 = .ok (.aload_n 0, 1) := by decide +kernel
theorem dX8_restore_39 : decode cX8_restore 39 = .ok (.invokevirtual 322, 3) := by decide +kernel
theorem dX8_restore_42 : decode cX8_restore 42 = .ok (.iconst 1, 1) := by decide +kernel
theorem dX8_restore_43 : decode cX8_restore 43 = .ok (.ireturn, 1) := by decide +kernel
set_option maxRecDepth 20000 in
theorem ggX8_told_X8_in : GoodIn wsX8_told wsX8_in := goodIn_r _ [18] (by decide +kernel) (by decide +kernel)
set_option maxRecDepth 20000 in
theorem gX8_told_X8_in : GoodIn wsX8_told (va_wsS RX8 83 yX8_in wsX8_in) := goodIn_app (goodIn_of _ (by decide +kernel)) ggX8_told_X8_in
theorem dX8_told_0 : decode cX8_told 0 = .ok (.iload_n 1, 1) := by decide +kernel
theorem dX8_told_1 : decode cX8_told 1 = .ok (.i2l, 1) := by decide +kernel
theorem dX8_told_2 : decode cX8_told 2 = .ok (.ldc2_w 291, 3) := by decide +kernel
theorem dX8_told_5 : decode cX8_told 5 = .ok (.ldc2_w 325, 3) := by decide +kernel
theorem dX8_told_8 : decode cX8_told 8 = .ok (.invokestatic 83, 3) := by decide +kernel
theorem dX8_told_11 : decode cX8_told 11 = .ok (.ifCond .eq 13, 3) := by decide +kernel
theorem dX8_told_14 : decode cX8_told 14 = .ok (.aload_n 0, 1) := by decide +kernel
theorem dX8_told_15 : decode cX8_told 15 = .ok (.getfield 7, 3) := by decide +kernel
theorem dX8_told_18 : decode cX8_told 18 = .ok (.iload_n 1, 1) := by decide +kernel
theorem dX8_told_19 : decode cX8_told 19 = .ok (.bipush 10, 2) := by decide +kernel
theorem dX8_told_21 : decode cX8_told 21 = .ok (.isub, 1) := by decide +kernel
theorem dX8_told_22 : decode cX8_told 22 = .ok (.iaload, 1) := by decide +kernel
theorem dX8_told_23 : decode cX8_told 23 = .ok (.ireturn, 1) := by decide +kernel
theorem dX8_told_24 : decode cX8_told 24 = .ok (.iload_n 1, 1) := by decide +kernel
theorem dX8_told_25 : decode cX8_told 25 = .ok (.i2l, 1) := by decide +kernel
theorem dX8_told_26 : decode cX8_told 26 = .ok (.ldc2_w 327, 3) := by decide +kernel
theorem dX8_told_29 : decode cX8_told 29 = .ok (.ldc2_w 329, 3) := by decide +kernel
theorem dX8_told_32 : decode cX8_told 32 = .ok (.invokestatic 83, 3) := by decide +kernel
theorem dX8_told_35 : decode cX8_told 35 = .ok (.ifCond .eq 13, 3) := by decide +kernel
theorem dX8_told_38 : decode cX8_told 38 = .ok (.aload_n 0, 1) := by decide +kernel
theorem dX8_told_39 : decode cX8_told 39 = .ok (.getfield 13, 3) := by decide +kernel
theorem dX8_told_42 : decode cX8_told 42 = .ok (.iload_n 1, 1) := by decide +kernel
theorem dX8_told_43 : decode cX8_told 43 = .ok (.bipush 20, 2) := by decide +kernel
theorem dX8_told_45 : decode cX8_told 45 = .ok (.isub, 1) := by decide +kernel
theorem dX8_told_46 : decode cX8_told 46 = .ok (.iaload, 1) := by decide +kernel
theorem dX8_told_47 : decode cX8_told 47 = .ok (.ireturn, 1) := by decide +kernel
theorem dX8_told_48 : decode cX8_told 48 = .ok (.iload_n 1, 1) := by decide +kernel
theorem dX8_told_49 : decode cX8_told 49 = .ok (.i2l, 1) := by decide +kernel
theorem dX8_told_50 : decode cX8_told 50 = .ok (.ldc2_w 331, 3) := by decide +kernel
theorem dX8_told_53 : decode cX8_told 53 = .ok (.ldc2_w 333, 3) := by decide +kernel
theorem dX8_told_56 : decode cX8_told 56 = .ok (.invokestatic 83, 3) := by decide +kernel
theorem dX8_told_59 : decode cX8_told 59 = .ok (.ifCond .eq 13, 3) := by decide +kernel
theorem dX8_told_62 : decode cX8_told 62 = .ok (.aload_n 0, 1) := by decide +kernel
theorem dX8_told_63 : decode cX8_told 63 = .ok (.getfield 16, 3) := by decide +kernel
theorem dX8_told_66 : decode cX8_told 66 = .ok (.iload_n 1, 1) := by decide +kernel
theorem dX8_told_67 : decode cX8_told 67 = .ok (.bipush 30, 2) := by decide +kernel
theorem dX8_told_69 : decode cX8_told 69 = .ok (.isub, 1) := by decide +kernel
theorem dX8_told_70 : decode cX8_told 70 = .ok (.iaload, 1) := by decide +kernel
theorem dX8_told_71 : decode cX8_told 71 = .ok (.ireturn, 1) := by decide +kernel
theorem dX8_told_72 : decode cX8_told 72 = .ok (.iload_n 1, 1) := by decide +kernel
theorem dX8_told_73 : decode cX8_told 73 = .ok (.tableswitch 60 0 4 #[35, 40, 45, 50, 55], 35) := by decide +kernel
theorem dX8_told_108 : decode cX8_told 108 = .ok (.aload_n 0, 1) := by decide +kernel
theorem dX8_told_109 : decode cX8_told 109 = .ok (.getfield 112, 3) := by decide +kernel
theorem dX8_told_112 : decode cX8_told 112 = .ok (.ireturn, 1) := by decide +kernel
theorem dX8_told_113 : decode cX8_told 113 = .ok (.aload_n 0, 1) := by decide +kernel
theorem dX8_told_114 : decode cX8_told 114 = .ok (.getfield 101, 3) := by decide +kernel
theorem dX8_told_117 : decode cX8_told 117 = .ok (.ireturn, 1) := by decide +kernel
theorem dX8_told_118 : decode cX8_told 118 = .ok (.aload_n 0, 1) := by decide +kernel
theorem dX8_told_119 : decode cX8_told 119 = .ok (.getfield 77, 3) := by decide +kernel
theorem dX8_told_122 : decode cX8_told 122 = .ok (.ireturn, 1) := by decide +kernel
theorem dX8_told_123 : decode cX8_told 123 = .ok (.aload_n 0, 1) := by decide +kernel
theorem dX8_told_124 : decode cX8_told 124 = .ok (.getfield 168, 3) := by decide +kernel
theorem dX8_told_127 : decode cX8_told 127 = .ok (.ireturn, 1) := by decide +kernel
theorem dX8_told_128 : decode cX8_told 128 = .ok (.aload_n 0, 1) := by decide +kernel
theorem dX8_told_129 : decode cX8_told 129 = .ok (.getfield 274, 3) := by decide +kernel
theorem dX8_told_132 : decode cX8_told 132 = .ok (.ireturn, 1) := by decide +kernel
theorem dX8_told_133 : decode cX8_told 133 = .ok (.bipush (-2), 2) := by decide +kernel
theorem dX8_told_135 : decode cX8_told 135 = .ok (.ireturn, 1) := by decide +kernel
theorem dJ6_bitCount_0f7a4_0 : decode cJ6_bitCount_0f7a4 0 = .ok (.iload_n 0, 1) := by decide +kernel
theorem dJ6_bitCount_0f7a4_1 : decode cJ6_bitCount_0f7a4 1 = .ok (.iload_n 0, 1) := by decide +kernel
theorem dJ6_bitCount_0f7a4_2 : decode cJ6_bitCount_0f7a4 2 = .ok (.iconst 1, 1) := by decide +kernel
theorem dJ6_bitCount_0f7a4_3 : decode cJ6_bitCount_0f7a4 3 = .ok (.iushr, 1) := by decide +kernel
theorem dJ6_bitCount_0f7a4_4 : decode cJ6_bitCount_0f7a4 4 = .ok (.ldc_w 265, 3) := by decide +kernel
theorem dJ6_bitCount_0f7a4_7 : decode cJ6_bitCount_0f7a4 7 = .ok (.iand, 1) := by decide +kernel
theorem dJ6_bitCount_0f7a4_8 : decode cJ6_bitCount_0f7a4 8 = .ok (.isub, 1) := by decide +kernel
theorem dJ6_bitCount_0f7a4_9 : decode cJ6_bitCount_0f7a4 9 = .ok (.istore_n 0, 1) := by decide +kernel
theorem dJ6_bitCount_0f7a4_10 : decode cJ6_bitCount_0f7a4 10 = .ok (.iload_n 0, 1) := by decide +kernel
theorem dJ6_bitCount_0f7a4_11 : decode cJ6_bitCount_0f7a4 11 = .ok (.ldc_w 266, 3) := by decide +kernel
theorem dJ6_bitCount_0f7a4_14 : decode cJ6_bitCount_0f7a4 14 = .ok (.iand, 1) := by decide +kernel
theorem dJ6_bitCount_0f7a4_15 : decode cJ6_bitCount_0f7a4 15 = .ok (.iload_n 0, 1) := by decide +kernel
theorem dJ6_bitCount_0f7a4_16 : decode cJ6_bitCount_0f7a4 16 = .ok (.iconst 2, 1) := by decide +kernel
theorem dJ6_bitCount_0f7a4_17 : decode cJ6_bitCount_0f7a4 17 = .ok (.iushr, 1) := by decide +kernel
theorem dJ6_bitCount_0f7a4_18 : decode cJ6_bitCount_0f7a4 18 = .ok (.ldc_w 266, 3) := by decide +kernel
theorem dJ6_bitCount_0f7a4_21 : decode cJ6_bitCount_0f7a4 21 = .ok (.iand, 1) := by decide +kernel
theorem dJ6_bitCount_0f7a4_22 : decode cJ6_bitCount_0f7a4 22 = .ok (.iadd, 1) := by decide +kernel
theorem dJ6_bitCount_0f7a4_23 : decode cJ6_bitCount_0f7a4 23 = .ok (.istore_n 0, 1) := by decide +kernel
theorem dJ6_bitCount_0f7a4_24 : decode cJ6_bitCount_0f7a4 24 = .ok (.iload_n 0, 1) := by decide +kernel
theorem dJ6_bitCount_0f7a4_25 : decode cJ6_bitCount_0f7a4 25 = .ok (.iload_n 0, 1) := by decide +kernel
theorem dJ6_bitCount_0f7a4_26 : decode cJ6_bitCount_0f7a4 26 = .ok (.iconst 4, 1) := by decide +kernel
theorem dJ6_bitCount_0f7a4_27 : decode cJ6_bitCount_0f7a4 27 = .ok (.iushr, 1) := by decide +kernel
theorem dJ6_bitCount_0f7a4_28 : decode cJ6_bitCount_0f7a4 28 = .ok (.iadd, 1) := by decide +kernel
theorem dJ6_bitCount_0f7a4_29 : decode cJ6_bitCount_0f7a4 29 = .ok (.ldc_w 267, 3) := by decide +kernel
theorem dJ6_bitCount_0f7a4_32 : decode cJ6_bitCount_0f7a4 32 = .ok (.iand, 1) := by decide +kernel
theorem dJ6_bitCount_0f7a4_33 : decode cJ6_bitCount_0f7a4 33 = .ok (.istore_n 0, 1) := by decide +kernel
theorem dJ6_bitCount_0f7a4_34 : decode cJ6_bitCount_0f7a4 34 = .ok (.iload_n 0, 1) := by decide +kernel
theorem dJ6_bitCount_0f7a4_35 : decode cJ6_bitCount_0f7a4 35 = .ok (.iload_n 0, 1) := by decide +kernel
theorem dJ6_bitCount_0f7a4_36 : decode cJ6_bitCount_0f7a4 36 = .ok (.bipush 8, 2) := by decide +kernel
theorem dJ6_bitCount_0f7a4_38 : decode cJ6_bitCount_0f7a4 38 = .ok (.iushr, 1) := by decide +kernel
theorem dJ6_bitCount_0f7a4_39 : decode cJ6_bitCount_0f7a4 39 = .ok (.iadd, 1) := by decide +kernel
theorem dJ6_bitCount_0f7a4_40 : decode cJ6_bitCount_0f7a4 40 = .ok (.istore_n 0, 1) := by decide +kernel
theorem dJ6_bitCount_0f7a4_41 : decode cJ6_bitCount_0f7a4 41 = .ok (.iload_n 0, 1) := by decide +kernel
theorem dJ6_bitCount_0f7a4_42 : decode cJ6_bitCount_0f7a4 42 = .ok (.iload_n 0, 1) := by decide +kernel
theorem dJ6_bitCount_0f7a4_43 : decode cJ6_bitCount_0f7a4 43 = .ok (.bipush 16, 2) := by decide +kernel
theorem dJ6_bitCount_0f7a4_45 : decode cJ6_bitCount_0f7a4 45 = .ok (.iushr, 1) := by decide +kernel
theorem dJ6_bitCount_0f7a4_46 : decode cJ6_bitCount_0f7a4 46 = .ok (.iadd, 1) := by decide +kernel
theorem dJ6_bitCount_0f7a4_47 : decode cJ6_bitCount_0f7a4 47 = .ok (.istore_n 0, 1) := by decide +kernel
theorem dJ6_bitCount_0f7a4_48 : decode cJ6_bitCount_0f7a4 48 = .ok (.iload_n 0, 1) := by decide +kernel
theorem dJ6_bitCount_0f7a4_49 : decode cJ6_bitCount_0f7a4 49 = .ok (.bipush 63, 2) := by decide +kernel
theorem dJ6_bitCount_0f7a4_51 : decode cJ6_bitCount_0f7a4 51 = .ok (.iand, 1) := by decide +kernel
theorem dJ6_bitCount_0f7a4_52 : decode cJ6_bitCount_0f7a4 52 = .ok (.ireturn, 1) := by decide +kernel
theorem dJ9_abs_0f7a4_0 : decode cJ9_abs_0f7a4 0 = .ok (.iload_n 0, 1) := by decide +kernel
theorem dJ9_abs_0f7a4_1 : decode cJ9_abs_0f7a4 1 = .ok (.ifCond .ge 8, 3) := by decide +kernel
theorem dJ9_abs_0f7a4_4 : decode cJ9_abs_0f7a4 4 = .ok (.iload_n 0, 1) := by decide +kernel
theorem dJ9_abs_0f7a4_5 : decode cJ9_abs_0f7a4 5 = .ok (.ineg, 1) := by decide +kernel
theorem dJ9_abs_0f7a4_6 : decode cJ9_abs_0f7a4 6 = .ok (.goto 4, 3) := by decide +kernel
theorem dJ9_abs_0f7a4_9 : decode cJ9_abs_0f7a4 9 = .ok (.iload_n 0, 1) := by decide +kernel
theorem dJ9_abs_0f7a4_10 : decode cJ9_abs_0f7a4 10 = .ok (.ireturn, 1) := by decide +kernel
theorem dJ9_max_7cf53_0 : decode cJ9_max_7cf53 0 = .ok (.iload_n 0, 1) := by decide +kernel
theorem dJ9_max_7cf53_1 : decode cJ9_max_7cf53 1 = .ok (.iload_n 1, 1) := by decide +kernel
theorem dJ9_max_7cf53_2 : decode cJ9_max_7cf53 2 = .ok (.if_icmp .lt 7, 3) := by decide +kernel
theorem dJ9_max_7cf53_5 : decode cJ9_max_7cf53 5 = .ok (.iload_n 0, 1) := by decide +kernel
theorem dJ9_max_7cf53_6 : decode cJ9_max_7cf53 6 = .ok (.goto 4, 3) := by decide +kernel
theorem dJ9_max_7cf53_9 : decode cJ9_max_7cf53 9 = .ok (.iload_n 1, 1) := by decide +kernel
theorem dJ9_max_7cf53_10 : decode cJ9_max_7cf53 10 = .ok (.ireturn, 1) := by decide +kernel
theorem dJ9_min_7cf53_0 : decode cJ9_min_7cf53 0 = .ok (.iload_n 0, 1) := by decide +kernel
theorem dJ9_min_7cf53_1 : decode cJ9_min_7cf53 1 = .ok (.iload_n 1, 1) := by decide +kernel
theorem dJ9_min_7cf53_2 : decode cJ9_min_7cf53 2 = .ok (.if_icmp .gt 7, 3) := by decide +kernel
theorem dJ9_min_7cf53_5 : decode cJ9_min_7cf53 5 = .ok (.iload_n 0, 1) := by decide +kernel
theorem dJ9_min_7cf53_6 : decode cJ9_min_7cf53 6 = .ok (.goto 4, 3) := by decide +kernel
theorem dJ9_min_7cf53_9 : decode cJ9_min_7cf53 9 = .ok (.iload_n 1, 1) := by decide +kernel
theorem dJ9_min_7cf53_10 : decode cJ9_min_7cf53 10 = .ok (.ireturn, 1) := by decide +kernel
