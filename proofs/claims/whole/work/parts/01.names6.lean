theorem dX6_ride_34 : decode cX6_ride 34 = .ok (.aload_n 0, 1) := by decide +kernel
theorem dX6_ride_35 : decode cX6_ride 35 = .ok (.invokevirtual 42, 3) := by decide +kernel
theorem dX6_ride_38 : decode cX6_ride 38 = .ok (.ireturn, 1) := by decide +kernel
theorem dX6_ride_39 : decode cX6_ride 39 = .ok (.aload_n 0, 1) := by decide +kernel
theorem dX6_ride_40 : decode cX6_ride 40 = .ok (.iload_n 1, 1) := by decide +kernel
theorem dX6_ride_41 : decode cX6_ride 41 = .ok (.iload_n 2, 1) := by decide +kernel
theorem dX6_ride_42 : decode cX6_ride 42 = .ok (.iload_n 3, 1) := by decide +kernel
theorem dX6_ride_43 : decode cX6_ride 43 = .ok (.iload 4, 2) := by decide +kernel
theorem dX6_ride_45 : decode cX6_ride 45 = .ok (.ifCond .ne 7, 3) := by decide +kernel
theorem dX6_ride_48 : decode cX6_ride 48 = .ok (.iconst 2, 1) := by decide +kernel
theorem dX6_ride_49 : decode cX6_ride 49 = .ok (.goto 13, 3) := by decide +kernel
theorem dX6_ride_52 : decode cX6_ride 52 = .ok (.iload_n 2, 1) := by decide +kernel
theorem dX6_ride_53 : decode cX6_ride 53 = .ok (.iload_n 1, 1) := by decide +kernel
theorem dX6_ride_54 : decode cX6_ride 54 = .ok (.if_icmp .le 7, 3) := by decide +kernel
theorem dX6_ride_57 : decode cX6_ride 57 = .ok (.iconst 1, 1) := by decide +kernel
theorem dX6_ride_58 : decode cX6_ride 58 = .ok (.goto 4, 3) := by decide +kernel
theorem dX6_ride_61 : decode cX6_ride 61 = .ok (.iconst 0, 1) := by decide +kernel
theorem dX6_ride_62 : decode cX6_ride 62 = .ok (.invokevirtual 183, 3) := by decide +kernel
theorem dX6_ride_65 : decode cX6_ride 65 = .ok (.istore 5, 2) := by decide +kernel
theorem dX6_ride_67 : decode cX6_ride 67 = .ok (.iload 5, 2) := by decide +kernel
theorem dX6_ride_69 : decode cX6_ride 69 = .ok (.iconst (-1), 1) := by decide +kernel
theorem dX6_ride_70 : decode cX6_ride 70 = .ok (.if_icmp .ne 7, 3) := by decide +kernel
theorem dX6_ride_73 : decode cX6_ride 73 = .ok (.iconst (-1), 1) := by decide +kernel
theorem dX6_ride_74 : decode cX6_ride 74 = .ok (.goto 7, 3) := by decide +kernel
theorem dX6_ride_77 : decode cX6_ride 77 = .ok (.iload 5, 2) := by decide +kernel
theorem dX6_ride_79 : decode cX6_ride 79 = .ok (.iload_n 3, 1) := by decide +kernel
theorem dX6_ride_80 : decode cX6_ride 80 = .ok (.isub, 1) := by decide +kernel
theorem dX6_ride_81 : decode cX6_ride 81 = .ok (.ireturn, 1) := by decide +kernel
set_option maxRecDepth 20000 in
theorem ggX6_walk_X6_isFloor : GoodIn wsX6_walk wsX6_isFloor := goodIn_r _ [7, 2, 8, 9, 6, 10, 65, 66, 67, 68, 69, 70, 71, 72, 73, 74, 75, 76, 77, 78, 79] (by decide +kernel) (by decide +kernel)
set_option maxRecDepth 20000 in
theorem gX6_walk_X6_isFloor : GoodIn wsX6_walk (wsV RX6 167 RX6 yX6_isFloor wsX6_isFloor) := goodIn_app (goodIn_of _ (by decide +kernel)) ggX6_walk_X6_isFloor
set_option maxRecDepth 20000 in
theorem ggX6_walk_X6_isMinute : GoodIn wsX6_walk wsX6_isMinute := goodIn_r _ [13, 14, 8, 9, 6, 10] (by decide +kernel) (by decide +kernel)
set_option maxRecDepth 20000 in
theorem gX6_walk_X6_isMinute : GoodIn wsX6_walk (va_wsS RX6 152 yX6_isMinute wsX6_isMinute) := goodIn_app (goodIn_of _ (by decide +kernel)) ggX6_walk_X6_isMinute
set_option maxRecDepth 20000 in
theorem ggX6_walk_X6_in : GoodIn wsX6_walk wsX6_in := goodIn_r _ [10] (by decide +kernel) (by decide +kernel)
set_option maxRecDepth 20000 in
theorem gX6_walk_X6_in : GoodIn wsX6_walk (va_wsS RX6 34 yX6_in wsX6_in) := goodIn_app (goodIn_of _ (by decide +kernel)) ggX6_walk_X6_in
set_option maxRecDepth 20000 in
theorem ggX6_walk_X6_bad : GoodIn wsX6_walk wsX6_bad := goodIn_r _ [18, 19, 65, 66, 67, 68, 69, 70, 71, 72, 73, 74, 75, 76, 77, 78, 79] (by decide +kernel) (by decide +kernel)
set_option maxRecDepth 20000 in
theorem gX6_walk_X6_bad : GoodIn wsX6_walk (wsV RX6 42 RX6 yX6_bad wsX6_bad) := goodIn_app (goodIn_of _ (by decide +kernel)) ggX6_walk_X6_bad
set_option maxRecDepth 20000 in
theorem ggX6_walk_X6_rides : GoodIn wsX6_walk wsX6_rides := goodIn_r _ [23, 24, 25, 26, 27, 28, 6, 29, 2, 30, 31, 32, 33, 34, 35, 36, 37, 38, 39, 40, 41, 42, 43, 44, 45, 46, 47, 48, 49, 50, 51, 52, 53, 54, 55, 56, 57, 58, 59, 60, 61, 62, 63, 64, 65, 66, 67, 68, 69, 70, 71, 72, 73, 74, 75, 76, 77, 78, 79] (by decide +kernel) (by decide +kernel)
set_option maxRecDepth 20000 in
theorem gX6_walk_X6_rides : GoodIn wsX6_walk (wsV RX6 183 RX6 yX6_rides wsX6_rides) := goodIn_app (goodIn_of _ (by decide +kernel)) ggX6_walk_X6_rides
theorem dX6_walk_0 : decode cX6_walk 0 = .ok (.aload_n 0, 1) := by decide +kernel
theorem dX6_walk_1 : decode cX6_walk 1 = .ok (.iload_n 1, 1) := by decide +kernel
theorem dX6_walk_2 : decode cX6_walk 2 = .ok (.invokevirtual 167, 3) := by decide +kernel
theorem dX6_walk_5 : decode cX6_walk 5 = .ok (.ifCond .eq 29, 3) := by decide +kernel
theorem dX6_walk_8 : decode cX6_walk 8 = .ok (.aload_n 0, 1) := by decide +kernel
theorem dX6_walk_9 : decode cX6_walk 9 = .ok (.iload_n 2, 1) := by decide +kernel
theorem dX6_walk_10 : decode cX6_walk 10 = .ok (.invokevirtual 167, 3) := by decide +kernel
theorem dX6_walk_13 : decode cX6_walk 13 = .ok (.ifCond .eq 21, 3) := by decide +kernel
theorem dX6_walk_16 : decode cX6_walk 16 = .ok (.iload_n 3, 1) := by decide +kernel
theorem dX6_walk_17 : decode cX6_walk 17 = .ok (.invokestatic 152, 3) := by decide +kernel
theorem dX6_walk_20 : decode cX6_walk 20 = .ok (.ifCond .eq 14, 3) := by decide +kernel
theorem dX6_walk_23 : decode cX6_walk 23 = .ok (.iload 4, 2) := by decide +kernel
theorem dX6_walk_25 : decode cX6_walk 25 = .ok (.i2l, 1) := by decide +kernel
theorem dX6_walk_26 : decode cX6_walk 26 = .ok (.lconst 0, 1) := by decide +kernel
theorem dX6_walk_27 : decode cX6_walk 27 = .ok (.lconst 1, 1) := by decide +kernel
theorem dX6_walk_28 : decode cX6_walk 28 = .ok (.invokestatic 34, 3) := by decide +kernel
theorem dX6_walk_31 : decode cX6_walk 31 = .ok (.ifCond .ne 8, 3) := by decide +kernel
theorem dX6_walk_34 : decode cX6_walk 34 = .ok (.aload_n 0, 1) := by decide +kernel
theorem dX6_walk_35 : decode cX6_walk 35 = .ok (.invokevirtual 42, 3) := by decide +kernel
theorem dX6_walk_38 : decode cX6_walk 38 = .ok (.ireturn, 1) := by decide +kernel
theorem dX6_walk_39 : decode cX6_walk 39 = .ok (.iload_n 1, 1) := by decide +kernel
theorem dX6_walk_40 : decode cX6_walk 40 = .ok (.istore 5, 2) := by decide +kernel
theorem dX6_walk_42 : decode cX6_walk 42 = .ok (.ldc 187, 2) := by decide +kernel
theorem dX6_walk_44 : decode cX6_walk 44 = .ok (.istore 6, 2) := by decide +kernel
theorem dX6_walk_46 : decode cX6_walk 46 = .ok (.ldc 187, 2) := by decide +kernel
theorem dX6_walk_48 : decode cX6_walk 48 = .ok (.istore 7, 2) := by decide +kernel
theorem dX6_walk_50 : decode cX6_walk 50 = .ok (.iconst 0, 1) := by decide +kernel
theorem dX6_walk_51 : decode cX6_walk 51 = .ok (.istore 8, 2) := by decide +kernel
theorem dX6_walk_53 : decode cX6_walk 53 = .ok (.iload 8, 2) := by decide +kernel
theorem dX6_walk_55 : decode cX6_walk 55 = .ok (.aload_n 0, 1) := by decide +kernel
theorem dX6_walk_56 : decode cX6_walk 56 = .ok (.getfield 7, 3) := by decide +kernel
theorem dX6_walk_59 : decode cX6_walk 59 = .ok (.iconst 1, 1) := by decide +kernel
theorem dX6_walk_60 : decode cX6_walk 60 = .ok (.iaload, 1) := by decide +kernel
theorem dX6_walk_61 : decode cX6_walk 61 = .ok (.if_icmp .gt 120, 3) := by decide +kernel
theorem dX6_walk_64 : decode cX6_walk 64 = .ok (.iconst 2, 1) := by decide +kernel
theorem dX6_walk_65 : decode cX6_walk 65 = .ok (.iload 8, 2) := by decide +kernel
theorem dX6_walk_67 : decode cX6_walk 67 = .ok (.iload_n 1, 1) := by decide +kernel
theorem dX6_walk_68 : decode cX6_walk 68 = .ok (.if_icmp .ge 10, 3) := by decide +kernel
theorem dX6_walk_71 : decode cX6_walk 71 = .ok (.iload_n 1, 1) := by decide +kernel
theorem dX6_walk_72 : decode cX6_walk 72 = .ok (.iload 8, 2) := by decide +kernel
theorem dX6_walk_74 : decode cX6_walk 74 = .ok (.isub, 1) := by decide +kernel
theorem dX6_walk_75 : decode cX6_walk 75 = .ok (.goto 7, 3) := by decide +kernel
theorem dX6_walk_78 : decode cX6_walk 78 = .ok (.iload 8, 2) := by decide +kernel
theorem dX6_walk_80 : decode cX6_walk 80 = .ok (.iload_n 1, 1) := by decide +kernel
theorem dX6_walk_81 : decode cX6_walk 81 = .ok (.isub, 1) := by decide +kernel
theorem dX6_walk_82 : decode cX6_walk 82 = .ok (.imul, 1) := by decide +kernel
theorem dX6_walk_83 : decode cX6_walk 83 = .ok (.istore 9, 2) := by decide +kernel
theorem dX6_walk_85 : decode cX6_walk 85 = .ok (.aload_n 0, 1) := by decide +kernel
theorem dX6_walk_86 : decode cX6_walk 86 = .ok (.iload 8, 2) := by decide +kernel
theorem dX6_walk_88 : decode cX6_walk 88 = .ok (.iload_n 2, 1) := by decide +kernel
theorem dX6_walk_89 : decode cX6_walk 89 = .ok (.iload_n 3, 1) := by decide +kernel
theorem dX6_walk_90 : decode cX6_walk 90 = .ok (.iload 9, 2) := by decide +kernel
theorem dX6_walk_92 : decode cX6_walk 92 = .ok (.iadd, 1) := by decide +kernel
theorem dX6_walk_93 : decode cX6_walk 93 = .ok (.iconst 2, 1) := by decide +kernel
theorem dX6_walk_94 : decode cX6_walk 94 = .ok (.invokevirtual 183, 3) := by decide +kernel
theorem dX6_walk_97 : decode cX6_walk 97 = .ok (.istore 10, 2) := by decide +kernel
theorem dX6_walk_99 : decode cX6_walk 99 = .ok (.iload 10, 2) := by decide +kernel
theorem dX6_walk_101 : decode cX6_walk 101 = .ok (.iconst (-1), 1) := by decide +kernel
theorem dX6_walk_102 : decode cX6_walk 102 = .ok (.if_icmp .eq 28, 3) := by decide +kernel
theorem dX6_walk_105 : decode cX6_walk 105 = .ok (.iload 10, 2) := by decide +kernel
theorem dX6_walk_107 : decode cX6_walk 107 = .ok (.iload 6, 2) := by decide +kernel
theorem dX6_walk_109 : decode cX6_walk 109 = .ok (.if_icmp .lt 17, 3) := by decide +kernel
theorem dX6_walk_112 : decode cX6_walk 112 = .ok (.iload 10, 2) := by decide +kernel
theorem dX6_walk_114 : decode cX6_walk 114 = .ok (.iload 6, 2) := by decide +kernel
theorem dX6_walk_116 : decode cX6_walk 116 = .ok (.if_icmp .ne 14, 3) := by decide +kernel
theorem dX6_walk_119 : decode cX6_walk 119 = .ok (.iload 9, 2) := by decide +kernel
theorem dX6_walk_121 : decode cX6_walk 121 = .ok (.iload 7, 2) := by decide +kernel
theorem dX6_walk_123 : decode cX6_walk 123 = .ok (.if_icmp .ge 7, 3) := by decide +kernel
theorem dX6_walk_126 : decode cX6_walk 126 = .ok (.iconst 1, 1) := by decide +kernel
theorem dX6_walk_127 : decode cX6_walk 127 = .ok (.goto 4, 3) := by decide +kernel
theorem dX6_walk_130 : decode cX6_walk 130 = .ok (.iconst 0, 1) := by decide +kernel
theorem dX6_walk_131 : decode cX6_walk 131 = .ok (.istore 11, 2) := by decide +kernel
theorem dX6_walk_133 : decode cX6_walk 133 = .ok (.iload 11, 2) := by decide +kernel
theorem dX6_walk_135 : decode cX6_walk 135 = .ok (.ifCond .eq 8, 3) := by decide +kernel
theorem dX6_walk_138 : decode cX6_walk 138 = .ok (.iload 8, 2) := by decide +kernel
theorem dX6_walk_140 : decode cX6_walk 140 = .ok (.goto 5, 3) := by decide +kernel
theorem dX6_walk_143 : decode cX6_walk 143 = .ok (.iload 5, 2) := by decide +kernel
theorem dX6_walk_145 : decode cX6_walk 145 = .ok (.istore 5, 2) := by decide +kernel
theorem dX6_walk_147 : decode cX6_walk 147 = .ok (.iload 11, 2) := by decide +kernel
theorem dX6_walk_149 : decode cX6_walk 149 = .ok (.ifCond .eq 8, 3) := by decide +kernel
theorem dX6_walk_152 : decode cX6_walk 152 = .ok (.iload 10, 2) := by decide +kernel
theorem dX6_walk_154 : decode cX6_walk 154 = .ok (.goto 5, 3) := by decide +kernel
theorem dX6_walk_157 : decode cX6_walk 157 = .ok (.iload 6, 2) := by decide +kernel
theorem dX6_walk_159 : decode cX6_walk 159 = .ok (.istore 6, 2) := by decide +kernel
theorem dX6_walk_161 : decode cX6_walk 161 = .ok (.iload 11, 2) := by decide +kernel
theorem dX6_walk_163 : decode cX6_walk 163 = .ok (.ifCond .eq 8, 3) := by decide +kernel
theorem dX6_walk_166 : decode cX6_walk 166 = .ok (.iload 9, 2) := by decide +kernel
theorem dX6_walk_168 : decode cX6_walk 168 = .ok (.goto 5, 3) := by decide +kernel
theorem dX6_walk_171 : decode cX6_walk 171 = .ok (.iload 7, 2) := by decide +kernel
theorem dX6_walk_173 : decode cX6_walk 173 = .ok (.istore 7, 2) := by decide +kernel
theorem dX6_walk_175 : decode cX6_walk 175 = .ok (.iinc 8 1, 3) := by decide +kernel
theorem dX6_walk_178 : decode cX6_walk 178 = .ok (.goto (-125), 3) := by decide +kernel
theorem dX6_walk_181 : decode cX6_walk 181 = .ok (.iload 4, 2) := by decide +kernel
theorem dX6_walk_183 : decode cX6_walk 183 = .ok (.ifCond .ne 8, 3) := by decide +kernel
theorem dX6_walk_186 : decode cX6_walk 186 = .ok (.iload 5, 2) := by decide +kernel
theorem dX6_walk_188 : decode cX6_walk 188 = .ok (.goto 7, 3) := by decide +kernel
theorem dX6_walk_191 : decode cX6_walk 191 = .ok (.iload 6, 2) := by decide +kernel
theorem dX6_walk_193 : decode cX6_walk 193 = .ok (.iload_n 3, 1) := by decide +kernel
theorem dX6_walk_194 : decode cX6_walk 194 = .ok (.isub, 1) := by decide +kernel
theorem dX6_walk_195 : decode cX6_walk 195 = .ok (.ireturn, 1) := by decide +kernel
theorem dX6_nextOf_0 : decode cX6_nextOf 0 = .ok (.iload_n 1, 1) := by decide +kernel
theorem dX6_nextOf_1 : decode cX6_nextOf 1 = .ok (.istore_n 3, 1) := by decide +kernel
theorem dX6_nextOf_2 : decode cX6_nextOf 2 = .ok (.iload_n 3, 1) := by decide +kernel
theorem dX6_nextOf_3 : decode cX6_nextOf 3 = .ok (.iload_n 2, 1) := by decide +kernel
theorem dX6_nextOf_4 : decode cX6_nextOf 4 = .ok (.if_icmp .ge 10, 3) := by decide +kernel
theorem dX6_nextOf_7 : decode cX6_nextOf 7 = .ok (.iload_n 3, 1) := by decide +kernel
theorem dX6_nextOf_8 : decode cX6_nextOf 8 = .ok (.iload_n 0, 1) := by decide +kernel
theorem dX6_nextOf_9 : decode cX6_nextOf 9 = .ok (.iadd, 1) := by decide +kernel
theorem dX6_nextOf_10 : decode cX6_nextOf 10 = .ok (.istore_n 3, 1) := by decide +kernel
theorem dX6_nextOf_11 : decode cX6_nextOf 11 = .ok (.goto (-9), 3) := by decide +kernel
theorem dX6_nextOf_14 : decode cX6_nextOf 14 = .ok (.iload_n 3, 1) := by decide +kernel
theorem dX6_nextOf_15 : decode cX6_nextOf 15 = .ok (.ireturn, 1) := by decide +kernel
set_option maxRecDepth 20000 in
theorem ggX6_ofSixty_X6_nextOf : GoodIn wsX6_ofSixty wsX6_nextOf := goodIn_r _ [5] (by decide +kernel) (by decide +kernel)
set_option maxRecDepth 20000 in
theorem gX6_ofSixty_X6_nextOf : GoodIn wsX6_ofSixty (va_wsS RX6 188 yX6_nextOf wsX6_nextOf) := goodIn_app (goodIn_of _ (by decide +kernel)) ggX6_ofSixty_X6_nextOf
theorem dX6_ofSixty_0 : decode cX6_ofSixty 0 = .ok (.iconst 0, 1) := by decide +kernel
theorem dX6_ofSixty_1 : decode cX6_ofSixty 1 = .ok (.istore_n 2, 1) := by decide +kernel
theorem dX6_ofSixty_2 : decode cX6_ofSixty 2 = .ok (.iconst 0, 1) := by decide +kernel
theorem dX6_ofSixty_3 : decode cX6_ofSixty 3 = .ok (.istore_n 3, 1) := by decide +kernel
theorem dX6_ofSixty_4 : decode cX6_ofSixty 4 = .ok (.iload_n 3, 1) := by decide +kernel
theorem dX6_ofSixty_5 : decode cX6_ofSixty 5 = .ok (.bipush 60, 2) := by decide +kernel
theorem dX6_ofSixty_7 : decode cX6_ofSixty 7 = .ok (.if_icmp .ge 69, 3) := by decide +kernel
theorem dX6_ofSixty_10 : decode cX6_ofSixty 10 = .ok (.aload_n 0, 1) := by decide +kernel
theorem dX6_ofSixty_11 : decode cX6_ofSixty 11 = .ok (.getfield 7, 3) := by decide +kernel
theorem dX6_ofSixty_14 : decode cX6_ofSixty 14 = .ok (.bipush 13, 2) := by decide +kernel
theorem dX6_ofSixty_16 : decode cX6_ofSixty 16 = .ok (.iaload, 1) := by decide +kernel
theorem dX6_ofSixty_17 : decode cX6_ofSixty 17 = .ok (.aload_n 0, 1) := by decide +kernel
theorem dX6_ofSixty_18 : decode cX6_ofSixty 18 = .ok (.getfield 7, 3) := by decide +kernel
theorem dX6_ofSixty_21 : decode cX6_ofSixty 21 = .ok (.bipush 15, 2) := by decide +kernel
theorem dX6_ofSixty_23 : decode cX6_ofSixty 23 = .ok (.iaload, 1) := by decide +kernel
theorem dX6_ofSixty_24 : decode cX6_ofSixty 24 = .ok (.iload_n 3, 1) := by decide +kernel
theorem dX6_ofSixty_25 : decode cX6_ofSixty 25 = .ok (.invokestatic 188, 3) := by decide +kernel
theorem dX6_ofSixty_28 : decode cX6_ofSixty 28 = .ok (.istore 4, 2) := by decide +kernel
theorem dX6_ofSixty_30 : decode cX6_ofSixty 30 = .ok (.aload_n 0, 1) := by decide +kernel
theorem dX6_ofSixty_31 : decode cX6_ofSixty 31 = .ok (.getfield 7, 3) := by decide +kernel
theorem dX6_ofSixty_34 : decode cX6_ofSixty 34 = .ok (.bipush 14, 2) := by decide +kernel
theorem dX6_ofSixty_36 : decode cX6_ofSixty 36 = .ok (.iaload, 1) := by decide +kernel
theorem dX6_ofSixty_37 : decode cX6_ofSixty 37 = .ok (.aload_n 0, 1) := by decide +kernel
theorem dX6_ofSixty_38 : decode cX6_ofSixty 38 = .ok (.getfield 7, 3) := by decide +kernel
theorem dX6_ofSixty_41 : decode cX6_ofSixty 41 = .ok (.bipush 16, 2) := by decide +kernel
theorem dX6_ofSixty_43 : decode cX6_ofSixty 43 = .ok (.iaload, 1) := by decide +kernel
theorem dX6_ofSixty_44 : decode cX6_ofSixty 44 = .ok (.iload_n 1, 1) := by decide +kernel
theorem dX6_ofSixty_45 : decode cX6_ofSixty 45 = .ok (.iadd, 1) := by decide +kernel
theorem dX6_ofSixty_46 : decode cX6_ofSixty 46 = .ok (.bipush 30, 2) := by decide +kernel
theorem dX6_ofSixty_48 : decode cX6_ofSixty 48 = .ok (.irem, 1) := by decide +kernel
theorem dX6_ofSixty_49 : decode cX6_ofSixty 49 = .ok (.iload_n 3, 1) := by decide +kernel
theorem dX6_ofSixty_50 : decode cX6_ofSixty 50 = .ok (.invokestatic 188, 3) := by decide +kernel
theorem dX6_ofSixty_53 : decode cX6_ofSixty 53 = .ok (.istore 5, 2) := by decide +kernel
theorem dX6_ofSixty_55 : decode cX6_ofSixty 55 = .ok (.iload_n 2, 1) := by decide +kernel
theorem dX6_ofSixty_56 : decode cX6_ofSixty 56 = .ok (.iload 4, 2) := by decide +kernel
theorem dX6_ofSixty_58 : decode cX6_ofSixty 58 = .ok (.iload 5, 2) := by decide +kernel
theorem dX6_ofSixty_60 : decode cX6_ofSixty 60 = .ok (.if_icmp .gt 7, 3) := by decide +kernel
theorem dX6_ofSixty_63 : decode cX6_ofSixty 63 = .ok (.iconst 1, 1) := by decide +kernel
theorem dX6_ofSixty_64 : decode cX6_ofSixty 64 = .ok (.goto 4, 3) := by decide +kernel
theorem dX6_ofSixty_67 : decode cX6_ofSixty 67 = .ok (.iconst 0, 1) := by decide +kernel
theorem dX6_ofSixty_68 : decode cX6_ofSixty 68 = .ok (.iadd, 1) := by decide +kernel
theorem dX6_ofSixty_69 : decode cX6_ofSixty 69 = .ok (.istore_n 2, 1) := by decide +kernel
theorem dX6_ofSixty_70 : decode cX6_ofSixty 70 = .ok (.iinc 3 1, 3) := by decide +kernel
theorem dX6_ofSixty_73 : decode cX6_ofSixty 73 = .ok (.goto (-69), 3) := by decide +kernel
theorem dX6_ofSixty_76 : decode cX6_ofSixty 76 = .ok (.iload_n 2, 1) := by decide +kernel
theorem dX6_ofSixty_77 : decode cX6_ofSixty 77 = .ok (.ireturn, 1) := by decide +kernel
set_option maxRecDepth 20000 in
theorem ggX6_lines_X6_ofSixty : GoodIn wsX6_lines wsX6_ofSixty := goodIn_r _ [6, 7, 8, 9, 5, 10, 17, 18, 19, 20, 21, 22, 23, 24, 25, 26, 27, 28, 29, 30, 31] (by decide +kernel) (by decide +kernel)
set_option maxRecDepth 20000 in
theorem gX6_lines_X6_ofSixty : GoodIn wsX6_lines (wsV RX6 191 RX6 yX6_ofSixty wsX6_ofSixty) := goodIn_app (goodIn_of _ (by decide +kernel)) ggX6_lines_X6_ofSixty
set_option maxRecDepth 20000 in
theorem ggX6_lines_X6_tells : GoodIn wsX6_lines wsX6_tells := goodIn_r _ [14, 15, 16, 17, 18, 19, 20, 21, 22, 23, 24, 25, 26, 27, 28, 29, 30, 31] (by decide +kernel) (by decide +kernel)
set_option maxRecDepth 20000 in
theorem gX6_lines_X6_tells : GoodIn wsX6_lines (wsV RX6 179 RX6 yX6_tells wsX6_tells) := goodIn_app (goodIn_of _ (by decide +kernel)) ggX6_lines_X6_tells
theorem dX6_lines_0 : decode cX6_lines 0 = .ok (.aload_n 0, 1) := by decide +kernel
theorem dX6_lines_1 : decode cX6_lines 1 = .ok (.aload_n 0, 1) := by decide +kernel
theorem dX6_lines_2 : decode cX6_lines 2 = .ok (.iconst 0, 1) := by decide +kernel
theorem dX6_lines_3 : decode cX6_lines 3 = .ok (.invokevirtual 191, 3) := by decide +kernel
theorem dX6_lines_6 : decode cX6_lines 6 = .ok (.i2l, 1) := by decide +kernel
theorem dX6_lines_7 : decode cX6_lines 7 = .ok (.ldc2_w 194, 3) := by decide +kernel
theorem dX6_lines_10 : decode cX6_lines 10 = .ok (.invokevirtual 179, 3) := by decide +kernel
theorem dX6_lines_13 : decode cX6_lines 13 = .ok (.ireturn, 1) := by decide +kernel
set_option maxRecDepth 20000 in
theorem ggX6_even_X6_ofSixty : GoodIn wsX6_even wsX6_ofSixty := goodIn_r _ [6, 7, 8, 9, 5, 10, 11, 12, 13, 14, 15, 16, 17, 18, 19, 20, 21, 22, 23, 24, 25] (by decide +kernel) (by decide +kernel)
set_option maxRecDepth 20000 in
theorem gX6_even_X6_ofSixty : GoodIn wsX6_even (wsV RX6 191 RX6 yX6_ofSixty wsX6_ofSixty) := goodIn_app (goodIn_of _ (by decide +kernel)) ggX6_even_X6_ofSixty
theorem dX6_even_0 : decode cX6_even 0 = .ok (.iconst 0, 1) := by decide +kernel
theorem dX6_even_1 : decode cX6_even 1 = .ok (.istore_n 1, 1) := by decide +kernel
theorem dX6_even_2 : decode cX6_even 2 = .ok (.ldc 187, 2) := by decide +kernel
theorem dX6_even_4 : decode cX6_even 4 = .ok (.istore_n 2, 1) := by decide +kernel
theorem dX6_even_5 : decode cX6_even 5 = .ok (.iconst 0, 1) := by decide +kernel
theorem dX6_even_6 : decode cX6_even 6 = .ok (.istore_n 3, 1) := by decide +kernel
theorem dX6_even_7 : decode cX6_even 7 = .ok (.iload_n 3, 1) := by decide +kernel
theorem dX6_even_8 : decode cX6_even 8 = .ok (.bipush 30, 2) := by decide +kernel
theorem dX6_even_10 : decode cX6_even 10 = .ok (.if_icmp .ge 59, 3) := by decide +kernel
theorem dX6_even_13 : decode cX6_even 13 = .ok (.aload_n 0, 1) := by decide +kernel
theorem dX6_even_14 : decode cX6_even 14 = .ok (.iload_n 3, 1) := by decide +kernel
theorem dX6_even_15 : decode cX6_even 15 = .ok (.invokevirtual 191, 3) := by decide +kernel
theorem dX6_even_18 : decode cX6_even 18 = .ok (.bipush 30, 2) := by decide +kernel
theorem dX6_even_20 : decode cX6_even 20 = .ok (.isub, 1) := by decide +kernel
theorem dX6_even_21 : decode cX6_even 21 = .ok (.istore 4, 2) := by decide +kernel
theorem dX6_even_23 : decode cX6_even 23 = .ok (.iload 4, 2) := by decide +kernel
theorem dX6_even_25 : decode cX6_even 25 = .ok (.ifCond .ge 9, 3) := by decide +kernel
theorem dX6_even_28 : decode cX6_even 28 = .ok (.iload 4, 2) := by decide +kernel
theorem dX6_even_30 : decode cX6_even 30 = .ok (.ineg, 1) := by decide +kernel
theorem dX6_even_31 : decode cX6_even 31 = .ok (.goto 5, 3) := by decide +kernel
theorem dX6_even_34 : decode cX6_even 34 = .ok (.iload 4, 2) := by decide +kernel
theorem dX6_even_36 : decode cX6_even 36 = .ok (.istore 4, 2) := by decide +kernel
theorem dX6_even_38 : decode cX6_even 38 = .ok (.iload 4, 2) := by decide +kernel
theorem dX6_even_40 : decode cX6_even 40 = .ok (.iload_n 2, 1) := by decide +kernel
theorem dX6_even_41 : decode cX6_even 41 = .ok (.if_icmp .ge 7, 3) := by decide +kernel
theorem dX6_even_44 : decode cX6_even 44 = .ok (.iload_n 3, 1) := by decide +kernel
theorem dX6_even_45 : decode cX6_even 45 = .ok (.goto 4, 3) := by decide +kernel
theorem dX6_even_48 : decode cX6_even 48 = .ok (.iload_n 1, 1) := by decide +kernel
theorem dX6_even_49 : decode cX6_even 49 = .ok (.istore_n 1, 1) := by decide +kernel
theorem dX6_even_50 : decode cX6_even 50 = .ok (.iload 4, 2) := by decide +kernel
theorem dX6_even_52 : decode cX6_even 52 = .ok (.iload_n 2, 1) := by decide +kernel
theorem dX6_even_53 : decode cX6_even 53 = .ok (.if_icmp .ge 8, 3) := by decide +kernel
theorem dX6_even_56 : decode cX6_even 56 = .ok (.iload 4, 2) := by decide +kernel
theorem dX6_even_58 : decode cX6_even 58 = .ok (.goto 4, 3) := by decide +kernel
theorem dX6_even_61 : decode cX6_even 61 = .ok (.iload_n 2, 1) := by decide +kernel
theorem dX6_even_62 : decode cX6_even 62 = .ok (.istore_n 2, 1) := by decide +kernel
theorem dX6_even_63 : decode cX6_even 63 = .ok (.iinc 3 1, 3) := by decide +kernel
theorem dX6_even_66 : decode cX6_even 66 = .ok (.goto (-59), 3) := by decide +kernel
theorem dX6_even_69 : decode cX6_even 69 = .ok (.iload_n 1, 1) := by decide +kernel
theorem dX6_even_70 : decode cX6_even 70 = .ok (.ireturn, 1) := by decide +kernel
set_option maxRecDepth 20000 in
theorem ggX6_note_X6_isLift : GoodIn wsX6_note wsX6_isLift := goodIn_r _ [7, 2, 8, 9, 6, 10, 24, 25, 26, 27, 28, 29, 30, 31, 32, 33, 34, 35, 36, 37, 38] (by decide +kernel) (by decide +kernel)
set_option maxRecDepth 20000 in
theorem gX6_note_X6_isLift : GoodIn wsX6_note (wsV RX6 146 RX6 yX6_isLift wsX6_isLift) := goodIn_app (goodIn_of _ (by decide +kernel)) ggX6_note_X6_isLift
set_option maxRecDepth 20000 in
theorem ggX6_note_X6_isFloor : GoodIn wsX6_note wsX6_isFloor := goodIn_r _ [14, 2, 8, 9, 6, 10, 24, 25, 26, 27, 28, 29, 30, 31, 32, 33, 34, 35, 36, 37, 38] (by decide +kernel) (by decide +kernel)
set_option maxRecDepth 20000 in
theorem gX6_note_X6_isFloor : GoodIn wsX6_note (wsV RX6 167 RX6 yX6_isFloor wsX6_isFloor) := goodIn_app (goodIn_of _ (by decide +kernel)) ggX6_note_X6_isFloor
set_option maxRecDepth 20000 in
theorem ggX6_note_X6_in : GoodIn wsX6_note wsX6_in := goodIn_r _ [10] (by decide +kernel) (by decide +kernel)
set_option maxRecDepth 20000 in
theorem gX6_note_X6_in : GoodIn wsX6_note (va_wsS RX6 34 yX6_in wsX6_in) := goodIn_app (goodIn_of _ (by decide +kernel)) ggX6_note_X6_in
set_option maxRecDepth 20000 in
theorem ggX6_note_X6_bad : GoodIn wsX6_note wsX6_bad := goodIn_r _ [18, 19, 24, 25, 26, 27, 28, 29, 30, 31, 32, 33, 34, 35, 36, 37, 38] (by decide +kernel) (by decide +kernel)
set_option maxRecDepth 20000 in
theorem gX6_note_X6_bad : GoodIn wsX6_note (wsV RX6 42 RX6 yX6_bad wsX6_bad) := goodIn_app (goodIn_of _ (by decide +kernel)) ggX6_note_X6_bad
set_option maxRecDepth 20000 in
theorem ggX6_note_X6_full : GoodIn wsX6_note wsX6_full := goodIn_r _ [23, 19, 24, 25, 26, 27, 28, 29, 30, 31, 32, 33, 34, 35, 36, 37, 38] (by decide +kernel) (by decide +kernel)
set_option maxRecDepth 20000 in
theorem gX6_note_X6_full : GoodIn wsX6_note (wsV RX6 50 RX6 yX6_full wsX6_full) := goodIn_app (goodIn_of _ (by decide +kernel)) ggX6_note_X6_full
theorem dX6_note_0 : decode cX6_note 0 = .ok (.aload_n 0, 1) := by decide +kernel
theorem dX6_note_1 : decode cX6_note 1 = .ok (.iload_n 1, 1) := by decide +kernel
theorem dX6_note_2 : decode cX6_note 2 = .ok (.invokevirtual 146, 3) := by decide +kernel
theorem dX6_note_5 : decode cX6_note 5 = .ok (.ifCond .eq 34, 3) := by decide +kernel
theorem dX6_note_8 : decode cX6_note 8 = .ok (.aload_n 0, 1) := by decide +kernel
theorem dX6_note_9 : decode cX6_note 9 = .ok (.iload_n 2, 1) := by decide +kernel
theorem dX6_note_10 : decode cX6_note 10 = .ok (.invokevirtual 167, 3) := by decide +kernel
theorem dX6_note_13 : decode cX6_note 13 = .ok (.ifCond .eq 26, 3) := by decide +kernel
theorem dX6_note_16 : decode cX6_note 16 = .ok (.iload_n 3, 1) := by decide +kernel
theorem dX6_note_17 : decode cX6_note 17 = .ok (.i2l, 1) := by decide +kernel
theorem dX6_note_18 : decode cX6_note 18 = .ok (.lconst 0, 1) := by decide +kernel
theorem dX6_note_19 : decode cX6_note 19 = .ok (.ldc2_w 48, 3) := by decide +kernel
theorem dX6_note_22 : decode cX6_note 22 = .ok (.invokestatic 34, 3) := by decide +kernel
theorem dX6_note_25 : decode cX6_note 25 = .ok (.ifCond .eq 14, 3) := by decide +kernel
theorem dX6_note_28 : decode cX6_note 28 = .ok (.iload 4, 2) := by decide +kernel
theorem dX6_note_30 : decode cX6_note 30 = .ok (.i2l, 1) := by decide +kernel
theorem dX6_note_31 : decode cX6_note 31 = .ok (.lconst 0, 1) := by decide +kernel
theorem dX6_note_32 : decode cX6_note 32 = .ok (.lconst 1, 1) := by decide +kernel
theorem dX6_note_33 : decode cX6_note 33 = .ok (.invokestatic 34, 3) := by decide +kernel
theorem dX6_note_36 : decode cX6_note 36 = .ok (.ifCond .ne 8, 3) := by decide +kernel
theorem dX6_note_39 : decode cX6_note 39 = .ok (.aload_n 0, 1) := by decide +kernel
theorem dX6_note_40 : decode cX6_note 40 = .ok (.invokevirtual 42, 3) := by decide +kernel
theorem dX6_note_43 : decode cX6_note 43 = .ok (.ireturn, 1) := by decide +kernel
theorem dX6_note_44 : decode cX6_note 44 = .ok (.aload_n 0, 1) := by decide +kernel
theorem dX6_note_45 : decode cX6_note 45 = .ok (.getfield 7, 3) := by decide +kernel
theorem dX6_note_48 : decode cX6_note 48 = .ok (.iconst 3, 1) := by decide +kernel
theorem dX6_note_49 : decode cX6_note 49 = .ok (.iaload, 1) := by decide +kernel
theorem dX6_note_50 : decode cX6_note 50 = .ok (.bipush 6, 2) := by decide +kernel
theorem dX6_note_52 : decode cX6_note 52 = .ok (.if_icmp .ne 8, 3) := by decide +kernel
theorem dX6_note_55 : decode cX6_note 55 = .ok (.aload_n 0, 1) := by decide +kernel
theorem dX6_note_56 : decode cX6_note 56 = .ok (.invokevirtual 50, 3) := by decide +kernel
theorem dX6_note_59 : decode cX6_note 59 = .ok (.ireturn, 1) := by decide +kernel
theorem dX6_note_60 : decode cX6_note 60 = .ok (.bipush 17, 2) := by decide +kernel
theorem dX6_note_62 : decode cX6_note 62 = .ok (.iconst 4, 1) := by decide +kernel
theorem dX6_note_63 : decode cX6_note 63 = .ok (.aload_n 0, 1) := by decide +kernel
theorem dX6_note_64 : decode cX6_note 64 = .ok (.getfield 7, 3) := by decide +kernel
theorem dX6_note_67 : decode cX6_note 67 = .ok (.iconst 3, 1) := by decide +kernel
theorem dX6_note_68 : decode cX6_note 68 = .ok (.iaload, 1) := by decide +kernel
theorem dX6_note_69 : decode cX6_note 69 = .ok (.imul, 1) := by decide +kernel
theorem dX6_note_70 : decode cX6_note 70 = .ok (.iadd, 1) := by decide +kernel
theorem dX6_note_71 : decode cX6_note 71 = .ok (.istore 5, 2) := by decide +kernel
theorem dX6_note_73 : decode cX6_note 73 = .ok (.aload_n 0, 1) := by decide +kernel
theorem dX6_note_74 : decode cX6_note 74 = .ok (.getfield 7, 3) := by decide +kernel
theorem dX6_note_77 : decode cX6_note 77 = .ok (.iload 5, 2) := by decide +kernel
theorem dX6_note_79 : decode cX6_note 79 = .ok (.iload_n 1, 1) := by decide +kernel
theorem dX6_note_80 : decode cX6_note 80 = .ok (.iastore, 1) := by decide +kernel
theorem dX6_note_81 : decode cX6_note 81 = .ok (.aload_n 0, 1) := by decide +kernel
theorem dX6_note_82 : decode cX6_note 82 = .ok (.getfield 7, 3) := by decide +kernel
theorem dX6_note_85 : decode cX6_note 85 = .ok (.iload 5, 2) := by decide +kernel
theorem dX6_note_87 : decode cX6_note 87 = .ok (.iconst 1, 1) := by decide +kernel
theorem dX6_note_88 : decode cX6_note 88 = .ok (.iadd, 1) := by decide +kernel
theorem dX6_note_89 : decode cX6_note 89 = .ok (.iload_n 2, 1) := by decide +kernel
theorem dX6_note_90 : decode cX6_note 90 = .ok (.iastore, 1) := by decide +kernel
theorem dX6_note_91 : decode cX6_note 91 = .ok (.aload_n 0, 1) := by decide +kernel
theorem dX6_note_92 : decode cX6_note 92 = .ok (.getfield 7, 3) := by decide +kernel
theorem dX6_note_95 : decode cX6_note 95 = .ok (.iload 5, 2) := by decide +kernel
theorem dX6_note_97 : decode cX6_note 97 = .ok (.iconst 2, 1) := by decide +kernel
theorem dX6_note_98 : decode cX6_note 98 = .ok (.iadd, 1) := by decide +kernel
theorem dX6_note_99 : decode cX6_note 99 = .ok (.iload_n 3, 1) := by decide +kernel
theorem dX6_note_100 : decode cX6_note 100 = .ok (.iastore, 1) := by decide +kernel
theorem dX6_note_101 : decode cX6_note 101 = .ok (.aload_n 0, 1) := by decide +kernel
theorem dX6_note_102 : decode cX6_note 102 = .ok (.getfield 7, 3) := by decide +kernel
theorem dX6_note_105 : decode cX6_note 105 = .ok (.iload 5, 2) := by decide +kernel
theorem dX6_note_107 : decode cX6_note 107 = .ok (.iconst 3, 1) := by decide +kernel
theorem dX6_note_108 : decode cX6_note 108 = .ok (.iadd, 1) := by decide +kernel
theorem dX6_note_109 : decode cX6_note 109 = .ok (.iload 4, 2) := by decide +kernel
theorem dX6_note_111 : decode cX6_note 111 = .ok (.iastore, 1) := by decide +kernel
theorem dX6_note_112 : decode cX6_note 112 = .ok (.aload_n 0, 1) := by decide +kernel
theorem dX6_note_113 : decode cX6_note 113 = .ok (.getfield 7, 3) := by decide +kernel
theorem dX6_note_116 : decode cX6_note 116 = .ok (.iconst 3, 1) := by decide +kernel
theorem dX6_note_117 : decode cX6_note 117 = .ok (.dup2, 1) := by decide +kernel
theorem dX6_note_118 : decode cX6_note 118 = .ok (.iaload, 1) := by decide +kernel
theorem dX6_note_119 : decode cX6_note 119 = .ok (.iconst 1, 1) := by decide +kernel
theorem dX6_note_120 : decode cX6_note 120 = .ok (.iadd, 1) := by decide +kernel
theorem dX6_note_121 : decode cX6_note 121 = .ok (.iastore, 1) := by decide +kernel
theorem dX6_note_122 : decode cX6_note 122 = .ok (.aload_n 0, 1) := by decide +kernel
theorem dX6_note_123 : decode cX6_note 123 = .ok (.getfield 7, 3) := by decide +kernel
theorem dX6_note_126 : decode cX6_note 126 = .ok (.iconst 3, 1) := by decide +kernel
theorem dX6_note_127 : decode cX6_note 127 = .ok (.iaload, 1) := by decide +kernel
theorem dX6_note_128 : decode cX6_note 128 = .ok (.ireturn, 1) := by decide +kernel
theorem dX6_forget_0 : decode cX6_forget 0 = .ok (.aload_n 0, 1) := by decide +kernel
theorem dX6_forget_1 : decode cX6_forget 1 = .ok (.getfield 7, 3) := by decide +kernel
theorem dX6_forget_4 : decode cX6_forget 4 = .ok (.iconst 3, 1) := by decide +kernel
theorem dX6_forget_5 : decode cX6_forget 5 = .ok (.iaload, 1) := by decide +kernel
theorem dX6_forget_6 : decode cX6_forget 6 = .ok (.istore_n 1, 1) := by decide +kernel
theorem dX6_forget_7 : decode cX6_forget 7 = .ok (.aload_n 0, 1) := by decide +kernel
theorem dX6_forget_8 : decode cX6_forget 8 = .ok (.getfield 7, 3) := by decide +kernel
theorem dX6_forget_11 : decode cX6_forget 11 = .ok (.iconst 3, 1) := by decide +kernel
theorem dX6_forget_12 : decode cX6_forget 12 = .ok (.iconst 0, 1) := by decide +kernel
theorem dX6_forget_13 : decode cX6_forget 13 = .ok (.iastore, 1) := by decide +kernel
theorem dX6_forget_14 : decode cX6_forget 14 = .ok (.iload_n 1, 1) := by decide +kernel
theorem dX6_forget_15 : decode cX6_forget 15 = .ok (.ireturn, 1) := by decide +kernel
set_option maxRecDepth 20000 in
theorem ggX6_isSo_X6_floorOf : GoodIn wsX6_isSo wsX6_floorOf := goodIn_r _ [6, 1, 7, 8, 9, 5, 10, 11, 12, 13, 14, 15, 16, 17, 18, 19, 20, 21, 22, 23, 24, 25, 26, 27, 28, 29, 30, 31, 32, 33] (by decide +kernel) (by decide +kernel)
set_option maxRecDepth 20000 in
theorem gX6_isSo_X6_floorOf : GoodIn wsX6_isSo (wsV RX6 132 RX6 yX6_floorOf wsX6_floorOf) := goodIn_app (goodIn_of _ (by decide +kernel)) ggX6_isSo_X6_floorOf
theorem dX6_isSo_0 : decode cX6_isSo 0 = .ok (.iconst 1, 1) := by decide +kernel
theorem dX6_isSo_1 : decode cX6_isSo 1 = .ok (.istore 4, 2) := by decide +kernel
theorem dX6_isSo_3 : decode cX6_isSo 3 = .ok (.iconst 0, 1) := by decide +kernel
theorem dX6_isSo_4 : decode cX6_isSo 4 = .ok (.istore 5, 2) := by decide +kernel
theorem dX6_isSo_6 : decode cX6_isSo 6 = .ok (.iload 5, 2) := by decide +kernel
theorem dX6_isSo_8 : decode cX6_isSo 8 = .ok (.aload_n 0, 1) := by decide +kernel
theorem dX6_isSo_9 : decode cX6_isSo 9 = .ok (.getfield 7, 3) := by decide +kernel
theorem dX6_isSo_12 : decode cX6_isSo 12 = .ok (.iconst 3, 1) := by decide +kernel
theorem dX6_isSo_13 : decode cX6_isSo 13 = .ok (.iaload, 1) := by decide +kernel
theorem dX6_isSo_14 : decode cX6_isSo 14 = .ok (.if_icmp .ge 94, 3) := by decide +kernel
theorem dX6_isSo_17 : decode cX6_isSo 17 = .ok (.bipush 17, 2) := by decide +kernel
theorem dX6_isSo_19 : decode cX6_isSo 19 = .ok (.iconst 4, 1) := by decide +kernel
theorem dX6_isSo_20 : decode cX6_isSo 20 = .ok (.iload 5, 2) := by decide +kernel
theorem dX6_isSo_22 : decode cX6_isSo 22 = .ok (.imul, 1) := by decide +kernel
theorem dX6_isSo_23 : decode cX6_isSo 23 = .ok (.iadd, 1) := by decide +kernel
theorem dX6_isSo_24 : decode cX6_isSo 24 = .ok (.istore 6, 2) := by decide +kernel
theorem dX6_isSo_26 : decode cX6_isSo 26 = .ok (.iload 4, 2) := by decide +kernel
theorem dX6_isSo_28 : decode cX6_isSo 28 = .ok (.ifCond .eq 71, 3) := by decide +kernel
theorem dX6_isSo_31 : decode cX6_isSo 31 = .ok (.aload_n 0, 1) := by decide +kernel
theorem dX6_isSo_32 : decode cX6_isSo 32 = .ok (.getfield 7, 3) := by decide +kernel
theorem dX6_isSo_35 : decode cX6_isSo 35 = .ok (.iload 6, 2) := by decide +kernel
theorem dX6_isSo_37 : decode cX6_isSo 37 = .ok (.iaload, 1) := by decide +kernel
theorem dX6_isSo_38 : decode cX6_isSo 38 = .ok (.iload_n 1, 1) := by decide +kernel
theorem dX6_isSo_39 : decode cX6_isSo 39 = .ok (.if_icmp .ne 56, 3) := by decide +kernel
theorem dX6_isSo_42 : decode cX6_isSo 42 = .ok (.aload_n 0, 1) := by decide +kernel
theorem dX6_isSo_43 : decode cX6_isSo 43 = .ok (.iload_n 2, 1) := by decide +kernel
theorem dX6_isSo_44 : decode cX6_isSo 44 = .ok (.iload_n 3, 1) := by decide +kernel
theorem dX6_isSo_45 : decode cX6_isSo 45 = .ok (.aload_n 0, 1) := by decide +kernel
theorem dX6_isSo_46 : decode cX6_isSo 46 = .ok (.getfield 7, 3) := by decide +kernel
theorem dX6_isSo_49 : decode cX6_isSo 49 = .ok (.iload 6, 2) := by decide +kernel
theorem dX6_isSo_51 : decode cX6_isSo 51 = .ok (.iconst 2, 1) := by decide +kernel
theorem dX6_isSo_52 : decode cX6_isSo 52 = .ok (.iadd, 1) := by decide +kernel
theorem dX6_isSo_53 : decode cX6_isSo 53 = .ok (.iaload, 1) := by decide +kernel
theorem dX6_isSo_54 : decode cX6_isSo 54 = .ok (.invokevirtual 132, 3) := by decide +kernel
theorem dX6_isSo_57 : decode cX6_isSo 57 = .ok (.aload_n 0, 1) := by decide +kernel
theorem dX6_isSo_58 : decode cX6_isSo 58 = .ok (.getfield 7, 3) := by decide +kernel
theorem dX6_isSo_61 : decode cX6_isSo 61 = .ok (.iload 6, 2) := by decide +kernel
theorem dX6_isSo_63 : decode cX6_isSo 63 = .ok (.iconst 1, 1) := by decide +kernel
theorem dX6_isSo_64 : decode cX6_isSo 64 = .ok (.iadd, 1) := by decide +kernel
theorem dX6_isSo_65 : decode cX6_isSo 65 = .ok (.iaload, 1) := by decide +kernel
theorem dX6_isSo_66 : decode cX6_isSo 66 = .ok (.if_icmp .ne 7, 3) := by decide +kernel
theorem dX6_isSo_69 : decode cX6_isSo 69 = .ok (.iconst 1, 1) := by decide +kernel
theorem dX6_isSo_70 : decode cX6_isSo 70 = .ok (.goto 4, 3) := by decide +kernel
theorem dX6_isSo_73 : decode cX6_isSo 73 = .ok (.iconst 0, 1) := by decide +kernel
theorem dX6_isSo_74 : decode cX6_isSo 74 = .ok (.aload_n 0, 1) := by decide +kernel
theorem dX6_isSo_75 : decode cX6_isSo 75 = .ok (.getfield 7, 3) := by decide +kernel
theorem dX6_isSo_78 : decode cX6_isSo 78 = .ok (.iload 6, 2) := by decide +kernel
theorem dX6_isSo_80 : decode cX6_isSo 80 = .ok (.iconst 3, 1) := by decide +kernel
theorem dX6_isSo_81 : decode cX6_isSo 81 = .ok (.iadd, 1) := by decide +kernel
theorem dX6_isSo_82 : decode cX6_isSo 82 = .ok (.iaload, 1) := by decide +kernel
theorem dX6_isSo_83 : decode cX6_isSo 83 = .ok (.iconst 1, 1) := by decide +kernel
theorem dX6_isSo_84 : decode cX6_isSo 84 = .ok (.if_icmp .ne 7, 3) := by decide +kernel
theorem dX6_isSo_87 : decode cX6_isSo 87 = .ok (.iconst 1, 1) := by decide +kernel
theorem dX6_isSo_88 : decode cX6_isSo 88 = .ok (.goto 4, 3) := by decide +kernel
theorem dX6_isSo_91 : decode cX6_isSo 91 = .ok (.iconst 0, 1) := by decide +kernel
theorem dX6_isSo_92 : decode cX6_isSo 92 = .ok (.if_icmp .ne 7, 3) := by decide +kernel
theorem dX6_isSo_95 : decode cX6_isSo 95 = .ok (.iconst 1, 1) := by decide +kernel
theorem dX6_isSo_96 : decode cX6_isSo 96 = .ok (.goto 4, 3) := by decide +kernel
theorem dX6_isSo_99 : decode cX6_isSo 99 = .ok (.iconst 0, 1) := by decide +kernel
theorem dX6_isSo_100 : decode cX6_isSo 100 = .ok (.istore 4, 2) := by decide +kernel
theorem dX6_isSo_102 : decode cX6_isSo 102 = .ok (.iinc 5 1, 3) := by decide +kernel
theorem dX6_isSo_105 : decode cX6_isSo 105 = .ok (.goto (-99), 3) := by decide +kernel
theorem dX6_isSo_108 : decode cX6_isSo 108 = .ok (.iload 4, 2) := by decide +kernel
theorem dX6_isSo_110 : decode cX6_isSo 110 = .ok (.ireturn, 1) := by decide +kernel
set_option maxRecDepth 20000 in
theorem ggX6_kindsOf_X6_isSo : GoodIn wsX6_kindsOf wsX6_isSo := goodIn_r _ [6, 1, 7, 8, 9, 5, 10, 11, 12, 13, 14, 15, 16, 17, 18, 19, 20, 21, 22, 23, 24, 25, 26, 27, 28, 29, 30, 31, 32, 33, 34, 35, 36, 37] (by decide +kernel) (by decide +kernel)
set_option maxRecDepth 20000 in
theorem gX6_kindsOf_X6_isSo : GoodIn wsX6_kindsOf (wsV RX6 196 RX6 yX6_isSo wsX6_isSo) := goodIn_app (goodIn_of _ (by decide +kernel)) ggX6_kindsOf_X6_isSo
theorem dX6_kindsOf_0 : decode cX6_kindsOf 0 = .ok (.iconst 0, 1) := by decide +kernel
theorem dX6_kindsOf_1 : decode cX6_kindsOf 1 = .ok (.istore_n 2, 1) := by decide +kernel
theorem dX6_kindsOf_2 : decode cX6_kindsOf 2 = .ok (.iconst 0, 1) := by decide +kernel
theorem dX6_kindsOf_3 : decode cX6_kindsOf 3 = .ok (.istore_n 3, 1) := by decide +kernel
theorem dX6_kindsOf_4 : decode cX6_kindsOf 4 = .ok (.iload_n 3, 1) := by decide +kernel
theorem dX6_kindsOf_5 : decode cX6_kindsOf 5 = .ok (.iconst 5, 1) := by decide +kernel
theorem dX6_kindsOf_6 : decode cX6_kindsOf 6 = .ok (.if_icmp .gt 37, 3) := by decide +kernel
theorem dX6_kindsOf_9 : decode cX6_kindsOf 9 = .ok (.iload_n 2, 1) := by decide +kernel
theorem dX6_kindsOf_10 : decode cX6_kindsOf 10 = .ok (.aload_n 0, 1) := by decide +kernel
theorem dX6_kindsOf_11 : decode cX6_kindsOf 11 = .ok (.iload_n 1, 1) := by decide +kernel
theorem dX6_kindsOf_12 : decode cX6_kindsOf 12 = .ok (.iload_n 3, 1) := by decide +kernel
theorem dX6_kindsOf_13 : decode cX6_kindsOf 13 = .ok (.aload_n 0, 1) := by decide +kernel
theorem dX6_kindsOf_14 : decode cX6_kindsOf 14 = .ok (.getfield 7, 3) := by decide +kernel
theorem dX6_kindsOf_17 : decode cX6_kindsOf 17 = .ok (.bipush 9, 2) := by decide +kernel
theorem dX6_kindsOf_19 : decode cX6_kindsOf 19 = .ok (.iload_n 1, 1) := by decide +kernel
theorem dX6_kindsOf_20 : decode cX6_kindsOf 20 = .ok (.iadd, 1) := by decide +kernel
theorem dX6_kindsOf_21 : decode cX6_kindsOf 21 = .ok (.iaload, 1) := by decide +kernel
theorem dX6_kindsOf_22 : decode cX6_kindsOf 22 = .ok (.invokevirtual 196, 3) := by decide +kernel
theorem dX6_kindsOf_25 : decode cX6_kindsOf 25 = .ok (.ifCond .eq 9, 3) := by decide +kernel
theorem dX6_kindsOf_28 : decode cX6_kindsOf 28 = .ok (.iconst 1, 1) := by decide +kernel
theorem dX6_kindsOf_29 : decode cX6_kindsOf 29 = .ok (.iload_n 3, 1) := by decide +kernel
theorem dX6_kindsOf_30 : decode cX6_kindsOf 30 = .ok (.ishl, 1) := by decide +kernel
theorem dX6_kindsOf_31 : decode cX6_kindsOf 31 = .ok (.goto 4, 3) := by decide +kernel
theorem dX6_kindsOf_34 : decode cX6_kindsOf 34 = .ok (.iconst 0, 1) := by decide +kernel
theorem dX6_kindsOf_35 : decode cX6_kindsOf 35 = .ok (.ior, 1) := by decide +kernel
theorem dX6_kindsOf_36 : decode cX6_kindsOf 36 = .ok (.istore_n 2, 1) := by decide +kernel
theorem dX6_kindsOf_37 : decode cX6_kindsOf 37 = .ok (.iinc 3 1, 3) := by decide +kernel
theorem dX6_kindsOf_40 : decode cX6_kindsOf 40 = .ok (.goto (-36), 3) := by decide +kernel
theorem dX6_kindsOf_43 : decode cX6_kindsOf 43 = .ok (.iload_n 2, 1) := by decide +kernel
theorem dX6_kindsOf_44 : decode cX6_kindsOf 44 = .ok (.ireturn, 1) := by decide +kernel
set_option maxRecDepth 20000 in
theorem ggX6_is_X6_isLift : GoodIn wsX6_is wsX6_isLift := goodIn_r _ [6, 1, 7, 8, 5, 9, 39, 40, 41, 42, 43, 44, 45, 46, 47, 48, 49, 50, 51, 52, 53] (by decide +kernel) (by decide +kernel)
set_option maxRecDepth 20000 in
theorem gX6_is_X6_isLift : GoodIn wsX6_is (wsV RX6 146 RX6 yX6_isLift wsX6_isLift) := goodIn_app (goodIn_of _ (by decide +kernel)) ggX6_is_X6_isLift
set_option maxRecDepth 20000 in
theorem ggX6_is_X6_in : GoodIn wsX6_is wsX6_in := goodIn_r _ [9] (by decide +kernel) (by decide +kernel)
set_option maxRecDepth 20000 in
theorem gX6_is_X6_in : GoodIn wsX6_is (va_wsS RX6 34 yX6_in wsX6_in) := goodIn_app (goodIn_of _ (by decide +kernel)) ggX6_is_X6_in
set_option maxRecDepth 20000 in
theorem ggX6_is_X6_bad : GoodIn wsX6_is wsX6_bad := goodIn_r _ [13, 14, 39, 40, 41, 42, 43, 44, 45, 46, 47, 48, 49, 50, 51, 52, 53] (by decide +kernel) (by decide +kernel)
set_option maxRecDepth 20000 in
theorem gX6_is_X6_bad : GoodIn wsX6_is (wsV RX6 42 RX6 yX6_bad wsX6_bad) := goodIn_app (goodIn_of _ (by decide +kernel)) ggX6_is_X6_bad
set_option maxRecDepth 20000 in
theorem ggX6_is_X6_kindsOf : GoodIn wsX6_is wsX6_kindsOf := goodIn_r _ [18, 1, 19, 20, 21, 5, 22, 23, 24, 25, 26, 27, 28, 29, 30, 31, 32, 33, 34, 35, 36, 37, 38, 39, 40, 41, 42, 43, 44, 45, 46, 47, 48, 49, 50, 51, 52, 53] (by decide +kernel) (by decide +kernel)
set_option maxRecDepth 20000 in
theorem gX6_is_X6_kindsOf : GoodIn wsX6_is (wsV RX6 199 RX6 yX6_kindsOf wsX6_kindsOf) := goodIn_app (goodIn_of _ (by decide +kernel)) ggX6_is_X6_kindsOf
set_option maxRecDepth 20000 in
theorem ggX6_is_X6_isSo : GoodIn wsX6_is wsX6_isSo := goodIn_r _ [22, 1, 23, 24, 25, 5, 26, 27, 28, 29, 30, 31, 32, 33, 34, 35, 36, 37, 38, 39, 40, 41, 42, 43, 44, 45, 46, 47, 48, 49, 50, 51, 52, 53] (by decide +kernel) (by decide +kernel)
set_option maxRecDepth 20000 in
theorem gX6_is_X6_isSo : GoodIn wsX6_is (wsV RX6 196 RX6 yX6_isSo wsX6_isSo) := goodIn_app (goodIn_of _ (by decide +kernel)) ggX6_is_X6_isSo
theorem dX6_is_0 : decode cX6_is 0 = .ok (.aload_n 0, 1) := by decide +kernel
theorem dX6_is_1 : decode cX6_is 1 = .ok (.iload_n 1, 1) := by decide +kernel
theorem dX6_is_2 : decode cX6_is 2 = .ok (.invokevirtual 146, 3) := by decide +kernel
theorem dX6_is_5 : decode cX6_is 5 = .ok (.ifCond .eq 13, 3) := by decide +kernel
theorem dX6_is_8 : decode cX6_is 8 = .ok (.iload_n 2, 1) := by decide +kernel
theorem dX6_is_9 : decode cX6_is 9 = .ok (.i2l, 1) := by decide +kernel
theorem dX6_is_10 : decode cX6_is 10 = .ok (.lconst 0, 1) := by decide +kernel
theorem dX6_is_11 : decode cX6_is 11 = .ok (.lconst 1, 1) := by decide +kernel
theorem dX6_is_12 : decode cX6_is 12 = .ok (.invokestatic 34, 3) := by decide +kernel
theorem dX6_is_15 : decode cX6_is 15 = .ok (.ifCond .ne 8, 3) := by decide +kernel
theorem dX6_is_18 : decode cX6_is 18 = .ok (.aload_n 0, 1) := by decide +kernel
theorem dX6_is_19 : decode cX6_is 19 = .ok (.invokevirtual 42, 3) := by decide +kernel
theorem dX6_is_22 : decode cX6_is 22 = .ok (.ireturn, 1) := by decide +kernel
theorem dX6_is_23 : decode cX6_is 23 = .ok (.iload_n 2, 1) := by decide +kernel
theorem dX6_is_24 : decode cX6_is 24 = .ok (.ifCond .ne 9, 3) := by decide +kernel
theorem dX6_is_27 : decode cX6_is 27 = .ok (.aload_n 0, 1) := by decide +kernel
theorem dX6_is_28 : decode cX6_is 28 = .ok (.iload_n 1, 1) := by decide +kernel
theorem dX6_is_29 : decode cX6_is 29 = .ok (.invokevirtual 199, 3) := by decide +kernel
theorem dX6_is_32 : decode cX6_is 32 = .ok (.ireturn, 1) := by decide +kernel
theorem dX6_is_33 : decode cX6_is 33 = .ok (.iconst 0, 1) := by decide +kernel
theorem dX6_is_34 : decode cX6_is 34 = .ok (.istore_n 3, 1) := by decide +kernel
theorem dX6_is_35 : decode cX6_is 35 = .ok (.iconst 0, 1) := by decide +kernel
theorem dX6_is_36 : decode cX6_is 36 = .ok (.istore 4, 2) := by decide +kernel
theorem dX6_is_38 : decode cX6_is 38 = .ok (.iload 4, 2) := by decide +kernel
theorem dX6_is_40 : decode cX6_is 40 = .ok (.bipush 100, 2) := by decide +kernel
theorem dX6_is_42 : decode cX6_is 42 = .ok (.if_icmp .ge 35, 3) := by decide +kernel
theorem dX6_is_45 : decode cX6_is 45 = .ok (.iload_n 3, 1) := by decide +kernel
theorem dX6_is_46 : decode cX6_is 46 = .ok (.aload_n 0, 1) := by decide +kernel
theorem dX6_is_47 : decode cX6_is 47 = .ok (.iload_n 1, 1) := by decide +kernel
theorem dX6_is_48 : decode cX6_is 48 = .ok (.aload_n 0, 1) := by decide +kernel
theorem dX6_is_49 : decode cX6_is 49 = .ok (.getfield 7, 3) := by decide +kernel
theorem dX6_is_52 : decode cX6_is 52 = .ok (.iconst 5, 1) := by decide +kernel
theorem dX6_is_53 : decode cX6_is 53 = .ok (.iload_n 1, 1) := by decide +kernel
theorem dX6_is_54 : decode cX6_is 54 = .ok (.iadd, 1) := by decide +kernel
theorem dX6_is_55 : decode cX6_is 55 = .ok (.iaload, 1) := by decide +kernel
theorem dX6_is_56 : decode cX6_is 56 = .ok (.iload 4, 2) := by decide +kernel
theorem dX6_is_58 : decode cX6_is 58 = .ok (.invokevirtual 196, 3) := by decide +kernel
theorem dX6_is_61 : decode cX6_is 61 = .ok (.ifCond .eq 7, 3) := by decide +kernel
theorem dX6_is_64 : decode cX6_is 64 = .ok (.iconst 1, 1) := by decide +kernel
theorem dX6_is_65 : decode cX6_is 65 = .ok (.goto 4, 3) := by decide +kernel
theorem dX6_is_68 : decode cX6_is 68 = .ok (.iconst 0, 1) := by decide +kernel
theorem dX6_is_69 : decode cX6_is 69 = .ok (.iadd, 1) := by decide +kernel
theorem dX6_is_70 : decode cX6_is 70 = .ok (.istore_n 3, 1) := by decide +kernel
theorem dX6_is_71 : decode cX6_is 71 = .ok (.iinc 4 1, 3) := by decide +kernel
theorem dX6_is_74 : decode cX6_is 74 = .ok (.goto (-36), 3) := by decide +kernel
theorem dX6_is_77 : decode cX6_is 77 = .ok (.iload_n 3, 1) := by decide +kernel
theorem dX6_is_78 : decode cX6_is 78 = .ok (.ireturn, 1) := by decide +kernel
set_option maxRecDepth 20000 in
theorem ggX6_look_X6_isLift : GoodIn wsX6_look wsX6_isLift := goodIn_r _ [7, 2, 8, 9, 6, 10, 47, 48, 49, 50, 51, 52, 53, 54, 55, 56, 57, 58, 59, 60, 61] (by decide +kernel) (by decide +kernel)
set_option maxRecDepth 20000 in
theorem gX6_look_X6_isLift : GoodIn wsX6_look (wsV RX6 146 RX6 yX6_isLift wsX6_isLift) := goodIn_app (goodIn_of _ (by decide +kernel)) ggX6_look_X6_isLift
set_option maxRecDepth 20000 in
theorem ggX6_look_X6_isFloor : GoodIn wsX6_look wsX6_isFloor := goodIn_r _ [14, 2, 8, 9, 6, 10, 47, 48, 49, 50, 51, 52, 53, 54, 55, 56, 57, 58, 59, 60, 61] (by decide +kernel) (by decide +kernel)
set_option maxRecDepth 20000 in
theorem gX6_look_X6_isFloor : GoodIn wsX6_look (wsV RX6 167 RX6 yX6_isFloor wsX6_isFloor) := goodIn_app (goodIn_of _ (by decide +kernel)) ggX6_look_X6_isFloor
set_option maxRecDepth 20000 in
theorem ggX6_look_X6_bad : GoodIn wsX6_look wsX6_bad := goodIn_r _ [18, 19, 47, 48, 49, 50, 51, 52, 53, 54, 55, 56, 57, 58, 59, 60, 61] (by decide +kernel) (by decide +kernel)
set_option maxRecDepth 20000 in
theorem gX6_look_X6_bad : GoodIn wsX6_look (wsV RX6 42 RX6 yX6_bad wsX6_bad) := goodIn_app (goodIn_of _ (by decide +kernel)) ggX6_look_X6_bad
set_option maxRecDepth 20000 in
theorem ggX6_look_X6_kindsOf : GoodIn wsX6_look wsX6_kindsOf := goodIn_r _ [23, 2, 24, 25, 26, 6, 27, 28, 29, 30, 31, 32, 33, 34, 35, 36, 37, 38, 39, 40, 41, 42, 43, 47, 48, 49, 50, 51, 52, 53, 54, 55, 56, 57, 58, 59, 60, 61] (by decide +kernel) (by decide +kernel)
set_option maxRecDepth 20000 in
theorem gX6_look_X6_kindsOf : GoodIn wsX6_look (wsV RX6 199 RX6 yX6_kindsOf wsX6_kindsOf) := goodIn_app (goodIn_of _ (by decide +kernel)) ggX6_look_X6_kindsOf
set_option maxRecDepth 20000 in
theorem ggX6_look_X6_floorOf : GoodIn wsX6_look wsX6_floorOf := goodIn_r _ [31, 2, 32, 33, 34, 6, 35, 36, 37, 38, 39, 40, 41, 42, 43, 47, 48, 49, 50, 51, 52, 53, 54, 55, 56, 57, 58, 59, 60, 61] (by decide +kernel) (by decide +kernel)
set_option maxRecDepth 20000 in
theorem gX6_look_X6_floorOf : GoodIn wsX6_look (wsV RX6 132 RX6 yX6_floorOf wsX6_floorOf) := goodIn_app (goodIn_of _ (by decide +kernel)) ggX6_look_X6_floorOf
set_option maxRecDepth 20000 in
theorem ggX6_look_X6_has : GoodIn wsX6_look wsX6_has := goodIn_r _ [46] (by decide +kernel) (by decide +kernel)
set_option maxRecDepth 20000 in
theorem gX6_look_X6_has : GoodIn wsX6_look (va_wsS RX6 155 yX6_has wsX6_has) := goodIn_app (goodIn_of _ (by decide +kernel)) ggX6_look_X6_has
theorem dX6_look_0 : decode cX6_look 0 = .ok (.aload_n 0, 1) := by decide +kernel
theorem dX6_look_1 : decode cX6_look 1 = .ok (.iload_n 1, 1) := by decide +kernel
theorem dX6_look_2 : decode cX6_look 2 = .ok (.invokevirtual 146, 3) := by decide +kernel
theorem dX6_look_5 : decode cX6_look 5 = .ok (.ifCond .eq 11, 3) := by decide +kernel
theorem dX6_look_8 : decode cX6_look 8 = .ok (.aload_n 0, 1) := by decide +kernel
theorem dX6_look_9 : decode cX6_look 9 = .ok (.iload_n 2, 1) := by decide +kernel
theorem dX6_look_10 : decode cX6_look 10 = .ok (.invokevirtual 167, 3) := by decide +kernel
theorem dX6_look_13 : decode cX6_look 13 = .ok (.ifCond .ne 8, 3) := by decide +kernel
theorem dX6_look_16 : decode cX6_look 16 = .ok (.aload_n 0, 1) := by decide +kernel
theorem dX6_look_17 : decode cX6_look 17 = .ok (.invokevirtual 42, 3) := by decide +kernel
theorem dX6_look_20 : decode cX6_look 20 = .ok (.ireturn, 1) := by decide +kernel
theorem dX6_look_21 : decode cX6_look 21 = .ok (.aload_n 0, 1) := by decide +kernel
theorem dX6_look_22 : decode cX6_look 22 = .ok (.iload_n 1, 1) := by decide +kernel
theorem dX6_look_23 : decode cX6_look 23 = .ok (.invokevirtual 199, 3) := by decide +kernel
theorem dX6_look_26 : decode cX6_look 26 = .ok (.istore_n 3, 1) := by decide +kernel
theorem dX6_look_27 : decode cX6_look 27 = .ok (.iconst (-1), 1) := by decide +kernel
theorem dX6_look_28 : decode cX6_look 28 = .ok (.istore 4, 2) := by decide +kernel
theorem dX6_look_30 : decode cX6_look 30 = .ok (.ldc 187, 2) := by decide +kernel
theorem dX6_look_32 : decode cX6_look 32 = .ok (.istore 5, 2) := by decide +kernel
theorem dX6_look_34 : decode cX6_look 34 = .ok (.iconst 0, 1) := by decide +kernel
theorem dX6_look_35 : decode cX6_look 35 = .ok (.istore 6, 2) := by decide +kernel
theorem dX6_look_37 : decode cX6_look 37 = .ok (.iload 6, 2) := by decide +kernel
theorem dX6_look_39 : decode cX6_look 39 = .ok (.bipush 30, 2) := by decide +kernel
theorem dX6_look_41 : decode cX6_look 41 = .ok (.if_icmp .gt 158, 3) := by decide +kernel
theorem dX6_look_44 : decode cX6_look 44 = .ok (.iload_n 3, 1) := by decide +kernel
theorem dX6_look_45 : decode cX6_look 45 = .ok (.ifCond .eq 154, 3) := by decide +kernel
theorem dX6_look_48 : decode cX6_look 48 = .ok (.iconst 0, 1) := by decide +kernel
theorem dX6_look_49 : decode cX6_look 49 = .ok (.istore 7, 2) := by decide +kernel
theorem dX6_look_51 : decode cX6_look 51 = .ok (.iconst 0, 1) := by decide +kernel
theorem dX6_look_52 : decode cX6_look 52 = .ok (.istore 8, 2) := by decide +kernel
theorem dX6_look_54 : decode cX6_look 54 = .ok (.iconst 0, 1) := by decide +kernel
theorem dX6_look_55 : decode cX6_look 55 = .ok (.istore 9, 2) := by decide +kernel
theorem dX6_look_57 : decode cX6_look 57 = .ok (.iload 9, 2) := by decide +kernel
theorem dX6_look_59 : decode cX6_look 59 = .ok (.iconst 5, 1) := by decide +kernel
theorem dX6_look_60 : decode cX6_look 60 = .ok (.if_icmp .gt 85, 3) := by decide +kernel
theorem dX6_look_63 : decode cX6_look 63 = .ok (.aload_n 0, 1) := by decide +kernel
theorem dX6_look_64 : decode cX6_look 64 = .ok (.iload 9, 2) := by decide +kernel
theorem dX6_look_66 : decode cX6_look 66 = .ok (.aload_n 0, 1) := by decide +kernel
theorem dX6_look_67 : decode cX6_look 67 = .ok (.getfield 7, 3) := by decide +kernel
theorem dX6_look_70 : decode cX6_look 70 = .ok (.bipush 9, 2) := by decide +kernel
theorem dX6_look_72 : decode cX6_look 72 = .ok (.iload_n 1, 1) := by decide +kernel
theorem dX6_look_73 : decode cX6_look 73 = .ok (.iadd, 1) := by decide +kernel
theorem dX6_look_74 : decode cX6_look 74 = .ok (.iaload, 1) := by decide +kernel
theorem dX6_look_75 : decode cX6_look 75 = .ok (.iload 6, 2) := by decide +kernel
theorem dX6_look_77 : decode cX6_look 77 = .ok (.invokevirtual 132, 3) := by decide +kernel
theorem dX6_look_80 : decode cX6_look 80 = .ok (.iload_n 2, 1) := by decide +kernel
theorem dX6_look_81 : decode cX6_look 81 = .ok (.if_icmp .ne 7, 3) := by decide +kernel
theorem dX6_look_84 : decode cX6_look 84 = .ok (.iconst 1, 1) := by decide +kernel
theorem dX6_look_85 : decode cX6_look 85 = .ok (.goto 4, 3) := by decide +kernel
theorem dX6_look_88 : decode cX6_look 88 = .ok (.iconst 0, 1) := by decide +kernel
theorem dX6_look_89 : decode cX6_look 89 = .ok (.istore 10, 2) := by decide +kernel
theorem dX6_look_91 : decode cX6_look 91 = .ok (.iload 7, 2) := by decide +kernel
theorem dX6_look_93 : decode cX6_look 93 = .ok (.iload_n 3, 1) := by decide +kernel
theorem dX6_look_94 : decode cX6_look 94 = .ok (.iload 9, 2) := by decide +kernel
theorem dX6_look_96 : decode cX6_look 96 = .ok (.invokestatic 155, 3) := by decide +kernel
theorem dX6_look_99 : decode cX6_look 99 = .ok (.ifCond .eq 12, 3) := by decide +kernel
theorem dX6_look_102 : decode cX6_look 102 = .ok (.iload 10, 2) := by decide +kernel
theorem dX6_look_104 : decode cX6_look 104 = .ok (.ifCond .eq 7, 3) := by decide +kernel
theorem dX6_look_107 : decode cX6_look 107 = .ok (.iconst 1, 1) := by decide +kernel
theorem dX6_look_108 : decode cX6_look 108 = .ok (.goto 4, 3) := by decide +kernel
theorem dX6_look_111 : decode cX6_look 111 = .ok (.iconst 0, 1) := by decide +kernel
theorem dX6_look_112 : decode cX6_look 112 = .ok (.iadd, 1) := by decide +kernel
theorem dX6_look_113 : decode cX6_look 113 = .ok (.istore 7, 2) := by decide +kernel
theorem dX6_look_115 : decode cX6_look 115 = .ok (.iload 8, 2) := by decide +kernel
theorem dX6_look_117 : decode cX6_look 117 = .ok (.iload_n 3, 1) := by decide +kernel
theorem dX6_look_118 : decode cX6_look 118 = .ok (.iload 9, 2) := by decide +kernel
theorem dX6_look_120 : decode cX6_look 120 = .ok (.invokestatic 155, 3) := by decide +kernel
theorem dX6_look_123 : decode cX6_look 123 = .ok (.ifCond .eq 12, 3) := by decide +kernel
theorem dX6_look_126 : decode cX6_look 126 = .ok (.iload 10, 2) := by decide +kernel
theorem dX6_look_128 : decode cX6_look 128 = .ok (.ifCond .ne 7, 3) := by decide +kernel
theorem dX6_look_131 : decode cX6_look 131 = .ok (.iconst 1, 1) := by decide +kernel
theorem dX6_look_132 : decode cX6_look 132 = .ok (.goto 4, 3) := by decide +kernel
theorem dX6_look_135 : decode cX6_look 135 = .ok (.iconst 0, 1) := by decide +kernel
theorem dX6_look_136 : decode cX6_look 136 = .ok (.iadd, 1) := by decide +kernel
theorem dX6_look_137 : decode cX6_look 137 = .ok (.istore 8, 2) := by decide +kernel
theorem dX6_look_139 : decode cX6_look 139 = .ok (.iinc 9 1, 3) := by decide +kernel
theorem dX6_look_142 : decode cX6_look 142 = .ok (.goto (-85), 3) := by decide +kernel
theorem dX6_look_145 : decode cX6_look 145 = .ok (.iload 7, 2) := by decide +kernel
theorem dX6_look_147 : decode cX6_look 147 = .ok (.iload 8, 2) := by decide +kernel
theorem dX6_look_149 : decode cX6_look 149 = .ok (.if_icmp .le 8, 3) := by decide +kernel
theorem dX6_look_152 : decode cX6_look 152 = .ok (.iload 7, 2) := by decide +kernel
theorem dX6_look_154 : decode cX6_look 154 = .ok (.goto 5, 3) := by decide +kernel
theorem dX6_look_157 : decode cX6_look 157 = .ok (.iload 8, 2) := by decide +kernel
theorem dX6_look_159 : decode cX6_look 159 = .ok (.istore 9, 2) := by decide +kernel
theorem dX6_look_161 : decode cX6_look 161 = .ok (.iload 9, 2) := by decide +kernel
theorem dX6_look_163 : decode cX6_look 163 = .ok (.iload 5, 2) := by decide +kernel
theorem dX6_look_165 : decode cX6_look 165 = .ok (.if_icmp .ge 8, 3) := by decide +kernel
theorem dX6_look_168 : decode cX6_look 168 = .ok (.iload 6, 2) := by decide +kernel
theorem dX6_look_170 : decode cX6_look 170 = .ok (.goto 5, 3) := by decide +kernel
theorem dX6_look_173 : decode cX6_look 173 = .ok (.iload 4, 2) := by decide +kernel
theorem dX6_look_175 : decode cX6_look 175 = .ok (.istore 4, 2) := by decide +kernel
theorem dX6_look_177 : decode cX6_look 177 = .ok (.iload 9, 2) := by decide +kernel
theorem dX6_look_179 : decode cX6_look 179 = .ok (.iload 5, 2) := by decide +kernel
theorem dX6_look_181 : decode cX6_look 181 = .ok (.if_icmp .ge 8, 3) := by decide +kernel
theorem dX6_look_184 : decode cX6_look 184 = .ok (.iload 9, 2) := by decide +kernel
theorem dX6_look_186 : decode cX6_look 186 = .ok (.goto 5, 3) := by decide +kernel
theorem dX6_look_189 : decode cX6_look 189 = .ok (.iload 5, 2) := by decide +kernel
theorem dX6_look_191 : decode cX6_look 191 = .ok (.istore 5, 2) := by decide +kernel
theorem dX6_look_193 : decode cX6_look 193 = .ok (.iinc 6 1, 3) := by decide +kernel
theorem dX6_look_196 : decode cX6_look 196 = .ok (.goto (-159), 3) := by decide +kernel
theorem dX6_look_199 : decode cX6_look 199 = .ok (.iload 4, 2) := by decide +kernel
theorem dX6_look_201 : decode cX6_look 201 = .ok (.ireturn, 1) := by decide +kernel
set_option maxRecDepth 20000 in
theorem ggX6_porters_X6_isFloor : GoodIn wsX6_porters wsX6_isFloor := goodIn_r _ [9, 3, 10, 11, 8, 12, 68, 69, 70, 71, 72, 73, 74, 75, 76, 77, 78, 79, 80, 81, 82] (by decide +kernel) (by decide +kernel)
set_option maxRecDepth 20000 in
theorem gX6_porters_X6_isFloor : GoodIn wsX6_porters (wsV RX6 167 RX6 yX6_isFloor wsX6_isFloor) := goodIn_app (goodIn_of _ (by decide +kernel)) ggX6_porters_X6_isFloor
set_option maxRecDepth 20000 in
theorem ggX6_porters_X6_isMinute : GoodIn wsX6_porters wsX6_isMinute := goodIn_r _ [15, 16, 10, 11, 8, 12] (by decide +kernel) (by decide +kernel)
set_option maxRecDepth 20000 in
theorem gX6_porters_X6_isMinute : GoodIn wsX6_porters (va_wsS RX6 152 yX6_isMinute wsX6_isMinute) := goodIn_app (goodIn_of _ (by decide +kernel)) ggX6_porters_X6_isMinute
set_option maxRecDepth 20000 in
theorem ggX6_porters_X6_in : GoodIn wsX6_porters wsX6_in := goodIn_r _ [12] (by decide +kernel) (by decide +kernel)
set_option maxRecDepth 20000 in
theorem gX6_porters_X6_in : GoodIn wsX6_porters (va_wsS RX6 34 yX6_in wsX6_in) := goodIn_app (goodIn_of _ (by decide +kernel)) ggX6_porters_X6_in
set_option maxRecDepth 20000 in
theorem ggX6_porters_X6_bad : GoodIn wsX6_porters wsX6_bad := goodIn_r _ [20, 21, 68, 69, 70, 71, 72, 73, 74, 75, 76, 77, 78, 79, 80, 81, 82] (by decide +kernel) (by decide +kernel)
set_option maxRecDepth 20000 in
theorem gX6_porters_X6_bad : GoodIn wsX6_porters (wsV RX6 42 RX6 yX6_bad wsX6_bad) := goodIn_app (goodIn_of _ (by decide +kernel)) ggX6_porters_X6_bad
set_option maxRecDepth 20000 in
theorem ggX6_porters_X6_has : GoodIn wsX6_porters wsX6_has := goodIn_r _ [24] (by decide +kernel) (by decide +kernel)
set_option maxRecDepth 20000 in
theorem gX6_porters_X6_has : GoodIn wsX6_porters (va_wsS RX6 155 yX6_has wsX6_has) := goodIn_app (goodIn_of _ (by decide +kernel)) ggX6_porters_X6_has
set_option maxRecDepth 20000 in
theorem ggX6_porters_X6_comes : GoodIn wsX6_porters wsX6_comes := goodIn_r _ [28, 3, 29, 4, 22, 23, 8, 24, 30, 31, 32, 33, 34, 35, 36, 37, 38, 39, 40, 41, 42, 43, 44, 45, 46, 47, 48, 49, 50, 51, 52, 53, 54, 55, 56, 57, 58, 59, 60, 61, 68, 69, 70, 71, 72, 73, 74, 75, 76, 77, 78, 79, 80, 81, 82] (by decide +kernel) (by decide +kernel)
set_option maxRecDepth 20000 in
theorem gX6_porters_X6_comes : GoodIn wsX6_porters (wsV RX6 172 RX6 yX6_comes wsX6_comes) := goodIn_app (goodIn_of _ (by decide +kernel)) ggX6_porters_X6_comes
set_option maxRecDepth 20000 in
theorem ggX6_porters_X6_tells : GoodIn wsX6_porters wsX6_tells := goodIn_r _ [65, 66, 67, 68, 69, 70, 71, 72, 73, 74, 75, 76, 77, 78, 79, 80, 81, 82] (by decide +kernel) (by decide +kernel)
set_option maxRecDepth 20000 in
theorem gX6_porters_X6_tells : GoodIn wsX6_porters (wsV RX6 179 RX6 yX6_tells wsX6_tells) := goodIn_app (goodIn_of _ (by decide +kernel)) ggX6_porters_X6_tells
theorem dX6_porters_0 : decode cX6_porters 0 = .ok (.aload_n 0, 1) := by decide +kernel
theorem dX6_porters_1 : decode cX6_porters 1 = .ok (.iload_n 1, 1) := by decide +kernel
theorem dX6_porters_2 : decode cX6_porters 2 = .ok (.invokevirtual 167, 3) := by decide +kernel
theorem dX6_porters_5 : decode cX6_porters 5 = .ok (.ifCond .eq 35, 3) := by decide +kernel
theorem dX6_porters_8 : decode cX6_porters 8 = .ok (.iload_n 2, 1) := by decide +kernel
theorem dX6_porters_9 : decode cX6_porters 9 = .ok (.invokestatic 152, 3) := by decide +kernel
theorem dX6_porters_12 : decode cX6_porters 12 = .ok (.ifCond .eq 28, 3) := by decide +kernel
theorem dX6_porters_15 : decode cX6_porters 15 = .ok (.iload_n 3, 1) := by decide +kernel
theorem dX6_porters_16 : decode cX6_porters 16 = .ok (.i2l, 1) := by decide +kernel
theorem dX6_porters_17 : decode cX6_porters 17 = .ok (.lconst 0, 1) := by decide +kernel
theorem dX6_porters_18 : decode cX6_porters 18 = .ok (.ldc2_w 202, 3) := by decide +kernel
theorem dX6_porters_21 : decode cX6_porters 21 = .ok (.invokestatic 34, 3) := by decide +kernel
theorem dX6_porters_24 : decode cX6_porters 24 = .ok (.ifCond .eq 16, 3) := by decide +kernel
theorem dX6_porters_27 : decode cX6_porters 27 = .ok (.iload 4, 2) := by decide +kernel
theorem dX6_porters_29 : decode cX6_porters 29 = .ok (.i2l, 1) := by decide +kernel
theorem dX6_porters_30 : decode cX6_porters 30 = .ok (.lconst 0, 1) := by decide +kernel
theorem dX6_porters_31 : decode cX6_porters 31 = .ok (.ldc2_w 204, 3) := by decide +kernel
theorem dX6_porters_34 : decode cX6_porters 34 = .ok (.invokestatic 34, 3) := by decide +kernel
theorem dX6_porters_37 : decode cX6_porters 37 = .ok (.ifCond .ne 8, 3) := by decide +kernel
theorem dX6_porters_40 : decode cX6_porters 40 = .ok (.aload_n 0, 1) := by decide +kernel
theorem dX6_porters_41 : decode cX6_porters 41 = .ok (.invokevirtual 42, 3) := by decide +kernel
theorem dX6_porters_44 : decode cX6_porters 44 = .ok (.ireturn, 1) := by decide +kernel
theorem dX6_porters_45 : decode cX6_porters 45 = .ok (.iconst 0, 1) := by decide +kernel
theorem dX6_porters_46 : decode cX6_porters 46 = .ok (.istore 5, 2) := by decide +kernel
theorem dX6_porters_48 : decode cX6_porters 48 = .ok (.iconst 1, 1) := by decide +kernel
theorem dX6_porters_49 : decode cX6_porters 49 = .ok (.istore 6, 2) := by decide +kernel
theorem dX6_porters_51 : decode cX6_porters 51 = .ok (.iconst 0, 1) := by decide +kernel
theorem dX6_porters_52 : decode cX6_porters 52 = .ok (.istore 7, 2) := by decide +kernel
theorem dX6_porters_54 : decode cX6_porters 54 = .ok (.iload 7, 2) := by decide +kernel
theorem dX6_porters_56 : decode cX6_porters 56 = .ok (.aload_n 0, 1) := by decide +kernel
theorem dX6_porters_57 : decode cX6_porters 57 = .ok (.getfield 7, 3) := by decide +kernel
theorem dX6_porters_60 : decode cX6_porters 60 = .ok (.iconst 0, 1) := by decide +kernel
theorem dX6_porters_61 : decode cX6_porters 61 = .ok (.iaload, 1) := by decide +kernel
theorem dX6_porters_62 : decode cX6_porters 62 = .ok (.if_icmp .ge 16, 3) := by decide +kernel
theorem dX6_porters_65 : decode cX6_porters 65 = .ok (.iload 6, 2) := by decide +kernel
theorem dX6_porters_67 : decode cX6_porters 67 = .ok (.bipush 10, 2) := by decide +kernel
theorem dX6_porters_69 : decode cX6_porters 69 = .ok (.imul, 1) := by decide +kernel
theorem dX6_porters_70 : decode cX6_porters 70 = .ok (.istore 6, 2) := by decide +kernel
theorem dX6_porters_72 : decode cX6_porters 72 = .ok (.iinc 7 1, 3) := by decide +kernel
theorem dX6_porters_75 : decode cX6_porters 75 = .ok (.goto (-21), 3) := by decide +kernel
theorem dX6_porters_78 : decode cX6_porters 78 = .ok (.iconst 0, 1) := by decide +kernel
theorem dX6_porters_79 : decode cX6_porters 79 = .ok (.istore 7, 2) := by decide +kernel
theorem dX6_porters_81 : decode cX6_porters 81 = .ok (.iload 7, 2) := by decide +kernel
theorem dX6_porters_83 : decode cX6_porters 83 = .ok (.iconst 1, 1) := by decide +kernel
theorem dX6_porters_84 : decode cX6_porters 84 = .ok (.aload_n 0, 1) := by decide +kernel
theorem dX6_porters_85 : decode cX6_porters 85 = .ok (.getfield 7, 3) := by decide +kernel
theorem dX6_porters_88 : decode cX6_porters 88 = .ok (.iconst 0, 1) := by decide +kernel
theorem dX6_porters_89 : decode cX6_porters 89 = .ok (.iaload, 1) := by decide +kernel
theorem dX6_porters_90 : decode cX6_porters 90 = .ok (.ishl, 1) := by decide +kernel
theorem dX6_porters_91 : decode cX6_porters 91 = .ok (.if_icmp .ge 90, 3) := by decide +kernel
theorem dX6_porters_94 : decode cX6_porters 94 = .ok (.iconst 1, 1) := by decide +kernel
theorem dX6_porters_95 : decode cX6_porters 95 = .ok (.istore 8, 2) := by decide +kernel
theorem dX6_porters_97 : decode cX6_porters 97 = .ok (.iconst 0, 1) := by decide +kernel
theorem dX6_porters_98 : decode cX6_porters 98 = .ok (.istore 9, 2) := by decide +kernel
theorem dX6_porters_100 : decode cX6_porters 100 = .ok (.iload 9, 2) := by decide +kernel
theorem dX6_porters_102 : decode cX6_porters 102 = .ok (.aload_n 0, 1) := by decide +kernel
theorem dX6_porters_103 : decode cX6_porters 103 = .ok (.getfield 7, 3) := by decide +kernel
theorem dX6_porters_106 : decode cX6_porters 106 = .ok (.iconst 0, 1) := by decide +kernel
theorem dX6_porters_107 : decode cX6_porters 107 = .ok (.iaload, 1) := by decide +kernel
theorem dX6_porters_108 : decode cX6_porters 108 = .ok (.if_icmp .ge 34, 3) := by decide +kernel
theorem dX6_porters_111 : decode cX6_porters 111 = .ok (.iload 8, 2) := by decide +kernel
theorem dX6_porters_113 : decode cX6_porters 113 = .ok (.iload 7, 2) := by decide +kernel
theorem dX6_porters_115 : decode cX6_porters 115 = .ok (.iload 9, 2) := by decide +kernel
theorem dX6_porters_117 : decode cX6_porters 117 = .ok (.invokestatic 155, 3) := by decide +kernel
theorem dX6_porters_120 : decode cX6_porters 120 = .ok (.ifCond .eq 11, 3) := by decide +kernel
theorem dX6_porters_123 : decode cX6_porters 123 = .ok (.bipush 10, 2) := by decide +kernel
theorem dX6_porters_125 : decode cX6_porters 125 = .ok (.iload 4, 2) := by decide +kernel
theorem dX6_porters_127 : decode cX6_porters 127 = .ok (.isub, 1) := by decide +kernel
theorem dX6_porters_128 : decode cX6_porters 128 = .ok (.goto 5, 3) := by decide +kernel
theorem dX6_porters_131 : decode cX6_porters 131 = .ok (.iload 4, 2) := by decide +kernel
theorem dX6_porters_133 : decode cX6_porters 133 = .ok (.imul, 1) := by decide +kernel
theorem dX6_porters_134 : decode cX6_porters 134 = .ok (.istore 8, 2) := by decide +kernel
theorem dX6_porters_136 : decode cX6_porters 136 = .ok (.iinc 9 1, 3) := by decide +kernel
theorem dX6_porters_139 : decode cX6_porters 139 = .ok (.goto (-39), 3) := by decide +kernel
theorem dX6_porters_142 : decode cX6_porters 142 = .ok (.iload 5, 2) := by decide +kernel
theorem dX6_porters_144 : decode cX6_porters 144 = .ok (.aload_n 0, 1) := by decide +kernel
theorem dX6_porters_145 : decode cX6_porters 145 = .ok (.iload_n 1, 1) := by decide +kernel
theorem dX6_porters_146 : decode cX6_porters 146 = .ok (.iload_n 2, 1) := by decide +kernel
theorem dX6_porters_147 : decode cX6_porters 147 = .ok (.iload 7, 2) := by decide +kernel
theorem dX6_porters_149 : decode cX6_porters 149 = .ok (.iconst 2, 1) := by decide +kernel
theorem dX6_porters_150 : decode cX6_porters 150 = .ok (.invokevirtual 172, 3) := by decide +kernel
theorem dX6_porters_153 : decode cX6_porters 153 = .ok (.ifCond .eq 18, 3) := by decide +kernel
theorem dX6_porters_156 : decode cX6_porters 156 = .ok (.aload_n 0, 1) := by decide +kernel
theorem dX6_porters_157 : decode cX6_porters 157 = .ok (.getfield 164, 3) := by decide +kernel
theorem dX6_porters_160 : decode cX6_porters 160 = .ok (.iload_n 2, 1) := by decide +kernel
theorem dX6_porters_161 : decode cX6_porters 161 = .ok (.isub, 1) := by decide +kernel
theorem dX6_porters_162 : decode cX6_porters 162 = .ok (.iload_n 3, 1) := by decide +kernel
theorem dX6_porters_163 : decode cX6_porters 163 = .ok (.if_icmp .gt 8, 3) := by decide +kernel
theorem dX6_porters_166 : decode cX6_porters 166 = .ok (.iload 8, 2) := by decide +kernel
theorem dX6_porters_168 : decode cX6_porters 168 = .ok (.goto 4, 3) := by decide +kernel
theorem dX6_porters_171 : decode cX6_porters 171 = .ok (.iconst 0, 1) := by decide +kernel
theorem dX6_porters_172 : decode cX6_porters 172 = .ok (.iadd, 1) := by decide +kernel
theorem dX6_porters_173 : decode cX6_porters 173 = .ok (.istore 5, 2) := by decide +kernel
theorem dX6_porters_175 : decode cX6_porters 175 = .ok (.iinc 7 1, 3) := by decide +kernel
theorem dX6_porters_178 : decode cX6_porters 178 = .ok (.goto (-97), 3) := by decide +kernel
theorem dX6_porters_181 : decode cX6_porters 181 = .ok (.aload_n 0, 1) := by decide +kernel
theorem dX6_porters_182 : decode cX6_porters 182 = .ok (.iload 5, 2) := by decide +kernel
theorem dX6_porters_184 : decode cX6_porters 184 = .ok (.i2l, 1) := by decide +kernel
theorem dX6_porters_185 : decode cX6_porters 185 = .ok (.iload 6, 2) := by decide +kernel
theorem dX6_porters_187 : decode cX6_porters 187 = .ok (.i2l, 1) := by decide +kernel
theorem dX6_porters_188 : decode cX6_porters 188 = .ok (.invokevirtual 179, 3) := by decide +kernel
theorem dX6_porters_191 : decode cX6_porters 191 = .ok (.ireturn, 1) := by decide +kernel
set_option maxRecDepth 20000 in
theorem ggX6_days_X6_isFloor : GoodIn wsX6_days wsX6_isFloor := goodIn_r _ [14, 15, 16, 17, 13, 18, 63, 64, 65, 66, 67, 68, 69, 70, 71, 72, 73, 74, 75, 76, 77] (by decide +kernel) (by decide +kernel)
set_option maxRecDepth 20000 in
theorem gX6_days_X6_isFloor : GoodIn wsX6_days (wsV RX6 167 RX6 yX6_isFloor wsX6_isFloor) := goodIn_app (goodIn_of _ (by decide +kernel)) ggX6_days_X6_isFloor
set_option maxRecDepth 20000 in
theorem ggX6_days_X6_in : GoodIn wsX6_days wsX6_in := goodIn_r _ [18] (by decide +kernel) (by decide +kernel)
set_option maxRecDepth 20000 in
theorem gX6_days_X6_in : GoodIn wsX6_days (va_wsS RX6 34 yX6_in wsX6_in) := goodIn_app (goodIn_of _ (by decide +kernel)) ggX6_days_X6_in
set_option maxRecDepth 20000 in
theorem ggX6_days_X6_bad : GoodIn wsX6_days wsX6_bad := goodIn_r _ [22, 23, 63, 64, 65, 66, 67, 68, 69, 70, 71, 72, 73, 74, 75, 76, 77] (by decide +kernel) (by decide +kernel)
set_option maxRecDepth 20000 in
theorem gX6_days_X6_bad : GoodIn wsX6_days (wsV RX6 42 RX6 yX6_bad wsX6_bad) := goodIn_app (goodIn_of _ (by decide +kernel)) ggX6_days_X6_bad
set_option maxRecDepth 20000 in
theorem ggX6_days_X6_comes : GoodIn wsX6_days wsX6_comes := goodIn_r _ [27, 15, 8, 9, 28, 29, 13, 30, 31, 32, 33, 34, 35, 36, 37, 38, 39, 40, 41, 42, 43, 44, 45, 46, 47, 48, 49, 50, 51, 52, 53, 54, 55, 56, 57, 58, 59, 60, 61, 62, 63, 64, 65, 66, 67, 68, 69, 70, 71, 72, 73, 74, 75, 76, 77] (by decide +kernel) (by decide +kernel)
set_option maxRecDepth 20000 in
theorem gX6_days_X6_comes : GoodIn wsX6_days (wsV RX6 172 RX6 yX6_comes wsX6_comes) := goodIn_app (goodIn_of _ (by decide +kernel)) ggX6_days_X6_comes
set_option maxRecDepth 20000 in
theorem ggX6_days_X6_wayIn : GoodIn wsX6_days wsX6_wayIn := goodIn_r _ [62, 15, 35, 36, 37, 13, 38, 39, 40, 41, 42, 43, 44, 45, 46, 47, 48, 49, 50, 51, 52, 53, 54, 63, 64, 65, 66, 67, 68, 69, 70, 71, 72, 73, 74, 75, 76, 77] (by decide +kernel) (by decide +kernel)
set_option maxRecDepth 20000 in
theorem gX6_days_X6_wayIn : GoodIn wsX6_days (wsV RX6 149 RX6 yX6_wayIn wsX6_wayIn) := goodIn_app (goodIn_of _ (by decide +kernel)) ggX6_days_X6_wayIn
theorem dX6_days_0 : decode cX6_days 0 = .ok (.aload_n 0, 1) := by decide +kernel
theorem dX6_days_1 : decode cX6_days 1 = .ok (.iload_n 1, 1) := by decide +kernel
theorem dX6_days_2 : decode cX6_days 2 = .ok (.invokevirtual 167, 3) := by decide +kernel
theorem dX6_days_5 : decode cX6_days 5 = .ok (.ifCond .eq 27, 3) := by decide +kernel
theorem dX6_days_8 : decode cX6_days 8 = .ok (.iload_n 2, 1) := by decide +kernel
theorem dX6_days_9 : decode cX6_days 9 = .ok (.i2l, 1) := by decide +kernel
theorem dX6_days_10 : decode cX6_days 10 = .ok (.lconst 0, 1) := by decide +kernel
theorem dX6_days_11 : decode cX6_days 11 = .ok (.ldc2_w 206, 3) := by decide +kernel
theorem dX6_days_14 : decode cX6_days 14 = .ok (.invokestatic 34, 3) := by decide +kernel
theorem dX6_days_17 : decode cX6_days 17 = .ok (.ifCond .eq 15, 3) := by decide +kernel
theorem dX6_days_20 : decode cX6_days 20 = .ok (.iload_n 3, 1) := by decide +kernel
theorem dX6_days_21 : decode cX6_days 21 = .ok (.i2l, 1) := by decide +kernel
theorem dX6_days_22 : decode cX6_days 22 = .ok (.lconst 0, 1) := by decide +kernel
theorem dX6_days_23 : decode cX6_days 23 = .ok (.ldc2_w 194, 3) := by decide +kernel
theorem dX6_days_26 : decode cX6_days 26 = .ok (.invokestatic 34, 3) := by decide +kernel
theorem dX6_days_29 : decode cX6_days 29 = .ok (.ifCond .ne 8, 3) := by decide +kernel
theorem dX6_days_32 : decode cX6_days 32 = .ok (.aload_n 0, 1) := by decide +kernel
theorem dX6_days_33 : decode cX6_days 33 = .ok (.invokevirtual 42, 3) := by decide +kernel
theorem dX6_days_36 : decode cX6_days 36 = .ok (.ireturn, 1) := by decide +kernel
theorem dX6_days_37 : decode cX6_days 37 = .ok (.iload_n 2, 1) := by decide +kernel
theorem dX6_days_38 : decode cX6_days 38 = .ok (.i2l, 1) := by decide +kernel
theorem dX6_days_39 : decode cX6_days 39 = .ok (.lstore 4, 2) := by decide +kernel
theorem dX6_days_41 : decode cX6_days 41 = .ok (.iconst 0, 1) := by decide +kernel
theorem dX6_days_42 : decode cX6_days 42 = .ok (.istore 6, 2) := by decide +kernel
theorem dX6_days_44 : decode cX6_days 44 = .ok (.iconst 0, 1) := by decide +kernel
theorem dX6_days_45 : decode cX6_days 45 = .ok (.istore 7, 2) := by decide +kernel
theorem dX6_days_47 : decode cX6_days 47 = .ok (.iload 7, 2) := by decide +kernel
theorem dX6_days_49 : decode cX6_days 49 = .ok (.iload_n 3, 1) := by decide +kernel
theorem dX6_days_50 : decode cX6_days 50 = .ok (.if_icmp .ge 72, 3) := by decide +kernel
theorem dX6_days_53 : decode cX6_days 53 = .ok (.lload 4, 2) := by decide +kernel
theorem dX6_days_55 : decode cX6_days 55 = .ok (.ldc2_w 208, 3) := by decide +kernel
theorem dX6_days_58 : decode cX6_days 58 = .ok (.lmul, 1) := by decide +kernel
theorem dX6_days_59 : decode cX6_days 59 = .ok (.ldc2_w 210, 3) := by decide +kernel
theorem dX6_days_62 : decode cX6_days 62 = .ok (.ladd, 1) := by decide +kernel
theorem dX6_days_63 : decode cX6_days 63 = .ok (.ldc2_w 212, 3) := by decide +kernel
theorem dX6_days_66 : decode cX6_days 66 = .ok (.lrem, 1) := by decide +kernel
theorem dX6_days_67 : decode cX6_days 67 = .ok (.lstore 4, 2) := by decide +kernel
theorem dX6_days_69 : decode cX6_days 69 = .ok (.lload 4, 2) := by decide +kernel
theorem dX6_days_71 : decode cX6_days 71 = .ok (.ldc2_w 214, 3) := by decide +kernel
theorem dX6_days_74 : decode cX6_days 74 = .ok (.ldiv, 1) := by decide +kernel
theorem dX6_days_75 : decode cX6_days 75 = .ok (.ldc2_w 216, 3) := by decide +kernel
theorem dX6_days_78 : decode cX6_days 78 = .ok (.lrem, 1) := by decide +kernel
theorem dX6_days_79 : decode cX6_days 79 = .ok (.l2i, 1) := by decide +kernel
theorem dX6_days_80 : decode cX6_days 80 = .ok (.istore 8, 2) := by decide +kernel
theorem dX6_days_82 : decode cX6_days 82 = .ok (.iload 6, 2) := by decide +kernel
theorem dX6_days_84 : decode cX6_days 84 = .ok (.aload_n 0, 1) := by decide +kernel
theorem dX6_days_85 : decode cX6_days 85 = .ok (.iload_n 1, 1) := by decide +kernel
theorem dX6_days_86 : decode cX6_days 86 = .ok (.iload 8, 2) := by decide +kernel
theorem dX6_days_88 : decode cX6_days 88 = .ok (.bipush 15, 2) := by decide +kernel
theorem dX6_days_90 : decode cX6_days 90 = .ok (.iconst 2, 1) := by decide +kernel
theorem dX6_days_91 : decode cX6_days 91 = .ok (.invokevirtual 172, 3) := by decide +kernel
theorem dX6_days_94 : decode cX6_days 94 = .ok (.ifCond .eq 18, 3) := by decide +kernel
theorem dX6_days_97 : decode cX6_days 97 = .ok (.aload_n 0, 1) := by decide +kernel
theorem dX6_days_98 : decode cX6_days 98 = .ok (.aload_n 0, 1) := by decide +kernel
theorem dX6_days_99 : decode cX6_days 99 = .ok (.getfield 161, 3) := by decide +kernel
theorem dX6_days_102 : decode cX6_days 102 = .ok (.aload_n 0, 1) := by decide +kernel
theorem dX6_days_103 : decode cX6_days 103 = .ok (.getfield 164, 3) := by decide +kernel
theorem dX6_days_106 : decode cX6_days 106 = .ok (.invokevirtual 149, 3) := by decide +kernel
theorem dX6_days_109 : decode cX6_days 109 = .ok (.goto 4, 3) := by decide +kernel
theorem dX6_days_112 : decode cX6_days 112 = .ok (.iconst 0, 1) := by decide +kernel
theorem dX6_days_113 : decode cX6_days 113 = .ok (.iadd, 1) := by decide +kernel
theorem dX6_days_114 : decode cX6_days 114 = .ok (.istore 6, 2) := by decide +kernel
theorem dX6_days_116 : decode cX6_days 116 = .ok (.iinc 7 1, 3) := by decide +kernel
theorem dX6_days_119 : decode cX6_days 119 = .ok (.goto (-72), 3) := by decide +kernel
theorem dX6_days_122 : decode cX6_days 122 = .ok (.iload 6, 2) := by decide +kernel
theorem dX6_days_124 : decode cX6_days 124 = .ok (.ireturn, 1) := by decide +kernel
set_option maxRecDepth 20000 in
theorem ggX6_part_X6_bad : GoodIn wsX6_part wsX6_bad := goodIn_r _ [7, 8, 9, 10, 11, 12, 13, 14, 15, 16, 17, 18, 19, 20, 21, 22, 23] (by decide +kernel) (by decide +kernel)
set_option maxRecDepth 20000 in
theorem gX6_part_X6_bad : GoodIn wsX6_part (wsV RX6 42 RX6 yX6_bad wsX6_bad) := goodIn_app (goodIn_of _ (by decide +kernel)) ggX6_part_X6_bad
theorem dX6_part_0 : decode cX6_part 0 = .ok (.iload_n 1, 1) := by decide +kernel
theorem dX6_part_1 : decode cX6_part 1 = .ok (.ifCond .ne 10, 3) := by decide +kernel
theorem dX6_part_4 : decode cX6_part 4 = .ok (.aload_n 0, 1) := by decide +kernel
theorem dX6_part_5 : decode cX6_part 5 = .ok (.getfield 176, 3) := by decide +kernel
theorem dX6_part_8 : decode cX6_part 8 = .ok (.goto 20, 3) := by decide +kernel
theorem dX6_part_11 : decode cX6_part 11 = .ok (.iload_n 1, 1) := by decide +kernel
theorem dX6_part_12 : decode cX6_part 12 = .ok (.iconst 1, 1) := by decide +kernel
theorem dX6_part_13 : decode cX6_part 13 = .ok (.if_icmp .ne 10, 3) := by decide +kernel
theorem dX6_part_16 : decode cX6_part 16 = .ok (.aload_n 0, 1) := by decide +kernel
theorem dX6_part_17 : decode cX6_part 17 = .ok (.getfield 23, 3) := by decide +kernel
theorem dX6_part_20 : decode cX6_part 20 = .ok (.goto 8, 3) := by decide +kernel
theorem dX6_part_23 : decode cX6_part 23 = .ok (.aload_n 0, 1) := by decide +kernel
theorem dX6_part_24 : decode cX6_part 24 = .ok (.invokevirtual 42, 3) := by decide +kernel
theorem dX6_part_27 : decode cX6_part 27 = .ok (.i2l, 1) := by decide +kernel
theorem dX6_part_28 : decode cX6_part 28 = .ok (.lreturn, 1) := by decide +kernel
set_option maxRecDepth 20000 in
theorem ggX6_image_X6_in : GoodIn wsX6_image wsX6_in := goodIn_r _ [5] (by decide +kernel) (by decide +kernel)
set_option maxRecDepth 20000 in
theorem gX6_image_X6_in : GoodIn wsX6_image (va_wsS RX6 34 yX6_in wsX6_in) := goodIn_app (goodIn_of _ (by decide +kernel)) ggX6_image_X6_in
set_option maxRecDepth 20000 in
theorem ggX6_image_X6_bad : GoodIn wsX6_image wsX6_bad := goodIn_r _ [9, 10, 16, 17, 18, 19, 20, 21, 22, 23, 24, 25, 26, 27, 28, 29, 30] (by decide +kernel) (by decide +kernel)
set_option maxRecDepth 20000 in
theorem gX6_image_X6_bad : GoodIn wsX6_image (wsV RX6 42 RX6 yX6_bad wsX6_bad) := goodIn_app (goodIn_of _ (by decide +kernel)) ggX6_image_X6_bad
set_option maxRecDepth 20000 in
theorem ggX6_image_X6_copy : GoodIn wsX6_image wsX6_copy := goodIn_r _ [14, 15, 16, 17, 18, 19, 20, 21, 22, 23, 24, 25, 26, 27, 28, 29, 30] (by decide +kernel) (by decide +kernel)
set_option maxRecDepth 20000 in
theorem gX6_image_X6_copy : GoodIn wsX6_image (wsV RX6 120 RX6 yX6_copy wsX6_copy) := goodIn_app (goodIn_of _ (by decide +kernel)) ggX6_image_X6_copy
theorem dX6_image_0 : decode cX6_image 0 = .ok (.iload_n 1, 1) := by decide +kernel
theorem dX6_image_1 : decode cX6_image 1 = .ok (.i2l, 1) := by decide +kernel
theorem dX6_image_2 : decode cX6_image 2 = .ok (.lconst 0, 1) := by decide +kernel
theorem dX6_image_3 : decode cX6_image 3 = .ok (.lconst 1, 1) := by decide +kernel
theorem dX6_image_4 : decode cX6_image 4 = .ok (.invokestatic 34, 3) := by decide +kernel
theorem dX6_image_7 : decode cX6_image 7 = .ok (.ifCond .ne 8, 3) := by decide +kernel
theorem dX6_image_10 : decode cX6_image 10 = .ok (.aload_n 0, 1) := by decide +kernel
theorem dX6_image_11 : decode cX6_image 11 = .ok (.invokevirtual 42, 3) := by decide +kernel
theorem dX6_image_14 : decode cX6_image 14 = .ok (.ireturn, 1) := by decide +kernel
theorem dX6_image_15 : decode cX6_image 15 = .ok (.aload_n 0, 1) := by decide +kernel
theorem dX6_image_16 : decode cX6_image 16 = .ok (.iconst 0, 1) := by decide +kernel
theorem dX6_image_17 : decode cX6_image 17 = .ok (.bipush 49, 2) := by decide +kernel
theorem dX6_image_19 : decode cX6_image 19 = .ok (.iconst 1, 1) := by decide +kernel
theorem dX6_image_20 : decode cX6_image 20 = .ok (.iload_n 1, 1) := by decide +kernel
theorem dX6_image_21 : decode cX6_image 21 = .ok (.iadd, 1) := by decide +kernel
theorem dX6_image_22 : decode cX6_image 22 = .ok (.imul, 1) := by decide +kernel
theorem dX6_image_23 : decode cX6_image 23 = .ok (.invokevirtual 120, 3) := by decide +kernel
theorem dX6_image_26 : decode cX6_image 26 = .ok (.aload_n 0, 1) := by decide +kernel
theorem dX6_image_27 : decode cX6_image 27 = .ok (.getfield 13, 3) := by decide +kernel
theorem dX6_image_30 : decode cX6_image 30 = .ok (.iload_n 1, 1) := by decide +kernel
theorem dX6_image_31 : decode cX6_image 31 = .ok (.iconst 1, 1) := by decide +kernel
theorem dX6_image_32 : decode cX6_image 32 = .ok (.bastore, 1) := by decide +kernel
theorem dX6_image_33 : decode cX6_image 33 = .ok (.iconst 1, 1) := by decide +kernel
theorem dX6_image_34 : decode cX6_image 34 = .ok (.ireturn, 1) := by decide +kernel
set_option maxRecDepth 20000 in
theorem ggX6_from_X6_in : GoodIn wsX6_from wsX6_in := goodIn_r _ [5] (by decide +kernel) (by decide +kernel)
set_option maxRecDepth 20000 in
theorem gX6_from_X6_in : GoodIn wsX6_from (va_wsS RX6 34 yX6_in wsX6_in) := goodIn_app (goodIn_of _ (by decide +kernel)) ggX6_from_X6_in
set_option maxRecDepth 20000 in
theorem ggX6_from_X6_bad : GoodIn wsX6_from wsX6_bad := goodIn_r _ [9, 10, 20, 21, 22, 23, 24, 25, 26, 27, 28, 29, 30, 31, 32, 33, 34] (by decide +kernel) (by decide +kernel)
set_option maxRecDepth 20000 in
theorem gX6_from_X6_bad : GoodIn wsX6_from (wsV RX6 42 RX6 yX6_bad wsX6_bad) := goodIn_app (goodIn_of _ (by decide +kernel)) ggX6_from_X6_bad
set_option maxRecDepth 20000 in
theorem ggX6_from_X6_no : GoodIn wsX6_from wsX6_no := goodIn_r _ [14, 10, 20, 21, 22, 23, 24, 25, 26, 27, 28, 29, 30, 31, 32, 33, 34] (by decide +kernel) (by decide +kernel)
set_option maxRecDepth 20000 in
theorem gX6_from_X6_no : GoodIn wsX6_from (wsV RX6 143 RX6 yX6_no wsX6_no) := goodIn_app (goodIn_of _ (by decide +kernel)) ggX6_from_X6_no
set_option maxRecDepth 20000 in
theorem ggX6_from_X6_copy : GoodIn wsX6_from wsX6_copy := goodIn_r _ [18, 19, 20, 21, 22, 23, 24, 25, 26, 27, 28, 29, 30, 31, 32, 33, 34] (by decide +kernel) (by decide +kernel)
set_option maxRecDepth 20000 in
theorem gX6_from_X6_copy : GoodIn wsX6_from (wsV RX6 120 RX6 yX6_copy wsX6_copy) := goodIn_app (goodIn_of _ (by decide +kernel)) ggX6_from_X6_copy
theorem dX6_from_0 : decode cX6_from 0 = .ok (.iload_n 1, 1) := by decide +kernel
theorem dX6_from_1 : decode cX6_from 1 = .ok (.i2l, 1) := by decide +kernel
theorem dX6_from_2 : decode cX6_from 2 = .ok (.lconst 0, 1) := by decide +kernel
theorem dX6_from_3 : decode cX6_from 3 = .ok (.lconst 1, 1) := by decide +kernel
theorem dX6_from_4 : decode cX6_from 4 = .ok (.invokestatic 34, 3) := by decide +kernel
theorem dX6_from_7 : decode cX6_from 7 = .ok (.ifCond .ne 8, 3) := by decide +kernel
theorem dX6_from_10 : decode cX6_from 10 = .ok (.aload_n 0, 1) := by decide +kernel
theorem dX6_from_11 : decode cX6_from 11 = .ok (.invokevirtual 42, 3) := by decide +kernel
theorem dX6_from_14 : decode cX6_from 14 = .ok (.ireturn, 1) := by decide +kernel
theorem dX6_from_15 : decode cX6_from 15 = .ok (.aload_n 0, 1) := by decide +kernel
theorem dX6_from_16 : decode cX6_from 16 = .ok (.getfield 13, 3) := by decide +kernel
theorem dX6_from_19 : decode cX6_from 19 = .ok (.iload_n 1, 1) := by decide +kernel
theorem dX6_from_20 : decode cX6_from 20 = .ok (.baload, 1) := by decide +kernel
theorem dX6_from_21 : decode cX6_from 21 = .ok (.ifCond .ne 8, 3) := by decide +kernel
theorem dX6_from_24 : decode cX6_from 24 = .ok (.aload_n 0, 1) := by decide +kernel
theorem dX6_from_25 : decode cX6_from 25 = .ok (.invokevirtual 143, 3) := by decide +kernel
theorem dX6_from_28 : decode cX6_from 28 = .ok (.ireturn, 1) := by decide +kernel
theorem dX6_from_29 : decode cX6_from 29 = .ok (.aload_n 0, 1) := by decide +kernel
theorem dX6_from_30 : decode cX6_from 30 = .ok (.bipush 49, 2) := by decide +kernel
theorem dX6_from_32 : decode cX6_from 32 = .ok (.iconst 1, 1) := by decide +kernel
theorem dX6_from_33 : decode cX6_from 33 = .ok (.iload_n 1, 1) := by decide +kernel
theorem dX6_from_34 : decode cX6_from 34 = .ok (.iadd, 1) := by decide +kernel
theorem dX6_from_35 : decode cX6_from 35 = .ok (.imul, 1) := by decide +kernel
theorem dX6_from_36 : decode cX6_from 36 = .ok (.iconst 0, 1) := by decide +kernel
theorem dX6_from_37 : decode cX6_from 37 = .ok (.invokevirtual 120, 3) := by decide +kernel
theorem dX6_from_40 : decode cX6_from 40 = .ok (.iconst 1, 1) := by decide +kernel
theorem dX6_from_41 : decode cX6_from 41 = .ok (.ireturn, 1) := by decide +kernel
set_option maxRecDepth 20000 in
theorem ggX6_status_X6_in : GoodIn wsX6_status wsX6_in := goodIn_r _ [6] (by decide +kernel) (by decide +kernel)
set_option maxRecDepth 20000 in
theorem gX6_status_X6_in : GoodIn wsX6_status (va_wsS RX6 34 yX6_in wsX6_in) := goodIn_app (goodIn_of _ (by decide +kernel)) ggX6_status_X6_in
set_option maxRecDepth 20000 in
theorem ggX6_status_X6_badAs : GoodIn wsX6_status wsX6_badAs := goodIn_r _ [10, 2, 11, 12, 13, 14, 15, 16, 17, 18, 19, 20, 21, 22, 23, 24, 25] (by decide +kernel) (by decide +kernel)
set_option maxRecDepth 20000 in
theorem gX6_status_X6_badAs : GoodIn wsX6_status (wsV RX6 218 RX6 yX6_badAs wsX6_badAs) := goodIn_app (goodIn_of _ (by decide +kernel)) ggX6_status_X6_badAs
theorem dX6_status_0 : decode cX6_status 0 = .ok (.iload_n 1, 1) := by decide +kernel
theorem dX6_status_1 : decode cX6_status 1 = .ok (.i2l, 1) := by decide +kernel
theorem dX6_status_2 : decode cX6_status 2 = .ok (.lconst 0, 1) := by decide +kernel
theorem dX6_status_3 : decode cX6_status 3 = .ok (.ldc2_w 170, 3) := by decide +kernel
theorem dX6_status_6 : decode cX6_status 6 = .ok (.invokestatic 34, 3) := by decide +kernel
theorem dX6_status_9 : decode cX6_status 9 = .ok (.ifCond .eq 12, 3) := by decide +kernel
theorem dX6_status_12 : decode cX6_status 12 = .ok (.aload_n 0, 1) := by decide +kernel
theorem dX6_status_13 : decode cX6_status 13 = .ok (.getfield 20, 3) := by decide +kernel
theorem dX6_status_16 : decode cX6_status 16 = .ok (.iload_n 1, 1) := by decide +kernel
theorem dX6_status_17 : decode cX6_status 17 = .ok (.iaload, 1) := by decide +kernel
theorem dX6_status_18 : decode cX6_status 18 = .ok (.goto 8, 3) := by decide +kernel
theorem dX6_status_21 : decode cX6_status 21 = .ok (.aload_n 0, 1) := by decide +kernel
theorem dX6_status_22 : decode cX6_status 22 = .ok (.iconst (-1), 1) := by decide +kernel
theorem dX6_status_23 : decode cX6_status 23 = .ok (.invokevirtual 218, 3) := by decide +kernel
theorem dX6_status_26 : decode cX6_status 26 = .ok (.ireturn, 1) := by decide +kernel
theorem dX6_countOf_0 : decode cX6_countOf 0 = .ok (.iload_n 1, 1) := by decide +kernel
theorem dX6_countOf_1 : decode cX6_countOf 1 = .ok (.iconst 5, 1) := by decide +kernel
theorem dX6_countOf_2 : decode cX6_countOf 2 = .ok (.if_icmp .ne 10, 3) := by decide +kernel
theorem dX6_countOf_5 : decode cX6_countOf 5 = .ok (.aload_n 0, 1) := by decide +kernel
theorem dX6_countOf_6 : decode cX6_countOf 6 = .ok (.getfield 63, 3) := by decide +kernel
theorem dX6_countOf_9 : decode cX6_countOf 9 = .ok (.goto 9, 3) := by decide +kernel
theorem dX6_countOf_12 : decode cX6_countOf 12 = .ok (.aload_n 0, 1) := by decide +kernel
theorem dX6_countOf_13 : decode cX6_countOf 13 = .ok (.getfield 7, 3) := by decide +kernel
theorem dX6_countOf_16 : decode cX6_countOf 16 = .ok (.iload_n 1, 1) := by decide +kernel
theorem dX6_countOf_17 : decode cX6_countOf 17 = .ok (.iaload, 1) := by decide +kernel
theorem dX6_countOf_18 : decode cX6_countOf 18 = .ok (.ireturn, 1) := by decide +kernel
set_option maxRecDepth 20000 in
theorem ggX6_count_X6_in : GoodIn wsX6_count wsX6_in := goodIn_r _ [5] (by decide +kernel) (by decide +kernel)
set_option maxRecDepth 20000 in
theorem gX6_count_X6_in : GoodIn wsX6_count (va_wsS RX6 34 yX6_in wsX6_in) := goodIn_app (goodIn_of _ (by decide +kernel)) ggX6_count_X6_in
set_option maxRecDepth 20000 in
theorem ggX6_count_X6_countOf : GoodIn wsX6_count wsX6_countOf := goodIn_r _ [9, 10, 11, 17, 18, 19, 20, 21, 22, 23, 24, 25, 26, 27, 28, 29, 30, 31] (by decide +kernel) (by decide +kernel)
set_option maxRecDepth 20000 in
theorem gX6_count_X6_countOf : GoodIn wsX6_count (wsV RX6 221 RX6 yX6_countOf wsX6_countOf) := goodIn_app (goodIn_of _ (by decide +kernel)) ggX6_count_X6_countOf
set_option maxRecDepth 20000 in
theorem ggX6_count_X6_bad : GoodIn wsX6_count wsX6_bad := goodIn_r _ [15, 16, 17, 18, 19, 20, 21, 22, 23, 24, 25, 26, 27, 28, 29, 30, 31] (by decide +kernel) (by decide +kernel)
set_option maxRecDepth 20000 in
theorem gX6_count_X6_bad : GoodIn wsX6_count (wsV RX6 42 RX6 yX6_bad wsX6_bad) := goodIn_app (goodIn_of _ (by decide +kernel)) ggX6_count_X6_bad
theorem dX6_count_0 : decode cX6_count 0 = .ok (.iload_n 1, 1) := by decide +kernel
theorem dX6_count_1 : decode cX6_count 1 = .ok (.i2l, 1) := by decide +kernel
theorem dX6_count_2 : decode cX6_count 2 = .ok (.lconst 0, 1) := by decide +kernel
theorem dX6_count_3 : decode cX6_count 3 = .ok (.ldc2_w 46, 3) := by decide +kernel
theorem dX6_count_6 : decode cX6_count 6 = .ok (.invokestatic 34, 3) := by decide +kernel
theorem dX6_count_9 : decode cX6_count 9 = .ok (.ifCond .eq 11, 3) := by decide +kernel
theorem dX6_count_12 : decode cX6_count 12 = .ok (.aload_n 0, 1) := by decide +kernel
theorem dX6_count_13 : decode cX6_count 13 = .ok (.iload_n 1, 1) := by decide +kernel
theorem dX6_count_14 : decode cX6_count 14 = .ok (.invokevirtual 221, 3) := by decide +kernel
theorem dX6_count_17 : decode cX6_count 17 = .ok (.goto 7, 3) := by decide +kernel
theorem dX6_count_20 : decode cX6_count 20 = .ok (.aload_n 0, 1) := by decide +kernel
theorem dX6_count_21 : decode cX6_count 21 = .ok (.invokevirtual 42, 3) := by decide +kernel
theorem dX6_count_24 : decode cX6_count 24 = .ok (.ireturn, 1) := by decide +kernel
theorem dX6_mix_0 : decode cX6_mix 0 = .ok (.aload_n 0, 1) := by decide +kernel
theorem dX6_mix_1 : decode cX6_mix 1 = .ok (.ldc2_w 224, 3) := by decide +kernel
theorem dX6_mix_4 : decode cX6_mix 4 = .ok (.aload_n 0, 1) := by decide +kernel
theorem dX6_mix_5 : decode cX6_mix 5 = .ok (.getfield 226, 3) := by decide +kernel
theorem dX6_mix_8 : decode cX6_mix 8 = .ok (.lmul, 1) := by decide +kernel
theorem dX6_mix_9 : decode cX6_mix 9 = .ok (.lload_n 1, 1) := by decide +kernel
theorem dX6_mix_10 : decode cX6_mix 10 = .ok (.ladd, 1) := by decide +kernel
theorem dX6_mix_11 : decode cX6_mix 11 = .ok (.putfield 226, 3) := by decide +kernel
theorem dX6_mix_14 : decode cX6_mix 14 = .ok (.return_, 1) := by decide +kernel
set_option maxRecDepth 20000 in
theorem ggX6_digest_X6_countOf : GoodIn wsX6_digest wsX6_countOf := goodIn_r _ [10, 11, 3, 17, 18, 19, 20, 21, 22, 23, 24, 25, 26, 27, 28, 29, 30, 31] (by decide +kernel) (by decide +kernel)
set_option maxRecDepth 20000 in
theorem gX6_digest_X6_countOf : GoodIn wsX6_digest (wsV RX6 221 RX6 yX6_countOf wsX6_countOf) := goodIn_app (goodIn_of _ (by decide +kernel)) ggX6_digest_X6_countOf
set_option maxRecDepth 20000 in
theorem ggX6_digest_X6_mix : GoodIn wsX6_digest wsX6_mix := goodIn_r _ [15, 16, 2, 17, 18, 19, 20, 21, 22, 23, 24, 25, 26, 27, 28, 29, 30, 31] (by decide +kernel) (by decide +kernel)
set_option maxRecDepth 20000 in
theorem gX6_digest_X6_mix : GoodIn wsX6_digest (wsV RX6 231 RX6 yX6_mix wsX6_mix) := goodIn_app (goodIn_of _ (by decide +kernel)) ggX6_digest_X6_mix
theorem dX6_digest_0 : decode cX6_digest 0 = .ok (.aload_n 0, 1) := by decide +kernel
theorem dX6_digest_1 : decode cX6_digest 1 = .ok (.ldc2_w 229, 3) := by decide +kernel
theorem dX6_digest_4 : decode cX6_digest 4 = .ok (.putfield 226, 3) := by decide +kernel
theorem dX6_digest_7 : decode cX6_digest 7 = .ok (.iconst 0, 1) := by decide +kernel
theorem dX6_digest_8 : decode cX6_digest 8 = .ok (.istore_n 1, 1) := by decide +kernel
theorem dX6_digest_9 : decode cX6_digest 9 = .ok (.iload_n 1, 1) := by decide +kernel
theorem dX6_digest_10 : decode cX6_digest 10 = .ok (.bipush 6, 2) := by decide +kernel
theorem dX6_digest_12 : decode cX6_digest 12 = .ok (.if_icmp .ge 19, 3) := by decide +kernel
theorem dX6_digest_15 : decode cX6_digest 15 = .ok (.aload_n 0, 1) := by decide +kernel
theorem dX6_digest_16 : decode cX6_digest 16 = .ok (.aload_n 0, 1) := by decide +kernel
theorem dX6_digest_17 : decode cX6_digest 17 = .ok (.iload_n 1, 1) := by decide +kernel
theorem dX6_digest_18 : decode cX6_digest 18 = .ok (.invokevirtual 221, 3) := by decide +kernel
theorem dX6_digest_21 : decode cX6_digest 21 = .ok (.i2l, 1) := by decide +kernel
theorem dX6_digest_22 : decode cX6_digest 22 = .ok (.invokevirtual 231, 3) := by decide +kernel
theorem dX6_digest_25 : decode cX6_digest 25 = .ok (.iinc 1 1, 3) := by decide +kernel
theorem dX6_digest_28 : decode cX6_digest 28 = .ok (.goto (-19), 3) := by decide +kernel
theorem dX6_digest_31 : decode cX6_digest 31 = .ok (.iconst 0, 1) := by decide +kernel
theorem dX6_digest_32 : decode cX6_digest 32 = .ok (.istore_n 1, 1) := by decide +kernel
theorem dX6_digest_33 : decode cX6_digest 33 = .ok (.iload_n 1, 1) := by decide +kernel
theorem dX6_digest_34 : decode cX6_digest 34 = .ok (.aload_n 0, 1) := by decide +kernel
theorem dX6_digest_35 : decode cX6_digest 35 = .ok (.getfield 7, 3) := by decide +kernel
theorem dX6_digest_38 : decode cX6_digest 38 = .ok (.iconst 0, 1) := by decide +kernel
theorem dX6_digest_39 : decode cX6_digest 39 = .ok (.iaload, 1) := by decide +kernel
theorem dX6_digest_40 : decode cX6_digest 40 = .ok (.if_icmp .ge 36, 3) := by decide +kernel
theorem dX6_digest_43 : decode cX6_digest 43 = .ok (.aload_n 0, 1) := by decide +kernel
theorem dX6_digest_44 : decode cX6_digest 44 = .ok (.aload_n 0, 1) := by decide +kernel
theorem dX6_digest_45 : decode cX6_digest 45 = .ok (.getfield 7, 3) := by decide +kernel
theorem dX6_digest_48 : decode cX6_digest 48 = .ok (.iconst 5, 1) := by decide +kernel
theorem dX6_digest_49 : decode cX6_digest 49 = .ok (.iload_n 1, 1) := by decide +kernel
theorem dX6_digest_50 : decode cX6_digest 50 = .ok (.iadd, 1) := by decide +kernel
theorem dX6_digest_51 : decode cX6_digest 51 = .ok (.iaload, 1) := by decide +kernel
theorem dX6_digest_52 : decode cX6_digest 52 = .ok (.i2l, 1) := by decide +kernel
theorem dX6_digest_53 : decode cX6_digest 53 = .ok (.invokevirtual 231, 3) := by decide +kernel
theorem dX6_digest_56 : decode cX6_digest 56 = .ok (.aload_n 0, 1) := by decide +kernel
theorem dX6_digest_57 : decode cX6_digest 57 = .ok (.aload_n 0, 1) := by decide +kernel
theorem dX6_digest_58 : decode cX6_digest 58 = .ok (.getfield 7, 3) := by decide +kernel
theorem dX6_digest_61 : decode cX6_digest 61 = .ok (.bipush 9, 2) := by decide +kernel
theorem dX6_digest_63 : decode cX6_digest 63 = .ok (.iload_n 1, 1) := by decide +kernel
theorem dX6_digest_64 : decode cX6_digest 64 = .ok (.iadd, 1) := by decide +kernel
theorem dX6_digest_65 : decode cX6_digest 65 = .ok (.iaload, 1) := by decide +kernel
theorem dX6_digest_66 : decode cX6_digest 66 = .ok (.i2l, 1) := by decide +kernel
theorem dX6_digest_67 : decode cX6_digest 67 = .ok (.invokevirtual 231, 3) := by decide +kernel
theorem dX6_digest_70 : decode cX6_digest 70 = .ok (.iinc 1 1, 3) := by decide +kernel
theorem dX6_digest_73 : decode cX6_digest 73 = .ok (.goto (-40), 3) := by decide +kernel
theorem dX6_digest_76 : decode cX6_digest 76 = .ok (.iconst 0, 1) := by decide +kernel
theorem dX6_digest_77 : decode cX6_digest 77 = .ok (.istore_n 1, 1) := by decide +kernel
theorem dX6_digest_78 : decode cX6_digest 78 = .ok (.iload_n 1, 1) := by decide +kernel
theorem dX6_digest_79 : decode cX6_digest 79 = .ok (.iconst 2, 1) := by decide +kernel
theorem dX6_digest_80 : decode cX6_digest 80 = .ok (.if_icmp .ge 37, 3) := by decide +kernel
theorem dX6_digest_83 : decode cX6_digest 83 = .ok (.aload_n 0, 1) := by decide +kernel
theorem dX6_digest_84 : decode cX6_digest 84 = .ok (.aload_n 0, 1) := by decide +kernel
theorem dX6_digest_85 : decode cX6_digest 85 = .ok (.getfield 7, 3) := by decide +kernel
theorem dX6_digest_88 : decode cX6_digest 88 = .ok (.bipush 13, 2) := by decide +kernel
theorem dX6_digest_90 : decode cX6_digest 90 = .ok (.iload_n 1, 1) := by decide +kernel
theorem dX6_digest_91 : decode cX6_digest 91 = .ok (.iadd, 1) := by decide +kernel
theorem dX6_digest_92 : decode cX6_digest 92 = .ok (.iaload, 1) := by decide +kernel
theorem dX6_digest_93 : decode cX6_digest 93 = .ok (.i2l, 1) := by decide +kernel
theorem dX6_digest_94 : decode cX6_digest 94 = .ok (.invokevirtual 231, 3) := by decide +kernel
theorem dX6_digest_97 : decode cX6_digest 97 = .ok (.aload_n 0, 1) := by decide +kernel
theorem dX6_digest_98 : decode cX6_digest 98 = .ok (.aload_n 0, 1) := by decide +kernel
theorem dX6_digest_99 : decode cX6_digest 99 = .ok (.getfield 7, 3) := by decide +kernel
theorem dX6_digest_102 : decode cX6_digest 102 = .ok (.bipush 15, 2) := by decide +kernel
theorem dX6_digest_104 : decode cX6_digest 104 = .ok (.iload_n 1, 1) := by decide +kernel
theorem dX6_digest_105 : decode cX6_digest 105 = .ok (.iadd, 1) := by decide +kernel
theorem dX6_digest_106 : decode cX6_digest 106 = .ok (.iaload, 1) := by decide +kernel
theorem dX6_digest_107 : decode cX6_digest 107 = .ok (.i2l, 1) := by decide +kernel
theorem dX6_digest_108 : decode cX6_digest 108 = .ok (.invokevirtual 231, 3) := by decide +kernel
theorem dX6_digest_111 : decode cX6_digest 111 = .ok (.iinc 1 1, 3) := by decide +kernel
theorem dX6_digest_114 : decode cX6_digest 114 = .ok (.goto (-36), 3) := by decide +kernel
theorem dX6_digest_117 : decode cX6_digest 117 = .ok (.iconst 0, 1) := by decide +kernel
theorem dX6_digest_118 : decode cX6_digest 118 = .ok (.istore_n 1, 1) := by decide +kernel
theorem dX6_digest_119 : decode cX6_digest 119 = .ok (.iload_n 1, 1) := by decide +kernel
theorem dX6_digest_120 : decode cX6_digest 120 = .ok (.iconst 4, 1) := by decide +kernel
theorem dX6_digest_121 : decode cX6_digest 121 = .ok (.aload_n 0, 1) := by decide +kernel
theorem dX6_digest_122 : decode cX6_digest 122 = .ok (.getfield 7, 3) := by decide +kernel
theorem dX6_digest_125 : decode cX6_digest 125 = .ok (.iconst 3, 1) := by decide +kernel
theorem dX6_digest_126 : decode cX6_digest 126 = .ok (.iaload, 1) := by decide +kernel
theorem dX6_digest_127 : decode cX6_digest 127 = .ok (.imul, 1) := by decide +kernel
theorem dX6_digest_128 : decode cX6_digest 128 = .ok (.if_icmp .ge 23, 3) := by decide +kernel
theorem dX6_digest_131 : decode cX6_digest 131 = .ok (.aload_n 0, 1) := by decide +kernel
theorem dX6_digest_132 : decode cX6_digest 132 = .ok (.aload_n 0, 1) := by decide +kernel
theorem dX6_digest_133 : decode cX6_digest 133 = .ok (.getfield 7, 3) := by decide +kernel
theorem dX6_digest_136 : decode cX6_digest 136 = .ok (.bipush 17, 2) := by decide +kernel
theorem dX6_digest_138 : decode cX6_digest 138 = .ok (.iload_n 1, 1) := by decide +kernel
theorem dX6_digest_139 : decode cX6_digest 139 = .ok (.iadd, 1) := by decide +kernel
theorem dX6_digest_140 : decode cX6_digest 140 = .ok (.iaload, 1) := by decide +kernel
theorem dX6_digest_141 : decode cX6_digest 141 = .ok (.i2l, 1) := by decide +kernel
theorem dX6_digest_142 : decode cX6_digest 142 = .ok (.invokevirtual 231, 3) := by decide +kernel
theorem dX6_digest_145 : decode cX6_digest 145 = .ok (.iinc 1 1, 3) := by decide +kernel
theorem dX6_digest_148 : decode cX6_digest 148 = .ok (.goto (-29), 3) := by decide +kernel
theorem dX6_digest_151 : decode cX6_digest 151 = .ok (.aload_n 0, 1) := by decide +kernel
theorem dX6_digest_152 : decode cX6_digest 152 = .ok (.aload_n 0, 1) := by decide +kernel
theorem dX6_digest_153 : decode cX6_digest 153 = .ok (.getfield 176, 3) := by decide +kernel
theorem dX6_digest_156 : decode cX6_digest 156 = .ok (.invokevirtual 231, 3) := by decide +kernel
theorem dX6_digest_159 : decode cX6_digest 159 = .ok (.aload_n 0, 1) := by decide +kernel
theorem dX6_digest_160 : decode cX6_digest 160 = .ok (.aload_n 0, 1) := by decide +kernel
theorem dX6_digest_161 : decode cX6_digest 161 = .ok (.getfield 23, 3) := by decide +kernel
theorem dX6_digest_164 : decode cX6_digest 164 = .ok (.invokevirtual 231, 3) := by decide +kernel
theorem dX6_digest_167 : decode cX6_digest 167 = .ok (.aload_n 0, 1) := by decide +kernel
theorem dX6_digest_168 : decode cX6_digest 168 = .ok (.getfield 226, 3) := by decide +kernel
theorem dX6_digest_171 : decode cX6_digest 171 = .ok (.lreturn, 1) := by decide +kernel
theorem dJ6_bitCount_0f7a4_0 : decode cJ6_bitCount_0f7a4 0 = .ok (.iload_n 0, 1) := by decide +kernel
theorem dJ6_bitCount_0f7a4_1 : decode cJ6_bitCount_0f7a4 1 = .ok (.iload_n 0, 1) := by decide +kernel
theorem dJ6_bitCount_0f7a4_2 : decode cJ6_bitCount_0f7a4 2 = .ok (.iconst 1, 1) := by decide +kernel
theorem dJ6_bitCount_0f7a4_3 : decode cJ6_bitCount_0f7a4 3 = .ok (.iushr, 1) := by decide +kernel
theorem dJ6_bitCount_0f7a4_4 : decode cJ6_bitCount_0f7a4 4 = .ok (.ldc_w 265, 3) := by decide +kernel
theorem dJ6_bitCount_0f7a4_7 : decode cJ6_bitCount_0f7a4 7 = .ok (.iand, 1) := by decide +kernel
theorem dJ6_bitCount_0f7a4_8 : decode cJ6_bitCount_0f7a4 8 = .ok (.isub, 1) := by decide +kernel
theorem dJ6_bitCount_0f7a4_9 : decode cJ6_bitCount_0f7a4 9 = .ok (.istore_n 0, 1) := by decide +kernel
theorem dJ6_bitCount_0f7a4_10 : decode cJ6_bitCount_0f7a4 10 = .ok (.iload_n 0, 1) := by decide +kernel
theorem dJ6_bitCount_0f7a4_11 : decode cJ6_bitCount_0f7a4 11 = .ok (.ldc_w 266, 3) := by decide +kernel
theorem dJ6_bitCount_0f7a4_14 : decode cJ6_bitCount_0f7a4 14 = .ok (.iand, 1) := by decide +kernel
theorem dJ6_bitCount_0f7a4_15 : decode cJ6_bitCount_0f7a4 15 = .ok (.iload_n 0, 1) := by decide +kernel
theorem dJ6_bitCount_0f7a4_16 : decode cJ6_bitCount_0f7a4 16 = .ok (.iconst 2, 1) := by decide +kernel
theorem dJ6_bitCount_0f7a4_17 : decode cJ6_bitCount_0f7a4 17 = .ok (.iushr, 1) := by decide +kernel
theorem dJ6_bitCount_0f7a4_18 : decode cJ6_bitCount_0f7a4 18 = .ok (.ldc_w 266, 3) := by decide +kernel
theorem dJ6_bitCount_0f7a4_21 : decode cJ6_bitCount_0f7a4 21 = .ok (.iand, 1) := by decide +kernel
theorem dJ6_bitCount_0f7a4_22 : decode cJ6_bitCount_0f7a4 22 = .ok (.iadd, 1) := by decide +kernel
theorem dJ6_bitCount_0f7a4_23 : decode cJ6_bitCount_0f7a4 23 = .ok (.istore_n 0, 1) := by decide +kernel
theorem dJ6_bitCount_0f7a4_24 : decode cJ6_bitCount_0f7a4 24 = .ok (.iload_n 0, 1) := by decide +kernel
theorem dJ6_bitCount_0f7a4_25 : decode cJ6_bitCount_0f7a4 25 = .ok (.iload_n 0, 1) := by decide +kernel
theorem dJ6_bitCount_0f7a4_26 : decode cJ6_bitCount_0f7a4 26 = .ok (.iconst 4, 1) := by decide +kernel
theorem dJ6_bitCount_0f7a4_27 : decode cJ6_bitCount_0f7a4 27 = .ok (.iushr, 1) := by decide +kernel
theorem dJ6_bitCount_0f7a4_28 : decode cJ6_bitCount_0f7a4 28 = .ok (.iadd, 1) := by decide +kernel
theorem dJ6_bitCount_0f7a4_29 : decode cJ6_bitCount_0f7a4 29 = .ok (.ldc_w 267, 3) := by decide +kernel
theorem dJ6_bitCount_0f7a4_32 : decode cJ6_bitCount_0f7a4 32 = .ok (.iand, 1) := by decide +kernel
theorem dJ6_bitCount_0f7a4_33 : decode cJ6_bitCount_0f7a4 33 = .ok (.istore_n 0, 1) := by decide +kernel
theorem dJ6_bitCount_0f7a4_34 : decode cJ6_bitCount_0f7a4 34 = .ok (.iload_n 0, 1) := by decide +kernel
theorem dJ6_bitCount_0f7a4_35 : decode cJ6_bitCount_0f7a4 35 = .ok (.iload_n 0, 1) := by decide +kernel
theorem dJ6_bitCount_0f7a4_36 : decode cJ6_bitCount_0f7a4 36 = .ok (.bipush 8, 2) := by decide +kernel
theorem dJ6_bitCount_0f7a4_38 : decode cJ6_bitCount_0f7a4 38 = .ok (.iushr, 1) := by decide +kernel
theorem dJ6_bitCount_0f7a4_39 : decode cJ6_bitCount_0f7a4 39 = .ok (.iadd, 1) := by decide +kernel
theorem dJ6_bitCount_0f7a4_40 : decode cJ6_bitCount_0f7a4 40 = .ok (.istore_n 0, 1) := by decide +kernel
theorem dJ6_bitCount_0f7a4_41 : decode cJ6_bitCount_0f7a4 41 = .ok (.iload_n 0, 1) := by decide +kernel
theorem dJ6_bitCount_0f7a4_42 : decode cJ6_bitCount_0f7a4 42 = .ok (.iload_n 0, 1) := by decide +kernel
theorem dJ6_bitCount_0f7a4_43 : decode cJ6_bitCount_0f7a4 43 = .ok (.bipush 16, 2) := by decide +kernel
theorem dJ6_bitCount_0f7a4_45 : decode cJ6_bitCount_0f7a4 45 = .ok (.iushr, 1) := by decide +kernel
theorem dJ6_bitCount_0f7a4_46 : decode cJ6_bitCount_0f7a4 46 = .ok (.iadd, 1) := by decide +kernel
theorem dJ6_bitCount_0f7a4_47 : decode cJ6_bitCount_0f7a4 47 = .ok (.istore_n 0, 1) := by decide +kernel
theorem dJ6_bitCount_0f7a4_48 : decode cJ6_bitCount_0f7a4 48 = .ok (.iload_n 0, 1) := by decide +kernel
theorem dJ6_bitCount_0f7a4_49 : decode cJ6_bitCount_0f7a4 49 = .ok (.bipush 63, 2) := by decide +kernel
theorem dJ6_bitCount_0f7a4_51 : decode cJ6_bitCount_0f7a4 51 = .ok (.iand, 1) := by decide +kernel
theorem dJ6_bitCount_0f7a4_52 : decode cJ6_bitCount_0f7a4 52 = .ok (.ireturn, 1) := by decide +kernel
theorem dJ9_abs_0f7a4_0 : decode cJ9_abs_0f7a4 0 = .ok (.iload_n 0, 1) := by decide +kernel
theorem dJ9_abs_0f7a4_1 : decode cJ9_abs_0f7a4 1 = .ok (.ifCond .ge 8, 3) := by decide +kernel
theorem dJ9_abs_0f7a4_4 : decode cJ9_abs_0f7a4 4 = .ok (.iload_n 0, 1) := by decide +kernel
theorem dJ9_abs_0f7a4_5 : decode cJ9_abs_0f7a4 5 = .ok (.ineg, 1) := by decide +kernel
theorem dJ9_abs_0f7a4_6 : decode cJ9_abs_0f7a4 6 = .ok (.goto 4, 3) := by decide +kernel
theorem dJ9_abs_0f7a4_9 : decode cJ9_abs_0f7a4 9 = .ok (.iload_n 0, 1) := by decide +kernel
theorem dJ9_abs_0f7a4_10 : decode cJ9_abs_0f7a4 10 = .ok (.ireturn, 1) := by decide +kernel
theorem dJ9_max_7cf53_0 : decode cJ9_max_7cf53 0 = .ok (.iload_n 0, 1) := by decide +kernel
theorem dJ9_max_7cf53_1 : decode cJ9_max_7cf53 1 = .ok (.iload_n 1, 1) := by decide +kernel
theorem dJ9_max_7cf53_2 : decode cJ9_max_7cf53 2 = .ok (.if_icmp .lt 7, 3) := by decide +kernel
theorem dJ9_max_7cf53_5 : decode cJ9_max_7cf53 5 = .ok (.iload_n 0, 1) := by decide +kernel
theorem dJ9_max_7cf53_6 : decode cJ9_max_7cf53 6 = .ok (.goto 4, 3) := by decide +kernel
theorem dJ9_max_7cf53_9 : decode cJ9_max_7cf53 9 = .ok (.iload_n 1, 1) := by decide +kernel
theorem dJ9_max_7cf53_10 : decode cJ9_max_7cf53 10 = .ok (.ireturn, 1) := by decide +kernel
theorem dJ9_min_7cf53_0 : decode cJ9_min_7cf53 0 = .ok (.iload_n 0, 1) := by decide +kernel
theorem dJ9_min_7cf53_1 : decode cJ9_min_7cf53 1 = .ok (.iload_n 1, 1) := by decide +kernel
theorem dJ9_min_7cf53_2 : decode cJ9_min_7cf53 2 = .ok (.if_icmp .gt 7, 3) := by decide +kernel
theorem dJ9_min_7cf53_5 : decode cJ9_min_7cf53 5 = .ok (.iload_n 0, 1) := by decide +kernel
theorem dJ9_min_7cf53_6 : decode cJ9_min_7cf53 6 = .ok (.goto 4, 3) := by decide +kernel
theorem dJ9_min_7cf53_9 : decode cJ9_min_7cf53 9 = .ok (.iload_n 1, 1) := by decide +kernel
theorem dJ9_min_7cf53_10 : decode cJ9_min_7cf53 10 = .ok (.ireturn, 1) := by decide +kernel
set_option maxRecDepth 20000 in
theorem ggJ0_length_8abf5_J0_coder_7d493 : GoodIn wsJ0_length_8abf5 wsJ0_coder_7d493 := goodIn_r _ [6, 7, 8] (by decide +kernel) (by decide +kernel)
set_option maxRecDepth 20000 in
theorem gJ0_length_8abf5_J0_coder_7d493 : GoodIn wsJ0_length_8abf5 (wsV RJ0 335 RJ0 yJ0_coder_7d493 wsJ0_coder_7d493) := goodIn_app (goodIn_of _ (by decide +kernel)) ggJ0_length_8abf5_J0_coder_7d493
theorem dJ0_length_8abf5_0 : decode cJ0_length_8abf5 0 = .ok (.aload_n 0, 1) := by decide +kernel
theorem dJ0_length_8abf5_1 : decode cJ0_length_8abf5 1 = .ok (.getfield 9, 3) := by decide +kernel
theorem dJ0_length_8abf5_4 : decode cJ0_length_8abf5 4 = .ok (.arraylength, 1) := by decide +kernel
theorem dJ0_length_8abf5_5 : decode cJ0_length_8abf5 5 = .ok (.aload_n 0, 1) := by decide +kernel
theorem dJ0_length_8abf5_6 : decode cJ0_length_8abf5 6 = .ok (.invokevirtual 335, 3) := by decide +kernel
theorem dJ0_length_8abf5_9 : decode cJ0_length_8abf5 9 = .ok (.ishr, 1) := by decide +kernel
theorem dJ0_length_8abf5_10 : decode cJ0_length_8abf5 10 = .ok (.ireturn, 1) := by decide +kernel
set_option maxRecDepth 20000 in
theorem ggJ0_charAt_5068e_J0_isLatin1_aae02 : GoodIn wsJ0_charAt_5068e wsJ0_isLatin1_aae02 := goodIn_r _ [6, 7, 8] (by decide +kernel) (by decide +kernel)
set_option maxRecDepth 20000 in
theorem gJ0_charAt_5068e_J0_isLatin1_aae02 : GoodIn wsJ0_charAt_5068e (wsV RJ0 492 RJ0 yJ0_isLatin1_aae02 wsJ0_isLatin1_aae02) := goodIn_app (goodIn_of _ (by decide +kernel)) ggJ0_charAt_5068e_J0_isLatin1_aae02
set_option maxRecDepth 20000 in
theorem ggJ0_charAt_5068e_J1_charAt_3b067 : GoodIn wsJ0_charAt_5068e wsJ1_charAt_3b067 := goodIn_r _ [12, 13, 14, 5, 15, 16, 17, 18, 19, 20] (by decide +kernel) (by decide +kernel)
set_option maxRecDepth 20000 in
theorem gJ0_charAt_5068e_J1_charAt_3b067 : GoodIn wsJ0_charAt_5068e (va_wsS RJ0 495 yJ1_charAt_3b067 wsJ1_charAt_3b067) := goodIn_app (goodIn_of _ (by decide +kernel)) ggJ0_charAt_5068e_J1_charAt_3b067
set_option maxRecDepth 20000 in
theorem ggJ0_charAt_5068e_J2_charAt_3b067 : GoodIn wsJ0_charAt_5068e wsJ2_charAt_3b067 := goodIn_r _ [24, 25, 26, 23, 27, 28, 29, 30, 31, 14, 5, 15, 16, 17, 18, 19, 20, 32, 33, 34, 35, 36, 37] (by decide +kernel) (by decide +kernel)
set_option maxRecDepth 20000 in
theorem gJ0_charAt_5068e_J2_charAt_3b067 : GoodIn wsJ0_charAt_5068e (va_wsS RJ0 498 yJ2_charAt_3b067 wsJ2_charAt_3b067) := goodIn_app (goodIn_of _ (by decide +kernel)) ggJ0_charAt_5068e_J2_charAt_3b067
theorem dJ0_charAt_5068e_0 : decode cJ0_charAt_5068e 0 = .ok (.aload_n 0, 1) := by decide +kernel
theorem dJ0_charAt_5068e_1 : decode cJ0_charAt_5068e 1 = .ok (.invokevirtual 492, 3) := by decide +kernel
theorem dJ0_charAt_5068e_4 : decode cJ0_charAt_5068e 4 = .ok (.ifCond .eq 12, 3) := by decide +kernel
theorem dJ0_charAt_5068e_7 : decode cJ0_charAt_5068e 7 = .ok (.aload_n 0, 1) := by decide +kernel
theorem dJ0_charAt_5068e_8 : decode cJ0_charAt_5068e 8 = .ok (.getfield 9, 3) := by decide +kernel
theorem dJ0_charAt_5068e_11 : decode cJ0_charAt_5068e 11 = .ok (.iload_n 1, 1) := by decide +kernel
theorem dJ0_charAt_5068e_12 : decode cJ0_charAt_5068e 12 = .ok (.invokestatic 495, 3) := by decide +kernel
theorem dJ0_charAt_5068e_15 : decode cJ0_charAt_5068e 15 = .ok (.ireturn, 1) := by decide +kernel
theorem dJ0_charAt_5068e_16 : decode cJ0_charAt_5068e 16 = .ok (.aload_n 0, 1) := by decide +kernel
theorem dJ0_charAt_5068e_17 : decode cJ0_charAt_5068e 17 = .ok (.getfield 9, 3) := by decide +kernel
theorem dJ0_charAt_5068e_20 : decode cJ0_charAt_5068e 20 = .ok (.iload_n 1, 1) := by decide +kernel
theorem dJ0_charAt_5068e_21 : decode cJ0_charAt_5068e 21 = .ok (.invokestatic 498, 3) := by decide +kernel
theorem dJ0_charAt_5068e_24 : decode cJ0_charAt_5068e 24 = .ok (.ireturn, 1) := by decide +kernel
theorem dJ0_coder_7d493_0 : decode cJ0_coder_7d493 0 = .ok (.getstatic 38, 3) := by decide +kernel
theorem dJ0_coder_7d493_3 : decode cJ0_coder_7d493 3 = .ok (.ifCond .eq 10, 3) := by decide +kernel
theorem dJ0_coder_7d493_6 : decode cJ0_coder_7d493 6 = .ok (.aload_n 0, 1) := by decide +kernel
theorem dJ0_coder_7d493_7 : decode cJ0_coder_7d493 7 = .ok (.getfield 15, 3) := by decide +kernel
theorem dJ0_coder_7d493_10 : decode cJ0_coder_7d493 10 = .ok (.goto 4, 3) := by decide +kernel
theorem dJ0_coder_7d493_13 : decode cJ0_coder_7d493 13 = .ok (.iconst 1, 1) := by decide +kernel
theorem dJ0_coder_7d493_14 : decode cJ0_coder_7d493 14 = .ok (.ireturn, 1) := by decide +kernel
theorem dJ0_isLatin1_aae02_0 : decode cJ0_isLatin1_aae02 0 = .ok (.getstatic 38, 3) := by decide +kernel
theorem dJ0_isLatin1_aae02_3 : decode cJ0_isLatin1_aae02 3 = .ok (.ifCond .eq 14, 3) := by decide +kernel
theorem dJ0_isLatin1_aae02_6 : decode cJ0_isLatin1_aae02 6 = .ok (.aload_n 0, 1) := by decide +kernel
theorem dJ0_isLatin1_aae02_7 : decode cJ0_isLatin1_aae02 7 = .ok (.getfield 15, 3) := by decide +kernel
theorem dJ0_isLatin1_aae02_10 : decode cJ0_isLatin1_aae02 10 = .ok (.ifCond .ne 7, 3) := by decide +kernel
theorem dJ0_isLatin1_aae02_13 : decode cJ0_isLatin1_aae02 13 = .ok (.iconst 1, 1) := by decide +kernel
theorem dJ0_isLatin1_aae02_14 : decode cJ0_isLatin1_aae02 14 = .ok (.goto 4, 3) := by decide +kernel
theorem dJ0_isLatin1_aae02_17 : decode cJ0_isLatin1_aae02 17 = .ok (.iconst 0, 1) := by decide +kernel
theorem dJ0_isLatin1_aae02_18 : decode cJ0_isLatin1_aae02 18 = .ok (.ireturn, 1) := by decide +kernel
set_option maxRecDepth 20000 in
theorem ggJ0_checkIndex_df160_J3_checkIndex_8e157 : GoodIn wsJ0_checkIndex_df160 wsJ3_checkIndex_8e157 := goodIn_r _ [5] (by decide +kernel) (by decide +kernel)
set_option maxRecDepth 20000 in
theorem gJ0_checkIndex_df160_J3_checkIndex_8e157 : GoodIn wsJ0_checkIndex_df160 (va_wsS RJ0 1059 yJ3_checkIndex_8e157 wsJ3_checkIndex_8e157) := goodIn_app (goodIn_of _ (by decide +kernel)) ggJ0_checkIndex_df160_J3_checkIndex_8e157
theorem dJ0_checkIndex_df160_0 : decode cJ0_checkIndex_df160 0 = .ok (.iload_n 0, 1) := by decide +kernel
theorem dJ0_checkIndex_df160_1 : decode cJ0_checkIndex_df160 1 = .ok (.iload_n 1, 1) := by decide +kernel
theorem dJ0_checkIndex_df160_2 : decode cJ0_checkIndex_df160 2 = .ok (.getstatic 1053, 3) := by decide +kernel
theorem dJ0_checkIndex_df160_5 : decode cJ0_checkIndex_df160 5 = .ok (.invokestatic 1059, 3) := by decide +kernel
theorem dJ0_checkIndex_df160_8 : decode cJ0_checkIndex_df160 8 = .ok (.pop, 1) := by decide +kernel
theorem dJ0_checkIndex_df160_9 : decode cJ0_checkIndex_df160 9 = .ok (.return_, 1) := by decide +kernel
set_option maxRecDepth 20000 in
theorem ggJ1_charAt_3b067_J0_checkIndex_df160 : GoodIn wsJ1_charAt_3b067 wsJ0_checkIndex_df160 := goodIn_r _ [4, 5, 6, 7, 8, 9] (by decide +kernel) (by decide +kernel)
set_option maxRecDepth 20000 in
theorem gJ1_charAt_3b067_J0_checkIndex_df160 : GoodIn wsJ1_charAt_3b067 (va_wsS RJ1 9 yJ0_checkIndex_df160 wsJ0_checkIndex_df160) := goodIn_app (goodIn_of _ (by decide +kernel)) ggJ1_charAt_3b067_J0_checkIndex_df160
theorem dJ1_charAt_3b067_0 : decode cJ1_charAt_3b067 0 = .ok (.iload_n 1, 1) := by decide +kernel
theorem dJ1_charAt_3b067_1 : decode cJ1_charAt_3b067 1 = .ok (.aload_n 0, 1) := by decide +kernel
theorem dJ1_charAt_3b067_2 : decode cJ1_charAt_3b067 2 = .ok (.arraylength, 1) := by decide +kernel
theorem dJ1_charAt_3b067_3 : decode cJ1_charAt_3b067 3 = .ok (.invokestatic 9, 3) := by decide +kernel
theorem dJ1_charAt_3b067_6 : decode cJ1_charAt_3b067 6 = .ok (.aload_n 0, 1) := by decide +kernel
theorem dJ1_charAt_3b067_7 : decode cJ1_charAt_3b067 7 = .ok (.iload_n 1, 1) := by decide +kernel
theorem dJ1_charAt_3b067_8 : decode cJ1_charAt_3b067 8 = .ok (.baload, 1) := by decide +kernel
theorem dJ1_charAt_3b067_9 : decode cJ1_charAt_3b067 9 = .ok (.sipush 255, 3) := by decide +kernel
theorem dJ1_charAt_3b067_12 : decode cJ1_charAt_3b067 12 = .ok (.iand, 1) := by decide +kernel
theorem dJ1_charAt_3b067_13 : decode cJ1_charAt_3b067 13 = .ok (.i2c, 1) := by decide +kernel
theorem dJ1_charAt_3b067_14 : decode cJ1_charAt_3b067 14 = .ok (.ireturn, 1) := by decide +kernel
set_option maxRecDepth 20000 in
theorem ggJ2_getChar_3b067_J2_length_9d52b : GoodIn wsJ2_getChar_3b067 wsJ2_length_9d52b := goodIn_r _ [7] (by decide +kernel) (by decide +kernel)
set_option maxRecDepth 20000 in
theorem gJ2_getChar_3b067_J2_length_9d52b : GoodIn wsJ2_getChar_3b067 (va_wsS RJ2 48 yJ2_length_9d52b wsJ2_length_9d52b) := goodIn_app (goodIn_of _ (by decide +kernel)) ggJ2_getChar_3b067_J2_length_9d52b
theorem dJ2_getChar_3b067_0 : decode cJ2_getChar_3b067 0 = .ok (.getstatic 44, 3) := by decide +kernel
theorem dJ2_getChar_3b067_3 : decode cJ2_getChar_3b067 3 = .ok (.ifCond .ne 25, 3) := by decide +kernel
theorem dJ2_getChar_3b067_6 : decode cJ2_getChar_3b067 6 = .ok (.iload_n 1, 1) := by decide +kernel
theorem dJ2_getChar_3b067_7 : decode cJ2_getChar_3b067 7 = .ok (.ifCond .lt 11, 3) := by decide +kernel
theorem dJ2_getChar_3b067_10 : decode cJ2_getChar_3b067 10 = .ok (.iload_n 1, 1) := by decide +kernel
theorem dJ2_getChar_3b067_11 : decode cJ2_getChar_3b067 11 = .ok (.aload_n 0, 1) := by decide +kernel
theorem dJ2_getChar_3b067_12 : decode cJ2_getChar_3b067 12 = .ok (.invokestatic 48, 3) := by decide +kernel
theorem dJ2_getChar_3b067_15 : decode cJ2_getChar_3b067 15 = .ok (.if_icmp .lt 13, 3) := by decide +kernel
theorem dJ2_getChar_3b067_18 : decode cJ2_getChar_3b067 18 = .ok (.new 52, 3) := by decide +kernel
theorem dJ2_getChar_3b067_21 : decode cJ2_getChar_3b067 21 = .ok (.dup, 1) := by decide +kernel
theorem dJ2_getChar_3b067_22 : decode cJ2_getChar_3b067 22 = .ok (.ldc 54, 2) := by decide +kernel
theorem dJ2_getChar_3b067_24 : decode cJ2_getChar_3b067 24 = .ok (.invokespecial 56, 3) := by decide +kernel
theorem dJ2_getChar_3b067_27 : decode cJ2_getChar_3b067 27 = .ok (.athrow, 1) := by decide +kernel
theorem dJ2_getChar_3b067_28 : decode cJ2_getChar_3b067 28 = .ok (.iload_n 1, 1) := by decide +kernel
theorem dJ2_getChar_3b067_29 : decode cJ2_getChar_3b067 29 = .ok (.iconst 1, 1) := by decide +kernel
theorem dJ2_getChar_3b067_30 : decode cJ2_getChar_3b067 30 = .ok (.ishl, 1) := by decide +kernel
theorem dJ2_getChar_3b067_31 : decode cJ2_getChar_3b067 31 = .ok (.istore_n 1, 1) := by decide +kernel
theorem dJ2_getChar_3b067_32 : decode cJ2_getChar_3b067 32 = .ok (.aload_n 0, 1) := by decide +kernel
theorem dJ2_getChar_3b067_33 : decode cJ2_getChar_3b067 33 = .ok (.iload_n 1, 1) := by decide +kernel
theorem dJ2_getChar_3b067_34 : decode cJ2_getChar_3b067 34 = .ok (.iinc 1 1, 3) := by decide +kernel
theorem dJ2_getChar_3b067_37 : decode cJ2_getChar_3b067 37 = .ok (.baload, 1) := by decide +kernel
theorem dJ2_getChar_3b067_38 : decode cJ2_getChar_3b067 38 = .ok (.sipush 255, 3) := by decide +kernel
theorem dJ2_getChar_3b067_41 : decode cJ2_getChar_3b067 41 = .ok (.iand, 1) := by decide +kernel
theorem dJ2_getChar_3b067_42 : decode cJ2_getChar_3b067 42 = .ok (.getstatic 59, 3) := by decide +kernel
theorem dJ2_getChar_3b067_45 : decode cJ2_getChar_3b067 45 = .ok (.ishl, 1) := by decide +kernel
theorem dJ2_getChar_3b067_46 : decode cJ2_getChar_3b067 46 = .ok (.aload_n 0, 1) := by decide +kernel
theorem dJ2_getChar_3b067_47 : decode cJ2_getChar_3b067 47 = .ok (.iload_n 1, 1) := by decide +kernel
theorem dJ2_getChar_3b067_48 : decode cJ2_getChar_3b067 48 = .ok (.baload, 1) := by decide +kernel
theorem dJ2_getChar_3b067_49 : decode cJ2_getChar_3b067 49 = .ok (.sipush 255, 3) := by decide +kernel
theorem dJ2_getChar_3b067_52 : decode cJ2_getChar_3b067 52 = .ok (.iand, 1) := by decide +kernel
theorem dJ2_getChar_3b067_53 : decode cJ2_getChar_3b067 53 = .ok (.getstatic 63, 3) := by decide +kernel
theorem dJ2_getChar_3b067_56 : decode cJ2_getChar_3b067 56 = .ok (.ishl, 1) := by decide +kernel
theorem dJ2_getChar_3b067_57 : decode cJ2_getChar_3b067 57 = .ok (.ior, 1) := by decide +kernel
theorem dJ2_getChar_3b067_58 : decode cJ2_getChar_3b067 58 = .ok (.i2c, 1) := by decide +kernel
theorem dJ2_getChar_3b067_59 : decode cJ2_getChar_3b067 59 = .ok (.ireturn, 1) := by decide +kernel
theorem dJ2_length_9d52b_0 : decode cJ2_length_9d52b 0 = .ok (.aload_n 0, 1) := by decide +kernel
theorem dJ2_length_9d52b_1 : decode cJ2_length_9d52b 1 = .ok (.arraylength, 1) := by decide +kernel
theorem dJ2_length_9d52b_2 : decode cJ2_length_9d52b 2 = .ok (.iconst 1, 1) := by decide +kernel
theorem dJ2_length_9d52b_3 : decode cJ2_length_9d52b 3 = .ok (.ishr, 1) := by decide +kernel
theorem dJ2_length_9d52b_4 : decode cJ2_length_9d52b 4 = .ok (.ireturn, 1) := by decide +kernel
set_option maxRecDepth 20000 in
theorem ggJ2_charAt_3b067_J2_checkIndex_2214a : GoodIn wsJ2_charAt_3b067 wsJ2_checkIndex_2214a := goodIn_r _ [4, 5, 6, 3, 7, 8, 9, 10, 11, 12, 13, 14, 15, 16] (by decide +kernel) (by decide +kernel)
set_option maxRecDepth 20000 in
theorem gJ2_charAt_3b067_J2_checkIndex_2214a : GoodIn wsJ2_charAt_3b067 (va_wsS RJ2 67 yJ2_checkIndex_2214a wsJ2_checkIndex_2214a) := goodIn_app (goodIn_of _ (by decide +kernel)) ggJ2_charAt_3b067_J2_checkIndex_2214a
set_option maxRecDepth 20000 in
theorem ggJ2_charAt_3b067_J2_getChar_3b067 : GoodIn wsJ2_charAt_3b067 wsJ2_getChar_3b067 := goodIn_r _ [19, 20, 21, 22, 5, 6, 3, 7] (by decide +kernel) (by decide +kernel)
set_option maxRecDepth 20000 in
theorem gJ2_charAt_3b067_J2_getChar_3b067 : GoodIn wsJ2_charAt_3b067 (va_wsS RJ2 71 yJ2_getChar_3b067 wsJ2_getChar_3b067) := goodIn_app (goodIn_of _ (by decide +kernel)) ggJ2_charAt_3b067_J2_getChar_3b067
theorem dJ2_charAt_3b067_0 : decode cJ2_charAt_3b067 0 = .ok (.iload_n 1, 1) := by decide +kernel
theorem dJ2_charAt_3b067_1 : decode cJ2_charAt_3b067 1 = .ok (.aload_n 0, 1) := by decide +kernel
theorem dJ2_charAt_3b067_2 : decode cJ2_charAt_3b067 2 = .ok (.invokestatic 67, 3) := by decide +kernel
theorem dJ2_charAt_3b067_5 : decode cJ2_charAt_3b067 5 = .ok (.aload_n 0, 1) := by decide +kernel
theorem dJ2_charAt_3b067_6 : decode cJ2_charAt_3b067 6 = .ok (.iload_n 1, 1) := by decide +kernel
theorem dJ2_charAt_3b067_7 : decode cJ2_charAt_3b067 7 = .ok (.invokestatic 71, 3) := by decide +kernel
theorem dJ2_charAt_3b067_10 : decode cJ2_charAt_3b067 10 = .ok (.ireturn, 1) := by decide +kernel
set_option maxRecDepth 20000 in
theorem ggJ2_checkIndex_2214a_J2_length_9d52b : GoodIn wsJ2_checkIndex_2214a wsJ2_length_9d52b := goodIn_r _ [4] (by decide +kernel) (by decide +kernel)
set_option maxRecDepth 20000 in
theorem gJ2_checkIndex_2214a_J2_length_9d52b : GoodIn wsJ2_checkIndex_2214a (va_wsS RJ2 48 yJ2_length_9d52b wsJ2_length_9d52b) := goodIn_app (goodIn_of _ (by decide +kernel)) ggJ2_checkIndex_2214a_J2_length_9d52b
set_option maxRecDepth 20000 in
theorem ggJ2_checkIndex_2214a_J0_checkIndex_df160 : GoodIn wsJ2_checkIndex_2214a wsJ0_checkIndex_df160 := goodIn_r _ [8, 9, 10, 11, 12, 13] (by decide +kernel) (by decide +kernel)
set_option maxRecDepth 20000 in
theorem gJ2_checkIndex_2214a_J0_checkIndex_df160 : GoodIn wsJ2_checkIndex_2214a (va_wsS RJ2 414 yJ0_checkIndex_df160 wsJ0_checkIndex_df160) := goodIn_app (goodIn_of _ (by decide +kernel)) ggJ2_checkIndex_2214a_J0_checkIndex_df160
theorem dJ2_checkIndex_2214a_0 : decode cJ2_checkIndex_2214a 0 = .ok (.iload_n 0, 1) := by decide +kernel
theorem dJ2_checkIndex_2214a_1 : decode cJ2_checkIndex_2214a 1 = .ok (.aload_n 1, 1) := by decide +kernel
theorem dJ2_checkIndex_2214a_2 : decode cJ2_checkIndex_2214a 2 = .ok (.invokestatic 48, 3) := by decide +kernel
theorem dJ2_checkIndex_2214a_5 : decode cJ2_checkIndex_2214a 5 = .ok (.invokestatic 414, 3) := by decide +kernel
theorem dJ2_checkIndex_2214a_8 : decode cJ2_checkIndex_2214a 8 = .ok (.return_, 1) := by decide +kernel
theorem dJ3_checkIndex_8e157_0 : decode cJ3_checkIndex_8e157 0 = .ok (.iload_n 0, 1) := by decide +kernel
theorem dJ3_checkIndex_8e157_1 : decode cJ3_checkIndex_8e157 1 = .ok (.ifCond .lt 8, 3) := by decide +kernel
theorem dJ3_checkIndex_8e157_4 : decode cJ3_checkIndex_8e157 4 = .ok (.iload_n 0, 1) := by decide +kernel
theorem dJ3_checkIndex_8e157_5 : decode cJ3_checkIndex_8e157 5 = .ok (.iload_n 1, 1) := by decide +kernel
theorem dJ3_checkIndex_8e157_6 : decode cJ3_checkIndex_8e157 6 = .ok (.if_icmp .lt 10, 3) := by decide +kernel
theorem dJ3_checkIndex_8e157_9 : decode cJ3_checkIndex_8e157 9 = .ok (.aload_n 2, 1) := by decide +kernel
theorem dJ3_checkIndex_8e157_10 : decode cJ3_checkIndex_8e157 10 = .ok (.iload_n 0, 1) := by decide +kernel
theorem dJ3_checkIndex_8e157_11 : decode cJ3_checkIndex_8e157 11 = .ok (.iload_n 1, 1) := by decide +kernel
theorem dJ3_checkIndex_8e157_12 : decode cJ3_checkIndex_8e157 12 = .ok (.invokestatic 95, 3) := by decide +kernel
theorem dJ3_checkIndex_8e157_15 : decode cJ3_checkIndex_8e157 15 = .ok (.athrow, 1) := by decide +kernel
theorem dJ3_checkIndex_8e157_16 : decode cJ3_checkIndex_8e157 16 = .ok (.iload_n 0, 1) := by decide +kernel
theorem dJ3_checkIndex_8e157_17 : decode cJ3_checkIndex_8e157 17 = .ok (.ireturn, 1) := by decide +kernel
abbrev vwCl : List vw_C := [(RX0, TX0, 2), (RX1, TX1, 14), (RX3, TX3, 6), (RX4, TX4, 1), (RX5, TX5, 8), (RX6, TX6, 15)]
