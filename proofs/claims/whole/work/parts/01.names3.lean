set_option maxRecDepth 20000 in
theorem ggX5_own_X5_meanWait : GoodIn wsX5_own wsX5_meanWait := goodIn_r _ [20, 21, 22, 23, 24, 25, 26, 27, 28, 29, 30, 31, 32, 33, 34, 35, 36, 37, 38, 39, 40, 41, 42, 43, 44, 45, 46, 47, 48, 49, 50, 51, 52, 53, 54, 55, 56, 57, 58, 59, 60, 61, 62, 63, 10, 64, 65, 12, 13, 14, 15, 16, 8, 9, 11, 66, 67, 68, 69, 70, 71, 72, 73, 74, 75, 76, 77, 78, 79, 80, 81, 82, 83, 98, 84, 85, 86, 87, 88, 89, 90, 91, 92, 93, 94, 95, 96, 97, 99, 100] (by decide +kernel) (by decide +kernel)
set_option maxRecDepth 20000 in
theorem gX5_own_X5_meanWait : GoodIn wsX5_own (wsV RX5 161 RX5 yX5_meanWait wsX5_meanWait) := goodIn_app (goodIn_of _ (by decide +kernel)) ggX5_own_X5_meanWait
theorem dX5_own_0 : decode cX5_own 0 = .ok (.aload_n 0, 1) := by decide +kernel
theorem dX5_own_1 : decode cX5_own 1 = .ok (.getfield 10, 3) := by decide +kernel
theorem dX5_own_4 : decode cX5_own 4 = .ok (.iload_n 1, 1) := by decide +kernel
theorem dX5_own_5 : decode cX5_own 5 = .ok (.invokevirtual 145, 3) := by decide +kernel
theorem dX5_own_8 : decode cX5_own 8 = .ok (.ifCond .eq 12, 3) := by decide +kernel
theorem dX5_own_11 : decode cX5_own 11 = .ok (.iload_n 2, 1) := by decide +kernel
theorem dX5_own_12 : decode cX5_own 12 = .ok (.iconst 0, 1) := by decide +kernel
theorem dX5_own_13 : decode cX5_own 13 = .ok (.iconst 1, 1) := by decide +kernel
theorem dX5_own_14 : decode cX5_own 14 = .ok (.invokestatic 54, 3) := by decide +kernel
theorem dX5_own_17 : decode cX5_own 17 = .ok (.ifCond .ne 10, 3) := by decide +kernel
theorem dX5_own_20 : decode cX5_own 20 = .ok (.aload_n 0, 1) := by decide +kernel
theorem dX5_own_21 : decode cX5_own 21 = .ok (.bipush (-2), 2) := by decide +kernel
theorem dX5_own_23 : decode cX5_own 23 = .ok (.invokevirtual 58, 3) := by decide +kernel
theorem dX5_own_26 : decode cX5_own 26 = .ok (.ireturn, 1) := by decide +kernel
theorem dX5_own_27 : decode cX5_own 27 = .ok (.aload_n 0, 1) := by decide +kernel
theorem dX5_own_28 : decode cX5_own 28 = .ok (.iload_n 1, 1) := by decide +kernel
theorem dX5_own_29 : decode cX5_own 29 = .ok (.iload_n 2, 1) := by decide +kernel
theorem dX5_own_30 : decode cX5_own 30 = .ok (.invokevirtual 161, 3) := by decide +kernel
theorem dX5_own_33 : decode cX5_own 33 = .ok (.ireturn, 1) := by decide +kernel
set_option maxRecDepth 20000 in
theorem ggX5_ride_X1_hasFloor : GoodIn wsX5_ride wsX1_hasFloor := goodIn_r _ [7, 8, 76, 77, 78, 79, 80, 81, 82, 83, 84, 85, 86, 87, 88, 89] (by decide +kernel) (by decide +kernel)
set_option maxRecDepth 20000 in
theorem gX5_ride_X1_hasFloor : GoodIn wsX5_ride (wsV RX5 145 RX1 yX1_hasFloor wsX1_hasFloor) := goodIn_app (goodIn_of _ (by decide +kernel)) ggX5_ride_X1_hasFloor
set_option maxRecDepth 20000 in
theorem ggX5_ride_X5_isMinute : GoodIn wsX5_ride wsX5_isMinute := goodIn_r _ [12, 13, 14, 11, 15] (by decide +kernel) (by decide +kernel)
set_option maxRecDepth 20000 in
theorem gX5_ride_X5_isMinute : GoodIn wsX5_ride (va_wsS RX5 142 yX5_isMinute wsX5_isMinute) := goodIn_app (goodIn_of _ (by decide +kernel)) ggX5_ride_X5_isMinute
set_option maxRecDepth 20000 in
theorem ggX5_ride_X5_isWithin : GoodIn wsX5_ride wsX5_isWithin := goodIn_r _ [15] (by decide +kernel) (by decide +kernel)
set_option maxRecDepth 20000 in
theorem gX5_ride_X5_isWithin : GoodIn wsX5_ride (va_wsS RX5 54 yX5_isWithin wsX5_isWithin) := goodIn_app (goodIn_of _ (by decide +kernel)) ggX5_ride_X5_isWithin
set_option maxRecDepth 20000 in
theorem ggX5_ride_X5_refuse : GoodIn wsX5_ride wsX5_refuse := goodIn_r _ [19, 20, 13, 14, 11, 15, 68, 69, 70, 71, 72, 73, 74, 75] (by decide +kernel) (by decide +kernel)
set_option maxRecDepth 20000 in
theorem gX5_ride_X5_refuse : GoodIn wsX5_ride (wsV RX5 58 RX5 yX5_refuse wsX5_refuse) := goodIn_app (goodIn_of _ (by decide +kernel)) ggX5_ride_X5_refuse
set_option maxRecDepth 20000 in
theorem ggX5_ride_X4_rideTime : GoodIn wsX5_ride wsX4_rideTime := goodIn_r _ [25, 26, 27, 28, 24, 29, 30, 31, 32, 33, 34, 35, 36, 37, 38, 39, 40, 41, 42, 43, 44, 45, 46, 47, 48, 49, 50, 51, 52, 53, 54, 55, 56, 57, 58, 59, 60, 61, 62, 63, 64, 65, 66, 67, 90, 76, 77, 78, 79, 80, 81, 82, 83, 84, 85, 86, 87, 88, 89] (by decide +kernel) (by decide +kernel)
set_option maxRecDepth 20000 in
theorem gX5_ride_X4_rideTime : GoodIn wsX5_ride (wsV RX5 164 RX4 yX4_rideTime wsX4_rideTime) := goodIn_app (goodIn_of _ (by decide +kernel)) ggX5_ride_X4_rideTime
theorem dX5_ride_0 : decode cX5_ride 0 = .ok (.aload_n 0, 1) := by decide +kernel
theorem dX5_ride_1 : decode cX5_ride 1 = .ok (.getfield 10, 3) := by decide +kernel
theorem dX5_ride_4 : decode cX5_ride 4 = .ok (.iload_n 1, 1) := by decide +kernel
theorem dX5_ride_5 : decode cX5_ride 5 = .ok (.invokevirtual 145, 3) := by decide +kernel
theorem dX5_ride_8 : decode cX5_ride 8 = .ok (.ifCond .eq 31, 3) := by decide +kernel
theorem dX5_ride_11 : decode cX5_ride 11 = .ok (.aload_n 0, 1) := by decide +kernel
theorem dX5_ride_12 : decode cX5_ride 12 = .ok (.getfield 10, 3) := by decide +kernel
theorem dX5_ride_15 : decode cX5_ride 15 = .ok (.iload_n 2, 1) := by decide +kernel
theorem dX5_ride_16 : decode cX5_ride 16 = .ok (.invokevirtual 145, 3) := by decide +kernel
theorem dX5_ride_19 : decode cX5_ride 19 = .ok (.ifCond .eq 20, 3) := by decide +kernel
theorem dX5_ride_22 : decode cX5_ride 22 = .ok (.iload_n 3, 1) := by decide +kernel
theorem dX5_ride_23 : decode cX5_ride 23 = .ok (.invokestatic 142, 3) := by decide +kernel
theorem dX5_ride_26 : decode cX5_ride 26 = .ok (.ifCond .eq 13, 3) := by decide +kernel
theorem dX5_ride_29 : decode cX5_ride 29 = .ok (.iload 4, 2) := by decide +kernel
theorem dX5_ride_31 : decode cX5_ride 31 = .ok (.iconst 0, 1) := by decide +kernel
theorem dX5_ride_32 : decode cX5_ride 32 = .ok (.iconst 1, 1) := by decide +kernel
theorem dX5_ride_33 : decode cX5_ride 33 = .ok (.invokestatic 54, 3) := by decide +kernel
theorem dX5_ride_36 : decode cX5_ride 36 = .ok (.ifCond .ne 10, 3) := by decide +kernel
theorem dX5_ride_39 : decode cX5_ride 39 = .ok (.aload_n 0, 1) := by decide +kernel
theorem dX5_ride_40 : decode cX5_ride 40 = .ok (.bipush (-2), 2) := by decide +kernel
theorem dX5_ride_42 : decode cX5_ride 42 = .ok (.invokevirtual 58, 3) := by decide +kernel
theorem dX5_ride_45 : decode cX5_ride 45 = .ok (.ireturn, 1) := by decide +kernel
theorem dX5_ride_46 : decode cX5_ride 46 = .ok (.iload_n 2, 1) := by decide +kernel
theorem dX5_ride_47 : decode cX5_ride 47 = .ok (.iload_n 1, 1) := by decide +kernel
theorem dX5_ride_48 : decode cX5_ride 48 = .ok (.if_icmp .le 7, 3) := by decide +kernel
theorem dX5_ride_51 : decode cX5_ride 51 = .ok (.iconst 1, 1) := by decide +kernel
theorem dX5_ride_52 : decode cX5_ride 52 = .ok (.goto 4, 3) := by decide +kernel
theorem dX5_ride_55 : decode cX5_ride 55 = .ok (.iconst 0, 1) := by decide +kernel
theorem dX5_ride_56 : decode cX5_ride 56 = .ok (.istore 5, 2) := by decide +kernel
theorem dX5_ride_58 : decode cX5_ride 58 = .ok (.aload_n 0, 1) := by decide +kernel
theorem dX5_ride_59 : decode cX5_ride 59 = .ok (.getfield 32, 3) := by decide +kernel
theorem dX5_ride_62 : decode cX5_ride 62 = .ok (.iload_n 1, 1) := by decide +kernel
theorem dX5_ride_63 : decode cX5_ride 63 = .ok (.iload_n 2, 1) := by decide +kernel
theorem dX5_ride_64 : decode cX5_ride 64 = .ok (.iload_n 3, 1) := by decide +kernel
theorem dX5_ride_65 : decode cX5_ride 65 = .ok (.iload 4, 2) := by decide +kernel
theorem dX5_ride_67 : decode cX5_ride 67 = .ok (.ifCond .ne 7, 3) := by decide +kernel
theorem dX5_ride_70 : decode cX5_ride 70 = .ok (.iconst (-1), 1) := by decide +kernel
theorem dX5_ride_71 : decode cX5_ride 71 = .ok (.goto 5, 3) := by decide +kernel
theorem dX5_ride_74 : decode cX5_ride 74 = .ok (.iload 5, 2) := by decide +kernel
theorem dX5_ride_76 : decode cX5_ride 76 = .ok (.invokevirtual 164, 3) := by decide +kernel
theorem dX5_ride_79 : decode cX5_ride 79 = .ok (.ireturn, 1) := by decide +kernel
set_option maxRecDepth 20000 in
theorem ggX5_walk_X1_hasFloor : GoodIn wsX5_walk wsX1_hasFloor := goodIn_r _ [12, 13, 80, 81, 82, 83, 84, 85, 86, 87, 88, 89, 90, 91, 92, 93] (by decide +kernel) (by decide +kernel)
set_option maxRecDepth 20000 in
theorem gX5_walk_X1_hasFloor : GoodIn wsX5_walk (wsV RX5 145 RX1 yX1_hasFloor wsX1_hasFloor) := goodIn_app (goodIn_of _ (by decide +kernel)) ggX5_walk_X1_hasFloor
set_option maxRecDepth 20000 in
theorem ggX5_walk_X5_isMinute : GoodIn wsX5_walk wsX5_isMinute := goodIn_r _ [17, 18, 19, 16, 20] (by decide +kernel) (by decide +kernel)
set_option maxRecDepth 20000 in
theorem gX5_walk_X5_isMinute : GoodIn wsX5_walk (va_wsS RX5 142 yX5_isMinute wsX5_isMinute) := goodIn_app (goodIn_of _ (by decide +kernel)) ggX5_walk_X5_isMinute
set_option maxRecDepth 20000 in
theorem ggX5_walk_X5_isWithin : GoodIn wsX5_walk wsX5_isWithin := goodIn_r _ [20] (by decide +kernel) (by decide +kernel)
set_option maxRecDepth 20000 in
theorem gX5_walk_X5_isWithin : GoodIn wsX5_walk (va_wsS RX5 54 yX5_isWithin wsX5_isWithin) := goodIn_app (goodIn_of _ (by decide +kernel)) ggX5_walk_X5_isWithin
set_option maxRecDepth 20000 in
theorem ggX5_walk_X5_refuse : GoodIn wsX5_walk wsX5_refuse := goodIn_r _ [24, 25, 18, 19, 16, 20, 72, 73, 74, 75, 76, 77, 78, 79] (by decide +kernel) (by decide +kernel)
set_option maxRecDepth 20000 in
theorem gX5_walk_X5_refuse : GoodIn wsX5_walk (wsV RX5 58 RX5 yX5_refuse wsX5_refuse) := goodIn_app (goodIn_of _ (by decide +kernel)) ggX5_walk_X5_refuse
set_option maxRecDepth 20000 in
theorem ggX5_walk_X4_rideTime : GoodIn wsX5_walk wsX4_rideTime := goodIn_r _ [30, 31, 32, 33, 29, 34, 35, 36, 37, 38, 39, 40, 41, 42, 43, 44, 45, 46, 47, 48, 49, 50, 51, 52, 53, 54, 55, 56, 4, 57, 58, 59, 60, 61, 62, 63, 64, 65, 66, 67, 68, 69, 70, 71, 94, 80, 81, 82, 83, 84, 85, 86, 87, 88, 89, 90, 91, 92, 93] (by decide +kernel) (by decide +kernel)
set_option maxRecDepth 20000 in
theorem gX5_walk_X4_rideTime : GoodIn wsX5_walk (wsV RX5 164 RX4 yX4_rideTime wsX4_rideTime) := goodIn_app (goodIn_of _ (by decide +kernel)) ggX5_walk_X4_rideTime
theorem dX5_walk_0 : decode cX5_walk 0 = .ok (.aload_n 0, 1) := by decide +kernel
theorem dX5_walk_1 : decode cX5_walk 1 = .ok (.getfield 10, 3) := by decide +kernel
theorem dX5_walk_4 : decode cX5_walk 4 = .ok (.iload_n 1, 1) := by decide +kernel
theorem dX5_walk_5 : decode cX5_walk 5 = .ok (.invokevirtual 145, 3) := by decide +kernel
theorem dX5_walk_8 : decode cX5_walk 8 = .ok (.ifCond .eq 31, 3) := by decide +kernel
theorem dX5_walk_11 : decode cX5_walk 11 = .ok (.aload_n 0, 1) := by decide +kernel
theorem dX5_walk_12 : decode cX5_walk 12 = .ok (.getfield 10, 3) := by decide +kernel
theorem dX5_walk_15 : decode cX5_walk 15 = .ok (.iload_n 2, 1) := by decide +kernel
theorem dX5_walk_16 : decode cX5_walk 16 = .ok (.invokevirtual 145, 3) := by decide +kernel
theorem dX5_walk_19 : decode cX5_walk 19 = .ok (.ifCond .eq 20, 3) := by decide +kernel
theorem dX5_walk_22 : decode cX5_walk 22 = .ok (.iload_n 3, 1) := by decide +kernel
theorem dX5_walk_23 : decode cX5_walk 23 = .ok (.invokestatic 142, 3) := by decide +kernel
theorem dX5_walk_26 : decode cX5_walk 26 = .ok (.ifCond .eq 13, 3) := by decide +kernel
theorem dX5_walk_29 : decode cX5_walk 29 = .ok (.iload 4, 2) := by decide +kernel
theorem dX5_walk_31 : decode cX5_walk 31 = .ok (.iconst 0, 1) := by decide +kernel
theorem dX5_walk_32 : decode cX5_walk 32 = .ok (.iconst 1, 1) := by decide +kernel
theorem dX5_walk_33 : decode cX5_walk 33 = .ok (.invokestatic 54, 3) := by decide +kernel
theorem dX5_walk_36 : decode cX5_walk 36 = .ok (.ifCond .ne 10, 3) := by decide +kernel
theorem dX5_walk_39 : decode cX5_walk 39 = .ok (.aload_n 0, 1) := by decide +kernel
theorem dX5_walk_40 : decode cX5_walk 40 = .ok (.bipush (-2), 2) := by decide +kernel
theorem dX5_walk_42 : decode cX5_walk 42 = .ok (.invokevirtual 58, 3) := by decide +kernel
theorem dX5_walk_45 : decode cX5_walk 45 = .ok (.ireturn, 1) := by decide +kernel
theorem dX5_walk_46 : decode cX5_walk 46 = .ok (.iload_n 2, 1) := by decide +kernel
theorem dX5_walk_47 : decode cX5_walk 47 = .ok (.istore 5, 2) := by decide +kernel
theorem dX5_walk_49 : decode cX5_walk 49 = .ok (.iconst 2, 1) := by decide +kernel
theorem dX5_walk_50 : decode cX5_walk 50 = .ok (.iload_n 2, 1) := by decide +kernel
theorem dX5_walk_51 : decode cX5_walk 51 = .ok (.iload_n 1, 1) := by decide +kernel
theorem dX5_walk_52 : decode cX5_walk 52 = .ok (.isub, 1) := by decide +kernel
theorem dX5_walk_53 : decode cX5_walk 53 = .ok (.invokestatic 168, 3) := by decide +kernel
theorem dX5_walk_56 : decode cX5_walk 56 = .ok (.imul, 1) := by decide +kernel
theorem dX5_walk_57 : decode cX5_walk 57 = .ok (.istore 6, 2) := by decide +kernel
theorem dX5_walk_59 : decode cX5_walk 59 = .ok (.iload 6, 2) := by decide +kernel
theorem dX5_walk_61 : decode cX5_walk 61 = .ok (.istore 7, 2) := by decide +kernel
theorem dX5_walk_63 : decode cX5_walk 63 = .ok (.iconst 0, 1) := by decide +kernel
theorem dX5_walk_64 : decode cX5_walk 64 = .ok (.istore 8, 2) := by decide +kernel
theorem dX5_walk_66 : decode cX5_walk 66 = .ok (.iload 8, 2) := by decide +kernel
theorem dX5_walk_68 : decode cX5_walk 68 = .ok (.aload_n 0, 1) := by decide +kernel
theorem dX5_walk_69 : decode cX5_walk 69 = .ok (.getfield 10, 3) := by decide +kernel
theorem dX5_walk_72 : decode cX5_walk 72 = .ok (.getfield 130, 3) := by decide +kernel
theorem dX5_walk_75 : decode cX5_walk 75 = .ok (.if_icmp .gt 95, 3) := by decide +kernel
theorem dX5_walk_78 : decode cX5_walk 78 = .ok (.iconst 2, 1) := by decide +kernel
theorem dX5_walk_79 : decode cX5_walk 79 = .ok (.iload 8, 2) := by decide +kernel
theorem dX5_walk_81 : decode cX5_walk 81 = .ok (.iload_n 1, 1) := by decide +kernel
theorem dX5_walk_82 : decode cX5_walk 82 = .ok (.isub, 1) := by decide +kernel
theorem dX5_walk_83 : decode cX5_walk 83 = .ok (.invokestatic 168, 3) := by decide +kernel
theorem dX5_walk_86 : decode cX5_walk 86 = .ok (.imul, 1) := by decide +kernel
theorem dX5_walk_87 : decode cX5_walk 87 = .ok (.istore 9, 2) := by decide +kernel
theorem dX5_walk_89 : decode cX5_walk 89 = .ok (.aload_n 0, 1) := by decide +kernel
theorem dX5_walk_90 : decode cX5_walk 90 = .ok (.getfield 32, 3) := by decide +kernel
theorem dX5_walk_93 : decode cX5_walk 93 = .ok (.iload 8, 2) := by decide +kernel
theorem dX5_walk_95 : decode cX5_walk 95 = .ok (.iload_n 2, 1) := by decide +kernel
theorem dX5_walk_96 : decode cX5_walk 96 = .ok (.iload_n 3, 1) := by decide +kernel
theorem dX5_walk_97 : decode cX5_walk 97 = .ok (.iload 9, 2) := by decide +kernel
theorem dX5_walk_99 : decode cX5_walk 99 = .ok (.iadd, 1) := by decide +kernel
theorem dX5_walk_100 : decode cX5_walk 100 = .ok (.iconst (-1), 1) := by decide +kernel
theorem dX5_walk_101 : decode cX5_walk 101 = .ok (.invokevirtual 164, 3) := by decide +kernel
theorem dX5_walk_104 : decode cX5_walk 104 = .ok (.istore 10, 2) := by decide +kernel
theorem dX5_walk_106 : decode cX5_walk 106 = .ok (.iload 9, 2) := by decide +kernel
theorem dX5_walk_108 : decode cX5_walk 108 = .ok (.iload 10, 2) := by decide +kernel
theorem dX5_walk_110 : decode cX5_walk 110 = .ok (.iadd, 1) := by decide +kernel
theorem dX5_walk_111 : decode cX5_walk 111 = .ok (.istore 11, 2) := by decide +kernel
theorem dX5_walk_113 : decode cX5_walk 113 = .ok (.iload 11, 2) := by decide +kernel
theorem dX5_walk_115 : decode cX5_walk 115 = .ok (.iload 7, 2) := by decide +kernel
theorem dX5_walk_117 : decode cX5_walk 117 = .ok (.if_icmp .lt 17, 3) := by decide +kernel
theorem dX5_walk_120 : decode cX5_walk 120 = .ok (.iload 11, 2) := by decide +kernel
theorem dX5_walk_122 : decode cX5_walk 122 = .ok (.iload 7, 2) := by decide +kernel
theorem dX5_walk_124 : decode cX5_walk 124 = .ok (.if_icmp .ne 14, 3) := by decide +kernel
theorem dX5_walk_127 : decode cX5_walk 127 = .ok (.iload 9, 2) := by decide +kernel
theorem dX5_walk_129 : decode cX5_walk 129 = .ok (.iload 6, 2) := by decide +kernel
theorem dX5_walk_131 : decode cX5_walk 131 = .ok (.if_icmp .ge 7, 3) := by decide +kernel
theorem dX5_walk_134 : decode cX5_walk 134 = .ok (.iconst 1, 1) := by decide +kernel
theorem dX5_walk_135 : decode cX5_walk 135 = .ok (.goto 4, 3) := by decide +kernel
theorem dX5_walk_138 : decode cX5_walk 138 = .ok (.iconst 0, 1) := by decide +kernel
theorem dX5_walk_139 : decode cX5_walk 139 = .ok (.istore 12, 2) := by decide +kernel
theorem dX5_walk_141 : decode cX5_walk 141 = .ok (.iload 10, 2) := by decide +kernel
theorem dX5_walk_143 : decode cX5_walk 143 = .ok (.iconst (-1), 1) := by decide +kernel
theorem dX5_walk_144 : decode cX5_walk 144 = .ok (.if_icmp .eq 20, 3) := by decide +kernel
theorem dX5_walk_147 : decode cX5_walk 147 = .ok (.iload 12, 2) := by decide +kernel
theorem dX5_walk_149 : decode cX5_walk 149 = .ok (.ifCond .eq 15, 3) := by decide +kernel
theorem dX5_walk_152 : decode cX5_walk 152 = .ok (.iload 8, 2) := by decide +kernel
theorem dX5_walk_154 : decode cX5_walk 154 = .ok (.istore 5, 2) := by decide +kernel
theorem dX5_walk_156 : decode cX5_walk 156 = .ok (.iload 9, 2) := by decide +kernel
theorem dX5_walk_158 : decode cX5_walk 158 = .ok (.istore 6, 2) := by decide +kernel
theorem dX5_walk_160 : decode cX5_walk 160 = .ok (.iload 11, 2) := by decide +kernel
theorem dX5_walk_162 : decode cX5_walk 162 = .ok (.istore 7, 2) := by decide +kernel
theorem dX5_walk_164 : decode cX5_walk 164 = .ok (.iinc 8 1, 3) := by decide +kernel
theorem dX5_walk_167 : decode cX5_walk 167 = .ok (.goto (-101), 3) := by decide +kernel
theorem dX5_walk_170 : decode cX5_walk 170 = .ok (.iload 4, 2) := by decide +kernel
theorem dX5_walk_172 : decode cX5_walk 172 = .ok (.ifCond .ne 8, 3) := by decide +kernel
theorem dX5_walk_175 : decode cX5_walk 175 = .ok (.iload 5, 2) := by decide +kernel
theorem dX5_walk_177 : decode cX5_walk 177 = .ok (.goto 5, 3) := by decide +kernel
theorem dX5_walk_180 : decode cX5_walk 180 = .ok (.iload 7, 2) := by decide +kernel
theorem dX5_walk_182 : decode cX5_walk 182 = .ok (.ireturn, 1) := by decide +kernel
set_option maxRecDepth 20000 in
theorem ggX5_lines_X1_turnsOfLine0 : GoodIn wsX5_lines wsX1_turnsOfLine0 := goodIn_r _ [8, 9, 10, 11, 12, 7, 13, 32, 33, 34, 35, 36, 37, 38, 39, 40, 41, 42, 43, 44, 45] (by decide +kernel) (by decide +kernel)
set_option maxRecDepth 20000 in
theorem gX5_lines_X1_turnsOfLine0 : GoodIn wsX5_lines (wsV RX5 171 RX1 yX1_turnsOfLine0 wsX1_turnsOfLine0) := goodIn_app (goodIn_of _ (by decide +kernel)) ggX5_lines_X1_turnsOfLine0
set_option maxRecDepth 20000 in
theorem ggX5_lines_X0_set : GoodIn wsX5_lines wsX0_set := goodIn_r _ [18, 19, 20, 21, 22, 17, 23, 46, 47] (by decide +kernel) (by decide +kernel)
set_option maxRecDepth 20000 in
theorem gX5_lines_X0_set : GoodIn wsX5_lines (wsV RX5 176 RX0 yX0_set wsX0_set) := goodIn_app (goodIn_of _ (by decide +kernel)) ggX5_lines_X0_set
theorem dX5_lines_0 : decode cX5_lines 0 = .ok (.aload_n 0, 1) := by decide +kernel
theorem dX5_lines_1 : decode cX5_lines 1 = .ok (.getfield 46, 3) := by decide +kernel
theorem dX5_lines_4 : decode cX5_lines 4 = .ok (.aload_n 0, 1) := by decide +kernel
theorem dX5_lines_5 : decode cX5_lines 5 = .ok (.getfield 10, 3) := by decide +kernel
theorem dX5_lines_8 : decode cX5_lines 8 = .ok (.iconst 0, 1) := by decide +kernel
theorem dX5_lines_9 : decode cX5_lines 9 = .ok (.invokevirtual 171, 3) := by decide +kernel
theorem dX5_lines_12 : decode cX5_lines 12 = .ok (.i2l, 1) := by decide +kernel
theorem dX5_lines_13 : decode cX5_lines 13 = .ok (.ldc2_w 174, 3) := by decide +kernel
theorem dX5_lines_16 : decode cX5_lines 16 = .ok (.invokevirtual 176, 3) := by decide +kernel
theorem dX5_lines_19 : decode cX5_lines 19 = .ok (.iconst 1, 1) := by decide +kernel
theorem dX5_lines_20 : decode cX5_lines 20 = .ok (.ireturn, 1) := by decide +kernel
set_option maxRecDepth 20000 in
theorem ggX5_even_X1_turnsOfLine0 : GoodIn wsX5_even wsX1_turnsOfLine0 := goodIn_r _ [10, 11, 12, 13, 14, 9, 15, 24, 25, 26, 27, 28, 29, 30, 31, 32, 33, 34, 35, 36, 37] (by decide +kernel) (by decide +kernel)
set_option maxRecDepth 20000 in
theorem gX5_even_X1_turnsOfLine0 : GoodIn wsX5_even (wsV RX5 171 RX1 yX1_turnsOfLine0 wsX1_turnsOfLine0) := goodIn_app (goodIn_of _ (by decide +kernel)) ggX5_even_X1_turnsOfLine0
theorem dX5_even_0 : decode cX5_even 0 = .ok (.iconst 0, 1) := by decide +kernel
theorem dX5_even_1 : decode cX5_even 1 = .ok (.istore_n 1, 1) := by decide +kernel
theorem dX5_even_2 : decode cX5_even 2 = .ok (.bipush 61, 2) := by decide +kernel
theorem dX5_even_4 : decode cX5_even 4 = .ok (.istore_n 2, 1) := by decide +kernel
theorem dX5_even_5 : decode cX5_even 5 = .ok (.iconst 0, 1) := by decide +kernel
theorem dX5_even_6 : decode cX5_even 6 = .ok (.istore_n 3, 1) := by decide +kernel
theorem dX5_even_7 : decode cX5_even 7 = .ok (.iload_n 3, 1) := by decide +kernel
theorem dX5_even_8 : decode cX5_even 8 = .ok (.bipush 29, 2) := by decide +kernel
theorem dX5_even_10 : decode cX5_even 10 = .ok (.if_icmp .gt 38, 3) := by decide +kernel
theorem dX5_even_13 : decode cX5_even 13 = .ok (.iconst 2, 1) := by decide +kernel
theorem dX5_even_14 : decode cX5_even 14 = .ok (.aload_n 0, 1) := by decide +kernel
theorem dX5_even_15 : decode cX5_even 15 = .ok (.getfield 10, 3) := by decide +kernel
theorem dX5_even_18 : decode cX5_even 18 = .ok (.iload_n 3, 1) := by decide +kernel
theorem dX5_even_19 : decode cX5_even 19 = .ok (.invokevirtual 171, 3) := by decide +kernel
theorem dX5_even_22 : decode cX5_even 22 = .ok (.imul, 1) := by decide +kernel
theorem dX5_even_23 : decode cX5_even 23 = .ok (.bipush 60, 2) := by decide +kernel
theorem dX5_even_25 : decode cX5_even 25 = .ok (.isub, 1) := by decide +kernel
theorem dX5_even_26 : decode cX5_even 26 = .ok (.invokestatic 168, 3) := by decide +kernel
theorem dX5_even_29 : decode cX5_even 29 = .ok (.istore 4, 2) := by decide +kernel
theorem dX5_even_31 : decode cX5_even 31 = .ok (.iload 4, 2) := by decide +kernel
theorem dX5_even_33 : decode cX5_even 33 = .ok (.iload_n 2, 1) := by decide +kernel
theorem dX5_even_34 : decode cX5_even 34 = .ok (.if_icmp .ge 8, 3) := by decide +kernel
theorem dX5_even_37 : decode cX5_even 37 = .ok (.iload_n 3, 1) := by decide +kernel
theorem dX5_even_38 : decode cX5_even 38 = .ok (.istore_n 1, 1) := by decide +kernel
theorem dX5_even_39 : decode cX5_even 39 = .ok (.iload 4, 2) := by decide +kernel
theorem dX5_even_41 : decode cX5_even 41 = .ok (.istore_n 2, 1) := by decide +kernel
theorem dX5_even_42 : decode cX5_even 42 = .ok (.iinc 3 1, 3) := by decide +kernel
theorem dX5_even_45 : decode cX5_even 45 = .ok (.goto (-38), 3) := by decide +kernel
theorem dX5_even_48 : decode cX5_even 48 = .ok (.iload_n 1, 1) := by decide +kernel
theorem dX5_even_49 : decode cX5_even 49 = .ok (.ireturn, 1) := by decide +kernel
set_option maxRecDepth 20000 in
theorem ggX5_note_X1_hasLift : GoodIn wsX5_note wsX1_hasLift := goodIn_r _ [7, 8, 40, 41, 42, 43, 44, 45, 46, 47, 48, 49, 50, 51, 52, 53] (by decide +kernel) (by decide +kernel)
set_option maxRecDepth 20000 in
theorem gX5_note_X1_hasLift : GoodIn wsX5_note (wsV RX5 117 RX1 yX1_hasLift wsX1_hasLift) := goodIn_app (goodIn_of _ (by decide +kernel)) ggX5_note_X1_hasLift
set_option maxRecDepth 20000 in
theorem ggX5_note_X1_hasFloor : GoodIn wsX5_note wsX1_hasFloor := goodIn_r _ [12, 13, 40, 41, 42, 43, 44, 45, 46, 47, 48, 49, 50, 51, 52, 53] (by decide +kernel) (by decide +kernel)
set_option maxRecDepth 20000 in
theorem gX5_note_X1_hasFloor : GoodIn wsX5_note (wsV RX5 145 RX1 yX1_hasFloor wsX1_hasFloor) := goodIn_app (goodIn_of _ (by decide +kernel)) ggX5_note_X1_hasFloor
set_option maxRecDepth 20000 in
theorem ggX5_note_X5_isWithin : GoodIn wsX5_note wsX5_isWithin := goodIn_r _ [17] (by decide +kernel) (by decide +kernel)
set_option maxRecDepth 20000 in
theorem gX5_note_X5_isWithin : GoodIn wsX5_note (va_wsS RX5 54 yX5_isWithin wsX5_isWithin) := goodIn_app (goodIn_of _ (by decide +kernel)) ggX5_note_X5_isWithin
set_option maxRecDepth 20000 in
theorem ggX5_note_X5_refuse : GoodIn wsX5_note wsX5_refuse := goodIn_r _ [21, 22, 14, 15, 16, 17, 32, 33, 34, 35, 36, 37, 38, 39] (by decide +kernel) (by decide +kernel)
set_option maxRecDepth 20000 in
theorem gX5_note_X5_refuse : GoodIn wsX5_note (wsV RX5 58 RX5 yX5_refuse wsX5_refuse) := goodIn_app (goodIn_of _ (by decide +kernel)) ggX5_note_X5_refuse
set_option maxRecDepth 20000 in
theorem ggX5_note_X1_addNoted : GoodIn wsX5_note wsX1_addNoted := goodIn_r _ [26, 27, 28, 29, 30, 31, 40, 41, 42, 43, 44, 45, 46, 47, 48, 49, 50, 51, 52, 53] (by decide +kernel) (by decide +kernel)
set_option maxRecDepth 20000 in
theorem gX5_note_X1_addNoted : GoodIn wsX5_note (wsV RX5 183 RX1 yX1_addNoted wsX1_addNoted) := goodIn_app (goodIn_of _ (by decide +kernel)) ggX5_note_X1_addNoted
theorem dX5_note_0 : decode cX5_note 0 = .ok (.aload_n 0, 1) := by decide +kernel
theorem dX5_note_1 : decode cX5_note 1 = .ok (.getfield 10, 3) := by decide +kernel
theorem dX5_note_4 : decode cX5_note 4 = .ok (.iload_n 1, 1) := by decide +kernel
theorem dX5_note_5 : decode cX5_note 5 = .ok (.invokevirtual 117, 3) := by decide +kernel
theorem dX5_note_8 : decode cX5_note 8 = .ok (.ifCond .eq 34, 3) := by decide +kernel
theorem dX5_note_11 : decode cX5_note 11 = .ok (.aload_n 0, 1) := by decide +kernel
theorem dX5_note_12 : decode cX5_note 12 = .ok (.getfield 10, 3) := by decide +kernel
theorem dX5_note_15 : decode cX5_note 15 = .ok (.iload_n 2, 1) := by decide +kernel
theorem dX5_note_16 : decode cX5_note 16 = .ok (.invokevirtual 145, 3) := by decide +kernel
theorem dX5_note_19 : decode cX5_note 19 = .ok (.ifCond .eq 23, 3) := by decide +kernel
theorem dX5_note_22 : decode cX5_note 22 = .ok (.iload_n 3, 1) := by decide +kernel
theorem dX5_note_23 : decode cX5_note 23 = .ok (.iconst 0, 1) := by decide +kernel
theorem dX5_note_24 : decode cX5_note 24 = .ok (.bipush 99, 2) := by decide +kernel
theorem dX5_note_26 : decode cX5_note 26 = .ok (.invokestatic 54, 3) := by decide +kernel
theorem dX5_note_29 : decode cX5_note 29 = .ok (.ifCond .eq 13, 3) := by decide +kernel
theorem dX5_note_32 : decode cX5_note 32 = .ok (.iload 4, 2) := by decide +kernel
theorem dX5_note_34 : decode cX5_note 34 = .ok (.iconst 0, 1) := by decide +kernel
theorem dX5_note_35 : decode cX5_note 35 = .ok (.iconst 1, 1) := by decide +kernel
theorem dX5_note_36 : decode cX5_note 36 = .ok (.invokestatic 54, 3) := by decide +kernel
theorem dX5_note_39 : decode cX5_note 39 = .ok (.ifCond .ne 10, 3) := by decide +kernel
theorem dX5_note_42 : decode cX5_note 42 = .ok (.aload_n 0, 1) := by decide +kernel
theorem dX5_note_43 : decode cX5_note 43 = .ok (.bipush (-2), 2) := by decide +kernel
theorem dX5_note_45 : decode cX5_note 45 = .ok (.invokevirtual 58, 3) := by decide +kernel
theorem dX5_note_48 : decode cX5_note 48 = .ok (.ireturn, 1) := by decide +kernel
theorem dX5_note_49 : decode cX5_note 49 = .ok (.aload_n 0, 1) := by decide +kernel
theorem dX5_note_50 : decode cX5_note 50 = .ok (.getfield 10, 3) := by decide +kernel
theorem dX5_note_53 : decode cX5_note 53 = .ok (.getfield 180, 3) := by decide +kernel
theorem dX5_note_56 : decode cX5_note 56 = .ok (.bipush 6, 2) := by decide +kernel
theorem dX5_note_58 : decode cX5_note 58 = .ok (.if_icmp .lt 10, 3) := by decide +kernel
theorem dX5_note_61 : decode cX5_note 61 = .ok (.aload_n 0, 1) := by decide +kernel
theorem dX5_note_62 : decode cX5_note 62 = .ok (.bipush (-4), 2) := by decide +kernel
theorem dX5_note_64 : decode cX5_note 64 = .ok (.invokevirtual 58, 3) := by decide +kernel
theorem dX5_note_67 : decode cX5_note 67 = .ok (.ireturn, 1) := by decide +kernel
theorem dX5_note_68 : decode cX5_note 68 = .ok (.aload_n 0, 1) := by decide +kernel
theorem dX5_note_69 : decode cX5_note 69 = .ok (.getfield 10, 3) := by decide +kernel
theorem dX5_note_72 : decode cX5_note 72 = .ok (.iload_n 1, 1) := by decide +kernel
theorem dX5_note_73 : decode cX5_note 73 = .ok (.iload_n 2, 1) := by decide +kernel
theorem dX5_note_74 : decode cX5_note 74 = .ok (.iload_n 3, 1) := by decide +kernel
theorem dX5_note_75 : decode cX5_note 75 = .ok (.iload 4, 2) := by decide +kernel
theorem dX5_note_77 : decode cX5_note 77 = .ok (.invokevirtual 183, 3) := by decide +kernel
theorem dX5_note_80 : decode cX5_note 80 = .ok (.aload_n 0, 1) := by decide +kernel
theorem dX5_note_81 : decode cX5_note 81 = .ok (.getfield 10, 3) := by decide +kernel
theorem dX5_note_84 : decode cX5_note 84 = .ok (.getfield 180, 3) := by decide +kernel
theorem dX5_note_87 : decode cX5_note 87 = .ok (.ireturn, 1) := by decide +kernel
theorem dX5_forget_0 : decode cX5_forget 0 = .ok (.aload_n 0, 1) := by decide +kernel
theorem dX5_forget_1 : decode cX5_forget 1 = .ok (.getfield 10, 3) := by decide +kernel
theorem dX5_forget_4 : decode cX5_forget 4 = .ok (.getfield 180, 3) := by decide +kernel
theorem dX5_forget_7 : decode cX5_forget 7 = .ok (.istore_n 1, 1) := by decide +kernel
theorem dX5_forget_8 : decode cX5_forget 8 = .ok (.aload_n 0, 1) := by decide +kernel
theorem dX5_forget_9 : decode cX5_forget 9 = .ok (.getfield 10, 3) := by decide +kernel
theorem dX5_forget_12 : decode cX5_forget 12 = .ok (.iconst 0, 1) := by decide +kernel
theorem dX5_forget_13 : decode cX5_forget 13 = .ok (.putfield 180, 3) := by decide +kernel
theorem dX5_forget_16 : decode cX5_forget 16 = .ok (.iload_n 1, 1) := by decide +kernel
theorem dX5_forget_17 : decode cX5_forget 17 = .ok (.ireturn, 1) := by decide +kernel
set_option maxRecDepth 20000 in
theorem ggX5_is_X1_hasLift : GoodIn wsX5_is wsX1_hasLift := goodIn_r _ [7, 8, 62, 63, 64, 65, 66, 67, 68, 69, 70, 71, 72, 73, 74, 75] (by decide +kernel) (by decide +kernel)
set_option maxRecDepth 20000 in
theorem gX5_is_X1_hasLift : GoodIn wsX5_is (wsV RX5 117 RX1 yX1_hasLift wsX1_hasLift) := goodIn_app (goodIn_of _ (by decide +kernel)) ggX5_is_X1_hasLift
set_option maxRecDepth 20000 in
theorem ggX5_is_X5_isWithin : GoodIn wsX5_is wsX5_isWithin := goodIn_r _ [12] (by decide +kernel) (by decide +kernel)
set_option maxRecDepth 20000 in
theorem gX5_is_X5_isWithin : GoodIn wsX5_is (va_wsS RX5 54 yX5_isWithin wsX5_isWithin) := goodIn_app (goodIn_of _ (by decide +kernel)) ggX5_is_X5_isWithin
set_option maxRecDepth 20000 in
theorem ggX5_is_X5_refuse : GoodIn wsX5_is wsX5_refuse := goodIn_r _ [16, 17, 9, 10, 11, 12, 54, 55, 56, 57, 58, 59, 60, 61] (by decide +kernel) (by decide +kernel)
set_option maxRecDepth 20000 in
theorem gX5_is_X5_refuse : GoodIn wsX5_is (wsV RX5 58 RX5 yX5_refuse wsX5_refuse) := goodIn_app (goodIn_of _ (by decide +kernel)) ggX5_is_X5_refuse
set_option maxRecDepth 20000 in
theorem ggX5_is_X4_fittingKinds : GoodIn wsX5_is wsX4_fittingKinds := goodIn_r _ [22, 23, 24, 25, 26, 27, 21, 28, 29, 30, 31, 32, 33, 34, 35, 36, 37, 38, 39, 40, 41, 42, 43, 44, 45, 46, 47, 48, 76, 62, 63, 64, 65, 66, 67, 68, 69, 70, 71, 72, 73, 74, 75] (by decide +kernel) (by decide +kernel)
set_option maxRecDepth 20000 in
theorem gX5_is_X4_fittingKinds : GoodIn wsX5_is (wsV RX5 187 RX4 yX4_fittingKinds wsX4_fittingKinds) := goodIn_app (goodIn_of _ (by decide +kernel)) ggX5_is_X4_fittingKinds
set_option maxRecDepth 20000 in
theorem ggX5_is_X4_fittingStarts : GoodIn wsX5_is wsX4_fittingStarts := goodIn_r _ [52, 23, 53, 25, 26, 27, 21, 28, 29, 30, 31, 32, 33, 34, 35, 36, 37, 38, 39, 40, 41, 42, 43, 44, 45, 46, 47, 48, 76, 62, 63, 64, 65, 66, 67, 68, 69, 70, 71, 72, 73, 74, 75] (by decide +kernel) (by decide +kernel)
set_option maxRecDepth 20000 in
theorem gX5_is_X4_fittingStarts : GoodIn wsX5_is (wsV RX5 190 RX4 yX4_fittingStarts wsX4_fittingStarts) := goodIn_app (goodIn_of _ (by decide +kernel)) ggX5_is_X4_fittingStarts
theorem dX5_is_0 : decode cX5_is 0 = .ok (.aload_n 0, 1) := by decide +kernel
theorem dX5_is_1 : decode cX5_is 1 = .ok (.getfield 10, 3) := by decide +kernel
theorem dX5_is_4 : decode cX5_is 4 = .ok (.iload_n 1, 1) := by decide +kernel
theorem dX5_is_5 : decode cX5_is 5 = .ok (.invokevirtual 117, 3) := by decide +kernel
theorem dX5_is_8 : decode cX5_is 8 = .ok (.ifCond .eq 12, 3) := by decide +kernel
theorem dX5_is_11 : decode cX5_is 11 = .ok (.iload_n 2, 1) := by decide +kernel
theorem dX5_is_12 : decode cX5_is 12 = .ok (.iconst 0, 1) := by decide +kernel
theorem dX5_is_13 : decode cX5_is 13 = .ok (.iconst 1, 1) := by decide +kernel
theorem dX5_is_14 : decode cX5_is 14 = .ok (.invokestatic 54, 3) := by decide +kernel
theorem dX5_is_17 : decode cX5_is 17 = .ok (.ifCond .ne 10, 3) := by decide +kernel
theorem dX5_is_20 : decode cX5_is 20 = .ok (.aload_n 0, 1) := by decide +kernel
theorem dX5_is_21 : decode cX5_is 21 = .ok (.bipush (-2), 2) := by decide +kernel
theorem dX5_is_23 : decode cX5_is 23 = .ok (.invokevirtual 58, 3) := by decide +kernel
theorem dX5_is_26 : decode cX5_is 26 = .ok (.ireturn, 1) := by decide +kernel
theorem dX5_is_27 : decode cX5_is 27 = .ok (.iload_n 2, 1) := by decide +kernel
theorem dX5_is_28 : decode cX5_is 28 = .ok (.ifCond .ne 14, 3) := by decide +kernel
theorem dX5_is_31 : decode cX5_is 31 = .ok (.aload_n 0, 1) := by decide +kernel
theorem dX5_is_32 : decode cX5_is 32 = .ok (.getfield 32, 3) := by decide +kernel
theorem dX5_is_35 : decode cX5_is 35 = .ok (.iload_n 1, 1) := by decide +kernel
theorem dX5_is_36 : decode cX5_is 36 = .ok (.invokevirtual 187, 3) := by decide +kernel
theorem dX5_is_39 : decode cX5_is 39 = .ok (.goto 11, 3) := by decide +kernel
theorem dX5_is_42 : decode cX5_is 42 = .ok (.aload_n 0, 1) := by decide +kernel
theorem dX5_is_43 : decode cX5_is 43 = .ok (.getfield 32, 3) := by decide +kernel
theorem dX5_is_46 : decode cX5_is 46 = .ok (.iload_n 1, 1) := by decide +kernel
theorem dX5_is_47 : decode cX5_is 47 = .ok (.invokevirtual 190, 3) := by decide +kernel
theorem dX5_is_50 : decode cX5_is 50 = .ok (.ireturn, 1) := by decide +kernel
set_option maxRecDepth 20000 in
theorem ggX5_look_X1_hasLift : GoodIn wsX5_look wsX1_hasLift := goodIn_r _ [7, 8, 78, 79, 80, 81, 82, 83, 84, 85, 86, 87, 88, 89, 90, 91] (by decide +kernel) (by decide +kernel)
set_option maxRecDepth 20000 in
theorem gX5_look_X1_hasLift : GoodIn wsX5_look (wsV RX5 117 RX1 yX1_hasLift wsX1_hasLift) := goodIn_app (goodIn_of _ (by decide +kernel)) ggX5_look_X1_hasLift
set_option maxRecDepth 20000 in
theorem ggX5_look_X1_hasFloor : GoodIn wsX5_look wsX1_hasFloor := goodIn_r _ [12, 13, 78, 79, 80, 81, 82, 83, 84, 85, 86, 87, 88, 89, 90, 91] (by decide +kernel) (by decide +kernel)
set_option maxRecDepth 20000 in
theorem gX5_look_X1_hasFloor : GoodIn wsX5_look (wsV RX5 145 RX1 yX1_hasFloor wsX1_hasFloor) := goodIn_app (goodIn_of _ (by decide +kernel)) ggX5_look_X1_hasFloor
set_option maxRecDepth 20000 in
theorem ggX5_look_X5_refuse : GoodIn wsX5_look wsX5_refuse := goodIn_r _ [18, 19, 20, 21, 17, 22, 70, 71, 72, 73, 74, 75, 76, 77] (by decide +kernel) (by decide +kernel)
set_option maxRecDepth 20000 in
theorem gX5_look_X5_refuse : GoodIn wsX5_look (wsV RX5 58 RX5 yX5_refuse wsX5_refuse) := goodIn_app (goodIn_of _ (by decide +kernel)) ggX5_look_X5_refuse
set_option maxRecDepth 20000 in
theorem ggX5_look_X4_tellingMinute : GoodIn wsX5_look wsX4_tellingMinute := goodIn_r _ [27, 28, 29, 30, 31, 32, 33, 34, 35, 36, 26, 37, 38, 39, 40, 41, 42, 43, 44, 45, 46, 47, 48, 49, 50, 51, 52, 53, 54, 55, 56, 57, 58, 59, 60, 61, 62, 63, 64, 65, 66, 67, 68, 69, 92, 78, 79, 80, 81, 82, 83, 84, 85, 86, 87, 88, 89, 90, 91] (by decide +kernel) (by decide +kernel)
set_option maxRecDepth 20000 in
theorem gX5_look_X4_tellingMinute : GoodIn wsX5_look (wsV RX5 193 RX4 yX4_tellingMinute wsX4_tellingMinute) := goodIn_app (goodIn_of _ (by decide +kernel)) ggX5_look_X4_tellingMinute
theorem dX5_look_0 : decode cX5_look 0 = .ok (.aload_n 0, 1) := by decide +kernel
theorem dX5_look_1 : decode cX5_look 1 = .ok (.getfield 10, 3) := by decide +kernel
theorem dX5_look_4 : decode cX5_look 4 = .ok (.iload_n 1, 1) := by decide +kernel
theorem dX5_look_5 : decode cX5_look 5 = .ok (.invokevirtual 117, 3) := by decide +kernel
theorem dX5_look_8 : decode cX5_look 8 = .ok (.ifCond .eq 14, 3) := by decide +kernel
theorem dX5_look_11 : decode cX5_look 11 = .ok (.aload_n 0, 1) := by decide +kernel
theorem dX5_look_12 : decode cX5_look 12 = .ok (.getfield 10, 3) := by decide +kernel
theorem dX5_look_15 : decode cX5_look 15 = .ok (.iload_n 2, 1) := by decide +kernel
theorem dX5_look_16 : decode cX5_look 16 = .ok (.invokevirtual 145, 3) := by decide +kernel
theorem dX5_look_19 : decode cX5_look 19 = .ok (.ifCond .ne 10, 3) := by decide +kernel
theorem dX5_look_22 : decode cX5_look 22 = .ok (.aload_n 0, 1) := by decide +kernel
theorem dX5_look_23 : decode cX5_look 23 = .ok (.bipush (-2), 2) := by decide +kernel
theorem dX5_look_25 : decode cX5_look 25 = .ok (.invokevirtual 58, 3) := by decide +kernel
theorem dX5_look_28 : decode cX5_look 28 = .ok (.ireturn, 1) := by decide +kernel
theorem dX5_look_29 : decode cX5_look 29 = .ok (.aload_n 0, 1) := by decide +kernel
theorem dX5_look_30 : decode cX5_look 30 = .ok (.getfield 32, 3) := by decide +kernel
theorem dX5_look_33 : decode cX5_look 33 = .ok (.iload_n 1, 1) := by decide +kernel
theorem dX5_look_34 : decode cX5_look 34 = .ok (.iload_n 2, 1) := by decide +kernel
theorem dX5_look_35 : decode cX5_look 35 = .ok (.invokevirtual 193, 3) := by decide +kernel
theorem dX5_look_38 : decode cX5_look 38 = .ok (.ireturn, 1) := by decide +kernel
set_option maxRecDepth 20000 in
theorem ggX5_porters_X1_hasFloor : GoodIn wsX5_porters wsX1_hasFloor := goodIn_r _ [10, 11, 72, 73, 74, 75, 76, 77, 78, 79, 80, 81, 82, 83, 84, 85] (by decide +kernel) (by decide +kernel)
set_option maxRecDepth 20000 in
theorem gX5_porters_X1_hasFloor : GoodIn wsX5_porters (wsV RX5 145 RX1 yX1_hasFloor wsX1_hasFloor) := goodIn_app (goodIn_of _ (by decide +kernel)) ggX5_porters_X1_hasFloor
set_option maxRecDepth 20000 in
theorem ggX5_porters_X5_isMinute : GoodIn wsX5_porters wsX5_isMinute := goodIn_r _ [15, 16, 17, 14, 18] (by decide +kernel) (by decide +kernel)
set_option maxRecDepth 20000 in
theorem gX5_porters_X5_isMinute : GoodIn wsX5_porters (va_wsS RX5 142 yX5_isMinute wsX5_isMinute) := goodIn_app (goodIn_of _ (by decide +kernel)) ggX5_porters_X5_isMinute
set_option maxRecDepth 20000 in
theorem ggX5_porters_X5_isWithin : GoodIn wsX5_porters wsX5_isWithin := goodIn_r _ [18] (by decide +kernel) (by decide +kernel)
set_option maxRecDepth 20000 in
theorem gX5_porters_X5_isWithin : GoodIn wsX5_porters (va_wsS RX5 54 yX5_isWithin wsX5_isWithin) := goodIn_app (goodIn_of _ (by decide +kernel)) ggX5_porters_X5_isWithin
set_option maxRecDepth 20000 in
theorem ggX5_porters_X5_refuse : GoodIn wsX5_porters wsX5_refuse := goodIn_r _ [22, 23, 16, 17, 14, 18, 64, 65, 66, 67, 68, 69, 70, 71] (by decide +kernel) (by decide +kernel)
set_option maxRecDepth 20000 in
theorem gX5_porters_X5_refuse : GoodIn wsX5_porters (wsV RX5 58 RX5 yX5_refuse wsX5_refuse) := goodIn_app (goodIn_of _ (by decide +kernel)) ggX5_porters_X5_refuse
set_option maxRecDepth 20000 in
theorem ggX5_porters_X4_waitForLift : GoodIn wsX5_porters wsX4_waitForLift := goodIn_r _ [28, 29, 30, 31, 27, 32, 33, 34, 35, 36, 37, 38, 39, 40, 41, 42, 43, 44, 45, 46, 47, 48, 49, 50, 51, 52, 53, 86, 72, 73, 74, 75, 76, 77, 78, 79, 80, 81, 82, 83, 84, 85] (by decide +kernel) (by decide +kernel)
set_option maxRecDepth 20000 in
theorem gX5_porters_X4_waitForLift : GoodIn wsX5_porters (wsV RX5 196 RX4 yX4_waitForLift wsX4_waitForLift) := goodIn_app (goodIn_of _ (by decide +kernel)) ggX5_porters_X4_waitForLift
set_option maxRecDepth 20000 in
theorem ggX5_porters_X0_set : GoodIn wsX5_porters wsX0_set := goodIn_r _ [58, 59, 60, 61, 62, 57, 63, 87, 88] (by decide +kernel) (by decide +kernel)
set_option maxRecDepth 20000 in
theorem gX5_porters_X0_set : GoodIn wsX5_porters (wsV RX5 176 RX0 yX0_set wsX0_set) := goodIn_app (goodIn_of _ (by decide +kernel)) ggX5_porters_X0_set
theorem dX5_porters_0 : decode cX5_porters 0 = .ok (.aload_n 0, 1) := by decide +kernel
theorem dX5_porters_1 : decode cX5_porters 1 = .ok (.getfield 10, 3) := by decide +kernel
theorem dX5_porters_4 : decode cX5_porters 4 = .ok (.iload_n 1, 1) := by decide +kernel
theorem dX5_porters_5 : decode cX5_porters 5 = .ok (.invokevirtual 145, 3) := by decide +kernel
theorem dX5_porters_8 : decode cX5_porters 8 = .ok (.ifCond .eq 32, 3) := by decide +kernel
theorem dX5_porters_11 : decode cX5_porters 11 = .ok (.iload_n 2, 1) := by decide +kernel
theorem dX5_porters_12 : decode cX5_porters 12 = .ok (.invokestatic 142, 3) := by decide +kernel
theorem dX5_porters_15 : decode cX5_porters 15 = .ok (.ifCond .eq 25, 3) := by decide +kernel
theorem dX5_porters_18 : decode cX5_porters 18 = .ok (.iload_n 3, 1) := by decide +kernel
theorem dX5_porters_19 : decode cX5_porters 19 = .ok (.iconst 0, 1) := by decide +kernel
theorem dX5_porters_20 : decode cX5_porters 20 = .ok (.sipush 200, 3) := by decide +kernel
theorem dX5_porters_23 : decode cX5_porters 23 = .ok (.invokestatic 54, 3) := by decide +kernel
theorem dX5_porters_26 : decode cX5_porters 26 = .ok (.ifCond .eq 14, 3) := by decide +kernel
theorem dX5_porters_29 : decode cX5_porters 29 = .ok (.iload 4, 2) := by decide +kernel
theorem dX5_porters_31 : decode cX5_porters 31 = .ok (.iconst 0, 1) := by decide +kernel
theorem dX5_porters_32 : decode cX5_porters 32 = .ok (.bipush 10, 2) := by decide +kernel
theorem dX5_porters_34 : decode cX5_porters 34 = .ok (.invokestatic 54, 3) := by decide +kernel
theorem dX5_porters_37 : decode cX5_porters 37 = .ok (.ifCond .ne 10, 3) := by decide +kernel
theorem dX5_porters_40 : decode cX5_porters 40 = .ok (.aload_n 0, 1) := by decide +kernel
theorem dX5_porters_41 : decode cX5_porters 41 = .ok (.bipush (-2), 2) := by decide +kernel
theorem dX5_porters_43 : decode cX5_porters 43 = .ok (.invokevirtual 58, 3) := by decide +kernel
theorem dX5_porters_46 : decode cX5_porters 46 = .ok (.ireturn, 1) := by decide +kernel
theorem dX5_porters_47 : decode cX5_porters 47 = .ok (.lconst 1, 1) := by decide +kernel
theorem dX5_porters_48 : decode cX5_porters 48 = .ok (.lstore 5, 2) := by decide +kernel
theorem dX5_porters_50 : decode cX5_porters 50 = .ok (.lconst 1, 1) := by decide +kernel
theorem dX5_porters_51 : decode cX5_porters 51 = .ok (.lstore 7, 2) := by decide +kernel
theorem dX5_porters_53 : decode cX5_porters 53 = .ok (.iconst 0, 1) := by decide +kernel
theorem dX5_porters_54 : decode cX5_porters 54 = .ok (.istore 9, 2) := by decide +kernel
theorem dX5_porters_56 : decode cX5_porters 56 = .ok (.iload 9, 2) := by decide +kernel
theorem dX5_porters_58 : decode cX5_porters 58 = .ok (.aload_n 0, 1) := by decide +kernel
theorem dX5_porters_59 : decode cX5_porters 59 = .ok (.getfield 10, 3) := by decide +kernel
theorem dX5_porters_62 : decode cX5_porters 62 = .ok (.getfield 62, 3) := by decide +kernel
theorem dX5_porters_65 : decode cX5_porters 65 = .ok (.if_icmp .ge 50, 3) := by decide +kernel
theorem dX5_porters_68 : decode cX5_porters 68 = .ok (.aload_n 0, 1) := by decide +kernel
theorem dX5_porters_69 : decode cX5_porters 69 = .ok (.getfield 32, 3) := by decide +kernel
theorem dX5_porters_72 : decode cX5_porters 72 = .ok (.iload 9, 2) := by decide +kernel
theorem dX5_porters_74 : decode cX5_porters 74 = .ok (.iload_n 1, 1) := by decide +kernel
theorem dX5_porters_75 : decode cX5_porters 75 = .ok (.iload_n 2, 1) := by decide +kernel
theorem dX5_porters_76 : decode cX5_porters 76 = .ok (.invokevirtual 196, 3) := by decide +kernel
theorem dX5_porters_79 : decode cX5_porters 79 = .ok (.istore 10, 2) := by decide +kernel
theorem dX5_porters_81 : decode cX5_porters 81 = .ok (.iload 10, 2) := by decide +kernel
theorem dX5_porters_83 : decode cX5_porters 83 = .ok (.iconst (-1), 1) := by decide +kernel
theorem dX5_porters_84 : decode cX5_porters 84 = .ok (.if_icmp .eq 25, 3) := by decide +kernel
theorem dX5_porters_87 : decode cX5_porters 87 = .ok (.iload 10, 2) := by decide +kernel
theorem dX5_porters_89 : decode cX5_porters 89 = .ok (.iload_n 3, 1) := by decide +kernel
theorem dX5_porters_90 : decode cX5_porters 90 = .ok (.if_icmp .gt 19, 3) := by decide +kernel
theorem dX5_porters_93 : decode cX5_porters 93 = .ok (.lload 5, 2) := by decide +kernel
theorem dX5_porters_95 : decode cX5_porters 95 = .ok (.iload 4, 2) := by decide +kernel
theorem dX5_porters_97 : decode cX5_porters 97 = .ok (.i2l, 1) := by decide +kernel
theorem dX5_porters_98 : decode cX5_porters 98 = .ok (.lmul, 1) := by decide +kernel
theorem dX5_porters_99 : decode cX5_porters 99 = .ok (.lstore 5, 2) := by decide +kernel
theorem dX5_porters_101 : decode cX5_porters 101 = .ok (.lload 7, 2) := by decide +kernel
theorem dX5_porters_103 : decode cX5_porters 103 = .ok (.ldc2_w 199, 3) := by decide +kernel
theorem dX5_porters_106 : decode cX5_porters 106 = .ok (.lmul, 1) := by decide +kernel
theorem dX5_porters_107 : decode cX5_porters 107 = .ok (.lstore 7, 2) := by decide +kernel
theorem dX5_porters_109 : decode cX5_porters 109 = .ok (.iinc 9 1, 3) := by decide +kernel
theorem dX5_porters_112 : decode cX5_porters 112 = .ok (.goto (-56), 3) := by decide +kernel
theorem dX5_porters_115 : decode cX5_porters 115 = .ok (.aload_n 0, 1) := by decide +kernel
theorem dX5_porters_116 : decode cX5_porters 116 = .ok (.getfield 46, 3) := by decide +kernel
theorem dX5_porters_119 : decode cX5_porters 119 = .ok (.lload 7, 2) := by decide +kernel
theorem dX5_porters_121 : decode cX5_porters 121 = .ok (.lload 5, 2) := by decide +kernel
theorem dX5_porters_123 : decode cX5_porters 123 = .ok (.lsub, 1) := by decide +kernel
theorem dX5_porters_124 : decode cX5_porters 124 = .ok (.lload 7, 2) := by decide +kernel
theorem dX5_porters_126 : decode cX5_porters 126 = .ok (.invokevirtual 176, 3) := by decide +kernel
theorem dX5_porters_129 : decode cX5_porters 129 = .ok (.iconst 1, 1) := by decide +kernel
theorem dX5_porters_130 : decode cX5_porters 130 = .ok (.ireturn, 1) := by decide +kernel
set_option maxRecDepth 20000 in
theorem ggX5_days_X1_hasFloor : GoodIn wsX5_days wsX1_hasFloor := goodIn_r _ [13, 14, 75, 76, 77, 78, 79, 80, 81, 82, 83, 84, 85, 86, 87, 88] (by decide +kernel) (by decide +kernel)
set_option maxRecDepth 20000 in
theorem gX5_days_X1_hasFloor : GoodIn wsX5_days (wsV RX5 145 RX1 yX1_hasFloor wsX1_hasFloor) := goodIn_app (goodIn_of _ (by decide +kernel)) ggX5_days_X1_hasFloor
set_option maxRecDepth 20000 in
theorem ggX5_days_X5_isWithin : GoodIn wsX5_days wsX5_isWithin := goodIn_r _ [18] (by decide +kernel) (by decide +kernel)
set_option maxRecDepth 20000 in
theorem gX5_days_X5_isWithin : GoodIn wsX5_days (va_wsS RX5 54 yX5_isWithin wsX5_isWithin) := goodIn_app (goodIn_of _ (by decide +kernel)) ggX5_days_X5_isWithin
set_option maxRecDepth 20000 in
theorem ggX5_days_X5_refuse : GoodIn wsX5_days wsX5_refuse := goodIn_r _ [22, 23, 15, 16, 17, 18, 67, 68, 69, 70, 71, 72, 73, 74] (by decide +kernel) (by decide +kernel)
set_option maxRecDepth 20000 in
theorem gX5_days_X5_refuse : GoodIn wsX5_days (wsV RX5 58 RX5 yX5_refuse wsX5_refuse) := goodIn_app (goodIn_of _ (by decide +kernel)) ggX5_days_X5_refuse
set_option maxRecDepth 20000 in
theorem ggX5_days_X4_wayOfFirst : GoodIn wsX5_days wsX4_wayOfFirst := goodIn_r _ [28, 29, 30, 31, 27, 32, 33, 34, 35, 36, 37, 38, 39, 40, 41, 42, 43, 44, 45, 46, 47, 48, 49, 50, 51, 52, 53, 54, 55, 56, 57, 58, 59, 60, 61, 62, 63, 64, 65, 66, 89, 75, 76, 77, 78, 79, 80, 81, 82, 83, 84, 85, 86, 87, 88] (by decide +kernel) (by decide +kernel)
set_option maxRecDepth 20000 in
theorem gX5_days_X4_wayOfFirst : GoodIn wsX5_days (wsV RX5 155 RX4 yX4_wayOfFirst wsX4_wayOfFirst) := goodIn_app (goodIn_of _ (by decide +kernel)) ggX5_days_X4_wayOfFirst
theorem dX5_days_0 : decode cX5_days 0 = .ok (.aload_n 0, 1) := by decide +kernel
theorem dX5_days_1 : decode cX5_days 1 = .ok (.getfield 10, 3) := by decide +kernel
theorem dX5_days_4 : decode cX5_days 4 = .ok (.iload_n 1, 1) := by decide +kernel
theorem dX5_days_5 : decode cX5_days 5 = .ok (.invokevirtual 145, 3) := by decide +kernel
theorem dX5_days_8 : decode cX5_days 8 = .ok (.ifCond .eq 23, 3) := by decide +kernel
theorem dX5_days_11 : decode cX5_days 11 = .ok (.iload_n 2, 1) := by decide +kernel
theorem dX5_days_12 : decode cX5_days 12 = .ok (.iconst 0, 1) := by decide +kernel
theorem dX5_days_13 : decode cX5_days 13 = .ok (.ldc 201, 2) := by decide +kernel
theorem dX5_days_15 : decode cX5_days 15 = .ok (.invokestatic 54, 3) := by decide +kernel
theorem dX5_days_18 : decode cX5_days 18 = .ok (.ifCond .eq 13, 3) := by decide +kernel
theorem dX5_days_21 : decode cX5_days 21 = .ok (.iload_n 3, 1) := by decide +kernel
theorem dX5_days_22 : decode cX5_days 22 = .ok (.iconst 0, 1) := by decide +kernel
theorem dX5_days_23 : decode cX5_days 23 = .ok (.bipush 60, 2) := by decide +kernel
theorem dX5_days_25 : decode cX5_days 25 = .ok (.invokestatic 54, 3) := by decide +kernel
theorem dX5_days_28 : decode cX5_days 28 = .ok (.ifCond .ne 10, 3) := by decide +kernel
theorem dX5_days_31 : decode cX5_days 31 = .ok (.aload_n 0, 1) := by decide +kernel
theorem dX5_days_32 : decode cX5_days 32 = .ok (.bipush (-2), 2) := by decide +kernel
theorem dX5_days_34 : decode cX5_days 34 = .ok (.invokevirtual 58, 3) := by decide +kernel
theorem dX5_days_37 : decode cX5_days 37 = .ok (.ireturn, 1) := by decide +kernel
theorem dX5_days_38 : decode cX5_days 38 = .ok (.iload_n 2, 1) := by decide +kernel
theorem dX5_days_39 : decode cX5_days 39 = .ok (.i2l, 1) := by decide +kernel
theorem dX5_days_40 : decode cX5_days 40 = .ok (.lstore 4, 2) := by decide +kernel
theorem dX5_days_42 : decode cX5_days 42 = .ok (.iconst 0, 1) := by decide +kernel
theorem dX5_days_43 : decode cX5_days 43 = .ok (.istore 6, 2) := by decide +kernel
theorem dX5_days_45 : decode cX5_days 45 = .ok (.iconst 0, 1) := by decide +kernel
theorem dX5_days_46 : decode cX5_days 46 = .ok (.istore 7, 2) := by decide +kernel
theorem dX5_days_48 : decode cX5_days 48 = .ok (.iload 7, 2) := by decide +kernel
theorem dX5_days_50 : decode cX5_days 50 = .ok (.iload_n 3, 1) := by decide +kernel
theorem dX5_days_51 : decode cX5_days 51 = .ok (.if_icmp .ge 55, 3) := by decide +kernel
theorem dX5_days_54 : decode cX5_days 54 = .ok (.lload 4, 2) := by decide +kernel
theorem dX5_days_56 : decode cX5_days 56 = .ok (.ldc2_w 202, 3) := by decide +kernel
theorem dX5_days_59 : decode cX5_days 59 = .ok (.lmul, 1) := by decide +kernel
theorem dX5_days_60 : decode cX5_days 60 = .ok (.ldc2_w 204, 3) := by decide +kernel
theorem dX5_days_63 : decode cX5_days 63 = .ok (.ladd, 1) := by decide +kernel
theorem dX5_days_64 : decode cX5_days 64 = .ok (.ldc2_w 206, 3) := by decide +kernel
theorem dX5_days_67 : decode cX5_days 67 = .ok (.lrem, 1) := by decide +kernel
theorem dX5_days_68 : decode cX5_days 68 = .ok (.lstore 4, 2) := by decide +kernel
theorem dX5_days_70 : decode cX5_days 70 = .ok (.lload 4, 2) := by decide +kernel
theorem dX5_days_72 : decode cX5_days 72 = .ok (.ldc2_w 208, 3) := by decide +kernel
theorem dX5_days_75 : decode cX5_days 75 = .ok (.ldiv, 1) := by decide +kernel
theorem dX5_days_76 : decode cX5_days 76 = .ok (.ldc2_w 210, 3) := by decide +kernel
theorem dX5_days_79 : decode cX5_days 79 = .ok (.lrem, 1) := by decide +kernel
theorem dX5_days_80 : decode cX5_days 80 = .ok (.l2i, 1) := by decide +kernel
theorem dX5_days_81 : decode cX5_days 81 = .ok (.istore 8, 2) := by decide +kernel
theorem dX5_days_83 : decode cX5_days 83 = .ok (.aload_n 0, 1) := by decide +kernel
theorem dX5_days_84 : decode cX5_days 84 = .ok (.getfield 32, 3) := by decide +kernel
theorem dX5_days_87 : decode cX5_days 87 = .ok (.iload_n 1, 1) := by decide +kernel
theorem dX5_days_88 : decode cX5_days 88 = .ok (.iload 8, 2) := by decide +kernel
theorem dX5_days_90 : decode cX5_days 90 = .ok (.invokevirtual 155, 3) := by decide +kernel
theorem dX5_days_93 : decode cX5_days 93 = .ok (.iconst 1, 1) := by decide +kernel
theorem dX5_days_94 : decode cX5_days 94 = .ok (.if_icmp .ne 6, 3) := by decide +kernel
theorem dX5_days_97 : decode cX5_days 97 = .ok (.iinc 6 1, 3) := by decide +kernel
theorem dX5_days_100 : decode cX5_days 100 = .ok (.iinc 7 1, 3) := by decide +kernel
theorem dX5_days_103 : decode cX5_days 103 = .ok (.goto (-55), 3) := by decide +kernel
theorem dX5_days_106 : decode cX5_days 106 = .ok (.iload 6, 2) := by decide +kernel
theorem dX5_days_108 : decode cX5_days 108 = .ok (.ireturn, 1) := by decide +kernel
set_option maxRecDepth 20000 in
theorem ggX5_part_X5_isWithin : GoodIn wsX5_part wsX5_isWithin := goodIn_r _ [7] (by decide +kernel) (by decide +kernel)
set_option maxRecDepth 20000 in
theorem gX5_part_X5_isWithin : GoodIn wsX5_part (va_wsS RX5 54 yX5_isWithin wsX5_isWithin) := goodIn_app (goodIn_of _ (by decide +kernel)) ggX5_part_X5_isWithin
set_option maxRecDepth 20000 in
theorem ggX5_part_X5_refuse : GoodIn wsX5_part wsX5_refuse := goodIn_r _ [11, 12, 4, 5, 6, 7, 13, 14, 15, 16, 17, 18, 19, 20] (by decide +kernel) (by decide +kernel)
set_option maxRecDepth 20000 in
theorem gX5_part_X5_refuse : GoodIn wsX5_part (wsV RX5 58 RX5 yX5_refuse wsX5_refuse) := goodIn_app (goodIn_of _ (by decide +kernel)) ggX5_part_X5_refuse
theorem dX5_part_0 : decode cX5_part 0 = .ok (.iload_n 1, 1) := by decide +kernel
theorem dX5_part_1 : decode cX5_part 1 = .ok (.iconst 0, 1) := by decide +kernel
theorem dX5_part_2 : decode cX5_part 2 = .ok (.iconst 1, 1) := by decide +kernel
theorem dX5_part_3 : decode cX5_part 3 = .ok (.invokestatic 54, 3) := by decide +kernel
theorem dX5_part_6 : decode cX5_part 6 = .ok (.ifCond .ne 11, 3) := by decide +kernel
theorem dX5_part_9 : decode cX5_part 9 = .ok (.aload_n 0, 1) := by decide +kernel
theorem dX5_part_10 : decode cX5_part 10 = .ok (.bipush (-2), 2) := by decide +kernel
theorem dX5_part_12 : decode cX5_part 12 = .ok (.invokevirtual 58, 3) := by decide +kernel
theorem dX5_part_15 : decode cX5_part 15 = .ok (.i2l, 1) := by decide +kernel
theorem dX5_part_16 : decode cX5_part 16 = .ok (.lreturn, 1) := by decide +kernel
theorem dX5_part_17 : decode cX5_part 17 = .ok (.iload_n 1, 1) := by decide +kernel
theorem dX5_part_18 : decode cX5_part 18 = .ok (.ifCond .ne 13, 3) := by decide +kernel
theorem dX5_part_21 : decode cX5_part 21 = .ok (.aload_n 0, 1) := by decide +kernel
theorem dX5_part_22 : decode cX5_part 22 = .ok (.getfield 46, 3) := by decide +kernel
theorem dX5_part_25 : decode cX5_part 25 = .ok (.getfield 212, 3) := by decide +kernel
theorem dX5_part_28 : decode cX5_part 28 = .ok (.goto 10, 3) := by decide +kernel
theorem dX5_part_31 : decode cX5_part 31 = .ok (.aload_n 0, 1) := by decide +kernel
theorem dX5_part_32 : decode cX5_part 32 = .ok (.getfield 46, 3) := by decide +kernel
theorem dX5_part_35 : decode cX5_part 35 = .ok (.getfield 216, 3) := by decide +kernel
theorem dX5_part_38 : decode cX5_part 38 = .ok (.lreturn, 1) := by decide +kernel
set_option maxRecDepth 20000 in
theorem ggX5_image_X5_isWithin : GoodIn wsX5_image wsX5_isWithin := goodIn_r _ [7] (by decide +kernel) (by decide +kernel)
set_option maxRecDepth 20000 in
theorem gX5_image_X5_isWithin : GoodIn wsX5_image (va_wsS RX5 54 yX5_isWithin wsX5_isWithin) := goodIn_app (goodIn_of _ (by decide +kernel)) ggX5_image_X5_isWithin
set_option maxRecDepth 20000 in
theorem ggX5_image_X5_refuse : GoodIn wsX5_image wsX5_refuse := goodIn_r _ [11, 12, 4, 5, 6, 7, 36, 37, 38, 39, 40, 41, 42, 43] (by decide +kernel) (by decide +kernel)
set_option maxRecDepth 20000 in
theorem gX5_image_X5_refuse : GoodIn wsX5_image (wsV RX5 58 RX5 yX5_refuse wsX5_refuse) := goodIn_app (goodIn_of _ (by decide +kernel)) ggX5_image_X5_refuse
set_option maxRecDepth 20000 in
theorem ggX5_image_X1_copy : GoodIn wsX5_image wsX1_copy := goodIn_r _ [17, 18, 19, 20, 21, 22, 23, 24, 25, 26, 27, 28, 29, 30, 31, 32, 33, 34, 35, 44, 45, 46, 47, 48, 49, 50, 51, 52, 53, 54, 55, 56, 57] (by decide +kernel) (by decide +kernel)
set_option maxRecDepth 20000 in
theorem gX5_image_X1_copy : GoodIn wsX5_image (wsV RX5 96 RX1 yX1_copy wsX1_copy) := goodIn_app (goodIn_of _ (by decide +kernel)) ggX5_image_X1_copy
theorem dX5_image_0 : decode cX5_image 0 = .ok (.iload_n 1, 1) := by decide +kernel
theorem dX5_image_1 : decode cX5_image 1 = .ok (.iconst 0, 1) := by decide +kernel
theorem dX5_image_2 : decode cX5_image 2 = .ok (.iconst 1, 1) := by decide +kernel
theorem dX5_image_3 : decode cX5_image 3 = .ok (.invokestatic 54, 3) := by decide +kernel
theorem dX5_image_6 : decode cX5_image 6 = .ok (.ifCond .ne 10, 3) := by decide +kernel
theorem dX5_image_9 : decode cX5_image 9 = .ok (.aload_n 0, 1) := by decide +kernel
theorem dX5_image_10 : decode cX5_image 10 = .ok (.bipush (-2), 2) := by decide +kernel
theorem dX5_image_12 : decode cX5_image 12 = .ok (.invokevirtual 58, 3) := by decide +kernel
theorem dX5_image_15 : decode cX5_image 15 = .ok (.ireturn, 1) := by decide +kernel
theorem dX5_image_16 : decode cX5_image 16 = .ok (.aload_n 0, 1) := by decide +kernel
theorem dX5_image_17 : decode cX5_image 17 = .ok (.getfield 19, 3) := by decide +kernel
theorem dX5_image_20 : decode cX5_image 20 = .ok (.iload_n 1, 1) := by decide +kernel
theorem dX5_image_21 : decode cX5_image 21 = .ok (.aaload, 1) := by decide +kernel
theorem dX5_image_22 : decode cX5_image 22 = .ok (.aload_n 0, 1) := by decide +kernel
theorem dX5_image_23 : decode cX5_image 23 = .ok (.getfield 10, 3) := by decide +kernel
theorem dX5_image_26 : decode cX5_image 26 = .ok (.invokevirtual 96, 3) := by decide +kernel
theorem dX5_image_29 : decode cX5_image 29 = .ok (.aload_n 0, 1) := by decide +kernel
theorem dX5_image_30 : decode cX5_image 30 = .ok (.getfield 23, 3) := by decide +kernel
theorem dX5_image_33 : decode cX5_image 33 = .ok (.iload_n 1, 1) := by decide +kernel
theorem dX5_image_34 : decode cX5_image 34 = .ok (.iconst 1, 1) := by decide +kernel
theorem dX5_image_35 : decode cX5_image 35 = .ok (.bastore, 1) := by decide +kernel
theorem dX5_image_36 : decode cX5_image 36 = .ok (.iconst 1, 1) := by decide +kernel
theorem dX5_image_37 : decode cX5_image 37 = .ok (.ireturn, 1) := by decide +kernel
set_option maxRecDepth 20000 in
theorem ggX5_from_X5_isWithin : GoodIn wsX5_from wsX5_isWithin := goodIn_r _ [7] (by decide +kernel) (by decide +kernel)
set_option maxRecDepth 20000 in
theorem gX5_from_X5_isWithin : GoodIn wsX5_from (va_wsS RX5 54 yX5_isWithin wsX5_isWithin) := goodIn_app (goodIn_of _ (by decide +kernel)) ggX5_from_X5_isWithin
set_option maxRecDepth 20000 in
theorem ggX5_from_X5_refuse : GoodIn wsX5_from wsX5_refuse := goodIn_r _ [11, 12, 4, 5, 6, 7, 36, 37, 38, 39, 40, 41, 42, 43] (by decide +kernel) (by decide +kernel)
set_option maxRecDepth 20000 in
theorem gX5_from_X5_refuse : GoodIn wsX5_from (wsV RX5 58 RX5 yX5_refuse wsX5_refuse) := goodIn_app (goodIn_of _ (by decide +kernel)) ggX5_from_X5_refuse
set_option maxRecDepth 20000 in
theorem ggX5_from_X1_copy : GoodIn wsX5_from wsX1_copy := goodIn_r _ [17, 18, 19, 20, 21, 22, 23, 24, 25, 26, 27, 28, 29, 30, 31, 32, 33, 34, 35, 44, 45, 46, 47, 48, 49, 50, 51, 52, 53, 54, 55, 56, 57] (by decide +kernel) (by decide +kernel)
set_option maxRecDepth 20000 in
theorem gX5_from_X1_copy : GoodIn wsX5_from (wsV RX5 96 RX1 yX1_copy wsX1_copy) := goodIn_app (goodIn_of _ (by decide +kernel)) ggX5_from_X1_copy
theorem dX5_from_0 : decode cX5_from 0 = .ok (.iload_n 1, 1) := by decide +kernel
theorem dX5_from_1 : decode cX5_from 1 = .ok (.iconst 0, 1) := by decide +kernel
theorem dX5_from_2 : decode cX5_from 2 = .ok (.iconst 1, 1) := by decide +kernel
theorem dX5_from_3 : decode cX5_from 3 = .ok (.invokestatic 54, 3) := by decide +kernel
theorem dX5_from_6 : decode cX5_from 6 = .ok (.ifCond .ne 10, 3) := by decide +kernel
theorem dX5_from_9 : decode cX5_from 9 = .ok (.aload_n 0, 1) := by decide +kernel
theorem dX5_from_10 : decode cX5_from 10 = .ok (.bipush (-2), 2) := by decide +kernel
theorem dX5_from_12 : decode cX5_from 12 = .ok (.invokevirtual 58, 3) := by decide +kernel
theorem dX5_from_15 : decode cX5_from 15 = .ok (.ireturn, 1) := by decide +kernel
theorem dX5_from_16 : decode cX5_from 16 = .ok (.aload_n 0, 1) := by decide +kernel
theorem dX5_from_17 : decode cX5_from 17 = .ok (.getfield 23, 3) := by decide +kernel
theorem dX5_from_20 : decode cX5_from 20 = .ok (.iload_n 1, 1) := by decide +kernel
theorem dX5_from_21 : decode cX5_from 21 = .ok (.baload, 1) := by decide +kernel
theorem dX5_from_22 : decode cX5_from 22 = .ok (.ifCond .ne 10, 3) := by decide +kernel
theorem dX5_from_25 : decode cX5_from 25 = .ok (.aload_n 0, 1) := by decide +kernel
theorem dX5_from_26 : decode cX5_from 26 = .ok (.bipush (-3), 2) := by decide +kernel
theorem dX5_from_28 : decode cX5_from 28 = .ok (.invokevirtual 58, 3) := by decide +kernel
theorem dX5_from_31 : decode cX5_from 31 = .ok (.ireturn, 1) := by decide +kernel
theorem dX5_from_32 : decode cX5_from 32 = .ok (.aload_n 0, 1) := by decide +kernel
theorem dX5_from_33 : decode cX5_from 33 = .ok (.getfield 10, 3) := by decide +kernel
theorem dX5_from_36 : decode cX5_from 36 = .ok (.aload_n 0, 1) := by decide +kernel
theorem dX5_from_37 : decode cX5_from 37 = .ok (.getfield 19, 3) := by decide +kernel
theorem dX5_from_40 : decode cX5_from 40 = .ok (.iload_n 1, 1) := by decide +kernel
theorem dX5_from_41 : decode cX5_from 41 = .ok (.aaload, 1) := by decide +kernel
theorem dX5_from_42 : decode cX5_from 42 = .ok (.invokevirtual 96, 3) := by decide +kernel
theorem dX5_from_45 : decode cX5_from 45 = .ok (.iconst 1, 1) := by decide +kernel
theorem dX5_from_46 : decode cX5_from 46 = .ok (.ireturn, 1) := by decide +kernel
set_option maxRecDepth 20000 in
theorem ggX5_status_X5_isWithin : GoodIn wsX5_status wsX5_isWithin := goodIn_r _ [5] (by decide +kernel) (by decide +kernel)
set_option maxRecDepth 20000 in
theorem gX5_status_X5_isWithin : GoodIn wsX5_status (va_wsS RX5 54 yX5_isWithin wsX5_isWithin) := goodIn_app (goodIn_of _ (by decide +kernel)) ggX5_status_X5_isWithin
set_option maxRecDepth 20000 in
theorem ggX5_status_X5_refuse : GoodIn wsX5_status wsX5_refuse := goodIn_r _ [9, 1, 2, 3, 4, 5, 10, 11, 12, 13, 14, 15, 16, 17] (by decide +kernel) (by decide +kernel)
set_option maxRecDepth 20000 in
theorem gX5_status_X5_refuse : GoodIn wsX5_status (wsV RX5 58 RX5 yX5_refuse wsX5_refuse) := goodIn_app (goodIn_of _ (by decide +kernel)) ggX5_status_X5_refuse
theorem dX5_status_0 : decode cX5_status 0 = .ok (.iload_n 1, 1) := by decide +kernel
theorem dX5_status_1 : decode cX5_status 1 = .ok (.iconst 0, 1) := by decide +kernel
theorem dX5_status_2 : decode cX5_status 2 = .ok (.iconst 2, 1) := by decide +kernel
theorem dX5_status_3 : decode cX5_status 3 = .ok (.invokestatic 54, 3) := by decide +kernel
theorem dX5_status_6 : decode cX5_status 6 = .ok (.ifCond .ne 12, 3) := by decide +kernel
theorem dX5_status_9 : decode cX5_status 9 = .ok (.aload_n 0, 1) := by decide +kernel
theorem dX5_status_10 : decode cX5_status 10 = .ok (.bipush (-2), 2) := by decide +kernel
theorem dX5_status_12 : decode cX5_status 12 = .ok (.invokevirtual 58, 3) := by decide +kernel
theorem dX5_status_15 : decode cX5_status 15 = .ok (.pop, 1) := by decide +kernel
theorem dX5_status_16 : decode cX5_status 16 = .ok (.iconst (-1), 1) := by decide +kernel
theorem dX5_status_17 : decode cX5_status 17 = .ok (.ireturn, 1) := by decide +kernel
theorem dX5_status_18 : decode cX5_status 18 = .ok (.aload_n 0, 1) := by decide +kernel
theorem dX5_status_19 : decode cX5_status 19 = .ok (.getfield 50, 3) := by decide +kernel
theorem dX5_status_22 : decode cX5_status 22 = .ok (.iload_n 1, 1) := by decide +kernel
theorem dX5_status_23 : decode cX5_status 23 = .ok (.iaload, 1) := by decide +kernel
theorem dX5_status_24 : decode cX5_status 24 = .ok (.ireturn, 1) := by decide +kernel
set_option maxRecDepth 20000 in
theorem ggX5_count_X5_refuse : GoodIn wsX5_count wsX5_refuse := goodIn_r _ [13, 14, 15, 16, 12, 17, 18, 19, 20, 21, 22, 23, 24, 25] (by decide +kernel) (by decide +kernel)
set_option maxRecDepth 20000 in
theorem gX5_count_X5_refuse : GoodIn wsX5_count (wsV RX5 58 RX5 yX5_refuse wsX5_refuse) := goodIn_app (goodIn_of _ (by decide +kernel)) ggX5_count_X5_refuse
theorem dX5_count_0 : decode cX5_count 0 = .ok (.iload_n 1, 1) := by decide +kernel
theorem dX5_count_1 : decode cX5_count 1 = .ok (.tableswitch 87 0 5 #[39, 47, 55, 63, 71, 79], 39) := by decide +kernel
theorem dX5_count_40 : decode cX5_count 40 = .ok (.aload_n 0, 1) := by decide +kernel
theorem dX5_count_41 : decode cX5_count 41 = .ok (.getfield 10, 3) := by decide +kernel
theorem dX5_count_44 : decode cX5_count 44 = .ok (.getfield 62, 3) := by decide +kernel
theorem dX5_count_47 : decode cX5_count 47 = .ok (.ireturn, 1) := by decide +kernel
theorem dX5_count_48 : decode cX5_count 48 = .ok (.aload_n 0, 1) := by decide +kernel
theorem dX5_count_49 : decode cX5_count 49 = .ok (.getfield 10, 3) := by decide +kernel
theorem dX5_count_52 : decode cX5_count 52 = .ok (.getfield 130, 3) := by decide +kernel
theorem dX5_count_55 : decode cX5_count 55 = .ok (.ireturn, 1) := by decide +kernel
theorem dX5_count_56 : decode cX5_count 56 = .ok (.aload_n 0, 1) := by decide +kernel
theorem dX5_count_57 : decode cX5_count 57 = .ok (.getfield 10, 3) := by decide +kernel
theorem dX5_count_60 : decode cX5_count 60 = .ok (.getfield 99, 3) := by decide +kernel
theorem dX5_count_63 : decode cX5_count 63 = .ok (.ireturn, 1) := by decide +kernel
theorem dX5_count_64 : decode cX5_count 64 = .ok (.aload_n 0, 1) := by decide +kernel
theorem dX5_count_65 : decode cX5_count 65 = .ok (.getfield 10, 3) := by decide +kernel
theorem dX5_count_68 : decode cX5_count 68 = .ok (.getfield 180, 3) := by decide +kernel
theorem dX5_count_71 : decode cX5_count 71 = .ok (.ireturn, 1) := by decide +kernel
theorem dX5_count_72 : decode cX5_count 72 = .ok (.aload_n 0, 1) := by decide +kernel
theorem dX5_count_73 : decode cX5_count 73 = .ok (.getfield 10, 3) := by decide +kernel
theorem dX5_count_76 : decode cX5_count 76 = .ok (.getfield 111, 3) := by decide +kernel
theorem dX5_count_79 : decode cX5_count 79 = .ok (.ireturn, 1) := by decide +kernel
theorem dX5_count_80 : decode cX5_count 80 = .ok (.aload_n 0, 1) := by decide +kernel
theorem dX5_count_81 : decode cX5_count 81 = .ok (.getfield 39, 3) := by decide +kernel
theorem dX5_count_84 : decode cX5_count 84 = .ok (.getfield 86, 3) := by decide +kernel
theorem dX5_count_87 : decode cX5_count 87 = .ok (.ireturn, 1) := by decide +kernel
theorem dX5_count_88 : decode cX5_count 88 = .ok (.aload_n 0, 1) := by decide +kernel
theorem dX5_count_89 : decode cX5_count 89 = .ok (.bipush (-2), 2) := by decide +kernel
theorem dX5_count_91 : decode cX5_count 91 = .ok (.invokevirtual 58, 3) := by decide +kernel
theorem dX5_count_94 : decode cX5_count 94 = .ok (.ireturn, 1) := by decide +kernel
set_option maxRecDepth 20000 in
theorem ggX5_digest_X5_count : GoodIn wsX5_digest wsX5_count := goodIn_r _ [11, 3, 12, 13, 14, 15, 16, 17, 18, 19, 20, 21, 10, 22, 23, 24, 25, 26, 43, 44, 45, 46, 47, 48, 49, 50, 53, 54, 55, 56, 57, 58, 59, 60, 61, 62, 63, 64, 65, 66, 67, 68, 69, 70, 71, 72] (by decide +kernel) (by decide +kernel)
set_option maxRecDepth 20000 in
theorem gX5_digest_X5_count : GoodIn wsX5_digest (wsV RX5 223 RX5 yX5_count wsX5_count) := goodIn_app (goodIn_of _ (by decide +kernel)) ggX5_digest_X5_count
set_option maxRecDepth 20000 in
theorem ggX5_digest_X1_digestOver : GoodIn wsX5_digest wsX1_digestOver := goodIn_r _ [31, 32, 33, 34, 35, 36, 37, 38, 39, 40, 41, 42, 53, 54, 55, 56, 57, 58, 59, 60, 61, 62, 63, 64, 65, 66] (by decide +kernel) (by decide +kernel)
set_option maxRecDepth 20000 in
theorem gX5_digest_X1_digestOver : GoodIn wsX5_digest (wsV RX5 226 RX1 yX1_digestOver wsX1_digestOver) := goodIn_app (goodIn_of _ (by decide +kernel)) ggX5_digest_X1_digestOver
theorem dX5_digest_0 : decode cX5_digest 0 = .ok (.ldc2_w 219, 3) := by decide +kernel
theorem dX5_digest_3 : decode cX5_digest 3 = .ok (.lstore_n 1, 1) := by decide +kernel
theorem dX5_digest_4 : decode cX5_digest 4 = .ok (.iconst 0, 1) := by decide +kernel
theorem dX5_digest_5 : decode cX5_digest 5 = .ok (.istore_n 3, 1) := by decide +kernel
theorem dX5_digest_6 : decode cX5_digest 6 = .ok (.iload_n 3, 1) := by decide +kernel
theorem dX5_digest_7 : decode cX5_digest 7 = .ok (.iconst 5, 1) := by decide +kernel
theorem dX5_digest_8 : decode cX5_digest 8 = .ok (.if_icmp .gt 22, 3) := by decide +kernel
theorem dX5_digest_11 : decode cX5_digest 11 = .ok (.ldc2_w 221, 3) := by decide +kernel
theorem dX5_digest_14 : decode cX5_digest 14 = .ok (.lload_n 1, 1) := by decide +kernel
theorem dX5_digest_15 : decode cX5_digest 15 = .ok (.lmul, 1) := by decide +kernel
theorem dX5_digest_16 : decode cX5_digest 16 = .ok (.aload_n 0, 1) := by decide +kernel
theorem dX5_digest_17 : decode cX5_digest 17 = .ok (.iload_n 3, 1) := by decide +kernel
theorem dX5_digest_18 : decode cX5_digest 18 = .ok (.invokevirtual 223, 3) := by decide +kernel
theorem dX5_digest_21 : decode cX5_digest 21 = .ok (.i2l, 1) := by decide +kernel
theorem dX5_digest_22 : decode cX5_digest 22 = .ok (.ladd, 1) := by decide +kernel
theorem dX5_digest_23 : decode cX5_digest 23 = .ok (.lstore_n 1, 1) := by decide +kernel
theorem dX5_digest_24 : decode cX5_digest 24 = .ok (.iinc 3 1, 3) := by decide +kernel
theorem dX5_digest_27 : decode cX5_digest 27 = .ok (.goto (-21), 3) := by decide +kernel
theorem dX5_digest_30 : decode cX5_digest 30 = .ok (.aload_n 0, 1) := by decide +kernel
theorem dX5_digest_31 : decode cX5_digest 31 = .ok (.getfield 10, 3) := by decide +kernel
theorem dX5_digest_34 : decode cX5_digest 34 = .ok (.lload_n 1, 1) := by decide +kernel
theorem dX5_digest_35 : decode cX5_digest 35 = .ok (.invokevirtual 226, 3) := by decide +kernel
theorem dX5_digest_38 : decode cX5_digest 38 = .ok (.lstore_n 1, 1) := by decide +kernel
theorem dX5_digest_39 : decode cX5_digest 39 = .ok (.ldc2_w 221, 3) := by decide +kernel
theorem dX5_digest_42 : decode cX5_digest 42 = .ok (.lload_n 1, 1) := by decide +kernel
theorem dX5_digest_43 : decode cX5_digest 43 = .ok (.lmul, 1) := by decide +kernel
theorem dX5_digest_44 : decode cX5_digest 44 = .ok (.aload_n 0, 1) := by decide +kernel
theorem dX5_digest_45 : decode cX5_digest 45 = .ok (.getfield 46, 3) := by decide +kernel
theorem dX5_digest_48 : decode cX5_digest 48 = .ok (.getfield 212, 3) := by decide +kernel
theorem dX5_digest_51 : decode cX5_digest 51 = .ok (.ladd, 1) := by decide +kernel
theorem dX5_digest_52 : decode cX5_digest 52 = .ok (.lstore_n 1, 1) := by decide +kernel
theorem dX5_digest_53 : decode cX5_digest 53 = .ok (.ldc2_w 221, 3) := by decide +kernel
theorem dX5_digest_56 : decode cX5_digest 56 = .ok (.lload_n 1, 1) := by decide +kernel
theorem dX5_digest_57 : decode cX5_digest 57 = .ok (.lmul, 1) := by decide +kernel
theorem dX5_digest_58 : decode cX5_digest 58 = .ok (.aload_n 0, 1) := by decide +kernel
theorem dX5_digest_59 : decode cX5_digest 59 = .ok (.getfield 46, 3) := by decide +kernel
theorem dX5_digest_62 : decode cX5_digest 62 = .ok (.getfield 216, 3) := by decide +kernel
theorem dX5_digest_65 : decode cX5_digest 65 = .ok (.ladd, 1) := by decide +kernel
theorem dX5_digest_66 : decode cX5_digest 66 = .ok (.lreturn, 1) := by decide +kernel
set_option maxRecDepth 20000 in
theorem ggX5_refuse_X5_isWithin : GoodIn wsX5_refuse wsX5_isWithin := goodIn_r _ [5] (by decide +kernel) (by decide +kernel)
set_option maxRecDepth 20000 in
theorem gX5_refuse_X5_isWithin : GoodIn wsX5_refuse (va_wsS RX5 54 yX5_isWithin wsX5_isWithin) := goodIn_app (goodIn_of _ (by decide +kernel)) ggX5_refuse_X5_isWithin
theorem dX5_refuse_0 : decode cX5_refuse 0 = .ok (.bipush (-2), 2) := by decide +kernel
theorem dX5_refuse_2 : decode cX5_refuse 2 = .ok (.iload_n 1, 1) := by decide +kernel
theorem dX5_refuse_3 : decode cX5_refuse 3 = .ok (.isub, 1) := by decide +kernel
theorem dX5_refuse_4 : decode cX5_refuse 4 = .ok (.istore_n 2, 1) := by decide +kernel
theorem dX5_refuse_5 : decode cX5_refuse 5 = .ok (.iload_n 2, 1) := by decide +kernel
theorem dX5_refuse_6 : decode cX5_refuse 6 = .ok (.iconst 0, 1) := by decide +kernel
theorem dX5_refuse_7 : decode cX5_refuse 7 = .ok (.iconst 2, 1) := by decide +kernel
theorem dX5_refuse_8 : decode cX5_refuse 8 = .ok (.invokestatic 54, 3) := by decide +kernel
theorem dX5_refuse_11 : decode cX5_refuse 11 = .ok (.ifCond .eq 13, 3) := by decide +kernel
theorem dX5_refuse_14 : decode cX5_refuse 14 = .ok (.aload_n 0, 1) := by decide +kernel
theorem dX5_refuse_15 : decode cX5_refuse 15 = .ok (.getfield 50, 3) := by decide +kernel
theorem dX5_refuse_18 : decode cX5_refuse 18 = .ok (.iload_n 2, 1) := by decide +kernel
theorem dX5_refuse_19 : decode cX5_refuse 19 = .ok (.dup2, 1) := by decide +kernel
theorem dX5_refuse_20 : decode cX5_refuse 20 = .ok (.iaload, 1) := by decide +kernel
theorem dX5_refuse_21 : decode cX5_refuse 21 = .ok (.iconst 1, 1) := by decide +kernel
theorem dX5_refuse_22 : decode cX5_refuse 22 = .ok (.iadd, 1) := by decide +kernel
theorem dX5_refuse_23 : decode cX5_refuse 23 = .ok (.iastore, 1) := by decide +kernel
theorem dX5_refuse_24 : decode cX5_refuse 24 = .ok (.iload_n 1, 1) := by decide +kernel
theorem dX5_refuse_25 : decode cX5_refuse 25 = .ok (.ireturn, 1) := by decide +kernel
theorem dX5_isWithin_0 : decode cX5_isWithin 0 = .ok (.iload_n 0, 1) := by decide +kernel
theorem dX5_isWithin_1 : decode cX5_isWithin 1 = .ok (.iload_n 1, 1) := by decide +kernel
theorem dX5_isWithin_2 : decode cX5_isWithin 2 = .ok (.if_icmp .lt 12, 3) := by decide +kernel
theorem dX5_isWithin_5 : decode cX5_isWithin 5 = .ok (.iload_n 0, 1) := by decide +kernel
theorem dX5_isWithin_6 : decode cX5_isWithin 6 = .ok (.iload_n 2, 1) := by decide +kernel
theorem dX5_isWithin_7 : decode cX5_isWithin 7 = .ok (.if_icmp .gt 7, 3) := by decide +kernel
theorem dX5_isWithin_10 : decode cX5_isWithin 10 = .ok (.iconst 1, 1) := by decide +kernel
theorem dX5_isWithin_11 : decode cX5_isWithin 11 = .ok (.goto 4, 3) := by decide +kernel
theorem dX5_isWithin_14 : decode cX5_isWithin 14 = .ok (.iconst 0, 1) := by decide +kernel
theorem dX5_isWithin_15 : decode cX5_isWithin 15 = .ok (.ireturn, 1) := by decide +kernel
set_option maxRecDepth 20000 in
theorem ggX5_isMinute_X5_isWithin : GoodIn wsX5_isMinute wsX5_isWithin := goodIn_r _ [4] (by decide +kernel) (by decide +kernel)
set_option maxRecDepth 20000 in
theorem gX5_isMinute_X5_isWithin : GoodIn wsX5_isMinute (va_wsS RX5 54 yX5_isWithin wsX5_isWithin) := goodIn_app (goodIn_of _ (by decide +kernel)) ggX5_isMinute_X5_isWithin
theorem dX5_isMinute_0 : decode cX5_isMinute 0 = .ok (.iload_n 0, 1) := by decide +kernel
theorem dX5_isMinute_1 : decode cX5_isMinute 1 = .ok (.iconst 0, 1) := by decide +kernel
theorem dX5_isMinute_2 : decode cX5_isMinute 2 = .ok (.sipush 999, 3) := by decide +kernel
theorem dX5_isMinute_5 : decode cX5_isMinute 5 = .ok (.invokestatic 54, 3) := by decide +kernel
theorem dX5_isMinute_8 : decode cX5_isMinute 8 = .ok (.ireturn, 1) := by decide +kernel
set_option maxRecDepth 20000 in
theorem ggX5_chanceOfUp_X4_wayOfFirst : GoodIn wsX5_chanceOfUp wsX4_wayOfFirst := goodIn_r _ [6, 7, 8, 9, 5, 10, 11, 12, 13, 14, 15, 16, 17, 18, 19, 20, 21, 22, 23, 24, 25, 26, 27, 28, 29, 30, 31, 32, 33, 34, 35, 36, 37, 38, 39, 40, 41, 42, 43, 44, 77, 78, 79, 80, 81, 82, 83, 84, 85, 86, 87, 88, 89, 90, 91] (by decide +kernel) (by decide +kernel)
set_option maxRecDepth 20000 in
theorem gX5_chanceOfUp_X4_wayOfFirst : GoodIn wsX5_chanceOfUp (wsV RX5 155 RX4 yX4_wayOfFirst wsX4_wayOfFirst) := goodIn_app (goodIn_of _ (by decide +kernel)) ggX5_chanceOfUp_X4_wayOfFirst
set_option maxRecDepth 20000 in
theorem ggX5_chanceOfUp_X5_setMean : GoodIn wsX5_chanceOfUp wsX5_setMean := goodIn_r _ [49, 50, 51, 52, 53, 48, 54, 55, 56, 57, 58, 59, 60, 61, 62, 63, 64, 65, 66, 67, 68, 69, 70, 71, 72, 73, 74, 75, 76, 92, 93] (by decide +kernel) (by decide +kernel)
set_option maxRecDepth 20000 in
theorem gX5_chanceOfUp_X5_setMean : GoodIn wsX5_chanceOfUp (wsV RX5 230 RX5 yX5_setMean wsX5_setMean) := goodIn_app (goodIn_of _ (by decide +kernel)) ggX5_chanceOfUp_X5_setMean
theorem dX5_chanceOfUp_0 : decode cX5_chanceOfUp 0 = .ok (.iconst 0, 1) := by decide +kernel
theorem dX5_chanceOfUp_1 : decode cX5_chanceOfUp 1 = .ok (.istore_n 2, 1) := by decide +kernel
theorem dX5_chanceOfUp_2 : decode cX5_chanceOfUp 2 = .ok (.iconst 0, 1) := by decide +kernel
theorem dX5_chanceOfUp_3 : decode cX5_chanceOfUp 3 = .ok (.istore_n 3, 1) := by decide +kernel
theorem dX5_chanceOfUp_4 : decode cX5_chanceOfUp 4 = .ok (.iconst 0, 1) := by decide +kernel
theorem dX5_chanceOfUp_5 : decode cX5_chanceOfUp 5 = .ok (.istore 4, 2) := by decide +kernel
theorem dX5_chanceOfUp_7 : decode cX5_chanceOfUp 7 = .ok (.iload 4, 2) := by decide +kernel
theorem dX5_chanceOfUp_9 : decode cX5_chanceOfUp 9 = .ok (.bipush 120, 2) := by decide +kernel
theorem dX5_chanceOfUp_11 : decode cX5_chanceOfUp 11 = .ok (.if_icmp .ge 35, 3) := by decide +kernel
theorem dX5_chanceOfUp_14 : decode cX5_chanceOfUp 14 = .ok (.aload_n 0, 1) := by decide +kernel
theorem dX5_chanceOfUp_15 : decode cX5_chanceOfUp 15 = .ok (.getfield 32, 3) := by decide +kernel
theorem dX5_chanceOfUp_18 : decode cX5_chanceOfUp 18 = .ok (.iload_n 1, 1) := by decide +kernel
theorem dX5_chanceOfUp_19 : decode cX5_chanceOfUp 19 = .ok (.iload 4, 2) := by decide +kernel
theorem dX5_chanceOfUp_21 : decode cX5_chanceOfUp 21 = .ok (.invokevirtual 155, 3) := by decide +kernel
theorem dX5_chanceOfUp_24 : decode cX5_chanceOfUp 24 = .ok (.istore 5, 2) := by decide +kernel
theorem dX5_chanceOfUp_26 : decode cX5_chanceOfUp 26 = .ok (.iload 5, 2) := by decide +kernel
theorem dX5_chanceOfUp_28 : decode cX5_chanceOfUp 28 = .ok (.iconst (-1), 1) := by decide +kernel
theorem dX5_chanceOfUp_29 : decode cX5_chanceOfUp 29 = .ok (.if_icmp .eq 11, 3) := by decide +kernel
theorem dX5_chanceOfUp_32 : decode cX5_chanceOfUp 32 = .ok (.iinc 2 1, 3) := by decide +kernel
theorem dX5_chanceOfUp_35 : decode cX5_chanceOfUp 35 = .ok (.iload_n 3, 1) := by decide +kernel
theorem dX5_chanceOfUp_36 : decode cX5_chanceOfUp 36 = .ok (.iload 5, 2) := by decide +kernel
theorem dX5_chanceOfUp_38 : decode cX5_chanceOfUp 38 = .ok (.iadd, 1) := by decide +kernel
theorem dX5_chanceOfUp_39 : decode cX5_chanceOfUp 39 = .ok (.istore_n 3, 1) := by decide +kernel
theorem dX5_chanceOfUp_40 : decode cX5_chanceOfUp 40 = .ok (.iinc 4 1, 3) := by decide +kernel
theorem dX5_chanceOfUp_43 : decode cX5_chanceOfUp 43 = .ok (.goto (-36), 3) := by decide +kernel
theorem dX5_chanceOfUp_46 : decode cX5_chanceOfUp 46 = .ok (.aload_n 0, 1) := by decide +kernel
theorem dX5_chanceOfUp_47 : decode cX5_chanceOfUp 47 = .ok (.iload_n 3, 1) := by decide +kernel
theorem dX5_chanceOfUp_48 : decode cX5_chanceOfUp 48 = .ok (.iload_n 2, 1) := by decide +kernel
theorem dX5_chanceOfUp_49 : decode cX5_chanceOfUp 49 = .ok (.invokevirtual 230, 3) := by decide +kernel
theorem dX5_chanceOfUp_52 : decode cX5_chanceOfUp 52 = .ok (.ireturn, 1) := by decide +kernel
set_option maxRecDepth 20000 in
theorem ggX5_meanWait_X4_waitOn : GoodIn wsX5_meanWait wsX4_waitOn := goodIn_r _ [6, 7, 8, 9, 5, 10, 11, 12, 13, 14, 15, 16, 17, 18, 19, 20, 21, 22, 23, 24, 25, 26, 27, 28, 29, 30, 31, 32, 33, 34, 35, 36, 37, 38, 39, 40, 73, 74, 75, 76, 77, 78, 79, 80, 81, 82, 83, 84, 85, 86, 87] (by decide +kernel) (by decide +kernel)
set_option maxRecDepth 20000 in
theorem gX5_meanWait_X4_waitOn : GoodIn wsX5_meanWait (wsV RX5 148 RX4 yX4_waitOn wsX4_waitOn) := goodIn_app (goodIn_of _ (by decide +kernel)) ggX5_meanWait_X4_waitOn
set_option maxRecDepth 20000 in
theorem ggX5_meanWait_X5_setMean : GoodIn wsX5_meanWait wsX5_setMean := goodIn_r _ [45, 46, 47, 48, 49, 44, 50, 51, 52, 53, 54, 55, 56, 57, 58, 59, 60, 61, 62, 63, 64, 65, 66, 67, 68, 69, 70, 71, 72, 88, 89] (by decide +kernel) (by decide +kernel)
set_option maxRecDepth 20000 in
theorem gX5_meanWait_X5_setMean : GoodIn wsX5_meanWait (wsV RX5 230 RX5 yX5_setMean wsX5_setMean) := goodIn_app (goodIn_of _ (by decide +kernel)) ggX5_meanWait_X5_setMean
theorem dX5_meanWait_0 : decode cX5_meanWait 0 = .ok (.iconst 0, 1) := by decide +kernel
theorem dX5_meanWait_1 : decode cX5_meanWait 1 = .ok (.istore_n 3, 1) := by decide +kernel
theorem dX5_meanWait_2 : decode cX5_meanWait 2 = .ok (.iconst 0, 1) := by decide +kernel
theorem dX5_meanWait_3 : decode cX5_meanWait 3 = .ok (.istore 4, 2) := by decide +kernel
theorem dX5_meanWait_5 : decode cX5_meanWait 5 = .ok (.iconst 0, 1) := by decide +kernel
theorem dX5_meanWait_6 : decode cX5_meanWait 6 = .ok (.istore 5, 2) := by decide +kernel
theorem dX5_meanWait_8 : decode cX5_meanWait 8 = .ok (.iload 5, 2) := by decide +kernel
theorem dX5_meanWait_10 : decode cX5_meanWait 10 = .ok (.bipush 120, 2) := by decide +kernel
theorem dX5_meanWait_12 : decode cX5_meanWait 12 = .ok (.if_icmp .ge 38, 3) := by decide +kernel
theorem dX5_meanWait_15 : decode cX5_meanWait 15 = .ok (.aload_n 0, 1) := by decide +kernel
theorem dX5_meanWait_16 : decode cX5_meanWait 16 = .ok (.getfield 32, 3) := by decide +kernel
theorem dX5_meanWait_19 : decode cX5_meanWait 19 = .ok (.iload_n 1, 1) := by decide +kernel
theorem dX5_meanWait_20 : decode cX5_meanWait 20 = .ok (.iload 5, 2) := by decide +kernel
theorem dX5_meanWait_22 : decode cX5_meanWait 22 = .ok (.iload_n 2, 1) := by decide +kernel
theorem dX5_meanWait_23 : decode cX5_meanWait 23 = .ok (.invokevirtual 148, 3) := by decide +kernel
theorem dX5_meanWait_26 : decode cX5_meanWait 26 = .ok (.istore 6, 2) := by decide +kernel
theorem dX5_meanWait_28 : decode cX5_meanWait 28 = .ok (.iload 6, 2) := by decide +kernel
theorem dX5_meanWait_30 : decode cX5_meanWait 30 = .ok (.iconst (-1), 1) := by decide +kernel
theorem dX5_meanWait_31 : decode cX5_meanWait 31 = .ok (.if_icmp .eq 13, 3) := by decide +kernel
theorem dX5_meanWait_34 : decode cX5_meanWait 34 = .ok (.iinc 3 1, 3) := by decide +kernel
theorem dX5_meanWait_37 : decode cX5_meanWait 37 = .ok (.iload 4, 2) := by decide +kernel
theorem dX5_meanWait_39 : decode cX5_meanWait 39 = .ok (.iload 6, 2) := by decide +kernel
theorem dX5_meanWait_41 : decode cX5_meanWait 41 = .ok (.iadd, 1) := by decide +kernel
