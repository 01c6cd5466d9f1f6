theorem dX4_isSeen_8 : decode cX4_isSeen 8 = .ok (.iaload, 1) := by decide +kernel
theorem dX4_isSeen_9 : decode cX4_isSeen 9 = .ok (.istore 4, 2) := by decide +kernel
theorem dX4_isSeen_11 : decode cX4_isSeen 11 = .ok (.iload 4, 2) := by decide +kernel
theorem dX4_isSeen_13 : decode cX4_isSeen 13 = .ok (.aload_n 0, 1) := by decide +kernel
theorem dX4_isSeen_14 : decode cX4_isSeen 14 = .ok (.getfield 9, 3) := by decide +kernel
theorem dX4_isSeen_17 : decode cX4_isSeen 17 = .ok (.getfield 21, 3) := by decide +kernel
theorem dX4_isSeen_20 : decode cX4_isSeen 20 = .ok (.iload_n 2, 1) := by decide +kernel
theorem dX4_isSeen_21 : decode cX4_isSeen 21 = .ok (.invokestatic 34, 3) := by decide +kernel
theorem dX4_isSeen_24 : decode cX4_isSeen 24 = .ok (.ifCond .eq 33, 3) := by decide +kernel
theorem dX4_isSeen_27 : decode cX4_isSeen 27 = .ok (.iload 4, 2) := by decide +kernel
theorem dX4_isSeen_29 : decode cX4_isSeen 29 = .ok (.aload_n 0, 1) := by decide +kernel
theorem dX4_isSeen_30 : decode cX4_isSeen 30 = .ok (.getfield 9, 3) := by decide +kernel
theorem dX4_isSeen_33 : decode cX4_isSeen 33 = .ok (.getfield 21, 3) := by decide +kernel
theorem dX4_isSeen_36 : decode cX4_isSeen 36 = .ok (.aload_n 0, 1) := by decide +kernel
theorem dX4_isSeen_37 : decode cX4_isSeen 37 = .ok (.getfield 9, 3) := by decide +kernel
theorem dX4_isSeen_40 : decode cX4_isSeen 40 = .ok (.getfield 25, 3) := by decide +kernel
theorem dX4_isSeen_43 : decode cX4_isSeen 43 = .ok (.iload_n 1, 1) := by decide +kernel
theorem dX4_isSeen_44 : decode cX4_isSeen 44 = .ok (.iaload, 1) := by decide +kernel
theorem dX4_isSeen_45 : decode cX4_isSeen 45 = .ok (.iload_n 3, 1) := by decide +kernel
theorem dX4_isSeen_46 : decode cX4_isSeen 46 = .ok (.invokestatic 28, 3) := by decide +kernel
theorem dX4_isSeen_49 : decode cX4_isSeen 49 = .ok (.iload_n 2, 1) := by decide +kernel
theorem dX4_isSeen_50 : decode cX4_isSeen 50 = .ok (.if_icmp .ne 7, 3) := by decide +kernel
theorem dX4_isSeen_53 : decode cX4_isSeen 53 = .ok (.iconst 1, 1) := by decide +kernel
theorem dX4_isSeen_54 : decode cX4_isSeen 54 = .ok (.goto 4, 3) := by decide +kernel
theorem dX4_isSeen_57 : decode cX4_isSeen 57 = .ok (.iconst 0, 1) := by decide +kernel
theorem dX4_isSeen_58 : decode cX4_isSeen 58 = .ok (.ireturn, 1) := by decide +kernel
set_option maxRecDepth 20000 in
theorem ggX4_seenFrom_X4_isSeen : GoodIn wsX4_seenFrom wsX4_isSeen := goodIn_r _ [7, 1, 8, 9, 10, 11, 12, 13, 14, 15, 16, 17, 18, 19, 20, 21, 22, 23, 24, 25, 26, 27, 32, 33, 34, 35, 36, 37, 38, 39, 40, 41, 42, 43, 44, 45, 46] (by decide +kernel) (by decide +kernel)
set_option maxRecDepth 20000 in
theorem gX4_seenFrom_X4_isSeen : GoodIn wsX4_seenFrom (wsV RX4 41 RX4 yX4_isSeen wsX4_isSeen) := goodIn_app (goodIn_of _ (by decide +kernel)) ggX4_seenFrom_X4_isSeen
set_option maxRecDepth 20000 in
theorem ggX4_seenFrom_X4_wayOf : GoodIn wsX4_seenFrom wsX4_wayOf := goodIn_r _ [31, 1, 8, 10, 9, 15, 16, 13, 17, 18, 19, 20, 21, 22, 23, 24, 25, 26, 27, 32, 33, 34, 35, 36, 37, 38, 39, 40, 41, 42, 43, 44, 45, 46] (by decide +kernel) (by decide +kernel)
set_option maxRecDepth 20000 in
theorem gX4_seenFrom_X4_wayOf : GoodIn wsX4_seenFrom (wsV RX4 44 RX4 yX4_wayOf wsX4_wayOf) := goodIn_app (goodIn_of _ (by decide +kernel)) ggX4_seenFrom_X4_wayOf
theorem dX4_seenFrom_0 : decode cX4_seenFrom 0 = .ok (.iconst 0, 1) := by decide +kernel
theorem dX4_seenFrom_1 : decode cX4_seenFrom 1 = .ok (.istore 4, 2) := by decide +kernel
theorem dX4_seenFrom_3 : decode cX4_seenFrom 3 = .ok (.iload 4, 2) := by decide +kernel
theorem dX4_seenFrom_5 : decode cX4_seenFrom 5 = .ok (.aload_n 0, 1) := by decide +kernel
theorem dX4_seenFrom_6 : decode cX4_seenFrom 6 = .ok (.getfield 9, 3) := by decide +kernel
theorem dX4_seenFrom_9 : decode cX4_seenFrom 9 = .ok (.getfield 38, 3) := by decide +kernel
theorem dX4_seenFrom_12 : decode cX4_seenFrom 12 = .ok (.if_icmp .ge 39, 3) := by decide +kernel
theorem dX4_seenFrom_15 : decode cX4_seenFrom 15 = .ok (.aload_n 0, 1) := by decide +kernel
theorem dX4_seenFrom_16 : decode cX4_seenFrom 16 = .ok (.iload 4, 2) := by decide +kernel
theorem dX4_seenFrom_18 : decode cX4_seenFrom 18 = .ok (.iload_n 1, 1) := by decide +kernel
theorem dX4_seenFrom_19 : decode cX4_seenFrom 19 = .ok (.iload_n 2, 1) := by decide +kernel
theorem dX4_seenFrom_20 : decode cX4_seenFrom 20 = .ok (.invokevirtual 41, 3) := by decide +kernel
theorem dX4_seenFrom_23 : decode cX4_seenFrom 23 = .ok (.ifCond .eq 22, 3) := by decide +kernel
theorem dX4_seenFrom_26 : decode cX4_seenFrom 26 = .ok (.iload_n 3, 1) := by decide +kernel
theorem dX4_seenFrom_27 : decode cX4_seenFrom 27 = .ok (.iconst (-1), 1) := by decide +kernel
theorem dX4_seenFrom_28 : decode cX4_seenFrom 28 = .ok (.if_icmp .eq 14, 3) := by decide +kernel
theorem dX4_seenFrom_31 : decode cX4_seenFrom 31 = .ok (.aload_n 0, 1) := by decide +kernel
theorem dX4_seenFrom_32 : decode cX4_seenFrom 32 = .ok (.iload 4, 2) := by decide +kernel
theorem dX4_seenFrom_34 : decode cX4_seenFrom 34 = .ok (.iload_n 2, 1) := by decide +kernel
theorem dX4_seenFrom_35 : decode cX4_seenFrom 35 = .ok (.invokevirtual 44, 3) := by decide +kernel
theorem dX4_seenFrom_38 : decode cX4_seenFrom 38 = .ok (.iload_n 3, 1) := by decide +kernel
theorem dX4_seenFrom_39 : decode cX4_seenFrom 39 = .ok (.if_icmp .ne 6, 3) := by decide +kernel
theorem dX4_seenFrom_42 : decode cX4_seenFrom 42 = .ok (.iload 4, 2) := by decide +kernel
theorem dX4_seenFrom_44 : decode cX4_seenFrom 44 = .ok (.ireturn, 1) := by decide +kernel
theorem dX4_seenFrom_45 : decode cX4_seenFrom 45 = .ok (.iinc 4 1, 3) := by decide +kernel
theorem dX4_seenFrom_48 : decode cX4_seenFrom 48 = .ok (.goto (-45), 3) := by decide +kernel
theorem dX4_seenFrom_51 : decode cX4_seenFrom 51 = .ok (.iconst (-1), 1) := by decide +kernel
theorem dX4_seenFrom_52 : decode cX4_seenFrom 52 = .ok (.ireturn, 1) := by decide +kernel
set_option maxRecDepth 20000 in
theorem ggX4_waitOn_X4_seenFrom : GoodIn wsX4_waitOn wsX4_seenFrom := goodIn_r _ [5, 6, 7, 8, 9, 10, 4, 11, 12, 13, 14, 15, 16, 17, 18, 19, 20, 21, 22, 23, 24, 25, 26, 27, 28, 29, 30, 31, 32, 33, 34, 35, 36, 37, 38, 39, 40, 41, 42, 43, 44, 45, 46, 47, 48, 49, 50] (by decide +kernel) (by decide +kernel)
set_option maxRecDepth 20000 in
theorem gX4_waitOn_X4_seenFrom : GoodIn wsX4_waitOn (wsV RX4 48 RX4 yX4_seenFrom wsX4_seenFrom) := goodIn_app (goodIn_of _ (by decide +kernel)) ggX4_waitOn_X4_seenFrom
theorem dX4_waitOn_0 : decode cX4_waitOn 0 = .ok (.iconst 0, 1) := by decide +kernel
theorem dX4_waitOn_1 : decode cX4_waitOn 1 = .ok (.istore 4, 2) := by decide +kernel
theorem dX4_waitOn_3 : decode cX4_waitOn 3 = .ok (.iload 4, 2) := by decide +kernel
theorem dX4_waitOn_5 : decode cX4_waitOn 5 = .ok (.bipush 28, 2) := by decide +kernel
theorem dX4_waitOn_7 : decode cX4_waitOn 7 = .ok (.if_icmp .ge 26, 3) := by decide +kernel
theorem dX4_waitOn_10 : decode cX4_waitOn 10 = .ok (.aload_n 0, 1) := by decide +kernel
theorem dX4_waitOn_11 : decode cX4_waitOn 11 = .ok (.iload_n 1, 1) := by decide +kernel
theorem dX4_waitOn_12 : decode cX4_waitOn 12 = .ok (.iload_n 2, 1) := by decide +kernel
theorem dX4_waitOn_13 : decode cX4_waitOn 13 = .ok (.iload 4, 2) := by decide +kernel
theorem dX4_waitOn_15 : decode cX4_waitOn 15 = .ok (.iadd, 1) := by decide +kernel
theorem dX4_waitOn_16 : decode cX4_waitOn 16 = .ok (.iload_n 3, 1) := by decide +kernel
theorem dX4_waitOn_17 : decode cX4_waitOn 17 = .ok (.invokevirtual 48, 3) := by decide +kernel
theorem dX4_waitOn_20 : decode cX4_waitOn 20 = .ok (.iconst (-1), 1) := by decide +kernel
theorem dX4_waitOn_21 : decode cX4_waitOn 21 = .ok (.if_icmp .eq 6, 3) := by decide +kernel
theorem dX4_waitOn_24 : decode cX4_waitOn 24 = .ok (.iload 4, 2) := by decide +kernel
theorem dX4_waitOn_26 : decode cX4_waitOn 26 = .ok (.ireturn, 1) := by decide +kernel
theorem dX4_waitOn_27 : decode cX4_waitOn 27 = .ok (.iinc 4 1, 3) := by decide +kernel
theorem dX4_waitOn_30 : decode cX4_waitOn 30 = .ok (.goto (-27), 3) := by decide +kernel
theorem dX4_waitOn_33 : decode cX4_waitOn 33 = .ok (.iconst (-1), 1) := by decide +kernel
theorem dX4_waitOn_34 : decode cX4_waitOn 34 = .ok (.ireturn, 1) := by decide +kernel
set_option maxRecDepth 20000 in
theorem ggX4_waitForLift_X4_isSeen : GoodIn wsX4_waitForLift wsX4_isSeen := goodIn_r _ [5, 6, 7, 8, 9, 10, 11, 12, 13, 14, 15, 16, 17, 18, 19, 20, 21, 22, 23, 24, 25, 26, 27, 28, 29, 30, 31, 32, 33, 34, 35, 36, 37, 38, 39, 40, 41] (by decide +kernel) (by decide +kernel)
set_option maxRecDepth 20000 in
theorem gX4_waitForLift_X4_isSeen : GoodIn wsX4_waitForLift (wsV RX4 41 RX4 yX4_isSeen wsX4_isSeen) := goodIn_app (goodIn_of _ (by decide +kernel)) ggX4_waitForLift_X4_isSeen
theorem dX4_waitForLift_0 : decode cX4_waitForLift 0 = .ok (.iconst 0, 1) := by decide +kernel
theorem dX4_waitForLift_1 : decode cX4_waitForLift 1 = .ok (.istore 4, 2) := by decide +kernel
theorem dX4_waitForLift_3 : decode cX4_waitForLift 3 = .ok (.iload 4, 2) := by decide +kernel
theorem dX4_waitForLift_5 : decode cX4_waitForLift 5 = .ok (.bipush 28, 2) := by decide +kernel
theorem dX4_waitForLift_7 : decode cX4_waitForLift 7 = .ok (.if_icmp .ge 25, 3) := by decide +kernel
theorem dX4_waitForLift_10 : decode cX4_waitForLift 10 = .ok (.aload_n 0, 1) := by decide +kernel
theorem dX4_waitForLift_11 : decode cX4_waitForLift 11 = .ok (.iload_n 1, 1) := by decide +kernel
theorem dX4_waitForLift_12 : decode cX4_waitForLift 12 = .ok (.iload_n 2, 1) := by decide +kernel
theorem dX4_waitForLift_13 : decode cX4_waitForLift 13 = .ok (.iload_n 3, 1) := by decide +kernel
theorem dX4_waitForLift_14 : decode cX4_waitForLift 14 = .ok (.iload 4, 2) := by decide +kernel
theorem dX4_waitForLift_16 : decode cX4_waitForLift 16 = .ok (.iadd, 1) := by decide +kernel
theorem dX4_waitForLift_17 : decode cX4_waitForLift 17 = .ok (.invokevirtual 41, 3) := by decide +kernel
theorem dX4_waitForLift_20 : decode cX4_waitForLift 20 = .ok (.ifCond .eq 6, 3) := by decide +kernel
theorem dX4_waitForLift_23 : decode cX4_waitForLift 23 = .ok (.iload 4, 2) := by decide +kernel
theorem dX4_waitForLift_25 : decode cX4_waitForLift 25 = .ok (.ireturn, 1) := by decide +kernel
theorem dX4_waitForLift_26 : decode cX4_waitForLift 26 = .ok (.iinc 4 1, 3) := by decide +kernel
theorem dX4_waitForLift_29 : decode cX4_waitForLift 29 = .ok (.goto (-26), 3) := by decide +kernel
theorem dX4_waitForLift_32 : decode cX4_waitForLift 32 = .ok (.iconst (-1), 1) := by decide +kernel
theorem dX4_waitForLift_33 : decode cX4_waitForLift 33 = .ok (.ireturn, 1) := by decide +kernel
set_option maxRecDepth 20000 in
theorem ggX4_wayOfFirst_X4_waitOn : GoodIn wsX4_wayOfFirst wsX4_waitOn := goodIn_r _ [5, 6, 7, 8, 4, 9, 10, 11, 12, 13, 14, 15, 16, 17, 18, 19, 20, 21, 22, 23, 24, 25, 26, 27, 28, 29, 30, 31, 32, 33, 34, 35, 36, 37, 38, 39, 40, 41, 42, 43, 44, 45, 46, 47, 48, 49, 50, 51, 52, 53, 54] (by decide +kernel) (by decide +kernel)
set_option maxRecDepth 20000 in
theorem gX4_wayOfFirst_X4_waitOn : GoodIn wsX4_wayOfFirst (wsV RX4 52 RX4 yX4_waitOn wsX4_waitOn) := goodIn_app (goodIn_of _ (by decide +kernel)) ggX4_wayOfFirst_X4_waitOn
set_option maxRecDepth 20000 in
theorem ggX4_wayOfFirst_X4_seenFrom : GoodIn wsX4_wayOfFirst wsX4_seenFrom := goodIn_r _ [9, 10, 11, 12, 13, 14, 4, 15, 16, 17, 18, 19, 20, 21, 22, 23, 24, 25, 26, 27, 28, 29, 30, 31, 32, 33, 34, 35, 36, 37, 38, 39, 40, 41, 42, 43, 44, 45, 46, 47, 48, 49, 50, 51, 52, 53, 54] (by decide +kernel) (by decide +kernel)
set_option maxRecDepth 20000 in
theorem gX4_wayOfFirst_X4_seenFrom : GoodIn wsX4_wayOfFirst (wsV RX4 48 RX4 yX4_seenFrom wsX4_seenFrom) := goodIn_app (goodIn_of _ (by decide +kernel)) ggX4_wayOfFirst_X4_seenFrom
set_option maxRecDepth 20000 in
theorem ggX4_wayOfFirst_X4_wayOf : GoodIn wsX4_wayOfFirst wsX4_wayOf := goodIn_r _ [39, 10, 16, 18, 17, 23, 24, 21, 25, 26, 27, 28, 29, 30, 31, 32, 33, 34, 35, 40, 41, 42, 43, 44, 45, 46, 47, 48, 49, 50, 51, 52, 53, 54] (by decide +kernel) (by decide +kernel)
set_option maxRecDepth 20000 in
theorem gX4_wayOfFirst_X4_wayOf : GoodIn wsX4_wayOfFirst (wsV RX4 44 RX4 yX4_wayOf wsX4_wayOf) := goodIn_app (goodIn_of _ (by decide +kernel)) ggX4_wayOfFirst_X4_wayOf
theorem dX4_wayOfFirst_0 : decode cX4_wayOfFirst 0 = .ok (.aload_n 0, 1) := by decide +kernel
theorem dX4_wayOfFirst_1 : decode cX4_wayOfFirst 1 = .ok (.iload_n 1, 1) := by decide +kernel
theorem dX4_wayOfFirst_2 : decode cX4_wayOfFirst 2 = .ok (.iload_n 2, 1) := by decide +kernel
theorem dX4_wayOfFirst_3 : decode cX4_wayOfFirst 3 = .ok (.iconst (-1), 1) := by decide +kernel
theorem dX4_wayOfFirst_4 : decode cX4_wayOfFirst 4 = .ok (.invokevirtual 52, 3) := by decide +kernel
theorem dX4_wayOfFirst_7 : decode cX4_wayOfFirst 7 = .ok (.istore_n 3, 1) := by decide +kernel
theorem dX4_wayOfFirst_8 : decode cX4_wayOfFirst 8 = .ok (.iload_n 3, 1) := by decide +kernel
theorem dX4_wayOfFirst_9 : decode cX4_wayOfFirst 9 = .ok (.iconst (-1), 1) := by decide +kernel
theorem dX4_wayOfFirst_10 : decode cX4_wayOfFirst 10 = .ok (.if_icmp .ne 5, 3) := by decide +kernel
theorem dX4_wayOfFirst_13 : decode cX4_wayOfFirst 13 = .ok (.iconst (-1), 1) := by decide +kernel
theorem dX4_wayOfFirst_14 : decode cX4_wayOfFirst 14 = .ok (.ireturn, 1) := by decide +kernel
theorem dX4_wayOfFirst_15 : decode cX4_wayOfFirst 15 = .ok (.aload_n 0, 1) := by decide +kernel
theorem dX4_wayOfFirst_16 : decode cX4_wayOfFirst 16 = .ok (.iload_n 1, 1) := by decide +kernel
theorem dX4_wayOfFirst_17 : decode cX4_wayOfFirst 17 = .ok (.iload_n 2, 1) := by decide +kernel
theorem dX4_wayOfFirst_18 : decode cX4_wayOfFirst 18 = .ok (.iload_n 3, 1) := by decide +kernel
theorem dX4_wayOfFirst_19 : decode cX4_wayOfFirst 19 = .ok (.iadd, 1) := by decide +kernel
theorem dX4_wayOfFirst_20 : decode cX4_wayOfFirst 20 = .ok (.iconst (-1), 1) := by decide +kernel
theorem dX4_wayOfFirst_21 : decode cX4_wayOfFirst 21 = .ok (.invokevirtual 48, 3) := by decide +kernel
theorem dX4_wayOfFirst_24 : decode cX4_wayOfFirst 24 = .ok (.istore 4, 2) := by decide +kernel
theorem dX4_wayOfFirst_26 : decode cX4_wayOfFirst 26 = .ok (.iload 4, 2) := by decide +kernel
theorem dX4_wayOfFirst_28 : decode cX4_wayOfFirst 28 = .ok (.iconst (-1), 1) := by decide +kernel
theorem dX4_wayOfFirst_29 : decode cX4_wayOfFirst 29 = .ok (.if_icmp .ne 7, 3) := by decide +kernel
theorem dX4_wayOfFirst_32 : decode cX4_wayOfFirst 32 = .ok (.iconst (-1), 1) := by decide +kernel
theorem dX4_wayOfFirst_33 : decode cX4_wayOfFirst 33 = .ok (.goto 12, 3) := by decide +kernel
theorem dX4_wayOfFirst_36 : decode cX4_wayOfFirst 36 = .ok (.aload_n 0, 1) := by decide +kernel
theorem dX4_wayOfFirst_37 : decode cX4_wayOfFirst 37 = .ok (.iload 4, 2) := by decide +kernel
theorem dX4_wayOfFirst_39 : decode cX4_wayOfFirst 39 = .ok (.iload_n 2, 1) := by decide +kernel
theorem dX4_wayOfFirst_40 : decode cX4_wayOfFirst 40 = .ok (.iload_n 3, 1) := by decide +kernel
theorem dX4_wayOfFirst_41 : decode cX4_wayOfFirst 41 = .ok (.iadd, 1) := by decide +kernel
theorem dX4_wayOfFirst_42 : decode cX4_wayOfFirst 42 = .ok (.invokevirtual 44, 3) := by decide +kernel
theorem dX4_wayOfFirst_45 : decode cX4_wayOfFirst 45 = .ok (.ireturn, 1) := by decide +kernel
set_option maxRecDepth 20000 in
theorem ggX4_rideTime_X4_waitOn : GoodIn wsX4_rideTime wsX4_waitOn := goodIn_r _ [5, 6, 7, 8, 4, 9, 10, 11, 12, 13, 14, 15, 16, 17, 18, 19, 20, 21, 22, 23, 24, 25, 26, 27, 28, 29, 30, 31, 32, 33, 34, 35, 36, 37, 38, 39, 44, 45, 46, 47, 48, 49, 50, 51, 52, 53, 54, 55, 56, 57, 58] (by decide +kernel) (by decide +kernel)
set_option maxRecDepth 20000 in
theorem gX4_rideTime_X4_waitOn : GoodIn wsX4_rideTime (wsV RX4 52 RX4 yX4_waitOn wsX4_waitOn) := goodIn_app (goodIn_of _ (by decide +kernel)) ggX4_rideTime_X4_waitOn
set_option maxRecDepth 20000 in
theorem ggX4_rideTime_X4_seenFrom : GoodIn wsX4_rideTime wsX4_seenFrom := goodIn_r _ [9, 10, 11, 12, 13, 14, 4, 15, 16, 17, 18, 19, 20, 21, 22, 23, 24, 25, 26, 27, 28, 29, 30, 31, 32, 33, 34, 35, 36, 37, 38, 39, 44, 45, 46, 47, 48, 49, 50, 51, 52, 53, 54, 55, 56, 57, 58] (by decide +kernel) (by decide +kernel)
set_option maxRecDepth 20000 in
theorem gX4_rideTime_X4_seenFrom : GoodIn wsX4_rideTime (wsV RX4 48 RX4 yX4_seenFrom wsX4_seenFrom) := goodIn_app (goodIn_of _ (by decide +kernel)) ggX4_rideTime_X4_seenFrom
set_option maxRecDepth 20000 in
theorem ggX4_rideTime_X4_waitForLift : GoodIn wsX4_rideTime wsX4_waitForLift := goodIn_r _ [43, 12, 13, 14, 4, 15, 10, 16, 17, 18, 19, 20, 21, 22, 23, 24, 25, 26, 27, 28, 29, 30, 31, 32, 33, 34, 35, 44, 45, 46, 47, 48, 49, 50, 51, 52, 53, 54, 55, 56, 57, 58] (by decide +kernel) (by decide +kernel)
set_option maxRecDepth 20000 in
theorem gX4_rideTime_X4_waitForLift : GoodIn wsX4_rideTime (wsV RX4 55 RX4 yX4_waitForLift wsX4_waitForLift) := goodIn_app (goodIn_of _ (by decide +kernel)) ggX4_rideTime_X4_waitForLift
theorem dX4_rideTime_0 : decode cX4_rideTime 0 = .ok (.iload_n 1, 1) := by decide +kernel
theorem dX4_rideTime_1 : decode cX4_rideTime 1 = .ok (.iload_n 2, 1) := by decide +kernel
theorem dX4_rideTime_2 : decode cX4_rideTime 2 = .ok (.if_icmp .ne 5, 3) := by decide +kernel
theorem dX4_rideTime_5 : decode cX4_rideTime 5 = .ok (.iconst 0, 1) := by decide +kernel
theorem dX4_rideTime_6 : decode cX4_rideTime 6 = .ok (.ireturn, 1) := by decide +kernel
theorem dX4_rideTime_7 : decode cX4_rideTime 7 = .ok (.aload_n 0, 1) := by decide +kernel
theorem dX4_rideTime_8 : decode cX4_rideTime 8 = .ok (.iload_n 1, 1) := by decide +kernel
theorem dX4_rideTime_9 : decode cX4_rideTime 9 = .ok (.iload_n 3, 1) := by decide +kernel
theorem dX4_rideTime_10 : decode cX4_rideTime 10 = .ok (.iload 4, 2) := by decide +kernel
theorem dX4_rideTime_12 : decode cX4_rideTime 12 = .ok (.invokevirtual 52, 3) := by decide +kernel
theorem dX4_rideTime_15 : decode cX4_rideTime 15 = .ok (.istore 5, 2) := by decide +kernel
theorem dX4_rideTime_17 : decode cX4_rideTime 17 = .ok (.iload 5, 2) := by decide +kernel
theorem dX4_rideTime_19 : decode cX4_rideTime 19 = .ok (.iconst (-1), 1) := by decide +kernel
theorem dX4_rideTime_20 : decode cX4_rideTime 20 = .ok (.if_icmp .ne 5, 3) := by decide +kernel
theorem dX4_rideTime_23 : decode cX4_rideTime 23 = .ok (.iconst (-1), 1) := by decide +kernel
theorem dX4_rideTime_24 : decode cX4_rideTime 24 = .ok (.ireturn, 1) := by decide +kernel
theorem dX4_rideTime_25 : decode cX4_rideTime 25 = .ok (.aload_n 0, 1) := by decide +kernel
theorem dX4_rideTime_26 : decode cX4_rideTime 26 = .ok (.iload_n 1, 1) := by decide +kernel
theorem dX4_rideTime_27 : decode cX4_rideTime 27 = .ok (.iload_n 3, 1) := by decide +kernel
theorem dX4_rideTime_28 : decode cX4_rideTime 28 = .ok (.iload 5, 2) := by decide +kernel
theorem dX4_rideTime_30 : decode cX4_rideTime 30 = .ok (.iadd, 1) := by decide +kernel
theorem dX4_rideTime_31 : decode cX4_rideTime 31 = .ok (.iload 4, 2) := by decide +kernel
theorem dX4_rideTime_33 : decode cX4_rideTime 33 = .ok (.invokevirtual 48, 3) := by decide +kernel
theorem dX4_rideTime_36 : decode cX4_rideTime 36 = .ok (.istore 6, 2) := by decide +kernel
theorem dX4_rideTime_38 : decode cX4_rideTime 38 = .ok (.iload 6, 2) := by decide +kernel
theorem dX4_rideTime_40 : decode cX4_rideTime 40 = .ok (.iconst (-1), 1) := by decide +kernel
theorem dX4_rideTime_41 : decode cX4_rideTime 41 = .ok (.if_icmp .ne 7, 3) := by decide +kernel
theorem dX4_rideTime_44 : decode cX4_rideTime 44 = .ok (.iconst (-1), 1) := by decide +kernel
theorem dX4_rideTime_45 : decode cX4_rideTime 45 = .ok (.goto 14, 3) := by decide +kernel
theorem dX4_rideTime_48 : decode cX4_rideTime 48 = .ok (.aload_n 0, 1) := by decide +kernel
theorem dX4_rideTime_49 : decode cX4_rideTime 49 = .ok (.iload 6, 2) := by decide +kernel
theorem dX4_rideTime_51 : decode cX4_rideTime 51 = .ok (.iload_n 2, 1) := by decide +kernel
theorem dX4_rideTime_52 : decode cX4_rideTime 52 = .ok (.iload_n 3, 1) := by decide +kernel
theorem dX4_rideTime_53 : decode cX4_rideTime 53 = .ok (.iload 5, 2) := by decide +kernel
theorem dX4_rideTime_55 : decode cX4_rideTime 55 = .ok (.iadd, 1) := by decide +kernel
theorem dX4_rideTime_56 : decode cX4_rideTime 56 = .ok (.invokevirtual 55, 3) := by decide +kernel
theorem dX4_rideTime_59 : decode cX4_rideTime 59 = .ok (.istore 7, 2) := by decide +kernel
theorem dX4_rideTime_61 : decode cX4_rideTime 61 = .ok (.iload 7, 2) := by decide +kernel
theorem dX4_rideTime_63 : decode cX4_rideTime 63 = .ok (.iconst (-1), 1) := by decide +kernel
theorem dX4_rideTime_64 : decode cX4_rideTime 64 = .ok (.if_icmp .ne 7, 3) := by decide +kernel
theorem dX4_rideTime_67 : decode cX4_rideTime 67 = .ok (.iconst (-1), 1) := by decide +kernel
theorem dX4_rideTime_68 : decode cX4_rideTime 68 = .ok (.goto 8, 3) := by decide +kernel
theorem dX4_rideTime_71 : decode cX4_rideTime 71 = .ok (.iload 5, 2) := by decide +kernel
theorem dX4_rideTime_73 : decode cX4_rideTime 73 = .ok (.iload 7, 2) := by decide +kernel
theorem dX4_rideTime_75 : decode cX4_rideTime 75 = .ok (.iadd, 1) := by decide +kernel
theorem dX4_rideTime_76 : decode cX4_rideTime 76 = .ok (.ireturn, 1) := by decide +kernel
set_option maxRecDepth 20000 in
theorem ggX4_fits_X2_floorIn : GoodIn wsX4_fits wsX2_floorIn := goodIn_r _ [11, 12, 13, 14, 15, 16, 17, 18, 19, 20, 10, 21] (by decide +kernel) (by decide +kernel)
set_option maxRecDepth 20000 in
theorem gX4_fits_X2_floorIn : GoodIn wsX4_fits (va_wsS RX4 28 yX2_floorIn wsX2_floorIn) := goodIn_app (goodIn_of _ (by decide +kernel)) ggX4_fits_X2_floorIn
theorem dX4_fits_0 : decode cX4_fits 0 = .ok (.iconst 0, 1) := by decide +kernel
theorem dX4_fits_1 : decode cX4_fits 1 = .ok (.istore 4, 2) := by decide +kernel
theorem dX4_fits_3 : decode cX4_fits 3 = .ok (.iload 4, 2) := by decide +kernel
theorem dX4_fits_5 : decode cX4_fits 5 = .ok (.aload_n 0, 1) := by decide +kernel
theorem dX4_fits_6 : decode cX4_fits 6 = .ok (.getfield 9, 3) := by decide +kernel
theorem dX4_fits_9 : decode cX4_fits 9 = .ok (.getfield 58, 3) := by decide +kernel
theorem dX4_fits_12 : decode cX4_fits 12 = .ok (.if_icmp .ge 95, 3) := by decide +kernel
theorem dX4_fits_15 : decode cX4_fits 15 = .ok (.aload_n 0, 1) := by decide +kernel
theorem dX4_fits_16 : decode cX4_fits 16 = .ok (.getfield 9, 3) := by decide +kernel
theorem dX4_fits_19 : decode cX4_fits 19 = .ok (.getfield 61, 3) := by decide +kernel
theorem dX4_fits_22 : decode cX4_fits 22 = .ok (.iload 4, 2) := by decide +kernel
theorem dX4_fits_24 : decode cX4_fits 24 = .ok (.iaload, 1) := by decide +kernel
theorem dX4_fits_25 : decode cX4_fits 25 = .ok (.iload_n 1, 1) := by decide +kernel
theorem dX4_fits_26 : decode cX4_fits 26 = .ok (.if_icmp .ne 75, 3) := by decide +kernel
theorem dX4_fits_29 : decode cX4_fits 29 = .ok (.iload_n 2, 1) := by decide +kernel
theorem dX4_fits_30 : decode cX4_fits 30 = .ok (.aload_n 0, 1) := by decide +kernel
theorem dX4_fits_31 : decode cX4_fits 31 = .ok (.getfield 9, 3) := by decide +kernel
theorem dX4_fits_34 : decode cX4_fits 34 = .ok (.getfield 21, 3) := by decide +kernel
theorem dX4_fits_37 : decode cX4_fits 37 = .ok (.iload_n 3, 1) := by decide +kernel
theorem dX4_fits_38 : decode cX4_fits 38 = .ok (.aload_n 0, 1) := by decide +kernel
theorem dX4_fits_39 : decode cX4_fits 39 = .ok (.getfield 9, 3) := by decide +kernel
theorem dX4_fits_42 : decode cX4_fits 42 = .ok (.getfield 64, 3) := by decide +kernel
theorem dX4_fits_45 : decode cX4_fits 45 = .ok (.iload 4, 2) := by decide +kernel
theorem dX4_fits_47 : decode cX4_fits 47 = .ok (.iaload, 1) := by decide +kernel
theorem dX4_fits_48 : decode cX4_fits 48 = .ok (.invokestatic 28, 3) := by decide +kernel
theorem dX4_fits_51 : decode cX4_fits 51 = .ok (.istore 5, 2) := by decide +kernel
theorem dX4_fits_53 : decode cX4_fits 53 = .ok (.iload 5, 2) := by decide +kernel
theorem dX4_fits_55 : decode cX4_fits 55 = .ok (.aload_n 0, 1) := by decide +kernel
theorem dX4_fits_56 : decode cX4_fits 56 = .ok (.getfield 9, 3) := by decide +kernel
theorem dX4_fits_59 : decode cX4_fits 59 = .ok (.getfield 67, 3) := by decide +kernel
theorem dX4_fits_62 : decode cX4_fits 62 = .ok (.iload 4, 2) := by decide +kernel
theorem dX4_fits_64 : decode cX4_fits 64 = .ok (.iaload, 1) := by decide +kernel
theorem dX4_fits_65 : decode cX4_fits 65 = .ok (.if_icmp .ne 7, 3) := by decide +kernel
theorem dX4_fits_68 : decode cX4_fits 68 = .ok (.iconst 1, 1) := by decide +kernel
theorem dX4_fits_69 : decode cX4_fits 69 = .ok (.goto 4, 3) := by decide +kernel
theorem dX4_fits_72 : decode cX4_fits 72 = .ok (.iconst 0, 1) := by decide +kernel
theorem dX4_fits_73 : decode cX4_fits 73 = .ok (.istore 6, 2) := by decide +kernel
theorem dX4_fits_75 : decode cX4_fits 75 = .ok (.iload 6, 2) := by decide +kernel
theorem dX4_fits_77 : decode cX4_fits 77 = .ok (.aload_n 0, 1) := by decide +kernel
theorem dX4_fits_78 : decode cX4_fits 78 = .ok (.getfield 9, 3) := by decide +kernel
theorem dX4_fits_81 : decode cX4_fits 81 = .ok (.getfield 70, 3) := by decide +kernel
theorem dX4_fits_84 : decode cX4_fits 84 = .ok (.iload 4, 2) := by decide +kernel
theorem dX4_fits_86 : decode cX4_fits 86 = .ok (.iaload, 1) := by decide +kernel
theorem dX4_fits_87 : decode cX4_fits 87 = .ok (.iconst 1, 1) := by decide +kernel
theorem dX4_fits_88 : decode cX4_fits 88 = .ok (.if_icmp .ne 7, 3) := by decide +kernel
theorem dX4_fits_91 : decode cX4_fits 91 = .ok (.iconst 1, 1) := by decide +kernel
theorem dX4_fits_92 : decode cX4_fits 92 = .ok (.goto 4, 3) := by decide +kernel
theorem dX4_fits_95 : decode cX4_fits 95 = .ok (.iconst 0, 1) := by decide +kernel
theorem dX4_fits_96 : decode cX4_fits 96 = .ok (.if_icmp .eq 5, 3) := by decide +kernel
theorem dX4_fits_99 : decode cX4_fits 99 = .ok (.iconst 0, 1) := by decide +kernel
theorem dX4_fits_100 : decode cX4_fits 100 = .ok (.ireturn, 1) := by decide +kernel
theorem dX4_fits_101 : decode cX4_fits 101 = .ok (.iinc 4 1, 3) := by decide +kernel
theorem dX4_fits_104 : decode cX4_fits 104 = .ok (.goto (-101), 3) := by decide +kernel
theorem dX4_fits_107 : decode cX4_fits 107 = .ok (.iconst 1, 1) := by decide +kernel
theorem dX4_fits_108 : decode cX4_fits 108 = .ok (.ireturn, 1) := by decide +kernel
set_option maxRecDepth 20000 in
theorem ggX4_fittingKinds_X4_fits : GoodIn wsX4_fittingKinds wsX4_fits := goodIn_r _ [7, 1, 8, 9, 10, 11, 12, 13, 14, 15, 16, 17, 18, 19, 20, 21, 22, 23, 24, 25, 26, 27, 28, 29, 30, 31, 32, 33, 34, 35, 36, 37, 38, 39, 40, 41, 42] (by decide +kernel) (by decide +kernel)
set_option maxRecDepth 20000 in
theorem gX4_fittingKinds_X4_fits : GoodIn wsX4_fittingKinds (wsV RX4 73 RX4 yX4_fits wsX4_fits) := goodIn_app (goodIn_of _ (by decide +kernel)) ggX4_fittingKinds_X4_fits
theorem dX4_fittingKinds_0 : decode cX4_fittingKinds 0 = .ok (.iconst 0, 1) := by decide +kernel
theorem dX4_fittingKinds_1 : decode cX4_fittingKinds 1 = .ok (.istore_n 2, 1) := by decide +kernel
theorem dX4_fittingKinds_2 : decode cX4_fittingKinds 2 = .ok (.iconst 0, 1) := by decide +kernel
theorem dX4_fittingKinds_3 : decode cX4_fittingKinds 3 = .ok (.istore_n 3, 1) := by decide +kernel
theorem dX4_fittingKinds_4 : decode cX4_fittingKinds 4 = .ok (.iload_n 3, 1) := by decide +kernel
theorem dX4_fittingKinds_5 : decode cX4_fittingKinds 5 = .ok (.iconst 5, 1) := by decide +kernel
theorem dX4_fittingKinds_6 : decode cX4_fittingKinds 6 = .ok (.if_icmp .gt 33, 3) := by decide +kernel
theorem dX4_fittingKinds_9 : decode cX4_fittingKinds 9 = .ok (.aload_n 0, 1) := by decide +kernel
theorem dX4_fittingKinds_10 : decode cX4_fittingKinds 10 = .ok (.iload_n 1, 1) := by decide +kernel
theorem dX4_fittingKinds_11 : decode cX4_fittingKinds 11 = .ok (.iload_n 3, 1) := by decide +kernel
theorem dX4_fittingKinds_12 : decode cX4_fittingKinds 12 = .ok (.aload_n 0, 1) := by decide +kernel
theorem dX4_fittingKinds_13 : decode cX4_fittingKinds 13 = .ok (.getfield 9, 3) := by decide +kernel
theorem dX4_fittingKinds_16 : decode cX4_fittingKinds 16 = .ok (.getfield 25, 3) := by decide +kernel
theorem dX4_fittingKinds_19 : decode cX4_fittingKinds 19 = .ok (.iload_n 1, 1) := by decide +kernel
theorem dX4_fittingKinds_20 : decode cX4_fittingKinds 20 = .ok (.iaload, 1) := by decide +kernel
theorem dX4_fittingKinds_21 : decode cX4_fittingKinds 21 = .ok (.invokevirtual 73, 3) := by decide +kernel
theorem dX4_fittingKinds_24 : decode cX4_fittingKinds 24 = .ok (.ifCond .eq 9, 3) := by decide +kernel
theorem dX4_fittingKinds_27 : decode cX4_fittingKinds 27 = .ok (.iload_n 2, 1) := by decide +kernel
theorem dX4_fittingKinds_28 : decode cX4_fittingKinds 28 = .ok (.iconst 1, 1) := by decide +kernel
theorem dX4_fittingKinds_29 : decode cX4_fittingKinds 29 = .ok (.iload_n 3, 1) := by decide +kernel
theorem dX4_fittingKinds_30 : decode cX4_fittingKinds 30 = .ok (.ishl, 1) := by decide +kernel
theorem dX4_fittingKinds_31 : decode cX4_fittingKinds 31 = .ok (.ior, 1) := by decide +kernel
theorem dX4_fittingKinds_32 : decode cX4_fittingKinds 32 = .ok (.istore_n 2, 1) := by decide +kernel
theorem dX4_fittingKinds_33 : decode cX4_fittingKinds 33 = .ok (.iinc 3 1, 3) := by decide +kernel
theorem dX4_fittingKinds_36 : decode cX4_fittingKinds 36 = .ok (.goto (-32), 3) := by decide +kernel
theorem dX4_fittingKinds_39 : decode cX4_fittingKinds 39 = .ok (.iload_n 2, 1) := by decide +kernel
theorem dX4_fittingKinds_40 : decode cX4_fittingKinds 40 = .ok (.ireturn, 1) := by decide +kernel
set_option maxRecDepth 20000 in
theorem ggX4_fittingStarts_X4_fits : GoodIn wsX4_fittingStarts wsX4_fits := goodIn_r _ [7, 1, 8, 9, 10, 11, 12, 13, 14, 15, 16, 17, 18, 19, 20, 21, 22, 23, 24, 25, 26, 27, 28, 29, 30, 31, 32, 33, 34, 35, 36, 37, 38, 39, 40, 41, 42] (by decide +kernel) (by decide +kernel)
set_option maxRecDepth 20000 in
theorem gX4_fittingStarts_X4_fits : GoodIn wsX4_fittingStarts (wsV RX4 73 RX4 yX4_fits wsX4_fits) := goodIn_app (goodIn_of _ (by decide +kernel)) ggX4_fittingStarts_X4_fits
theorem dX4_fittingStarts_0 : decode cX4_fittingStarts 0 = .ok (.iconst 0, 1) := by decide +kernel
theorem dX4_fittingStarts_1 : decode cX4_fittingStarts 1 = .ok (.istore_n 2, 1) := by decide +kernel
theorem dX4_fittingStarts_2 : decode cX4_fittingStarts 2 = .ok (.iconst 0, 1) := by decide +kernel
theorem dX4_fittingStarts_3 : decode cX4_fittingStarts 3 = .ok (.istore_n 3, 1) := by decide +kernel
theorem dX4_fittingStarts_4 : decode cX4_fittingStarts 4 = .ok (.iload_n 3, 1) := by decide +kernel
theorem dX4_fittingStarts_5 : decode cX4_fittingStarts 5 = .ok (.bipush 99, 2) := by decide +kernel
theorem dX4_fittingStarts_7 : decode cX4_fittingStarts 7 = .ok (.if_icmp .gt 30, 3) := by decide +kernel
theorem dX4_fittingStarts_10 : decode cX4_fittingStarts 10 = .ok (.aload_n 0, 1) := by decide +kernel
theorem dX4_fittingStarts_11 : decode cX4_fittingStarts 11 = .ok (.iload_n 1, 1) := by decide +kernel
theorem dX4_fittingStarts_12 : decode cX4_fittingStarts 12 = .ok (.aload_n 0, 1) := by decide +kernel
theorem dX4_fittingStarts_13 : decode cX4_fittingStarts 13 = .ok (.getfield 9, 3) := by decide +kernel
theorem dX4_fittingStarts_16 : decode cX4_fittingStarts 16 = .ok (.getfield 15, 3) := by decide +kernel
theorem dX4_fittingStarts_19 : decode cX4_fittingStarts 19 = .ok (.iload_n 1, 1) := by decide +kernel
theorem dX4_fittingStarts_20 : decode cX4_fittingStarts 20 = .ok (.iaload, 1) := by decide +kernel
theorem dX4_fittingStarts_21 : decode cX4_fittingStarts 21 = .ok (.iload_n 3, 1) := by decide +kernel
theorem dX4_fittingStarts_22 : decode cX4_fittingStarts 22 = .ok (.invokevirtual 73, 3) := by decide +kernel
theorem dX4_fittingStarts_25 : decode cX4_fittingStarts 25 = .ok (.ifCond .eq 6, 3) := by decide +kernel
theorem dX4_fittingStarts_28 : decode cX4_fittingStarts 28 = .ok (.iinc 2 1, 3) := by decide +kernel
theorem dX4_fittingStarts_31 : decode cX4_fittingStarts 31 = .ok (.iinc 3 1, 3) := by decide +kernel
theorem dX4_fittingStarts_34 : decode cX4_fittingStarts 34 = .ok (.goto (-30), 3) := by decide +kernel
theorem dX4_fittingStarts_37 : decode cX4_fittingStarts 37 = .ok (.iload_n 2, 1) := by decide +kernel
theorem dX4_fittingStarts_38 : decode cX4_fittingStarts 38 = .ok (.ireturn, 1) := by decide +kernel
set_option maxRecDepth 20000 in
theorem ggX4_tellingMinute_X4_fittingKinds : GoodIn wsX4_tellingMinute wsX4_fittingKinds := goodIn_r _ [11, 1, 2, 12, 13, 14, 10, 15, 16, 17, 18, 19, 20, 21, 22, 23, 24, 25, 26, 4, 5, 6, 27, 28, 29, 30, 31, 32, 44, 45, 46, 47, 48, 49, 50, 51, 52, 53, 54, 55, 56, 57, 58] (by decide +kernel) (by decide +kernel)
set_option maxRecDepth 20000 in
theorem gX4_tellingMinute_X4_fittingKinds : GoodIn wsX4_tellingMinute (wsV RX4 76 RX4 yX4_fittingKinds wsX4_fittingKinds) := goodIn_app (goodIn_of _ (by decide +kernel)) ggX4_tellingMinute_X4_fittingKinds
set_option maxRecDepth 20000 in
theorem ggX4_tellingMinute_J6_bitCount_0f7a4 : GoodIn wsX4_tellingMinute wsJ6_bitCount_0f7a4 := goodIn_r _ [36, 37, 38, 39] (by decide +kernel) (by decide +kernel)
set_option maxRecDepth 20000 in
theorem gX4_tellingMinute_J6_bitCount_0f7a4 : GoodIn wsX4_tellingMinute (va_wsS RX4 80 yJ6_bitCount_0f7a4 wsJ6_bitCount_0f7a4) := goodIn_app (goodIn_of _ (by decide +kernel)) ggX4_tellingMinute_J6_bitCount_0f7a4
set_option maxRecDepth 20000 in
theorem ggX4_tellingMinute_X4_kindsThere : GoodIn wsX4_tellingMinute wsX4_kindsThere := goodIn_r _ [43, 1, 18, 22, 23, 24, 25, 26, 4, 5, 6, 27, 28, 29, 30, 31, 32, 44, 45, 46, 47, 48, 49, 50, 51, 52, 53, 54, 55, 56, 57, 58] (by decide +kernel) (by decide +kernel)
set_option maxRecDepth 20000 in
theorem gX4_tellingMinute_X4_kindsThere : GoodIn wsX4_tellingMinute (wsV RX4 85 RX4 yX4_kindsThere wsX4_kindsThere) := goodIn_app (goodIn_of _ (by decide +kernel)) ggX4_tellingMinute_X4_kindsThere
theorem dX4_tellingMinute_0 : decode cX4_tellingMinute 0 = .ok (.aload_n 0, 1) := by decide +kernel
theorem dX4_tellingMinute_1 : decode cX4_tellingMinute 1 = .ok (.iload_n 1, 1) := by decide +kernel
theorem dX4_tellingMinute_2 : decode cX4_tellingMinute 2 = .ok (.invokevirtual 76, 3) := by decide +kernel
theorem dX4_tellingMinute_5 : decode cX4_tellingMinute 5 = .ok (.istore_n 3, 1) := by decide +kernel
theorem dX4_tellingMinute_6 : decode cX4_tellingMinute 6 = .ok (.iload_n 3, 1) := by decide +kernel
theorem dX4_tellingMinute_7 : decode cX4_tellingMinute 7 = .ok (.invokestatic 80, 3) := by decide +kernel
theorem dX4_tellingMinute_10 : decode cX4_tellingMinute 10 = .ok (.istore 4, 2) := by decide +kernel
theorem dX4_tellingMinute_12 : decode cX4_tellingMinute 12 = .ok (.iconst (-1), 1) := by decide +kernel
theorem dX4_tellingMinute_13 : decode cX4_tellingMinute 13 = .ok (.istore 5, 2) := by decide +kernel
theorem dX4_tellingMinute_15 : decode cX4_tellingMinute 15 = .ok (.iload 4, 2) := by decide +kernel
theorem dX4_tellingMinute_17 : decode cX4_tellingMinute 17 = .ok (.iconst 1, 1) := by decide +kernel
theorem dX4_tellingMinute_18 : decode cX4_tellingMinute 18 = .ok (.iadd, 1) := by decide +kernel
theorem dX4_tellingMinute_19 : decode cX4_tellingMinute 19 = .ok (.istore 6, 2) := by decide +kernel
theorem dX4_tellingMinute_21 : decode cX4_tellingMinute 21 = .ok (.iconst 0, 1) := by decide +kernel
theorem dX4_tellingMinute_22 : decode cX4_tellingMinute 22 = .ok (.istore 7, 2) := by decide +kernel
theorem dX4_tellingMinute_24 : decode cX4_tellingMinute 24 = .ok (.iload 4, 2) := by decide +kernel
theorem dX4_tellingMinute_26 : decode cX4_tellingMinute 26 = .ok (.ifCond .le 62, 3) := by decide +kernel
theorem dX4_tellingMinute_29 : decode cX4_tellingMinute 29 = .ok (.iload 7, 2) := by decide +kernel
theorem dX4_tellingMinute_31 : decode cX4_tellingMinute 31 = .ok (.bipush 30, 2) := by decide +kernel
theorem dX4_tellingMinute_33 : decode cX4_tellingMinute 33 = .ok (.if_icmp .gt 55, 3) := by decide +kernel
theorem dX4_tellingMinute_36 : decode cX4_tellingMinute 36 = .ok (.aload_n 0, 1) := by decide +kernel
theorem dX4_tellingMinute_37 : decode cX4_tellingMinute 37 = .ok (.iload_n 3, 1) := by decide +kernel
theorem dX4_tellingMinute_38 : decode cX4_tellingMinute 38 = .ok (.aload_n 0, 1) := by decide +kernel
theorem dX4_tellingMinute_39 : decode cX4_tellingMinute 39 = .ok (.getfield 9, 3) := by decide +kernel
theorem dX4_tellingMinute_42 : decode cX4_tellingMinute 42 = .ok (.getfield 25, 3) := by decide +kernel
theorem dX4_tellingMinute_45 : decode cX4_tellingMinute 45 = .ok (.iload_n 1, 1) := by decide +kernel
theorem dX4_tellingMinute_46 : decode cX4_tellingMinute 46 = .ok (.iaload, 1) := by decide +kernel
theorem dX4_tellingMinute_47 : decode cX4_tellingMinute 47 = .ok (.iload_n 2, 1) := by decide +kernel
theorem dX4_tellingMinute_48 : decode cX4_tellingMinute 48 = .ok (.iload 7, 2) := by decide +kernel
theorem dX4_tellingMinute_50 : decode cX4_tellingMinute 50 = .ok (.invokevirtual 85, 3) := by decide +kernel
theorem dX4_tellingMinute_53 : decode cX4_tellingMinute 53 = .ok (.istore 8, 2) := by decide +kernel
theorem dX4_tellingMinute_55 : decode cX4_tellingMinute 55 = .ok (.iload 8, 2) := by decide +kernel
theorem dX4_tellingMinute_57 : decode cX4_tellingMinute 57 = .ok (.iload 4, 2) := by decide +kernel
theorem dX4_tellingMinute_59 : decode cX4_tellingMinute 59 = .ok (.iload 8, 2) := by decide +kernel
theorem dX4_tellingMinute_61 : decode cX4_tellingMinute 61 = .ok (.isub, 1) := by decide +kernel
theorem dX4_tellingMinute_62 : decode cX4_tellingMinute 62 = .ok (.invokestatic 88, 3) := by decide +kernel
theorem dX4_tellingMinute_65 : decode cX4_tellingMinute 65 = .ok (.istore 9, 2) := by decide +kernel
theorem dX4_tellingMinute_67 : decode cX4_tellingMinute 67 = .ok (.iload 9, 2) := by decide +kernel
theorem dX4_tellingMinute_69 : decode cX4_tellingMinute 69 = .ok (.iload 6, 2) := by decide +kernel
theorem dX4_tellingMinute_71 : decode cX4_tellingMinute 71 = .ok (.if_icmp .ge 11, 3) := by decide +kernel
theorem dX4_tellingMinute_74 : decode cX4_tellingMinute 74 = .ok (.iload 7, 2) := by decide +kernel
theorem dX4_tellingMinute_76 : decode cX4_tellingMinute 76 = .ok (.istore 5, 2) := by decide +kernel
theorem dX4_tellingMinute_78 : decode cX4_tellingMinute 78 = .ok (.iload 9, 2) := by decide +kernel
theorem dX4_tellingMinute_80 : decode cX4_tellingMinute 80 = .ok (.istore 6, 2) := by decide +kernel
theorem dX4_tellingMinute_82 : decode cX4_tellingMinute 82 = .ok (.iinc 7 1, 3) := by decide +kernel
theorem dX4_tellingMinute_85 : decode cX4_tellingMinute 85 = .ok (.goto (-61), 3) := by decide +kernel
theorem dX4_tellingMinute_88 : decode cX4_tellingMinute 88 = .ok (.iload 5, 2) := by decide +kernel
theorem dX4_tellingMinute_90 : decode cX4_tellingMinute 90 = .ok (.ireturn, 1) := by decide +kernel
set_option maxRecDepth 20000 in
theorem ggX4_kindsThere_X2_floorIn : GoodIn wsX4_kindsThere wsX2_floorIn := goodIn_r _ [6, 7, 8, 9, 10, 11, 12, 13, 14, 15, 5, 16] (by decide +kernel) (by decide +kernel)
set_option maxRecDepth 20000 in
theorem gX4_kindsThere_X2_floorIn : GoodIn wsX4_kindsThere (va_wsS RX4 28 yX2_floorIn wsX2_floorIn) := goodIn_app (goodIn_of _ (by decide +kernel)) ggX4_kindsThere_X2_floorIn
theorem dX4_kindsThere_0 : decode cX4_kindsThere 0 = .ok (.iconst 0, 1) := by decide +kernel
theorem dX4_kindsThere_1 : decode cX4_kindsThere 1 = .ok (.istore 5, 2) := by decide +kernel
theorem dX4_kindsThere_3 : decode cX4_kindsThere 3 = .ok (.iconst 0, 1) := by decide +kernel
theorem dX4_kindsThere_4 : decode cX4_kindsThere 4 = .ok (.istore 6, 2) := by decide +kernel
theorem dX4_kindsThere_6 : decode cX4_kindsThere 6 = .ok (.iload 6, 2) := by decide +kernel
theorem dX4_kindsThere_8 : decode cX4_kindsThere 8 = .ok (.iconst 5, 1) := by decide +kernel
theorem dX4_kindsThere_9 : decode cX4_kindsThere 9 = .ok (.if_icmp .gt 53, 3) := by decide +kernel
theorem dX4_kindsThere_12 : decode cX4_kindsThere 12 = .ok (.iload_n 1, 1) := by decide +kernel
theorem dX4_kindsThere_13 : decode cX4_kindsThere 13 = .ok (.iload 6, 2) := by decide +kernel
theorem dX4_kindsThere_15 : decode cX4_kindsThere 15 = .ok (.ishr, 1) := by decide +kernel
theorem dX4_kindsThere_16 : decode cX4_kindsThere 16 = .ok (.iconst 1, 1) := by decide +kernel
theorem dX4_kindsThere_17 : decode cX4_kindsThere 17 = .ok (.iand, 1) := by decide +kernel
theorem dX4_kindsThere_18 : decode cX4_kindsThere 18 = .ok (.iconst 1, 1) := by decide +kernel
theorem dX4_kindsThere_19 : decode cX4_kindsThere 19 = .ok (.if_icmp .ne 7, 3) := by decide +kernel
theorem dX4_kindsThere_22 : decode cX4_kindsThere 22 = .ok (.iconst 1, 1) := by decide +kernel
theorem dX4_kindsThere_23 : decode cX4_kindsThere 23 = .ok (.goto 4, 3) := by decide +kernel
theorem dX4_kindsThere_26 : decode cX4_kindsThere 26 = .ok (.iconst 0, 1) := by decide +kernel
theorem dX4_kindsThere_27 : decode cX4_kindsThere 27 = .ok (.istore 7, 2) := by decide +kernel
theorem dX4_kindsThere_29 : decode cX4_kindsThere 29 = .ok (.iload 7, 2) := by decide +kernel
theorem dX4_kindsThere_31 : decode cX4_kindsThere 31 = .ok (.ifCond .eq 25, 3) := by decide +kernel
theorem dX4_kindsThere_34 : decode cX4_kindsThere 34 = .ok (.iload 6, 2) := by decide +kernel
theorem dX4_kindsThere_36 : decode cX4_kindsThere 36 = .ok (.aload_n 0, 1) := by decide +kernel
theorem dX4_kindsThere_37 : decode cX4_kindsThere 37 = .ok (.getfield 9, 3) := by decide +kernel
theorem dX4_kindsThere_40 : decode cX4_kindsThere 40 = .ok (.getfield 21, 3) := by decide +kernel
theorem dX4_kindsThere_43 : decode cX4_kindsThere 43 = .ok (.iload_n 2, 1) := by decide +kernel
theorem dX4_kindsThere_44 : decode cX4_kindsThere 44 = .ok (.iload 4, 2) := by decide +kernel
theorem dX4_kindsThere_46 : decode cX4_kindsThere 46 = .ok (.invokestatic 28, 3) := by decide +kernel
theorem dX4_kindsThere_49 : decode cX4_kindsThere 49 = .ok (.iload_n 3, 1) := by decide +kernel
theorem dX4_kindsThere_50 : decode cX4_kindsThere 50 = .ok (.if_icmp .ne 6, 3) := by decide +kernel
theorem dX4_kindsThere_53 : decode cX4_kindsThere 53 = .ok (.iinc 5 1, 3) := by decide +kernel
theorem dX4_kindsThere_56 : decode cX4_kindsThere 56 = .ok (.iinc 6 1, 3) := by decide +kernel
theorem dX4_kindsThere_59 : decode cX4_kindsThere 59 = .ok (.goto (-53), 3) := by decide +kernel
theorem dX4_kindsThere_62 : decode cX4_kindsThere 62 = .ok (.iload 5, 2) := by decide +kernel
theorem dX4_kindsThere_64 : decode cX4_kindsThere 64 = .ok (.ireturn, 1) := by decide +kernel
set_option maxRecDepth 20000 in
theorem ggX5_init_X1_init : GoodIn wsX5_init wsX1_init := goodIn_r _ [28, 29, 2, 3, 24, 30, 31, 32, 33, 34, 35, 36, 37, 38, 39, 40, 41, 6, 42, 43, 44, 45, 46, 47, 48, 49, 50, 51, 67, 68, 69, 70, 71, 72, 73, 74, 75, 76, 77, 78, 79, 80] (by decide +kernel) (by decide +kernel)
set_option maxRecDepth 20000 in
theorem gX5_init_X1_init : GoodIn wsX5_init (wsX1_init) := ggX5_init_X1_init
set_option maxRecDepth 20000 in
theorem ggX5_init_X4_init : GoodIn wsX5_init wsX4_init := goodIn_r _ [54, 55, 2, 3, 56, 89] (by decide +kernel) (by decide +kernel)
set_option maxRecDepth 20000 in
theorem gX5_init_X4_init : GoodIn wsX5_init (wsX4_init) := ggX5_init_X4_init
set_option maxRecDepth 20000 in
theorem ggX5_init_X3_init : GoodIn wsX5_init wsX3_init := goodIn_r _ [58, 59, 2, 3, 60, 61, 90, 91, 92, 93, 94, 95] (by decide +kernel) (by decide +kernel)
set_option maxRecDepth 20000 in
theorem gX5_init_X3_init_n38 : GoodIn wsX5_init (wsX3_init) := ggX5_init_X3_init
set_option maxRecDepth 20000 in
theorem ggX5_init_X0_init : GoodIn wsX5_init wsX0_init := goodIn_r _ [63, 64, 2, 3, 65, 66, 96, 97] (by decide +kernel) (by decide +kernel)
set_option maxRecDepth 20000 in
theorem gX5_init_X0_init_n45 : GoodIn wsX5_init (wsX0_init) := ggX5_init_X0_init
theorem dX5_init_0 : decode cX5_init 0 = .ok (.aload_n 0, 1) := by decide +kernel
theorem dX5_init_1 : decode cX5_init 1 = .ok (.invokespecial 1, 3) := by decide +kernel
theorem dX5_init_4 : decode cX5_init 4 = .ok (.aload_n 0, 1) := by decide +kernel
theorem dX5_init_5 : decode cX5_init 5 = .ok (.new 7, 3) := by decide +kernel
theorem dX5_init_8 : decode cX5_init 8 = .ok (.dup, 1) := by decide +kernel
theorem dX5_init_9 : decode cX5_init 9 = .ok (.invokespecial 9, 3) := by decide +kernel
theorem dX5_init_12 : decode cX5_init 12 = .ok (.putfield 10, 3) := by decide +kernel
theorem dX5_init_15 : decode cX5_init 15 = .ok (.aload_n 0, 1) := by decide +kernel
theorem dX5_init_16 : decode cX5_init 16 = .ok (.new 7, 3) := by decide +kernel
theorem dX5_init_19 : decode cX5_init 19 = .ok (.dup, 1) := by decide +kernel
theorem dX5_init_20 : decode cX5_init 20 = .ok (.invokespecial 9, 3) := by decide +kernel
theorem dX5_init_23 : decode cX5_init 23 = .ok (.putfield 16, 3) := by decide +kernel
theorem dX5_init_26 : decode cX5_init 26 = .ok (.aload_n 0, 1) := by decide +kernel
theorem dX5_init_27 : decode cX5_init 27 = .ok (.iconst 2, 1) := by decide +kernel
theorem dX5_init_28 : decode cX5_init 28 = .ok (.anewarray 7, 3) := by decide +kernel
theorem dX5_init_31 : decode cX5_init 31 = .ok (.dup, 1) := by decide +kernel
theorem dX5_init_32 : decode cX5_init 32 = .ok (.iconst 0, 1) := by decide +kernel
theorem dX5_init_33 : decode cX5_init 33 = .ok (.new 7, 3) := by decide +kernel
theorem dX5_init_36 : decode cX5_init 36 = .ok (.dup, 1) := by decide +kernel
theorem dX5_init_37 : decode cX5_init 37 = .ok (.invokespecial 9, 3) := by decide +kernel
theorem dX5_init_40 : decode cX5_init 40 = .ok (.aastore, 1) := by decide +kernel
theorem dX5_init_41 : decode cX5_init 41 = .ok (.dup, 1) := by decide +kernel
theorem dX5_init_42 : decode cX5_init 42 = .ok (.iconst 1, 1) := by decide +kernel
theorem dX5_init_43 : decode cX5_init 43 = .ok (.new 7, 3) := by decide +kernel
theorem dX5_init_46 : decode cX5_init 46 = .ok (.dup, 1) := by decide +kernel
theorem dX5_init_47 : decode cX5_init 47 = .ok (.invokespecial 9, 3) := by decide +kernel
theorem dX5_init_50 : decode cX5_init 50 = .ok (.aastore, 1) := by decide +kernel
theorem dX5_init_51 : decode cX5_init 51 = .ok (.putfield 19, 3) := by decide +kernel
theorem dX5_init_54 : decode cX5_init 54 = .ok (.aload_n 0, 1) := by decide +kernel
theorem dX5_init_55 : decode cX5_init 55 = .ok (.iconst 2, 1) := by decide +kernel
theorem dX5_init_56 : decode cX5_init 56 = .ok (.newarray .boolean, 2) := by decide +kernel
theorem dX5_init_58 : decode cX5_init 58 = .ok (.putfield 23, 3) := by decide +kernel
theorem dX5_init_61 : decode cX5_init 61 = .ok (.aload_n 0, 1) := by decide +kernel
theorem dX5_init_62 : decode cX5_init 62 = .ok (.new 27, 3) := by decide +kernel
theorem dX5_init_65 : decode cX5_init 65 = .ok (.dup, 1) := by decide +kernel
theorem dX5_init_66 : decode cX5_init 66 = .ok (.aload_n 0, 1) := by decide +kernel
theorem dX5_init_67 : decode cX5_init 67 = .ok (.getfield 10, 3) := by decide +kernel
theorem dX5_init_70 : decode cX5_init 70 = .ok (.invokespecial 29, 3) := by decide +kernel
theorem dX5_init_73 : decode cX5_init 73 = .ok (.putfield 32, 3) := by decide +kernel
theorem dX5_init_76 : decode cX5_init 76 = .ok (.aload_n 0, 1) := by decide +kernel
theorem dX5_init_77 : decode cX5_init 77 = .ok (.new 36, 3) := by decide +kernel
theorem dX5_init_80 : decode cX5_init 80 = .ok (.dup, 1) := by decide +kernel
theorem dX5_init_81 : decode cX5_init 81 = .ok (.invokespecial 38, 3) := by decide +kernel
theorem dX5_init_84 : decode cX5_init 84 = .ok (.putfield 39, 3) := by decide +kernel
theorem dX5_init_87 : decode cX5_init 87 = .ok (.aload_n 0, 1) := by decide +kernel
theorem dX5_init_88 : decode cX5_init 88 = .ok (.new 43, 3) := by decide +kernel
theorem dX5_init_91 : decode cX5_init 91 = .ok (.dup, 1) := by decide +kernel
theorem dX5_init_92 : decode cX5_init 92 = .ok (.invokespecial 45, 3) := by decide +kernel
theorem dX5_init_95 : decode cX5_init 95 = .ok (.putfield 46, 3) := by decide +kernel
theorem dX5_init_98 : decode cX5_init 98 = .ok (.aload_n 0, 1) := by decide +kernel
theorem dX5_init_99 : decode cX5_init 99 = .ok (.iconst 3, 1) := by decide +kernel
theorem dX5_init_100 : decode cX5_init 100 = .ok (.newarray .int, 2) := by decide +kernel
theorem dX5_init_102 : decode cX5_init 102 = .ok (.putfield 50, 3) := by decide +kernel
theorem dX5_init_105 : decode cX5_init 105 = .ok (.return_, 1) := by decide +kernel
set_option maxRecDepth 20000 in
theorem ggX5_house_X5_isWithin : GoodIn wsX5_house wsX5_isWithin := goodIn_r _ [6] (by decide +kernel) (by decide +kernel)
set_option maxRecDepth 20000 in
theorem gX5_house_X5_isWithin : GoodIn wsX5_house (va_wsS RX5 54 yX5_isWithin wsX5_isWithin) := goodIn_app (goodIn_of _ (by decide +kernel)) ggX5_house_X5_isWithin
set_option maxRecDepth 20000 in
theorem ggX5_house_X5_refuse : GoodIn wsX5_house wsX5_refuse := goodIn_r _ [10, 11, 3, 4, 5, 6, 28, 29, 30, 31, 32, 33, 34, 35] (by decide +kernel) (by decide +kernel)
set_option maxRecDepth 20000 in
theorem gX5_house_X5_refuse : GoodIn wsX5_house (wsV RX5 58 RX5 yX5_refuse wsX5_refuse) := goodIn_app (goodIn_of _ (by decide +kernel)) ggX5_house_X5_refuse
set_option maxRecDepth 20000 in
theorem ggX5_house_X1_build : GoodIn wsX5_house wsX1_build := goodIn_r _ [16, 17, 18, 19, 20, 21, 22, 23, 24, 15, 25, 26, 27, 36, 37, 38, 39, 40, 41, 42, 43, 44, 45, 46, 47, 48, 49] (by decide +kernel) (by decide +kernel)
set_option maxRecDepth 20000 in
theorem gX5_house_X1_build : GoodIn wsX5_house (wsV RX5 66 RX1 yX1_build wsX1_build) := goodIn_app (goodIn_of _ (by decide +kernel)) ggX5_house_X1_build
theorem dX5_house_0 : decode cX5_house 0 = .ok (.iload_n 1, 1) := by decide +kernel
theorem dX5_house_1 : decode cX5_house 1 = .ok (.iconst 1, 1) := by decide +kernel
theorem dX5_house_2 : decode cX5_house 2 = .ok (.bipush 11, 2) := by decide +kernel
theorem dX5_house_4 : decode cX5_house 4 = .ok (.invokestatic 54, 3) := by decide +kernel
theorem dX5_house_7 : decode cX5_house 7 = .ok (.ifCond .ne 10, 3) := by decide +kernel
theorem dX5_house_10 : decode cX5_house 10 = .ok (.aload_n 0, 1) := by decide +kernel
theorem dX5_house_11 : decode cX5_house 11 = .ok (.bipush (-2), 2) := by decide +kernel
theorem dX5_house_13 : decode cX5_house 13 = .ok (.invokevirtual 58, 3) := by decide +kernel
theorem dX5_house_16 : decode cX5_house 16 = .ok (.ireturn, 1) := by decide +kernel
theorem dX5_house_17 : decode cX5_house 17 = .ok (.aload_n 0, 1) := by decide +kernel
theorem dX5_house_18 : decode cX5_house 18 = .ok (.getfield 10, 3) := by decide +kernel
theorem dX5_house_21 : decode cX5_house 21 = .ok (.getfield 62, 3) := by decide +kernel
theorem dX5_house_24 : decode cX5_house 24 = .ok (.istore_n 2, 1) := by decide +kernel
theorem dX5_house_25 : decode cX5_house 25 = .ok (.aload_n 0, 1) := by decide +kernel
theorem dX5_house_26 : decode cX5_house 26 = .ok (.getfield 10, 3) := by decide +kernel
theorem dX5_house_29 : decode cX5_house 29 = .ok (.iload_n 1, 1) := by decide +kernel
theorem dX5_house_30 : decode cX5_house 30 = .ok (.invokevirtual 66, 3) := by decide +kernel
theorem dX5_house_33 : decode cX5_house 33 = .ok (.iload_n 2, 1) := by decide +kernel
theorem dX5_house_34 : decode cX5_house 34 = .ok (.ireturn, 1) := by decide +kernel
set_option maxRecDepth 20000 in
theorem ggX5_lift_X5_isWithin : GoodIn wsX5_lift wsX5_isWithin := goodIn_r _ [6] (by decide +kernel) (by decide +kernel)
set_option maxRecDepth 20000 in
theorem gX5_lift_X5_isWithin : GoodIn wsX5_lift (va_wsS RX5 54 yX5_isWithin wsX5_isWithin) := goodIn_app (goodIn_of _ (by decide +kernel)) ggX5_lift_X5_isWithin
set_option maxRecDepth 20000 in
theorem ggX5_lift_X5_refuse : GoodIn wsX5_lift wsX5_refuse := goodIn_r _ [10, 11, 3, 4, 5, 6, 21, 22, 23, 24, 25, 26, 27, 28] (by decide +kernel) (by decide +kernel)
set_option maxRecDepth 20000 in
theorem gX5_lift_X5_refuse : GoodIn wsX5_lift (wsV RX5 58 RX5 yX5_refuse wsX5_refuse) := goodIn_app (goodIn_of _ (by decide +kernel)) ggX5_lift_X5_refuse
set_option maxRecDepth 20000 in
theorem ggX5_lift_X1_addLift : GoodIn wsX5_lift wsX1_addLift := goodIn_r _ [16, 17, 18, 19, 20, 29, 30, 31, 32, 33, 34, 35, 36, 37, 38, 39, 40, 41, 42] (by decide +kernel) (by decide +kernel)
set_option maxRecDepth 20000 in
theorem gX5_lift_X1_addLift : GoodIn wsX5_lift (wsV RX5 72 RX1 yX1_addLift wsX1_addLift) := goodIn_app (goodIn_of _ (by decide +kernel)) ggX5_lift_X1_addLift
theorem dX5_lift_0 : decode cX5_lift 0 = .ok (.iload_n 1, 1) := by decide +kernel
theorem dX5_lift_1 : decode cX5_lift 1 = .ok (.iconst 0, 1) := by decide +kernel
theorem dX5_lift_2 : decode cX5_lift 2 = .ok (.iconst 5, 1) := by decide +kernel
theorem dX5_lift_3 : decode cX5_lift 3 = .ok (.invokestatic 54, 3) := by decide +kernel
theorem dX5_lift_6 : decode cX5_lift 6 = .ok (.ifCond .eq 13, 3) := by decide +kernel
theorem dX5_lift_9 : decode cX5_lift 9 = .ok (.iload_n 2, 1) := by decide +kernel
theorem dX5_lift_10 : decode cX5_lift 10 = .ok (.iconst 0, 1) := by decide +kernel
theorem dX5_lift_11 : decode cX5_lift 11 = .ok (.bipush 99, 2) := by decide +kernel
theorem dX5_lift_13 : decode cX5_lift 13 = .ok (.invokestatic 54, 3) := by decide +kernel
theorem dX5_lift_16 : decode cX5_lift 16 = .ok (.ifCond .ne 10, 3) := by decide +kernel
theorem dX5_lift_19 : decode cX5_lift 19 = .ok (.aload_n 0, 1) := by decide +kernel
theorem dX5_lift_20 : decode cX5_lift 20 = .ok (.bipush (-2), 2) := by decide +kernel
theorem dX5_lift_22 : decode cX5_lift 22 = .ok (.invokevirtual 58, 3) := by decide +kernel
theorem dX5_lift_25 : decode cX5_lift 25 = .ok (.ireturn, 1) := by decide +kernel
theorem dX5_lift_26 : decode cX5_lift 26 = .ok (.aload_n 0, 1) := by decide +kernel
theorem dX5_lift_27 : decode cX5_lift 27 = .ok (.getfield 10, 3) := by decide +kernel
theorem dX5_lift_30 : decode cX5_lift 30 = .ok (.getfield 62, 3) := by decide +kernel
theorem dX5_lift_33 : decode cX5_lift 33 = .ok (.iconst 4, 1) := by decide +kernel
theorem dX5_lift_34 : decode cX5_lift 34 = .ok (.if_icmp .lt 10, 3) := by decide +kernel
theorem dX5_lift_37 : decode cX5_lift 37 = .ok (.aload_n 0, 1) := by decide +kernel
theorem dX5_lift_38 : decode cX5_lift 38 = .ok (.bipush (-4), 2) := by decide +kernel
theorem dX5_lift_40 : decode cX5_lift 40 = .ok (.invokevirtual 58, 3) := by decide +kernel
theorem dX5_lift_43 : decode cX5_lift 43 = .ok (.ireturn, 1) := by decide +kernel
theorem dX5_lift_44 : decode cX5_lift 44 = .ok (.aload_n 0, 1) := by decide +kernel
theorem dX5_lift_45 : decode cX5_lift 45 = .ok (.getfield 10, 3) := by decide +kernel
theorem dX5_lift_48 : decode cX5_lift 48 = .ok (.iload_n 1, 1) := by decide +kernel
theorem dX5_lift_49 : decode cX5_lift 49 = .ok (.iload_n 2, 1) := by decide +kernel
theorem dX5_lift_50 : decode cX5_lift 50 = .ok (.invokevirtual 72, 3) := by decide +kernel
theorem dX5_lift_53 : decode cX5_lift 53 = .ok (.aload_n 0, 1) := by decide +kernel
theorem dX5_lift_54 : decode cX5_lift 54 = .ok (.getfield 10, 3) := by decide +kernel
theorem dX5_lift_57 : decode cX5_lift 57 = .ok (.getfield 62, 3) := by decide +kernel
theorem dX5_lift_60 : decode cX5_lift 60 = .ok (.iconst 1, 1) := by decide +kernel
theorem dX5_lift_61 : decode cX5_lift 61 = .ok (.isub, 1) := by decide +kernel
theorem dX5_lift_62 : decode cX5_lift 62 = .ok (.ireturn, 1) := by decide +kernel
set_option maxRecDepth 20000 in
theorem ggX5_line_X5_isWithin : GoodIn wsX5_line wsX5_isWithin := goodIn_r _ [7] (by decide +kernel) (by decide +kernel)
set_option maxRecDepth 20000 in
theorem gX5_line_X5_isWithin : GoodIn wsX5_line (va_wsS RX5 54 yX5_isWithin wsX5_isWithin) := goodIn_app (goodIn_of _ (by decide +kernel)) ggX5_line_X5_isWithin
set_option maxRecDepth 20000 in
theorem ggX5_line_X5_refuse : GoodIn wsX5_line wsX5_refuse := goodIn_r _ [11, 12, 4, 5, 6, 7, 20, 21, 22, 23, 24, 25, 26, 27] (by decide +kernel) (by decide +kernel)
set_option maxRecDepth 20000 in
theorem gX5_line_X5_refuse : GoodIn wsX5_line (wsV RX5 58 RX5 yX5_refuse wsX5_refuse) := goodIn_app (goodIn_of _ (by decide +kernel)) ggX5_line_X5_refuse
set_option maxRecDepth 20000 in
theorem ggX5_line_X1_setLine : GoodIn wsX5_line wsX1_setLine := goodIn_r _ [17, 18, 19, 28, 29, 30, 31, 32, 33, 34, 35, 36, 37, 38, 39, 40, 41] (by decide +kernel) (by decide +kernel)
set_option maxRecDepth 20000 in
theorem gX5_line_X1_setLine : GoodIn wsX5_line (wsV RX5 82 RX1 yX1_setLine wsX1_setLine) := goodIn_app (goodIn_of _ (by decide +kernel)) ggX5_line_X1_setLine
theorem dX5_line_0 : decode cX5_line 0 = .ok (.iload_n 1, 1) := by decide +kernel
theorem dX5_line_1 : decode cX5_line 1 = .ok (.iconst 0, 1) := by decide +kernel
theorem dX5_line_2 : decode cX5_line 2 = .ok (.iconst 1, 1) := by decide +kernel
theorem dX5_line_3 : decode cX5_line 3 = .ok (.invokestatic 54, 3) := by decide +kernel
theorem dX5_line_6 : decode cX5_line 6 = .ok (.ifCond .eq 23, 3) := by decide +kernel
theorem dX5_line_9 : decode cX5_line 9 = .ok (.iload_n 2, 1) := by decide +kernel
theorem dX5_line_10 : decode cX5_line 10 = .ok (.iconst 1, 1) := by decide +kernel
theorem dX5_line_11 : decode cX5_line 11 = .ok (.bipush 30, 2) := by decide +kernel
theorem dX5_line_13 : decode cX5_line 13 = .ok (.invokestatic 54, 3) := by decide +kernel
theorem dX5_line_16 : decode cX5_line 16 = .ok (.ifCond .eq 13, 3) := by decide +kernel
theorem dX5_line_19 : decode cX5_line 19 = .ok (.iload_n 3, 1) := by decide +kernel
theorem dX5_line_20 : decode cX5_line 20 = .ok (.iconst 0, 1) := by decide +kernel
theorem dX5_line_21 : decode cX5_line 21 = .ok (.bipush 29, 2) := by decide +kernel
theorem dX5_line_23 : decode cX5_line 23 = .ok (.invokestatic 54, 3) := by decide +kernel
theorem dX5_line_26 : decode cX5_line 26 = .ok (.ifCond .ne 10, 3) := by decide +kernel
theorem dX5_line_29 : decode cX5_line 29 = .ok (.aload_n 0, 1) := by decide +kernel
theorem dX5_line_30 : decode cX5_line 30 = .ok (.bipush (-2), 2) := by decide +kernel
theorem dX5_line_32 : decode cX5_line 32 = .ok (.invokevirtual 58, 3) := by decide +kernel
theorem dX5_line_35 : decode cX5_line 35 = .ok (.ireturn, 1) := by decide +kernel
theorem dX5_line_36 : decode cX5_line 36 = .ok (.bipush 100, 2) := by decide +kernel
theorem dX5_line_38 : decode cX5_line 38 = .ok (.aload_n 0, 1) := by decide +kernel
theorem dX5_line_39 : decode cX5_line 39 = .ok (.getfield 10, 3) := by decide +kernel
theorem dX5_line_42 : decode cX5_line 42 = .ok (.getfield 76, 3) := by decide +kernel
theorem dX5_line_45 : decode cX5_line 45 = .ok (.iload_n 1, 1) := by decide +kernel
theorem dX5_line_46 : decode cX5_line 46 = .ok (.iaload, 1) := by decide +kernel
theorem dX5_line_47 : decode cX5_line 47 = .ok (.imul, 1) := by decide +kernel
theorem dX5_line_48 : decode cX5_line 48 = .ok (.aload_n 0, 1) := by decide +kernel
theorem dX5_line_49 : decode cX5_line 49 = .ok (.getfield 10, 3) := by decide +kernel
theorem dX5_line_52 : decode cX5_line 52 = .ok (.getfield 79, 3) := by decide +kernel
theorem dX5_line_55 : decode cX5_line 55 = .ok (.iload_n 1, 1) := by decide +kernel
theorem dX5_line_56 : decode cX5_line 56 = .ok (.iaload, 1) := by decide +kernel
theorem dX5_line_57 : decode cX5_line 57 = .ok (.iadd, 1) := by decide +kernel
theorem dX5_line_58 : decode cX5_line 58 = .ok (.istore 4, 2) := by decide +kernel
theorem dX5_line_60 : decode cX5_line 60 = .ok (.aload_n 0, 1) := by decide +kernel
theorem dX5_line_61 : decode cX5_line 61 = .ok (.getfield 10, 3) := by decide +kernel
theorem dX5_line_64 : decode cX5_line 64 = .ok (.iload_n 1, 1) := by decide +kernel
theorem dX5_line_65 : decode cX5_line 65 = .ok (.iload_n 2, 1) := by decide +kernel
theorem dX5_line_66 : decode cX5_line 66 = .ok (.iload_n 3, 1) := by decide +kernel
theorem dX5_line_67 : decode cX5_line 67 = .ok (.invokevirtual 82, 3) := by decide +kernel
theorem dX5_line_70 : decode cX5_line 70 = .ok (.iload 4, 2) := by decide +kernel
theorem dX5_line_72 : decode cX5_line 72 = .ok (.ireturn, 1) := by decide +kernel
set_option maxRecDepth 20000 in
theorem ggX5_type_X5_isWithin : GoodIn wsX5_type wsX5_isWithin := goodIn_r _ [6] (by decide +kernel) (by decide +kernel)
set_option maxRecDepth 20000 in
theorem gX5_type_X5_isWithin : GoodIn wsX5_type (va_wsS RX5 54 yX5_isWithin wsX5_isWithin) := goodIn_app (goodIn_of _ (by decide +kernel)) ggX5_type_X5_isWithin
set_option maxRecDepth 20000 in
theorem ggX5_type_X5_refuse : GoodIn wsX5_type wsX5_refuse := goodIn_r _ [10, 11, 3, 4, 5, 6, 19, 20, 21, 22, 23, 24, 25, 26] (by decide +kernel) (by decide +kernel)
set_option maxRecDepth 20000 in
theorem gX5_type_X5_refuse : GoodIn wsX5_type (wsV RX5 58 RX5 yX5_refuse wsX5_refuse) := goodIn_app (goodIn_of _ (by decide +kernel)) ggX5_type_X5_refuse
set_option maxRecDepth 20000 in
theorem ggX5_type_X3_add : GoodIn wsX5_type wsX3_add := goodIn_r _ [16, 17, 18, 27, 28, 29, 30, 31, 32] (by decide +kernel) (by decide +kernel)
set_option maxRecDepth 20000 in
theorem gX5_type_X3_add : GoodIn wsX5_type (wsV RX5 89 RX3 yX3_add wsX3_add) := goodIn_app (goodIn_of _ (by decide +kernel)) ggX5_type_X3_add
theorem dX5_type_0 : decode cX5_type 0 = .ok (.iload_n 1, 1) := by decide +kernel
theorem dX5_type_1 : decode cX5_type 1 = .ok (.iconst 0, 1) := by decide +kernel
theorem dX5_type_2 : decode cX5_type 2 = .ok (.bipush 127, 2) := by decide +kernel
theorem dX5_type_4 : decode cX5_type 4 = .ok (.invokestatic 54, 3) := by decide +kernel
theorem dX5_type_7 : decode cX5_type 7 = .ok (.ifCond .ne 10, 3) := by decide +kernel
theorem dX5_type_10 : decode cX5_type 10 = .ok (.aload_n 0, 1) := by decide +kernel
theorem dX5_type_11 : decode cX5_type 11 = .ok (.bipush (-2), 2) := by decide +kernel
theorem dX5_type_13 : decode cX5_type 13 = .ok (.invokevirtual 58, 3) := by decide +kernel
theorem dX5_type_16 : decode cX5_type 16 = .ok (.ireturn, 1) := by decide +kernel
theorem dX5_type_17 : decode cX5_type 17 = .ok (.aload_n 0, 1) := by decide +kernel
theorem dX5_type_18 : decode cX5_type 18 = .ok (.getfield 39, 3) := by decide +kernel
theorem dX5_type_21 : decode cX5_type 21 = .ok (.getfield 86, 3) := by decide +kernel
theorem dX5_type_24 : decode cX5_type 24 = .ok (.sipush 150, 3) := by decide +kernel
theorem dX5_type_27 : decode cX5_type 27 = .ok (.if_icmp .lt 10, 3) := by decide +kernel
theorem dX5_type_30 : decode cX5_type 30 = .ok (.aload_n 0, 1) := by decide +kernel
theorem dX5_type_31 : decode cX5_type 31 = .ok (.bipush (-4), 2) := by decide +kernel
theorem dX5_type_33 : decode cX5_type 33 = .ok (.invokevirtual 58, 3) := by decide +kernel
theorem dX5_type_36 : decode cX5_type 36 = .ok (.ireturn, 1) := by decide +kernel
theorem dX5_type_37 : decode cX5_type 37 = .ok (.aload_n 0, 1) := by decide +kernel
theorem dX5_type_38 : decode cX5_type 38 = .ok (.getfield 39, 3) := by decide +kernel
theorem dX5_type_41 : decode cX5_type 41 = .ok (.iload_n 1, 1) := by decide +kernel
theorem dX5_type_42 : decode cX5_type 42 = .ok (.invokevirtual 89, 3) := by decide +kernel
theorem dX5_type_45 : decode cX5_type 45 = .ok (.aload_n 0, 1) := by decide +kernel
theorem dX5_type_46 : decode cX5_type 46 = .ok (.getfield 39, 3) := by decide +kernel
theorem dX5_type_49 : decode cX5_type 49 = .ok (.getfield 86, 3) := by decide +kernel
theorem dX5_type_52 : decode cX5_type 52 = .ok (.ireturn, 1) := by decide +kernel
theorem dX5_clear_0 : decode cX5_clear 0 = .ok (.aload_n 0, 1) := by decide +kernel
theorem dX5_clear_1 : decode cX5_clear 1 = .ok (.getfield 39, 3) := by decide +kernel
theorem dX5_clear_4 : decode cX5_clear 4 = .ok (.getfield 86, 3) := by decide +kernel
theorem dX5_clear_7 : decode cX5_clear 7 = .ok (.istore_n 1, 1) := by decide +kernel
theorem dX5_clear_8 : decode cX5_clear 8 = .ok (.aload_n 0, 1) := by decide +kernel
theorem dX5_clear_9 : decode cX5_clear 9 = .ok (.getfield 39, 3) := by decide +kernel
theorem dX5_clear_12 : decode cX5_clear 12 = .ok (.iconst 0, 1) := by decide +kernel
theorem dX5_clear_13 : decode cX5_clear 13 = .ok (.putfield 86, 3) := by decide +kernel
theorem dX5_clear_16 : decode cX5_clear 16 = .ok (.iload_n 1, 1) := by decide +kernel
theorem dX5_clear_17 : decode cX5_clear 17 = .ok (.ireturn, 1) := by decide +kernel
set_option maxRecDepth 20000 in
theorem ggX5_read_X3_readInto : GoodIn wsX5_read wsX3_readInto := goodIn_r _ [8, 9, 10, 11, 12, 13, 14, 7, 15, 16, 17, 18, 19, 20, 21, 22, 23, 24, 25, 26, 27, 28, 29, 30, 31, 32, 33, 34, 35, 36, 37, 38, 39, 40, 41, 42, 43, 44, 45, 46, 47, 48, 49, 50, 51, 52, 53, 54, 55, 56, 57, 58, 59, 60, 61, 62, 63, 64, 65, 66, 67, 68, 69, 70, 71, 72, 73, 74, 75, 76, 77, 78, 79, 80, 81, 82, 83, 84, 85, 86, 87, 88, 89, 90, 91, 92, 93, 94, 95, 96, 97, 98, 99, 100, 101, 102, 103, 104, 105, 106, 107, 108, 109, 110, 111, 112, 113, 114, 115, 116, 117, 118, 119, 120, 121, 122, 123, 124, 125, 126, 127, 128, 129, 130, 131, 132, 133, 134, 135, 136, 137, 138, 139, 140, 162, 163, 164, 165, 166, 167, 168, 169, 170, 171, 172, 173, 174, 175, 176, 177, 178, 179, 180, 181] (by decide +kernel) (by decide +kernel)
set_option maxRecDepth 20000 in
theorem gX5_read_X3_readInto : GoodIn wsX5_read (wsV RX5 92 RX3 yX3_readInto wsX3_readInto) := goodIn_app (goodIn_of _ (by decide +kernel)) ggX5_read_X3_readInto
set_option maxRecDepth 20000 in
theorem ggX5_read_X1_copy : GoodIn wsX5_read wsX1_copy := goodIn_r _ [144, 106, 107, 108, 109, 110, 134, 145, 146, 147, 148, 135, 115, 116, 149, 150, 151, 152, 153, 168, 169, 170, 171, 172, 173, 174, 175, 176, 177, 178, 179, 180, 181] (by decide +kernel) (by decide +kernel)
set_option maxRecDepth 20000 in
theorem gX5_read_X1_copy : GoodIn wsX5_read (wsV RX5 96 RX1 yX1_copy wsX1_copy) := goodIn_app (goodIn_of _ (by decide +kernel)) ggX5_read_X1_copy
theorem dX5_read_0 : decode cX5_read 0 = .ok (.aload_n 0, 1) := by decide +kernel
theorem dX5_read_1 : decode cX5_read 1 = .ok (.getfield 39, 3) := by decide +kernel
theorem dX5_read_4 : decode cX5_read 4 = .ok (.aload_n 0, 1) := by decide +kernel
theorem dX5_read_5 : decode cX5_read 5 = .ok (.getfield 16, 3) := by decide +kernel
theorem dX5_read_8 : decode cX5_read 8 = .ok (.invokevirtual 92, 3) := by decide +kernel
theorem dX5_read_11 : decode cX5_read 11 = .ok (.istore_n 1, 1) := by decide +kernel
theorem dX5_read_12 : decode cX5_read 12 = .ok (.iload_n 1, 1) := by decide +kernel
theorem dX5_read_13 : decode cX5_read 13 = .ok (.ifCond .le 14, 3) := by decide +kernel
theorem dX5_read_16 : decode cX5_read 16 = .ok (.aload_n 0, 1) := by decide +kernel
theorem dX5_read_17 : decode cX5_read 17 = .ok (.getfield 10, 3) := by decide +kernel
theorem dX5_read_20 : decode cX5_read 20 = .ok (.aload_n 0, 1) := by decide +kernel
theorem dX5_read_21 : decode cX5_read 21 = .ok (.getfield 16, 3) := by decide +kernel
theorem dX5_read_24 : decode cX5_read 24 = .ok (.invokevirtual 96, 3) := by decide +kernel
theorem dX5_read_27 : decode cX5_read 27 = .ok (.iload_n 1, 1) := by decide +kernel
theorem dX5_read_28 : decode cX5_read 28 = .ok (.ireturn, 1) := by decide +kernel
set_option maxRecDepth 20000 in
theorem ggX5_passes_X5_isWithin : GoodIn wsX5_passes wsX5_isWithin := goodIn_r _ [10] (by decide +kernel) (by decide +kernel)
set_option maxRecDepth 20000 in
theorem gX5_passes_X5_isWithin : GoodIn wsX5_passes (va_wsS RX5 54 yX5_isWithin wsX5_isWithin) := goodIn_app (goodIn_of _ (by decide +kernel)) ggX5_passes_X5_isWithin
set_option maxRecDepth 20000 in
theorem ggX5_passes_X5_refuse : GoodIn wsX5_passes wsX5_refuse := goodIn_r _ [14, 15, 7, 8, 9, 10, 28, 29, 30, 31, 32, 33, 34, 35] (by decide +kernel) (by decide +kernel)
set_option maxRecDepth 20000 in
theorem gX5_passes_X5_refuse : GoodIn wsX5_passes (wsV RX5 58 RX5 yX5_refuse wsX5_refuse) := goodIn_app (goodIn_of _ (by decide +kernel)) ggX5_passes_X5_refuse
set_option maxRecDepth 20000 in
theorem ggX5_passes_X1_goOn : GoodIn wsX5_passes wsX1_goOn := goodIn_r _ [20, 21, 22, 23, 24, 25, 26, 27, 36, 37, 38, 39, 40, 41, 42, 43, 44, 45, 46, 47, 48, 49] (by decide +kernel) (by decide +kernel)
set_option maxRecDepth 20000 in
theorem gX5_passes_X1_goOn : GoodIn wsX5_passes (wsV RX5 108 RX1 yX1_goOn wsX1_goOn) := goodIn_app (goodIn_of _ (by decide +kernel)) ggX5_passes_X1_goOn
theorem dX5_passes_0 : decode cX5_passes 0 = .ok (.iload_n 1, 1) := by decide +kernel
theorem dX5_passes_1 : decode cX5_passes 1 = .ok (.iconst 1, 1) := by decide +kernel
theorem dX5_passes_2 : decode cX5_passes 2 = .ok (.bipush 99, 2) := by decide +kernel
theorem dX5_passes_4 : decode cX5_passes 4 = .ok (.invokestatic 54, 3) := by decide +kernel
theorem dX5_passes_7 : decode cX5_passes 7 = .ok (.ifCond .ne 10, 3) := by decide +kernel
theorem dX5_passes_10 : decode cX5_passes 10 = .ok (.aload_n 0, 1) := by decide +kernel
theorem dX5_passes_11 : decode cX5_passes 11 = .ok (.bipush (-2), 2) := by decide +kernel
theorem dX5_passes_13 : decode cX5_passes 13 = .ok (.invokevirtual 58, 3) := by decide +kernel
theorem dX5_passes_16 : decode cX5_passes 16 = .ok (.ireturn, 1) := by decide +kernel
theorem dX5_passes_17 : decode cX5_passes 17 = .ok (.aload_n 0, 1) := by decide +kernel
theorem dX5_passes_18 : decode cX5_passes 18 = .ok (.getfield 10, 3) := by decide +kernel
theorem dX5_passes_21 : decode cX5_passes 21 = .ok (.sipush 999, 3) := by decide +kernel
theorem dX5_passes_24 : decode cX5_passes 24 = .ok (.aload_n 0, 1) := by decide +kernel
theorem dX5_passes_25 : decode cX5_passes 25 = .ok (.getfield 10, 3) := by decide +kernel
theorem dX5_passes_28 : decode cX5_passes 28 = .ok (.getfield 99, 3) := by decide +kernel
theorem dX5_passes_31 : decode cX5_passes 31 = .ok (.iload_n 1, 1) := by decide +kernel
theorem dX5_passes_32 : decode cX5_passes 32 = .ok (.iadd, 1) := by decide +kernel
theorem dX5_passes_33 : decode cX5_passes 33 = .ok (.invokestatic 102, 3) := by decide +kernel
theorem dX5_passes_36 : decode cX5_passes 36 = .ok (.invokevirtual 108, 3) := by decide +kernel
theorem dX5_passes_39 : decode cX5_passes 39 = .ok (.aload_n 0, 1) := by decide +kernel
theorem dX5_passes_40 : decode cX5_passes 40 = .ok (.getfield 10, 3) := by decide +kernel
theorem dX5_passes_43 : decode cX5_passes 43 = .ok (.getfield 99, 3) := by decide +kernel
theorem dX5_passes_46 : decode cX5_passes 46 = .ok (.ireturn, 1) := by decide +kernel
set_option maxRecDepth 20000 in
theorem ggX5_undo_X5_refuse : GoodIn wsX5_undo wsX5_refuse := goodIn_r _ [8, 9, 10, 11, 7, 12, 21, 22, 23, 24, 25, 26, 27, 28] (by decide +kernel) (by decide +kernel)
set_option maxRecDepth 20000 in
theorem gX5_undo_X5_refuse : GoodIn wsX5_undo (wsV RX5 58 RX5 yX5_refuse wsX5_refuse) := goodIn_app (goodIn_of _ (by decide +kernel)) ggX5_undo_X5_refuse
set_option maxRecDepth 20000 in
theorem ggX5_undo_X1_goBack : GoodIn wsX5_undo wsX1_goBack := goodIn_r _ [17, 18, 19, 20, 29, 30, 31, 32, 33, 34, 35, 36, 37, 38, 39, 40, 41, 42] (by decide +kernel) (by decide +kernel)
set_option maxRecDepth 20000 in
theorem gX5_undo_X1_goBack : GoodIn wsX5_undo (wsV RX5 114 RX1 yX1_goBack wsX1_goBack) := goodIn_app (goodIn_of _ (by decide +kernel)) ggX5_undo_X1_goBack
theorem dX5_undo_0 : decode cX5_undo 0 = .ok (.aload_n 0, 1) := by decide +kernel
theorem dX5_undo_1 : decode cX5_undo 1 = .ok (.getfield 10, 3) := by decide +kernel
theorem dX5_undo_4 : decode cX5_undo 4 = .ok (.getfield 111, 3) := by decide +kernel
theorem dX5_undo_7 : decode cX5_undo 7 = .ok (.ifCond .ne 10, 3) := by decide +kernel
theorem dX5_undo_10 : decode cX5_undo 10 = .ok (.aload_n 0, 1) := by decide +kernel
theorem dX5_undo_11 : decode cX5_undo 11 = .ok (.bipush (-3), 2) := by decide +kernel
theorem dX5_undo_13 : decode cX5_undo 13 = .ok (.invokevirtual 58, 3) := by decide +kernel
theorem dX5_undo_16 : decode cX5_undo 16 = .ok (.ireturn, 1) := by decide +kernel
theorem dX5_undo_17 : decode cX5_undo 17 = .ok (.aload_n 0, 1) := by decide +kernel
theorem dX5_undo_18 : decode cX5_undo 18 = .ok (.getfield 10, 3) := by decide +kernel
theorem dX5_undo_21 : decode cX5_undo 21 = .ok (.invokevirtual 114, 3) := by decide +kernel
theorem dX5_undo_24 : decode cX5_undo 24 = .ok (.aload_n 0, 1) := by decide +kernel
theorem dX5_undo_25 : decode cX5_undo 25 = .ok (.getfield 10, 3) := by decide +kernel
theorem dX5_undo_28 : decode cX5_undo 28 = .ok (.getfield 99, 3) := by decide +kernel
theorem dX5_undo_31 : decode cX5_undo 31 = .ok (.ireturn, 1) := by decide +kernel
set_option maxRecDepth 20000 in
theorem ggX5_of_X1_hasLift : GoodIn wsX5_of wsX1_hasLift := goodIn_r _ [11, 12, 61, 62, 63, 64, 65, 66, 67, 68, 69, 70, 71, 72, 73, 74] (by decide +kernel) (by decide +kernel)
set_option maxRecDepth 20000 in
theorem gX5_of_X1_hasLift : GoodIn wsX5_of (wsV RX5 117 RX1 yX1_hasLift wsX1_hasLift) := goodIn_app (goodIn_of _ (by decide +kernel)) ggX5_of_X1_hasLift
set_option maxRecDepth 20000 in
theorem ggX5_of_X5_isWithin : GoodIn wsX5_of wsX5_isWithin := goodIn_r _ [16] (by decide +kernel) (by decide +kernel)
set_option maxRecDepth 20000 in
theorem gX5_of_X5_isWithin : GoodIn wsX5_of (va_wsS RX5 54 yX5_isWithin wsX5_isWithin) := goodIn_app (goodIn_of _ (by decide +kernel)) ggX5_of_X5_isWithin
set_option maxRecDepth 20000 in
theorem ggX5_of_X5_refuse : GoodIn wsX5_of wsX5_refuse := goodIn_r _ [20, 21, 13, 14, 15, 16, 53, 54, 55, 56, 57, 58, 59, 60] (by decide +kernel) (by decide +kernel)
set_option maxRecDepth 20000 in
theorem gX5_of_X5_refuse : GoodIn wsX5_of (wsV RX5 58 RX5 yX5_refuse wsX5_refuse) := goodIn_app (goodIn_of _ (by decide +kernel)) ggX5_of_X5_refuse
set_option maxRecDepth 20000 in
theorem ggX5_of_X4_floorOf : GoodIn wsX5_of wsX4_floorOf := goodIn_r _ [26, 27, 28, 29, 30, 31, 32, 33, 34, 35, 36, 37, 38, 39, 40, 41, 42, 43, 44, 75, 61, 62, 63, 64, 65, 66, 67, 68, 69, 70, 71, 72, 73, 74] (by decide +kernel) (by decide +kernel)
set_option maxRecDepth 20000 in
theorem gX5_of_X4_floorOf : GoodIn wsX5_of (wsV RX5 124 RX4 yX4_floorOf wsX4_floorOf) := goodIn_app (goodIn_of _ (by decide +kernel)) ggX5_of_X4_floorOf
set_option maxRecDepth 20000 in
theorem ggX5_of_X2_round : GoodIn wsX5_of wsX2_round := goodIn_r _ [44] (by decide +kernel) (by decide +kernel)
set_option maxRecDepth 20000 in
theorem gX5_of_X2_round : GoodIn wsX5_of (va_wsS RX5 133 yX2_round wsX2_round) := goodIn_app (goodIn_of _ (by decide +kernel)) ggX5_of_X2_round
set_option maxRecDepth 20000 in
theorem ggX5_of_X4_wayOf : GoodIn wsX5_of wsX4_wayOf := goodIn_r _ [49, 27, 28, 30, 29, 31, 32, 33, 34, 35, 36, 37, 38, 39, 40, 41, 42, 43, 44, 75, 61, 62, 63, 64, 65, 66, 67, 68, 69, 70, 71, 72, 73, 74] (by decide +kernel) (by decide +kernel)
set_option maxRecDepth 20000 in
theorem gX5_of_X4_wayOf : GoodIn wsX5_of (wsV RX5 136 RX4 yX4_wayOf wsX4_wayOf) := goodIn_app (goodIn_of _ (by decide +kernel)) ggX5_of_X4_wayOf
set_option maxRecDepth 20000 in
theorem ggX5_of_X2_opens : GoodIn wsX5_of wsX2_opens := goodIn_r _ [52] (by decide +kernel) (by decide +kernel)
set_option maxRecDepth 20000 in
theorem gX5_of_X2_opens : GoodIn wsX5_of (va_wsS RX5 139 yX2_opens wsX2_opens) := goodIn_app (goodIn_of _ (by decide +kernel)) ggX5_of_X2_opens
theorem dX5_of_0 : decode cX5_of 0 = .ok (.aload_n 0, 1) := by decide +kernel
theorem dX5_of_1 : decode cX5_of 1 = .ok (.getfield 10, 3) := by decide +kernel
theorem dX5_of_4 : decode cX5_of 4 = .ok (.iload_n 1, 1) := by decide +kernel
theorem dX5_of_5 : decode cX5_of 5 = .ok (.invokevirtual 117, 3) := by decide +kernel
theorem dX5_of_8 : decode cX5_of 8 = .ok (.ifCond .eq 12, 3) := by decide +kernel
theorem dX5_of_11 : decode cX5_of 11 = .ok (.iload_n 2, 1) := by decide +kernel
theorem dX5_of_12 : decode cX5_of 12 = .ok (.iconst 0, 1) := by decide +kernel
theorem dX5_of_13 : decode cX5_of 13 = .ok (.iconst 5, 1) := by decide +kernel
theorem dX5_of_14 : decode cX5_of 14 = .ok (.invokestatic 54, 3) := by decide +kernel
theorem dX5_of_17 : decode cX5_of 17 = .ok (.ifCond .ne 10, 3) := by decide +kernel
theorem dX5_of_20 : decode cX5_of 20 = .ok (.aload_n 0, 1) := by decide +kernel
theorem dX5_of_21 : decode cX5_of 21 = .ok (.bipush (-2), 2) := by decide +kernel
theorem dX5_of_23 : decode cX5_of 23 = .ok (.invokevirtual 58, 3) := by decide +kernel
theorem dX5_of_26 : decode cX5_of 26 = .ok (.ireturn, 1) := by decide +kernel
theorem dX5_of_27 : decode cX5_of 27 = .ok (.aload_n 0, 1) := by decide +kernel
theorem dX5_of_28 : decode cX5_of 28 = .ok (.getfield 10, 3) := by decide +kernel
theorem dX5_of_31 : decode cX5_of 31 = .ok (.getfield 121, 3) := by decide +kernel
theorem dX5_of_34 : decode cX5_of 34 = .ok (.iload_n 1, 1) := by decide +kernel
theorem dX5_of_35 : decode cX5_of 35 = .ok (.iaload, 1) := by decide +kernel
theorem dX5_of_36 : decode cX5_of 36 = .ok (.istore_n 3, 1) := by decide +kernel
theorem dX5_of_37 : decode cX5_of 37 = .ok (.aload_n 0, 1) := by decide +kernel
theorem dX5_of_38 : decode cX5_of 38 = .ok (.getfield 32, 3) := by decide +kernel
theorem dX5_of_41 : decode cX5_of 41 = .ok (.iload_n 1, 1) := by decide +kernel
theorem dX5_of_42 : decode cX5_of 42 = .ok (.aload_n 0, 1) := by decide +kernel
theorem dX5_of_43 : decode cX5_of 43 = .ok (.getfield 10, 3) := by decide +kernel
theorem dX5_of_46 : decode cX5_of 46 = .ok (.getfield 99, 3) := by decide +kernel
theorem dX5_of_49 : decode cX5_of 49 = .ok (.invokevirtual 124, 3) := by decide +kernel
theorem dX5_of_52 : decode cX5_of 52 = .ok (.istore 4, 2) := by decide +kernel
theorem dX5_of_54 : decode cX5_of 54 = .ok (.iload_n 2, 1) := by decide +kernel
theorem dX5_of_55 : decode cX5_of 55 = .ok (.tableswitch 76 0 4 #[33, 35, 45, 57, 60], 33) := by decide +kernel
theorem dX5_of_88 : decode cX5_of 88 = .ok (.iload_n 3, 1) := by decide +kernel
theorem dX5_of_89 : decode cX5_of 89 = .ok (.ireturn, 1) := by decide +kernel
theorem dX5_of_90 : decode cX5_of 90 = .ok (.aload_n 0, 1) := by decide +kernel
theorem dX5_of_91 : decode cX5_of 91 = .ok (.getfield 10, 3) := by decide +kernel
theorem dX5_of_94 : decode cX5_of 94 = .ok (.getfield 127, 3) := by decide +kernel
theorem dX5_of_97 : decode cX5_of 97 = .ok (.iload_n 1, 1) := by decide +kernel
theorem dX5_of_98 : decode cX5_of 98 = .ok (.iaload, 1) := by decide +kernel
theorem dX5_of_99 : decode cX5_of 99 = .ok (.ireturn, 1) := by decide +kernel
theorem dX5_of_100 : decode cX5_of 100 = .ok (.iload_n 3, 1) := by decide +kernel
theorem dX5_of_101 : decode cX5_of 101 = .ok (.aload_n 0, 1) := by decide +kernel
theorem dX5_of_102 : decode cX5_of 102 = .ok (.getfield 10, 3) := by decide +kernel
theorem dX5_of_105 : decode cX5_of 105 = .ok (.getfield 130, 3) := by decide +kernel
theorem dX5_of_108 : decode cX5_of 108 = .ok (.invokestatic 133, 3) := by decide +kernel
theorem dX5_of_111 : decode cX5_of 111 = .ok (.ireturn, 1) := by decide +kernel
theorem dX5_of_112 : decode cX5_of 112 = .ok (.iload 4, 2) := by decide +kernel
theorem dX5_of_114 : decode cX5_of 114 = .ok (.ireturn, 1) := by decide +kernel
theorem dX5_of_115 : decode cX5_of 115 = .ok (.aload_n 0, 1) := by decide +kernel
theorem dX5_of_116 : decode cX5_of 116 = .ok (.getfield 32, 3) := by decide +kernel
theorem dX5_of_119 : decode cX5_of 119 = .ok (.iload_n 1, 1) := by decide +kernel
theorem dX5_of_120 : decode cX5_of 120 = .ok (.aload_n 0, 1) := by decide +kernel
theorem dX5_of_121 : decode cX5_of 121 = .ok (.getfield 10, 3) := by decide +kernel
theorem dX5_of_124 : decode cX5_of 124 = .ok (.getfield 99, 3) := by decide +kernel
theorem dX5_of_127 : decode cX5_of 127 = .ok (.invokevirtual 136, 3) := by decide +kernel
theorem dX5_of_130 : decode cX5_of 130 = .ok (.ireturn, 1) := by decide +kernel
theorem dX5_of_131 : decode cX5_of 131 = .ok (.iload_n 3, 1) := by decide +kernel
theorem dX5_of_132 : decode cX5_of 132 = .ok (.aload_n 0, 1) := by decide +kernel
theorem dX5_of_133 : decode cX5_of 133 = .ok (.getfield 10, 3) := by decide +kernel
theorem dX5_of_136 : decode cX5_of 136 = .ok (.getfield 130, 3) := by decide +kernel
theorem dX5_of_139 : decode cX5_of 139 = .ok (.iload 4, 2) := by decide +kernel
theorem dX5_of_141 : decode cX5_of 141 = .ok (.invokestatic 139, 3) := by decide +kernel
theorem dX5_of_144 : decode cX5_of 144 = .ok (.ifCond .eq 7, 3) := by decide +kernel
theorem dX5_of_147 : decode cX5_of 147 = .ok (.iconst 1, 1) := by decide +kernel
theorem dX5_of_148 : decode cX5_of 148 = .ok (.goto 4, 3) := by decide +kernel
theorem dX5_of_151 : decode cX5_of 151 = .ok (.iconst 0, 1) := by decide +kernel
theorem dX5_of_152 : decode cX5_of 152 = .ok (.ireturn, 1) := by decide +kernel
set_option maxRecDepth 20000 in
theorem ggX5_where_X1_hasLift : GoodIn wsX5_where wsX1_hasLift := goodIn_r _ [7, 8, 52, 53, 54, 55, 56, 57, 58, 59, 60, 61, 62, 63, 64, 65] (by decide +kernel) (by decide +kernel)
set_option maxRecDepth 20000 in
theorem gX5_where_X1_hasLift : GoodIn wsX5_where (wsV RX5 117 RX1 yX1_hasLift wsX1_hasLift) := goodIn_app (goodIn_of _ (by decide +kernel)) ggX5_where_X1_hasLift
set_option maxRecDepth 20000 in
theorem ggX5_where_X5_isMinute : GoodIn wsX5_where wsX5_isMinute := goodIn_r _ [12, 13, 14, 11, 15] (by decide +kernel) (by decide +kernel)
set_option maxRecDepth 20000 in
theorem gX5_where_X5_isMinute : GoodIn wsX5_where (va_wsS RX5 142 yX5_isMinute wsX5_isMinute) := goodIn_app (goodIn_of _ (by decide +kernel)) ggX5_where_X5_isMinute
set_option maxRecDepth 20000 in
theorem ggX5_where_X5_refuse : GoodIn wsX5_where wsX5_refuse := goodIn_r _ [19, 20, 13, 14, 11, 15, 44, 45, 46, 47, 48, 49, 50, 51] (by decide +kernel) (by decide +kernel)
set_option maxRecDepth 20000 in
theorem gX5_where_X5_refuse : GoodIn wsX5_where (wsV RX5 58 RX5 yX5_refuse wsX5_refuse) := goodIn_app (goodIn_of _ (by decide +kernel)) ggX5_where_X5_refuse
set_option maxRecDepth 20000 in
theorem ggX5_where_X4_floorOf : GoodIn wsX5_where wsX4_floorOf := goodIn_r _ [25, 26, 27, 28, 29, 30, 31, 32, 33, 34, 35, 36, 37, 38, 39, 40, 41, 42, 43, 66, 52, 53, 54, 55, 56, 57, 58, 59, 60, 61, 62, 63, 64, 65] (by decide +kernel) (by decide +kernel)
set_option maxRecDepth 20000 in
theorem gX5_where_X4_floorOf : GoodIn wsX5_where (wsV RX5 124 RX4 yX4_floorOf wsX4_floorOf) := goodIn_app (goodIn_of _ (by decide +kernel)) ggX5_where_X4_floorOf
theorem dX5_where_0 : decode cX5_where 0 = .ok (.aload_n 0, 1) := by decide +kernel
theorem dX5_where_1 : decode cX5_where 1 = .ok (.getfield 10, 3) := by decide +kernel
theorem dX5_where_4 : decode cX5_where 4 = .ok (.iload_n 1, 1) := by decide +kernel
theorem dX5_where_5 : decode cX5_where 5 = .ok (.invokevirtual 117, 3) := by decide +kernel
theorem dX5_where_8 : decode cX5_where 8 = .ok (.ifCond .eq 10, 3) := by decide +kernel
theorem dX5_where_11 : decode cX5_where 11 = .ok (.iload_n 2, 1) := by decide +kernel
theorem dX5_where_12 : decode cX5_where 12 = .ok (.invokestatic 142, 3) := by decide +kernel
theorem dX5_where_15 : decode cX5_where 15 = .ok (.ifCond .ne 10, 3) := by decide +kernel
theorem dX5_where_18 : decode cX5_where 18 = .ok (.aload_n 0, 1) := by decide +kernel
theorem dX5_where_19 : decode cX5_where 19 = .ok (.bipush (-2), 2) := by decide +kernel
theorem dX5_where_21 : decode cX5_where 21 = .ok (.invokevirtual 58, 3) := by decide +kernel
theorem dX5_where_24 : decode cX5_where 24 = .ok (.ireturn, 1) := by decide +kernel
theorem dX5_where_25 : decode cX5_where 25 = .ok (.aload_n 0, 1) := by decide +kernel
theorem dX5_where_26 : decode cX5_where 26 = .ok (.getfield 32, 3) := by decide +kernel
theorem dX5_where_29 : decode cX5_where 29 = .ok (.iload_n 1, 1) := by decide +kernel
theorem dX5_where_30 : decode cX5_where 30 = .ok (.iload_n 2, 1) := by decide +kernel
theorem dX5_where_31 : decode cX5_where 31 = .ok (.invokevirtual 124, 3) := by decide +kernel
theorem dX5_where_34 : decode cX5_where 34 = .ok (.ireturn, 1) := by decide +kernel
set_option maxRecDepth 20000 in
theorem ggX5_first_X1_hasFloor : GoodIn wsX5_first wsX1_hasFloor := goodIn_r _ [7, 8, 74, 75, 76, 77, 78, 79, 80, 81, 82, 83, 84, 85, 86, 87] (by decide +kernel) (by decide +kernel)
set_option maxRecDepth 20000 in
theorem gX5_first_X1_hasFloor : GoodIn wsX5_first (wsV RX5 145 RX1 yX1_hasFloor wsX1_hasFloor) := goodIn_app (goodIn_of _ (by decide +kernel)) ggX5_first_X1_hasFloor
set_option maxRecDepth 20000 in
theorem ggX5_first_X5_isMinute : GoodIn wsX5_first wsX5_isMinute := goodIn_r _ [12, 13, 14, 11, 15] (by decide +kernel) (by decide +kernel)
set_option maxRecDepth 20000 in
theorem gX5_first_X5_isMinute : GoodIn wsX5_first (va_wsS RX5 142 yX5_isMinute wsX5_isMinute) := goodIn_app (goodIn_of _ (by decide +kernel)) ggX5_first_X5_isMinute
set_option maxRecDepth 20000 in
theorem ggX5_first_X5_isWithin : GoodIn wsX5_first wsX5_isWithin := goodIn_r _ [15] (by decide +kernel) (by decide +kernel)
set_option maxRecDepth 20000 in
theorem gX5_first_X5_isWithin : GoodIn wsX5_first (va_wsS RX5 54 yX5_isWithin wsX5_isWithin) := goodIn_app (goodIn_of _ (by decide +kernel)) ggX5_first_X5_isWithin
set_option maxRecDepth 20000 in
theorem ggX5_first_X5_refuse : GoodIn wsX5_first wsX5_refuse := goodIn_r _ [19, 20, 13, 14, 11, 15, 66, 67, 68, 69, 70, 71, 72, 73] (by decide +kernel) (by decide +kernel)
set_option maxRecDepth 20000 in
theorem gX5_first_X5_refuse : GoodIn wsX5_first (wsV RX5 58 RX5 yX5_refuse wsX5_refuse) := goodIn_app (goodIn_of _ (by decide +kernel)) ggX5_first_X5_refuse
set_option maxRecDepth 20000 in
theorem ggX5_first_X4_waitOn : GoodIn wsX5_first wsX4_waitOn := goodIn_r _ [25, 26, 27, 28, 24, 29, 30, 31, 32, 33, 34, 35, 36, 37, 38, 39, 40, 41, 42, 43, 44, 45, 46, 47, 48, 49, 50, 51, 52, 53, 54, 55, 56, 57, 58, 59, 88, 74, 75, 76, 77, 78, 79, 80, 81, 82, 83, 84, 85, 86, 87] (by decide +kernel) (by decide +kernel)
set_option maxRecDepth 20000 in
theorem gX5_first_X4_waitOn : GoodIn wsX5_first (wsV RX5 148 RX4 yX4_waitOn wsX4_waitOn) := goodIn_app (goodIn_of _ (by decide +kernel)) ggX5_first_X4_waitOn
set_option maxRecDepth 20000 in
theorem ggX5_first_X4_seenFrom : GoodIn wsX5_first wsX4_seenFrom := goodIn_r _ [29, 30, 31, 32, 33, 34, 24, 35, 36, 37, 38, 39, 40, 41, 42, 43, 44, 45, 46, 47, 48, 49, 50, 51, 52, 53, 54, 55, 56, 57, 58, 59, 88, 74, 75, 76, 77, 78, 79, 80, 81, 82, 83, 84, 85, 86, 87] (by decide +kernel) (by decide +kernel)
set_option maxRecDepth 20000 in
theorem gX5_first_X4_seenFrom : GoodIn wsX5_first (wsV RX5 152 RX4 yX4_seenFrom wsX4_seenFrom) := goodIn_app (goodIn_of _ (by decide +kernel)) ggX5_first_X4_seenFrom
set_option maxRecDepth 20000 in
theorem ggX5_first_X4_wayOfFirst : GoodIn wsX5_first wsX4_wayOfFirst := goodIn_r _ [64, 65, 22, 23, 24, 25, 26, 27, 28, 29, 30, 31, 32, 33, 34, 35, 36, 37, 38, 39, 40, 41, 42, 43, 44, 45, 46, 47, 48, 49, 50, 51, 52, 53, 54, 55, 56, 57, 58, 59, 88, 74, 75, 76, 77, 78, 79, 80, 81, 82, 83, 84, 85, 86, 87] (by decide +kernel) (by decide +kernel)
set_option maxRecDepth 20000 in
theorem gX5_first_X4_wayOfFirst : GoodIn wsX5_first (wsV RX5 155 RX4 yX4_wayOfFirst wsX4_wayOfFirst) := goodIn_app (goodIn_of _ (by decide +kernel)) ggX5_first_X4_wayOfFirst
theorem dX5_first_0 : decode cX5_first 0 = .ok (.aload_n 0, 1) := by decide +kernel
theorem dX5_first_1 : decode cX5_first 1 = .ok (.getfield 10, 3) := by decide +kernel
theorem dX5_first_4 : decode cX5_first 4 = .ok (.iload_n 1, 1) := by decide +kernel
theorem dX5_first_5 : decode cX5_first 5 = .ok (.invokevirtual 145, 3) := by decide +kernel
theorem dX5_first_8 : decode cX5_first 8 = .ok (.ifCond .eq 19, 3) := by decide +kernel
theorem dX5_first_11 : decode cX5_first 11 = .ok (.iload_n 2, 1) := by decide +kernel
theorem dX5_first_12 : decode cX5_first 12 = .ok (.invokestatic 142, 3) := by decide +kernel
theorem dX5_first_15 : decode cX5_first 15 = .ok (.ifCond .eq 12, 3) := by decide +kernel
theorem dX5_first_18 : decode cX5_first 18 = .ok (.iload_n 3, 1) := by decide +kernel
theorem dX5_first_19 : decode cX5_first 19 = .ok (.iconst 0, 1) := by decide +kernel
theorem dX5_first_20 : decode cX5_first 20 = .ok (.iconst 2, 1) := by decide +kernel
theorem dX5_first_21 : decode cX5_first 21 = .ok (.invokestatic 54, 3) := by decide +kernel
theorem dX5_first_24 : decode cX5_first 24 = .ok (.ifCond .ne 10, 3) := by decide +kernel
theorem dX5_first_27 : decode cX5_first 27 = .ok (.aload_n 0, 1) := by decide +kernel
theorem dX5_first_28 : decode cX5_first 28 = .ok (.bipush (-2), 2) := by decide +kernel
theorem dX5_first_30 : decode cX5_first 30 = .ok (.invokevirtual 58, 3) := by decide +kernel
theorem dX5_first_33 : decode cX5_first 33 = .ok (.ireturn, 1) := by decide +kernel
theorem dX5_first_34 : decode cX5_first 34 = .ok (.aload_n 0, 1) := by decide +kernel
theorem dX5_first_35 : decode cX5_first 35 = .ok (.getfield 32, 3) := by decide +kernel
theorem dX5_first_38 : decode cX5_first 38 = .ok (.iload_n 1, 1) := by decide +kernel
theorem dX5_first_39 : decode cX5_first 39 = .ok (.iload_n 2, 1) := by decide +kernel
theorem dX5_first_40 : decode cX5_first 40 = .ok (.iconst (-1), 1) := by decide +kernel
theorem dX5_first_41 : decode cX5_first 41 = .ok (.invokevirtual 148, 3) := by decide +kernel
theorem dX5_first_44 : decode cX5_first 44 = .ok (.istore 4, 2) := by decide +kernel
theorem dX5_first_46 : decode cX5_first 46 = .ok (.iload 4, 2) := by decide +kernel
theorem dX5_first_48 : decode cX5_first 48 = .ok (.iconst (-1), 1) := by decide +kernel
theorem dX5_first_49 : decode cX5_first 49 = .ok (.if_icmp .eq 8, 3) := by decide +kernel
theorem dX5_first_52 : decode cX5_first 52 = .ok (.iload_n 3, 1) := by decide +kernel
theorem dX5_first_53 : decode cX5_first 53 = .ok (.iconst 2, 1) := by decide +kernel
theorem dX5_first_54 : decode cX5_first 54 = .ok (.if_icmp .ne 6, 3) := by decide +kernel
theorem dX5_first_57 : decode cX5_first 57 = .ok (.iload 4, 2) := by decide +kernel
theorem dX5_first_59 : decode cX5_first 59 = .ok (.ireturn, 1) := by decide +kernel
theorem dX5_first_60 : decode cX5_first 60 = .ok (.iload_n 3, 1) := by decide +kernel
theorem dX5_first_61 : decode cX5_first 61 = .ok (.ifCond .ne 19, 3) := by decide +kernel
theorem dX5_first_64 : decode cX5_first 64 = .ok (.aload_n 0, 1) := by decide +kernel
theorem dX5_first_65 : decode cX5_first 65 = .ok (.getfield 32, 3) := by decide +kernel
theorem dX5_first_68 : decode cX5_first 68 = .ok (.iload_n 1, 1) := by decide +kernel
theorem dX5_first_69 : decode cX5_first 69 = .ok (.iload_n 2, 1) := by decide +kernel
theorem dX5_first_70 : decode cX5_first 70 = .ok (.iload 4, 2) := by decide +kernel
theorem dX5_first_72 : decode cX5_first 72 = .ok (.iadd, 1) := by decide +kernel
theorem dX5_first_73 : decode cX5_first 73 = .ok (.iconst (-1), 1) := by decide +kernel
theorem dX5_first_74 : decode cX5_first 74 = .ok (.invokevirtual 152, 3) := by decide +kernel
theorem dX5_first_77 : decode cX5_first 77 = .ok (.goto 12, 3) := by decide +kernel
theorem dX5_first_80 : decode cX5_first 80 = .ok (.aload_n 0, 1) := by decide +kernel
theorem dX5_first_81 : decode cX5_first 81 = .ok (.getfield 32, 3) := by decide +kernel
theorem dX5_first_84 : decode cX5_first 84 = .ok (.iload_n 1, 1) := by decide +kernel
theorem dX5_first_85 : decode cX5_first 85 = .ok (.iload_n 2, 1) := by decide +kernel
theorem dX5_first_86 : decode cX5_first 86 = .ok (.invokevirtual 155, 3) := by decide +kernel
theorem dX5_first_89 : decode cX5_first 89 = .ok (.ireturn, 1) := by decide +kernel
set_option maxRecDepth 20000 in
theorem ggX5_often_X1_hasFloor : GoodIn wsX5_often wsX1_hasFloor := goodIn_r _ [6, 7, 93, 94, 95, 96, 97, 98, 99, 100, 101, 102, 103, 104, 105, 106] (by decide +kernel) (by decide +kernel)
set_option maxRecDepth 20000 in
theorem gX5_often_X1_hasFloor : GoodIn wsX5_often (wsV RX5 145 RX1 yX1_hasFloor wsX1_hasFloor) := goodIn_app (goodIn_of _ (by decide +kernel)) ggX5_often_X1_hasFloor
set_option maxRecDepth 20000 in
theorem ggX5_often_X5_isWithin : GoodIn wsX5_often wsX5_isWithin := goodIn_r _ [11] (by decide +kernel) (by decide +kernel)
set_option maxRecDepth 20000 in
theorem gX5_often_X5_isWithin : GoodIn wsX5_often (va_wsS RX5 54 yX5_isWithin wsX5_isWithin) := goodIn_app (goodIn_of _ (by decide +kernel)) ggX5_often_X5_isWithin
set_option maxRecDepth 20000 in
theorem ggX5_often_X5_refuse : GoodIn wsX5_often wsX5_refuse := goodIn_r _ [15, 16, 8, 9, 10, 11, 85, 86, 87, 88, 89, 90, 91, 92] (by decide +kernel) (by decide +kernel)
set_option maxRecDepth 20000 in
theorem gX5_often_X5_refuse : GoodIn wsX5_often (wsV RX5 58 RX5 yX5_refuse wsX5_refuse) := goodIn_app (goodIn_of _ (by decide +kernel)) ggX5_often_X5_refuse
set_option maxRecDepth 20000 in
theorem ggX5_often_X5_chanceOfUp : GoodIn wsX5_often wsX5_chanceOfUp := goodIn_r _ [20, 21, 22, 23, 24, 25, 26, 27, 28, 29, 30, 31, 32, 33, 34, 35, 36, 37, 38, 39, 40, 41, 42, 43, 44, 45, 46, 47, 48, 49, 50, 51, 52, 53, 54, 55, 56, 57, 58, 59, 60, 61, 62, 63, 64, 65, 66, 67, 10, 68, 69, 12, 13, 14, 15, 16, 8, 9, 11, 70, 71, 72, 73, 74, 75, 76, 77, 78, 79, 85, 86, 87, 88, 89, 90, 91, 92, 107, 93, 94, 95, 96, 97, 98, 99, 100, 101, 102, 103, 104, 105, 106, 108, 109] (by decide +kernel) (by decide +kernel)
set_option maxRecDepth 20000 in
theorem gX5_often_X5_chanceOfUp : GoodIn wsX5_often (wsV RX5 158 RX5 yX5_chanceOfUp wsX5_chanceOfUp) := goodIn_app (goodIn_of _ (by decide +kernel)) ggX5_often_X5_chanceOfUp
set_option maxRecDepth 20000 in
theorem ggX5_often_X5_meanWait : GoodIn wsX5_often wsX5_meanWait := goodIn_r _ [83, 21, 84, 28, 29, 25, 30, 31, 32, 33, 34, 35, 36, 37, 38, 39, 40, 41, 42, 43, 44, 45, 46, 47, 48, 49, 50, 51, 52, 53, 54, 55, 56, 57, 58, 59, 60, 61, 62, 63, 64, 65, 66, 67, 10, 68, 69, 12, 13, 14, 15, 16, 8, 9, 11, 70, 71, 72, 73, 74, 75, 76, 77, 78, 79, 85, 86, 87, 88, 89, 90, 91, 92, 107, 93, 94, 95, 96, 97, 98, 99, 100, 101, 102, 103, 104, 105, 106, 108, 109] (by decide +kernel) (by decide +kernel)
set_option maxRecDepth 20000 in
theorem gX5_often_X5_meanWait : GoodIn wsX5_often (wsV RX5 161 RX5 yX5_meanWait wsX5_meanWait) := goodIn_app (goodIn_of _ (by decide +kernel)) ggX5_often_X5_meanWait
theorem dX5_often_0 : decode cX5_often 0 = .ok (.aload_n 0, 1) := by decide +kernel
theorem dX5_often_1 : decode cX5_often 1 = .ok (.getfield 10, 3) := by decide +kernel
theorem dX5_often_4 : decode cX5_often 4 = .ok (.iload_n 1, 1) := by decide +kernel
theorem dX5_often_5 : decode cX5_often 5 = .ok (.invokevirtual 145, 3) := by decide +kernel
theorem dX5_often_8 : decode cX5_often 8 = .ok (.ifCond .eq 12, 3) := by decide +kernel
theorem dX5_often_11 : decode cX5_often 11 = .ok (.iload_n 2, 1) := by decide +kernel
theorem dX5_often_12 : decode cX5_often 12 = .ok (.iconst 0, 1) := by decide +kernel
theorem dX5_often_13 : decode cX5_often 13 = .ok (.iconst 1, 1) := by decide +kernel
theorem dX5_often_14 : decode cX5_often 14 = .ok (.invokestatic 54, 3) := by decide +kernel
theorem dX5_often_17 : decode cX5_often 17 = .ok (.ifCond .ne 10, 3) := by decide +kernel
theorem dX5_often_20 : decode cX5_often 20 = .ok (.aload_n 0, 1) := by decide +kernel
theorem dX5_often_21 : decode cX5_often 21 = .ok (.bipush (-2), 2) := by decide +kernel
theorem dX5_often_23 : decode cX5_often 23 = .ok (.invokevirtual 58, 3) := by decide +kernel
theorem dX5_often_26 : decode cX5_often 26 = .ok (.ireturn, 1) := by decide +kernel
theorem dX5_often_27 : decode cX5_often 27 = .ok (.iload_n 2, 1) := by decide +kernel
theorem dX5_often_28 : decode cX5_often 28 = .ok (.ifCond .ne 11, 3) := by decide +kernel
theorem dX5_often_31 : decode cX5_often 31 = .ok (.aload_n 0, 1) := by decide +kernel
theorem dX5_often_32 : decode cX5_often 32 = .ok (.iload_n 1, 1) := by decide +kernel
theorem dX5_often_33 : decode cX5_often 33 = .ok (.invokevirtual 158, 3) := by decide +kernel
theorem dX5_often_36 : decode cX5_often 36 = .ok (.goto 9, 3) := by decide +kernel
theorem dX5_often_39 : decode cX5_often 39 = .ok (.aload_n 0, 1) := by decide +kernel
theorem dX5_often_40 : decode cX5_often 40 = .ok (.iload_n 1, 1) := by decide +kernel
theorem dX5_often_41 : decode cX5_often 41 = .ok (.iconst (-1), 1) := by decide +kernel
theorem dX5_often_42 : decode cX5_often 42 = .ok (.invokevirtual 161, 3) := by decide +kernel
theorem dX5_often_45 : decode cX5_often 45 = .ok (.ireturn, 1) := by decide +kernel
set_option maxRecDepth 20000 in
theorem ggX5_own_X1_hasFloor : GoodIn wsX5_own wsX1_hasFloor := goodIn_r _ [6, 7, 84, 85, 86, 87, 88, 89, 90, 91, 92, 93, 94, 95, 96, 97] (by decide +kernel) (by decide +kernel)
set_option maxRecDepth 20000 in
theorem gX5_own_X1_hasFloor : GoodIn wsX5_own (wsV RX5 145 RX1 yX1_hasFloor wsX1_hasFloor) := goodIn_app (goodIn_of _ (by decide +kernel)) ggX5_own_X1_hasFloor
set_option maxRecDepth 20000 in
theorem ggX5_own_X5_isWithin : GoodIn wsX5_own wsX5_isWithin := goodIn_r _ [11] (by decide +kernel) (by decide +kernel)
set_option maxRecDepth 20000 in
theorem gX5_own_X5_isWithin : GoodIn wsX5_own (va_wsS RX5 54 yX5_isWithin wsX5_isWithin) := goodIn_app (goodIn_of _ (by decide +kernel)) ggX5_own_X5_isWithin
set_option maxRecDepth 20000 in
theorem ggX5_own_X5_refuse : GoodIn wsX5_own wsX5_refuse := goodIn_r _ [15, 16, 8, 9, 10, 11, 76, 77, 78, 79, 80, 81, 82, 83] (by decide +kernel) (by decide +kernel)
set_option maxRecDepth 20000 in
theorem gX5_own_X5_refuse : GoodIn wsX5_own (wsV RX5 58 RX5 yX5_refuse wsX5_refuse) := goodIn_app (goodIn_of _ (by decide +kernel)) ggX5_own_X5_refuse
