theorem dX5_meanWait_42 : decode cX5_meanWait 42 = .ok (.istore 4, 2) := by decide +kernel
theorem dX5_meanWait_44 : decode cX5_meanWait 44 = .ok (.iinc 5 1, 3) := by decide +kernel
theorem dX5_meanWait_47 : decode cX5_meanWait 47 = .ok (.goto (-39), 3) := by decide +kernel
theorem dX5_meanWait_50 : decode cX5_meanWait 50 = .ok (.aload_n 0, 1) := by decide +kernel
theorem dX5_meanWait_51 : decode cX5_meanWait 51 = .ok (.iload 4, 2) := by decide +kernel
theorem dX5_meanWait_53 : decode cX5_meanWait 53 = .ok (.iload_n 3, 1) := by decide +kernel
theorem dX5_meanWait_54 : decode cX5_meanWait 54 = .ok (.invokevirtual 230, 3) := by decide +kernel
theorem dX5_meanWait_57 : decode cX5_meanWait 57 = .ok (.ireturn, 1) := by decide +kernel
set_option maxRecDepth 20000 in
theorem ggX5_setMean_X5_refuse : GoodIn wsX5_setMean wsX5_refuse := goodIn_r _ [6, 7, 8, 9, 5, 10, 21, 22, 23, 24, 25, 26, 27, 28] (by decide +kernel) (by decide +kernel)
set_option maxRecDepth 20000 in
theorem gX5_setMean_X5_refuse : GoodIn wsX5_setMean (wsV RX5 58 RX5 yX5_refuse wsX5_refuse) := goodIn_app (goodIn_of _ (by decide +kernel)) ggX5_setMean_X5_refuse
set_option maxRecDepth 20000 in
theorem ggX5_setMean_X0_set : GoodIn wsX5_setMean wsX0_set := goodIn_r _ [15, 16, 17, 18, 19, 14, 20, 29, 30] (by decide +kernel) (by decide +kernel)
set_option maxRecDepth 20000 in
theorem gX5_setMean_X0_set : GoodIn wsX5_setMean (wsV RX5 176 RX0 yX0_set wsX0_set) := goodIn_app (goodIn_of _ (by decide +kernel)) ggX5_setMean_X0_set
theorem dX5_setMean_0 : decode cX5_setMean 0 = .ok (.iload_n 2, 1) := by decide +kernel
theorem dX5_setMean_1 : decode cX5_setMean 1 = .ok (.ifCond .ne 10, 3) := by decide +kernel
theorem dX5_setMean_4 : decode cX5_setMean 4 = .ok (.aload_n 0, 1) := by decide +kernel
theorem dX5_setMean_5 : decode cX5_setMean 5 = .ok (.bipush (-3), 2) := by decide +kernel
theorem dX5_setMean_7 : decode cX5_setMean 7 = .ok (.invokevirtual 58, 3) := by decide +kernel
theorem dX5_setMean_10 : decode cX5_setMean 10 = .ok (.ireturn, 1) := by decide +kernel
theorem dX5_setMean_11 : decode cX5_setMean 11 = .ok (.aload_n 0, 1) := by decide +kernel
theorem dX5_setMean_12 : decode cX5_setMean 12 = .ok (.getfield 46, 3) := by decide +kernel
theorem dX5_setMean_15 : decode cX5_setMean 15 = .ok (.iload_n 1, 1) := by decide +kernel
theorem dX5_setMean_16 : decode cX5_setMean 16 = .ok (.i2l, 1) := by decide +kernel
theorem dX5_setMean_17 : decode cX5_setMean 17 = .ok (.iload_n 2, 1) := by decide +kernel
theorem dX5_setMean_18 : decode cX5_setMean 18 = .ok (.i2l, 1) := by decide +kernel
theorem dX5_setMean_19 : decode cX5_setMean 19 = .ok (.invokevirtual 176, 3) := by decide +kernel
theorem dX5_setMean_22 : decode cX5_setMean 22 = .ok (.iconst 1, 1) := by decide +kernel
theorem dX5_setMean_23 : decode cX5_setMean 23 = .ok (.ireturn, 1) := by decide +kernel
set_option maxRecDepth 20000 in
theorem ggX6_init_X6_begins : GoodIn wsX6_init wsX6_begins := goodIn_r _ [16, 5, 17, 18, 19, 20, 21, 22, 23, 24, 25, 26, 27, 28, 29, 30, 31] (by decide +kernel) (by decide +kernel)
set_option maxRecDepth 20000 in
theorem gX6_init_X6_begins : GoodIn wsX6_init (wsV RX6 30 RX6 yX6_begins wsX6_begins) := goodIn_app (goodIn_of _ (by decide +kernel)) ggX6_init_X6_begins
theorem dX6_init_0 : decode cX6_init 0 = .ok (.aload_n 0, 1) := by decide +kernel
theorem dX6_init_1 : decode cX6_init 1 = .ok (.invokespecial 1, 3) := by decide +kernel
theorem dX6_init_4 : decode cX6_init 4 = .ok (.aload_n 0, 1) := by decide +kernel
theorem dX6_init_5 : decode cX6_init 5 = .ok (.sipush 196, 3) := by decide +kernel
theorem dX6_init_8 : decode cX6_init 8 = .ok (.newarray .int, 2) := by decide +kernel
theorem dX6_init_10 : decode cX6_init 10 = .ok (.putfield 7, 3) := by decide +kernel
theorem dX6_init_13 : decode cX6_init 13 = .ok (.aload_n 0, 1) := by decide +kernel
theorem dX6_init_14 : decode cX6_init 14 = .ok (.iconst 2, 1) := by decide +kernel
theorem dX6_init_15 : decode cX6_init 15 = .ok (.newarray .boolean, 2) := by decide +kernel
theorem dX6_init_17 : decode cX6_init 17 = .ok (.putfield 13, 3) := by decide +kernel
theorem dX6_init_20 : decode cX6_init 20 = .ok (.aload_n 0, 1) := by decide +kernel
theorem dX6_init_21 : decode cX6_init 21 = .ok (.sipush 150, 3) := by decide +kernel
theorem dX6_init_24 : decode cX6_init 24 = .ok (.newarray .int, 2) := by decide +kernel
theorem dX6_init_26 : decode cX6_init 26 = .ok (.putfield 17, 3) := by decide +kernel
theorem dX6_init_29 : decode cX6_init 29 = .ok (.aload_n 0, 1) := by decide +kernel
theorem dX6_init_30 : decode cX6_init 30 = .ok (.iconst 3, 1) := by decide +kernel
theorem dX6_init_31 : decode cX6_init 31 = .ok (.newarray .int, 2) := by decide +kernel
theorem dX6_init_33 : decode cX6_init 33 = .ok (.putfield 20, 3) := by decide +kernel
theorem dX6_init_36 : decode cX6_init 36 = .ok (.aload_n 0, 1) := by decide +kernel
theorem dX6_init_37 : decode cX6_init 37 = .ok (.lconst 1, 1) := by decide +kernel
theorem dX6_init_38 : decode cX6_init 38 = .ok (.putfield 23, 3) := by decide +kernel
theorem dX6_init_41 : decode cX6_init 41 = .ok (.aload_n 0, 1) := by decide +kernel
theorem dX6_init_42 : decode cX6_init 42 = .ok (.iconst 3, 1) := by decide +kernel
theorem dX6_init_43 : decode cX6_init 43 = .ok (.newarray .int, 2) := by decide +kernel
theorem dX6_init_45 : decode cX6_init 45 = .ok (.putfield 27, 3) := by decide +kernel
theorem dX6_init_48 : decode cX6_init 48 = .ok (.aload_n 0, 1) := by decide +kernel
theorem dX6_init_49 : decode cX6_init 49 = .ok (.iconst 0, 1) := by decide +kernel
theorem dX6_init_50 : decode cX6_init 50 = .ok (.bipush 11, 2) := by decide +kernel
theorem dX6_init_52 : decode cX6_init 52 = .ok (.invokevirtual 30, 3) := by decide +kernel
theorem dX6_init_55 : decode cX6_init 55 = .ok (.return_, 1) := by decide +kernel
theorem dX6_in_0 : decode cX6_in 0 = .ok (.lload_n 0, 1) := by decide +kernel
theorem dX6_in_1 : decode cX6_in 1 = .ok (.lload_n 2, 1) := by decide +kernel
theorem dX6_in_2 : decode cX6_in 2 = .ok (.lcmp, 1) := by decide +kernel
theorem dX6_in_3 : decode cX6_in 3 = .ok (.ifCond .lt 14, 3) := by decide +kernel
theorem dX6_in_6 : decode cX6_in 6 = .ok (.lload_n 0, 1) := by decide +kernel
theorem dX6_in_7 : decode cX6_in 7 = .ok (.lload 4, 2) := by decide +kernel
theorem dX6_in_9 : decode cX6_in 9 = .ok (.lcmp, 1) := by decide +kernel
theorem dX6_in_10 : decode cX6_in 10 = .ok (.ifCond .gt 7, 3) := by decide +kernel
theorem dX6_in_13 : decode cX6_in 13 = .ok (.iconst 1, 1) := by decide +kernel
theorem dX6_in_14 : decode cX6_in 14 = .ok (.goto 4, 3) := by decide +kernel
theorem dX6_in_17 : decode cX6_in 17 = .ok (.iconst 0, 1) := by decide +kernel
theorem dX6_in_18 : decode cX6_in 18 = .ok (.ireturn, 1) := by decide +kernel
theorem dX6_has_0 : decode cX6_has 0 = .ok (.iload_n 0, 1) := by decide +kernel
theorem dX6_has_1 : decode cX6_has 1 = .ok (.iload_n 1, 1) := by decide +kernel
theorem dX6_has_2 : decode cX6_has 2 = .ok (.ishr, 1) := by decide +kernel
theorem dX6_has_3 : decode cX6_has 3 = .ok (.iconst 1, 1) := by decide +kernel
theorem dX6_has_4 : decode cX6_has 4 = .ok (.iand, 1) := by decide +kernel
theorem dX6_has_5 : decode cX6_has 5 = .ok (.iconst 1, 1) := by decide +kernel
theorem dX6_has_6 : decode cX6_has 6 = .ok (.if_icmp .ne 7, 3) := by decide +kernel
theorem dX6_has_9 : decode cX6_has 9 = .ok (.iconst 1, 1) := by decide +kernel
theorem dX6_has_10 : decode cX6_has 10 = .ok (.goto 4, 3) := by decide +kernel
theorem dX6_has_13 : decode cX6_has 13 = .ok (.iconst 0, 1) := by decide +kernel
theorem dX6_has_14 : decode cX6_has 14 = .ok (.ireturn, 1) := by decide +kernel
theorem dX6_bad_0 : decode cX6_bad 0 = .ok (.aload_n 0, 1) := by decide +kernel
theorem dX6_bad_1 : decode cX6_bad 1 = .ok (.getfield 20, 3) := by decide +kernel
theorem dX6_bad_4 : decode cX6_bad 4 = .ok (.iconst 0, 1) := by decide +kernel
theorem dX6_bad_5 : decode cX6_bad 5 = .ok (.dup2, 1) := by decide +kernel
theorem dX6_bad_6 : decode cX6_bad 6 = .ok (.iaload, 1) := by decide +kernel
theorem dX6_bad_7 : decode cX6_bad 7 = .ok (.iconst 1, 1) := by decide +kernel
theorem dX6_bad_8 : decode cX6_bad 8 = .ok (.iadd, 1) := by decide +kernel
theorem dX6_bad_9 : decode cX6_bad 9 = .ok (.iastore, 1) := by decide +kernel
theorem dX6_bad_10 : decode cX6_bad 10 = .ok (.bipush (-2), 2) := by decide +kernel
theorem dX6_bad_12 : decode cX6_bad 12 = .ok (.ireturn, 1) := by decide +kernel
theorem dX6_badAs_0 : decode cX6_badAs 0 = .ok (.aload_n 0, 1) := by decide +kernel
theorem dX6_badAs_1 : decode cX6_badAs 1 = .ok (.getfield 20, 3) := by decide +kernel
theorem dX6_badAs_4 : decode cX6_badAs 4 = .ok (.iconst 0, 1) := by decide +kernel
theorem dX6_badAs_5 : decode cX6_badAs 5 = .ok (.dup2, 1) := by decide +kernel
theorem dX6_badAs_6 : decode cX6_badAs 6 = .ok (.iaload, 1) := by decide +kernel
theorem dX6_badAs_7 : decode cX6_badAs 7 = .ok (.iconst 1, 1) := by decide +kernel
theorem dX6_badAs_8 : decode cX6_badAs 8 = .ok (.iadd, 1) := by decide +kernel
theorem dX6_badAs_9 : decode cX6_badAs 9 = .ok (.iastore, 1) := by decide +kernel
theorem dX6_badAs_10 : decode cX6_badAs 10 = .ok (.iload_n 1, 1) := by decide +kernel
theorem dX6_badAs_11 : decode cX6_badAs 11 = .ok (.ireturn, 1) := by decide +kernel
theorem dX6_no_0 : decode cX6_no 0 = .ok (.aload_n 0, 1) := by decide +kernel
theorem dX6_no_1 : decode cX6_no 1 = .ok (.getfield 20, 3) := by decide +kernel
theorem dX6_no_4 : decode cX6_no 4 = .ok (.iconst 1, 1) := by decide +kernel
theorem dX6_no_5 : decode cX6_no 5 = .ok (.dup2, 1) := by decide +kernel
theorem dX6_no_6 : decode cX6_no 6 = .ok (.iaload, 1) := by decide +kernel
theorem dX6_no_7 : decode cX6_no 7 = .ok (.iconst 1, 1) := by decide +kernel
theorem dX6_no_8 : decode cX6_no 8 = .ok (.iadd, 1) := by decide +kernel
theorem dX6_no_9 : decode cX6_no 9 = .ok (.iastore, 1) := by decide +kernel
theorem dX6_no_10 : decode cX6_no 10 = .ok (.bipush (-3), 2) := by decide +kernel
theorem dX6_no_12 : decode cX6_no 12 = .ok (.ireturn, 1) := by decide +kernel
theorem dX6_full_0 : decode cX6_full 0 = .ok (.aload_n 0, 1) := by decide +kernel
theorem dX6_full_1 : decode cX6_full 1 = .ok (.getfield 20, 3) := by decide +kernel
theorem dX6_full_4 : decode cX6_full 4 = .ok (.iconst 2, 1) := by decide +kernel
theorem dX6_full_5 : decode cX6_full 5 = .ok (.dup2, 1) := by decide +kernel
theorem dX6_full_6 : decode cX6_full 6 = .ok (.iaload, 1) := by decide +kernel
theorem dX6_full_7 : decode cX6_full 7 = .ok (.iconst 1, 1) := by decide +kernel
theorem dX6_full_8 : decode cX6_full 8 = .ok (.iadd, 1) := by decide +kernel
theorem dX6_full_9 : decode cX6_full 9 = .ok (.iastore, 1) := by decide +kernel
theorem dX6_full_10 : decode cX6_full 10 = .ok (.bipush (-4), 2) := by decide +kernel
theorem dX6_full_12 : decode cX6_full 12 = .ok (.ireturn, 1) := by decide +kernel
theorem dX6_copy_0 : decode cX6_copy 0 = .ok (.iconst 0, 1) := by decide +kernel
theorem dX6_copy_1 : decode cX6_copy 1 = .ok (.istore_n 3, 1) := by decide +kernel
theorem dX6_copy_2 : decode cX6_copy 2 = .ok (.iload_n 3, 1) := by decide +kernel
theorem dX6_copy_3 : decode cX6_copy 3 = .ok (.bipush 49, 2) := by decide +kernel
theorem dX6_copy_5 : decode cX6_copy 5 = .ok (.if_icmp .ge 25, 3) := by decide +kernel
theorem dX6_copy_8 : decode cX6_copy 8 = .ok (.aload_n 0, 1) := by decide +kernel
theorem dX6_copy_9 : decode cX6_copy 9 = .ok (.getfield 7, 3) := by decide +kernel
theorem dX6_copy_12 : decode cX6_copy 12 = .ok (.iload_n 2, 1) := by decide +kernel
theorem dX6_copy_13 : decode cX6_copy 13 = .ok (.iload_n 3, 1) := by decide +kernel
theorem dX6_copy_14 : decode cX6_copy 14 = .ok (.iadd, 1) := by decide +kernel
theorem dX6_copy_15 : decode cX6_copy 15 = .ok (.aload_n 0, 1) := by decide +kernel
theorem dX6_copy_16 : decode cX6_copy 16 = .ok (.getfield 7, 3) := by decide +kernel
theorem dX6_copy_19 : decode cX6_copy 19 = .ok (.iload_n 1, 1) := by decide +kernel
theorem dX6_copy_20 : decode cX6_copy 20 = .ok (.iload_n 3, 1) := by decide +kernel
theorem dX6_copy_21 : decode cX6_copy 21 = .ok (.iadd, 1) := by decide +kernel
theorem dX6_copy_22 : decode cX6_copy 22 = .ok (.iaload, 1) := by decide +kernel
theorem dX6_copy_23 : decode cX6_copy 23 = .ok (.iastore, 1) := by decide +kernel
theorem dX6_copy_24 : decode cX6_copy 24 = .ok (.iinc 3 1, 3) := by decide +kernel
theorem dX6_copy_27 : decode cX6_copy 27 = .ok (.goto (-25), 3) := by decide +kernel
theorem dX6_copy_30 : decode cX6_copy 30 = .ok (.return_, 1) := by decide +kernel
theorem dX6_begins_0 : decode cX6_begins 0 = .ok (.iconst 0, 1) := by decide +kernel
theorem dX6_begins_1 : decode cX6_begins 1 = .ok (.istore_n 3, 1) := by decide +kernel
theorem dX6_begins_2 : decode cX6_begins 2 = .ok (.iload_n 3, 1) := by decide +kernel
theorem dX6_begins_3 : decode cX6_begins 3 = .ok (.bipush 49, 2) := by decide +kernel
theorem dX6_begins_5 : decode cX6_begins 5 = .ok (.if_icmp .ge 18, 3) := by decide +kernel
theorem dX6_begins_8 : decode cX6_begins 8 = .ok (.aload_n 0, 1) := by decide +kernel
theorem dX6_begins_9 : decode cX6_begins 9 = .ok (.getfield 7, 3) := by decide +kernel
theorem dX6_begins_12 : decode cX6_begins 12 = .ok (.iload_n 1, 1) := by decide +kernel
theorem dX6_begins_13 : decode cX6_begins 13 = .ok (.iload_n 3, 1) := by decide +kernel
theorem dX6_begins_14 : decode cX6_begins 14 = .ok (.iadd, 1) := by decide +kernel
theorem dX6_begins_15 : decode cX6_begins 15 = .ok (.iconst 0, 1) := by decide +kernel
theorem dX6_begins_16 : decode cX6_begins 16 = .ok (.iastore, 1) := by decide +kernel
theorem dX6_begins_17 : decode cX6_begins 17 = .ok (.iinc 3 1, 3) := by decide +kernel
theorem dX6_begins_20 : decode cX6_begins 20 = .ok (.goto (-18), 3) := by decide +kernel
theorem dX6_begins_23 : decode cX6_begins 23 = .ok (.aload_n 0, 1) := by decide +kernel
theorem dX6_begins_24 : decode cX6_begins 24 = .ok (.getfield 7, 3) := by decide +kernel
theorem dX6_begins_27 : decode cX6_begins 27 = .ok (.iload_n 1, 1) := by decide +kernel
theorem dX6_begins_28 : decode cX6_begins 28 = .ok (.iconst 1, 1) := by decide +kernel
theorem dX6_begins_29 : decode cX6_begins 29 = .ok (.iadd, 1) := by decide +kernel
theorem dX6_begins_30 : decode cX6_begins 30 = .ok (.iload_n 2, 1) := by decide +kernel
theorem dX6_begins_31 : decode cX6_begins 31 = .ok (.iastore, 1) := by decide +kernel
theorem dX6_begins_32 : decode cX6_begins 32 = .ok (.aload_n 0, 1) := by decide +kernel
theorem dX6_begins_33 : decode cX6_begins 33 = .ok (.getfield 7, 3) := by decide +kernel
theorem dX6_begins_36 : decode cX6_begins 36 = .ok (.iload_n 1, 1) := by decide +kernel
theorem dX6_begins_37 : decode cX6_begins 37 = .ok (.bipush 13, 2) := by decide +kernel
theorem dX6_begins_39 : decode cX6_begins 39 = .ok (.iadd, 1) := by decide +kernel
theorem dX6_begins_40 : decode cX6_begins 40 = .ok (.bipush 10, 2) := by decide +kernel
theorem dX6_begins_42 : decode cX6_begins 42 = .ok (.iastore, 1) := by decide +kernel
theorem dX6_begins_43 : decode cX6_begins 43 = .ok (.aload_n 0, 1) := by decide +kernel
theorem dX6_begins_44 : decode cX6_begins 44 = .ok (.getfield 7, 3) := by decide +kernel
theorem dX6_begins_47 : decode cX6_begins 47 = .ok (.iload_n 1, 1) := by decide +kernel
theorem dX6_begins_48 : decode cX6_begins 48 = .ok (.bipush 13, 2) := by decide +kernel
theorem dX6_begins_50 : decode cX6_begins 50 = .ok (.iadd, 1) := by decide +kernel
theorem dX6_begins_51 : decode cX6_begins 51 = .ok (.iconst 1, 1) := by decide +kernel
theorem dX6_begins_52 : decode cX6_begins 52 = .ok (.iadd, 1) := by decide +kernel
theorem dX6_begins_53 : decode cX6_begins 53 = .ok (.bipush 10, 2) := by decide +kernel
theorem dX6_begins_55 : decode cX6_begins 55 = .ok (.iastore, 1) := by decide +kernel
theorem dX6_begins_56 : decode cX6_begins 56 = .ok (.return_, 1) := by decide +kernel
set_option maxRecDepth 20000 in
theorem ggX6_isFloor_X6_in : GoodIn wsX6_isFloor wsX6_in := goodIn_r _ [5] (by decide +kernel) (by decide +kernel)
set_option maxRecDepth 20000 in
theorem gX6_isFloor_X6_in : GoodIn wsX6_isFloor (va_wsS RX6 34 yX6_in wsX6_in) := goodIn_app (goodIn_of _ (by decide +kernel)) ggX6_isFloor_X6_in
theorem dX6_isFloor_0 : decode cX6_isFloor 0 = .ok (.iload_n 1, 1) := by decide +kernel
theorem dX6_isFloor_1 : decode cX6_isFloor 1 = .ok (.i2l, 1) := by decide +kernel
theorem dX6_isFloor_2 : decode cX6_isFloor 2 = .ok (.lconst 0, 1) := by decide +kernel
theorem dX6_isFloor_3 : decode cX6_isFloor 3 = .ok (.aload_n 0, 1) := by decide +kernel
theorem dX6_isFloor_4 : decode cX6_isFloor 4 = .ok (.getfield 7, 3) := by decide +kernel
theorem dX6_isFloor_7 : decode cX6_isFloor 7 = .ok (.iconst 1, 1) := by decide +kernel
theorem dX6_isFloor_8 : decode cX6_isFloor 8 = .ok (.iaload, 1) := by decide +kernel
theorem dX6_isFloor_9 : decode cX6_isFloor 9 = .ok (.i2l, 1) := by decide +kernel
theorem dX6_isFloor_10 : decode cX6_isFloor 10 = .ok (.invokestatic 34, 3) := by decide +kernel
theorem dX6_isFloor_13 : decode cX6_isFloor 13 = .ok (.ireturn, 1) := by decide +kernel
set_option maxRecDepth 20000 in
theorem ggX6_isLift_X6_in : GoodIn wsX6_isLift wsX6_in := goodIn_r _ [5] (by decide +kernel) (by decide +kernel)
set_option maxRecDepth 20000 in
theorem gX6_isLift_X6_in : GoodIn wsX6_isLift (va_wsS RX6 34 yX6_in wsX6_in) := goodIn_app (goodIn_of _ (by decide +kernel)) ggX6_isLift_X6_in
theorem dX6_isLift_0 : decode cX6_isLift 0 = .ok (.iload_n 1, 1) := by decide +kernel
theorem dX6_isLift_1 : decode cX6_isLift 1 = .ok (.i2l, 1) := by decide +kernel
theorem dX6_isLift_2 : decode cX6_isLift 2 = .ok (.lconst 0, 1) := by decide +kernel
theorem dX6_isLift_3 : decode cX6_isLift 3 = .ok (.aload_n 0, 1) := by decide +kernel
theorem dX6_isLift_4 : decode cX6_isLift 4 = .ok (.getfield 7, 3) := by decide +kernel
theorem dX6_isLift_7 : decode cX6_isLift 7 = .ok (.iconst 0, 1) := by decide +kernel
theorem dX6_isLift_8 : decode cX6_isLift 8 = .ok (.iaload, 1) := by decide +kernel
theorem dX6_isLift_9 : decode cX6_isLift 9 = .ok (.iconst 1, 1) := by decide +kernel
theorem dX6_isLift_10 : decode cX6_isLift 10 = .ok (.isub, 1) := by decide +kernel
theorem dX6_isLift_11 : decode cX6_isLift 11 = .ok (.i2l, 1) := by decide +kernel
theorem dX6_isLift_12 : decode cX6_isLift 12 = .ok (.invokestatic 34, 3) := by decide +kernel
theorem dX6_isLift_15 : decode cX6_isLift 15 = .ok (.ireturn, 1) := by decide +kernel
set_option maxRecDepth 20000 in
theorem ggX6_isMinute_X6_in : GoodIn wsX6_isMinute wsX6_in := goodIn_r _ [5] (by decide +kernel) (by decide +kernel)
set_option maxRecDepth 20000 in
theorem gX6_isMinute_X6_in : GoodIn wsX6_isMinute (va_wsS RX6 34 yX6_in wsX6_in) := goodIn_app (goodIn_of _ (by decide +kernel)) ggX6_isMinute_X6_in
theorem dX6_isMinute_0 : decode cX6_isMinute 0 = .ok (.iload_n 0, 1) := by decide +kernel
theorem dX6_isMinute_1 : decode cX6_isMinute 1 = .ok (.i2l, 1) := by decide +kernel
theorem dX6_isMinute_2 : decode cX6_isMinute 2 = .ok (.lconst 0, 1) := by decide +kernel
theorem dX6_isMinute_3 : decode cX6_isMinute 3 = .ok (.ldc2_w 38, 3) := by decide +kernel
theorem dX6_isMinute_6 : decode cX6_isMinute 6 = .ok (.invokestatic 34, 3) := by decide +kernel
theorem dX6_isMinute_9 : decode cX6_isMinute 9 = .ok (.ireturn, 1) := by decide +kernel
set_option maxRecDepth 20000 in
theorem ggX6_house_X6_in : GoodIn wsX6_house wsX6_in := goodIn_r _ [6] (by decide +kernel) (by decide +kernel)
set_option maxRecDepth 20000 in
theorem gX6_house_X6_in : GoodIn wsX6_house (va_wsS RX6 34 yX6_in wsX6_in) := goodIn_app (goodIn_of _ (by decide +kernel)) ggX6_house_X6_in
set_option maxRecDepth 20000 in
theorem ggX6_house_X6_bad : GoodIn wsX6_house wsX6_bad := goodIn_r _ [10, 11, 16, 17, 18, 19, 20, 21, 22, 23, 24, 25, 26, 27, 28, 29, 30] (by decide +kernel) (by decide +kernel)
set_option maxRecDepth 20000 in
theorem gX6_house_X6_bad : GoodIn wsX6_house (wsV RX6 42 RX6 yX6_bad wsX6_bad) := goodIn_app (goodIn_of _ (by decide +kernel)) ggX6_house_X6_bad
set_option maxRecDepth 20000 in
theorem ggX6_house_X6_begins : GoodIn wsX6_house wsX6_begins := goodIn_r _ [15, 2, 16, 17, 18, 19, 20, 21, 22, 23, 24, 25, 26, 27, 28, 29, 30] (by decide +kernel) (by decide +kernel)
set_option maxRecDepth 20000 in
theorem gX6_house_X6_begins : GoodIn wsX6_house (wsV RX6 30 RX6 yX6_begins wsX6_begins) := goodIn_app (goodIn_of _ (by decide +kernel)) ggX6_house_X6_begins
theorem dX6_house_0 : decode cX6_house 0 = .ok (.iload_n 1, 1) := by decide +kernel
theorem dX6_house_1 : decode cX6_house 1 = .ok (.i2l, 1) := by decide +kernel
theorem dX6_house_2 : decode cX6_house 2 = .ok (.lconst 1, 1) := by decide +kernel
theorem dX6_house_3 : decode cX6_house 3 = .ok (.ldc2_w 40, 3) := by decide +kernel
theorem dX6_house_6 : decode cX6_house 6 = .ok (.invokestatic 34, 3) := by decide +kernel
theorem dX6_house_9 : decode cX6_house 9 = .ok (.ifCond .ne 8, 3) := by decide +kernel
theorem dX6_house_12 : decode cX6_house 12 = .ok (.aload_n 0, 1) := by decide +kernel
theorem dX6_house_13 : decode cX6_house 13 = .ok (.invokevirtual 42, 3) := by decide +kernel
theorem dX6_house_16 : decode cX6_house 16 = .ok (.ireturn, 1) := by decide +kernel
theorem dX6_house_17 : decode cX6_house 17 = .ok (.aload_n 0, 1) := by decide +kernel
theorem dX6_house_18 : decode cX6_house 18 = .ok (.getfield 7, 3) := by decide +kernel
theorem dX6_house_21 : decode cX6_house 21 = .ok (.iconst 0, 1) := by decide +kernel
theorem dX6_house_22 : decode cX6_house 22 = .ok (.iaload, 1) := by decide +kernel
theorem dX6_house_23 : decode cX6_house 23 = .ok (.istore_n 2, 1) := by decide +kernel
theorem dX6_house_24 : decode cX6_house 24 = .ok (.aload_n 0, 1) := by decide +kernel
theorem dX6_house_25 : decode cX6_house 25 = .ok (.iconst 0, 1) := by decide +kernel
theorem dX6_house_26 : decode cX6_house 26 = .ok (.iload_n 1, 1) := by decide +kernel
theorem dX6_house_27 : decode cX6_house 27 = .ok (.invokevirtual 30, 3) := by decide +kernel
theorem dX6_house_30 : decode cX6_house 30 = .ok (.iload_n 2, 1) := by decide +kernel
theorem dX6_house_31 : decode cX6_house 31 = .ok (.ireturn, 1) := by decide +kernel
theorem dX6_adds_0 : decode cX6_adds 0 = .ok (.aload_n 0, 1) := by decide +kernel
theorem dX6_adds_1 : decode cX6_adds 1 = .ok (.getfield 7, 3) := by decide +kernel
theorem dX6_adds_4 : decode cX6_adds 4 = .ok (.iload_n 1, 1) := by decide +kernel
theorem dX6_adds_5 : decode cX6_adds 5 = .ok (.iconst 0, 1) := by decide +kernel
theorem dX6_adds_6 : decode cX6_adds 6 = .ok (.iadd, 1) := by decide +kernel
theorem dX6_adds_7 : decode cX6_adds 7 = .ok (.iaload, 1) := by decide +kernel
theorem dX6_adds_8 : decode cX6_adds 8 = .ok (.istore 4, 2) := by decide +kernel
theorem dX6_adds_10 : decode cX6_adds 10 = .ok (.aload_n 0, 1) := by decide +kernel
theorem dX6_adds_11 : decode cX6_adds 11 = .ok (.getfield 7, 3) := by decide +kernel
theorem dX6_adds_14 : decode cX6_adds 14 = .ok (.iload_n 1, 1) := by decide +kernel
theorem dX6_adds_15 : decode cX6_adds 15 = .ok (.iconst 5, 1) := by decide +kernel
theorem dX6_adds_16 : decode cX6_adds 16 = .ok (.iadd, 1) := by decide +kernel
theorem dX6_adds_17 : decode cX6_adds 17 = .ok (.iload 4, 2) := by decide +kernel
theorem dX6_adds_19 : decode cX6_adds 19 = .ok (.iadd, 1) := by decide +kernel
theorem dX6_adds_20 : decode cX6_adds 20 = .ok (.iload_n 2, 1) := by decide +kernel
theorem dX6_adds_21 : decode cX6_adds 21 = .ok (.iastore, 1) := by decide +kernel
theorem dX6_adds_22 : decode cX6_adds 22 = .ok (.aload_n 0, 1) := by decide +kernel
theorem dX6_adds_23 : decode cX6_adds 23 = .ok (.getfield 7, 3) := by decide +kernel
theorem dX6_adds_26 : decode cX6_adds 26 = .ok (.iload_n 1, 1) := by decide +kernel
theorem dX6_adds_27 : decode cX6_adds 27 = .ok (.bipush 9, 2) := by decide +kernel
theorem dX6_adds_29 : decode cX6_adds 29 = .ok (.iadd, 1) := by decide +kernel
theorem dX6_adds_30 : decode cX6_adds 30 = .ok (.iload 4, 2) := by decide +kernel
theorem dX6_adds_32 : decode cX6_adds 32 = .ok (.iadd, 1) := by decide +kernel
theorem dX6_adds_33 : decode cX6_adds 33 = .ok (.iload_n 3, 1) := by decide +kernel
theorem dX6_adds_34 : decode cX6_adds 34 = .ok (.iastore, 1) := by decide +kernel
theorem dX6_adds_35 : decode cX6_adds 35 = .ok (.aload_n 0, 1) := by decide +kernel
theorem dX6_adds_36 : decode cX6_adds 36 = .ok (.getfield 7, 3) := by decide +kernel
theorem dX6_adds_39 : decode cX6_adds 39 = .ok (.iload_n 1, 1) := by decide +kernel
theorem dX6_adds_40 : decode cX6_adds 40 = .ok (.iconst 0, 1) := by decide +kernel
theorem dX6_adds_41 : decode cX6_adds 41 = .ok (.iadd, 1) := by decide +kernel
theorem dX6_adds_42 : decode cX6_adds 42 = .ok (.dup2, 1) := by decide +kernel
theorem dX6_adds_43 : decode cX6_adds 43 = .ok (.iaload, 1) := by decide +kernel
theorem dX6_adds_44 : decode cX6_adds 44 = .ok (.iconst 1, 1) := by decide +kernel
theorem dX6_adds_45 : decode cX6_adds 45 = .ok (.iadd, 1) := by decide +kernel
theorem dX6_adds_46 : decode cX6_adds 46 = .ok (.iastore, 1) := by decide +kernel
theorem dX6_adds_47 : decode cX6_adds 47 = .ok (.iload 4, 2) := by decide +kernel
theorem dX6_adds_49 : decode cX6_adds 49 = .ok (.ireturn, 1) := by decide +kernel
set_option maxRecDepth 20000 in
theorem ggX6_lift_X6_in : GoodIn wsX6_lift wsX6_in := goodIn_r _ [7] (by decide +kernel) (by decide +kernel)
set_option maxRecDepth 20000 in
theorem gX6_lift_X6_in : GoodIn wsX6_lift (va_wsS RX6 34 yX6_in wsX6_in) := goodIn_app (goodIn_of _ (by decide +kernel)) ggX6_lift_X6_in
set_option maxRecDepth 20000 in
theorem ggX6_lift_X6_bad : GoodIn wsX6_lift wsX6_bad := goodIn_r _ [11, 12, 21, 22, 23, 24, 25, 26, 27, 28, 29, 30, 31, 32, 33, 34, 35] (by decide +kernel) (by decide +kernel)
set_option maxRecDepth 20000 in
theorem gX6_lift_X6_bad : GoodIn wsX6_lift (wsV RX6 42 RX6 yX6_bad wsX6_bad) := goodIn_app (goodIn_of _ (by decide +kernel)) ggX6_lift_X6_bad
set_option maxRecDepth 20000 in
theorem ggX6_lift_X6_full : GoodIn wsX6_lift wsX6_full := goodIn_r _ [16, 12, 21, 22, 23, 24, 25, 26, 27, 28, 29, 30, 31, 32, 33, 34, 35] (by decide +kernel) (by decide +kernel)
set_option maxRecDepth 20000 in
theorem gX6_lift_X6_full : GoodIn wsX6_lift (wsV RX6 50 RX6 yX6_full wsX6_full) := goodIn_app (goodIn_of _ (by decide +kernel)) ggX6_lift_X6_full
set_option maxRecDepth 20000 in
theorem ggX6_lift_X6_adds : GoodIn wsX6_lift wsX6_adds := goodIn_r _ [20, 3, 21, 22, 23, 24, 25, 26, 27, 28, 29, 30, 31, 32, 33, 34, 35] (by decide +kernel) (by decide +kernel)
set_option maxRecDepth 20000 in
theorem gX6_lift_X6_adds : GoodIn wsX6_lift (wsV RX6 53 RX6 yX6_adds wsX6_adds) := goodIn_app (goodIn_of _ (by decide +kernel)) ggX6_lift_X6_adds
theorem dX6_lift_0 : decode cX6_lift 0 = .ok (.iload_n 1, 1) := by decide +kernel
theorem dX6_lift_1 : decode cX6_lift 1 = .ok (.i2l, 1) := by decide +kernel
theorem dX6_lift_2 : decode cX6_lift 2 = .ok (.lconst 0, 1) := by decide +kernel
theorem dX6_lift_3 : decode cX6_lift 3 = .ok (.ldc2_w 46, 3) := by decide +kernel
theorem dX6_lift_6 : decode cX6_lift 6 = .ok (.invokestatic 34, 3) := by decide +kernel
theorem dX6_lift_9 : decode cX6_lift 9 = .ok (.ifCond .eq 15, 3) := by decide +kernel
theorem dX6_lift_12 : decode cX6_lift 12 = .ok (.iload_n 2, 1) := by decide +kernel
theorem dX6_lift_13 : decode cX6_lift 13 = .ok (.i2l, 1) := by decide +kernel
theorem dX6_lift_14 : decode cX6_lift 14 = .ok (.lconst 0, 1) := by decide +kernel
theorem dX6_lift_15 : decode cX6_lift 15 = .ok (.ldc2_w 48, 3) := by decide +kernel
theorem dX6_lift_18 : decode cX6_lift 18 = .ok (.invokestatic 34, 3) := by decide +kernel
theorem dX6_lift_21 : decode cX6_lift 21 = .ok (.ifCond .ne 8, 3) := by decide +kernel
theorem dX6_lift_24 : decode cX6_lift 24 = .ok (.aload_n 0, 1) := by decide +kernel
theorem dX6_lift_25 : decode cX6_lift 25 = .ok (.invokevirtual 42, 3) := by decide +kernel
theorem dX6_lift_28 : decode cX6_lift 28 = .ok (.ireturn, 1) := by decide +kernel
theorem dX6_lift_29 : decode cX6_lift 29 = .ok (.aload_n 0, 1) := by decide +kernel
theorem dX6_lift_30 : decode cX6_lift 30 = .ok (.getfield 7, 3) := by decide +kernel
theorem dX6_lift_33 : decode cX6_lift 33 = .ok (.iconst 0, 1) := by decide +kernel
theorem dX6_lift_34 : decode cX6_lift 34 = .ok (.iaload, 1) := by decide +kernel
theorem dX6_lift_35 : decode cX6_lift 35 = .ok (.iconst 4, 1) := by decide +kernel
theorem dX6_lift_36 : decode cX6_lift 36 = .ok (.if_icmp .ne 8, 3) := by decide +kernel
theorem dX6_lift_39 : decode cX6_lift 39 = .ok (.aload_n 0, 1) := by decide +kernel
theorem dX6_lift_40 : decode cX6_lift 40 = .ok (.invokevirtual 50, 3) := by decide +kernel
theorem dX6_lift_43 : decode cX6_lift 43 = .ok (.ireturn, 1) := by decide +kernel
theorem dX6_lift_44 : decode cX6_lift 44 = .ok (.aload_n 0, 1) := by decide +kernel
theorem dX6_lift_45 : decode cX6_lift 45 = .ok (.getfield 7, 3) := by decide +kernel
theorem dX6_lift_48 : decode cX6_lift 48 = .ok (.iconst 4, 1) := by decide +kernel
theorem dX6_lift_49 : decode cX6_lift 49 = .ok (.iconst 0, 1) := by decide +kernel
theorem dX6_lift_50 : decode cX6_lift 50 = .ok (.iastore, 1) := by decide +kernel
theorem dX6_lift_51 : decode cX6_lift 51 = .ok (.aload_n 0, 1) := by decide +kernel
theorem dX6_lift_52 : decode cX6_lift 52 = .ok (.iconst 0, 1) := by decide +kernel
theorem dX6_lift_53 : decode cX6_lift 53 = .ok (.iload_n 1, 1) := by decide +kernel
theorem dX6_lift_54 : decode cX6_lift 54 = .ok (.iload_n 2, 1) := by decide +kernel
theorem dX6_lift_55 : decode cX6_lift 55 = .ok (.invokevirtual 53, 3) := by decide +kernel
theorem dX6_lift_58 : decode cX6_lift 58 = .ok (.ireturn, 1) := by decide +kernel
set_option maxRecDepth 20000 in
theorem ggX6_line_X6_in : GoodIn wsX6_line wsX6_in := goodIn_r _ [7] (by decide +kernel) (by decide +kernel)
set_option maxRecDepth 20000 in
theorem gX6_line_X6_in : GoodIn wsX6_line (va_wsS RX6 34 yX6_in wsX6_in) := goodIn_app (goodIn_of _ (by decide +kernel)) ggX6_line_X6_in
set_option maxRecDepth 20000 in
theorem ggX6_line_X6_bad : GoodIn wsX6_line wsX6_bad := goodIn_r _ [11, 12, 13, 14, 15, 16, 17, 18, 19, 20, 21, 22, 23, 24, 25, 26, 27] (by decide +kernel) (by decide +kernel)
set_option maxRecDepth 20000 in
theorem gX6_line_X6_bad : GoodIn wsX6_line (wsV RX6 42 RX6 yX6_bad wsX6_bad) := goodIn_app (goodIn_of _ (by decide +kernel)) ggX6_line_X6_bad
theorem dX6_line_0 : decode cX6_line 0 = .ok (.iload_n 1, 1) := by decide +kernel
theorem dX6_line_1 : decode cX6_line 1 = .ok (.i2l, 1) := by decide +kernel
theorem dX6_line_2 : decode cX6_line 2 = .ok (.lconst 0, 1) := by decide +kernel
theorem dX6_line_3 : decode cX6_line 3 = .ok (.lconst 1, 1) := by decide +kernel
theorem dX6_line_4 : decode cX6_line 4 = .ok (.invokestatic 34, 3) := by decide +kernel
theorem dX6_line_7 : decode cX6_line 7 = .ok (.ifCond .eq 27, 3) := by decide +kernel
theorem dX6_line_10 : decode cX6_line 10 = .ok (.iload_n 2, 1) := by decide +kernel
theorem dX6_line_11 : decode cX6_line 11 = .ok (.i2l, 1) := by decide +kernel
theorem dX6_line_12 : decode cX6_line 12 = .ok (.lconst 1, 1) := by decide +kernel
theorem dX6_line_13 : decode cX6_line 13 = .ok (.ldc2_w 57, 3) := by decide +kernel
theorem dX6_line_16 : decode cX6_line 16 = .ok (.invokestatic 34, 3) := by decide +kernel
theorem dX6_line_19 : decode cX6_line 19 = .ok (.ifCond .eq 15, 3) := by decide +kernel
theorem dX6_line_22 : decode cX6_line 22 = .ok (.iload_n 3, 1) := by decide +kernel
theorem dX6_line_23 : decode cX6_line 23 = .ok (.i2l, 1) := by decide +kernel
theorem dX6_line_24 : decode cX6_line 24 = .ok (.lconst 0, 1) := by decide +kernel
theorem dX6_line_25 : decode cX6_line 25 = .ok (.ldc2_w 59, 3) := by decide +kernel
theorem dX6_line_28 : decode cX6_line 28 = .ok (.invokestatic 34, 3) := by decide +kernel
theorem dX6_line_31 : decode cX6_line 31 = .ok (.ifCond .ne 8, 3) := by decide +kernel
theorem dX6_line_34 : decode cX6_line 34 = .ok (.aload_n 0, 1) := by decide +kernel
theorem dX6_line_35 : decode cX6_line 35 = .ok (.invokevirtual 42, 3) := by decide +kernel
theorem dX6_line_38 : decode cX6_line 38 = .ok (.ireturn, 1) := by decide +kernel
theorem dX6_line_39 : decode cX6_line 39 = .ok (.bipush 100, 2) := by decide +kernel
theorem dX6_line_41 : decode cX6_line 41 = .ok (.aload_n 0, 1) := by decide +kernel
theorem dX6_line_42 : decode cX6_line 42 = .ok (.getfield 7, 3) := by decide +kernel
theorem dX6_line_45 : decode cX6_line 45 = .ok (.bipush 13, 2) := by decide +kernel
theorem dX6_line_47 : decode cX6_line 47 = .ok (.iload_n 1, 1) := by decide +kernel
theorem dX6_line_48 : decode cX6_line 48 = .ok (.iadd, 1) := by decide +kernel
theorem dX6_line_49 : decode cX6_line 49 = .ok (.iaload, 1) := by decide +kernel
theorem dX6_line_50 : decode cX6_line 50 = .ok (.imul, 1) := by decide +kernel
theorem dX6_line_51 : decode cX6_line 51 = .ok (.aload_n 0, 1) := by decide +kernel
theorem dX6_line_52 : decode cX6_line 52 = .ok (.getfield 7, 3) := by decide +kernel
theorem dX6_line_55 : decode cX6_line 55 = .ok (.bipush 15, 2) := by decide +kernel
theorem dX6_line_57 : decode cX6_line 57 = .ok (.iload_n 1, 1) := by decide +kernel
theorem dX6_line_58 : decode cX6_line 58 = .ok (.iadd, 1) := by decide +kernel
theorem dX6_line_59 : decode cX6_line 59 = .ok (.iaload, 1) := by decide +kernel
theorem dX6_line_60 : decode cX6_line 60 = .ok (.iadd, 1) := by decide +kernel
theorem dX6_line_61 : decode cX6_line 61 = .ok (.istore 4, 2) := by decide +kernel
theorem dX6_line_63 : decode cX6_line 63 = .ok (.aload_n 0, 1) := by decide +kernel
theorem dX6_line_64 : decode cX6_line 64 = .ok (.getfield 7, 3) := by decide +kernel
theorem dX6_line_67 : decode cX6_line 67 = .ok (.bipush 13, 2) := by decide +kernel
theorem dX6_line_69 : decode cX6_line 69 = .ok (.iload_n 1, 1) := by decide +kernel
theorem dX6_line_70 : decode cX6_line 70 = .ok (.iadd, 1) := by decide +kernel
theorem dX6_line_71 : decode cX6_line 71 = .ok (.iload_n 2, 1) := by decide +kernel
theorem dX6_line_72 : decode cX6_line 72 = .ok (.iastore, 1) := by decide +kernel
theorem dX6_line_73 : decode cX6_line 73 = .ok (.aload_n 0, 1) := by decide +kernel
theorem dX6_line_74 : decode cX6_line 74 = .ok (.getfield 7, 3) := by decide +kernel
theorem dX6_line_77 : decode cX6_line 77 = .ok (.bipush 15, 2) := by decide +kernel
theorem dX6_line_79 : decode cX6_line 79 = .ok (.iload_n 1, 1) := by decide +kernel
theorem dX6_line_80 : decode cX6_line 80 = .ok (.iadd, 1) := by decide +kernel
theorem dX6_line_81 : decode cX6_line 81 = .ok (.iload_n 3, 1) := by decide +kernel
theorem dX6_line_82 : decode cX6_line 82 = .ok (.iastore, 1) := by decide +kernel
theorem dX6_line_83 : decode cX6_line 83 = .ok (.iload 4, 2) := by decide +kernel
theorem dX6_line_85 : decode cX6_line 85 = .ok (.ireturn, 1) := by decide +kernel
set_option maxRecDepth 20000 in
theorem ggX6_type_X6_in : GoodIn wsX6_type wsX6_in := goodIn_r _ [7] (by decide +kernel) (by decide +kernel)
set_option maxRecDepth 20000 in
theorem gX6_type_X6_in : GoodIn wsX6_type (va_wsS RX6 34 yX6_in wsX6_in) := goodIn_app (goodIn_of _ (by decide +kernel)) ggX6_type_X6_in
set_option maxRecDepth 20000 in
theorem ggX6_type_X6_bad : GoodIn wsX6_type wsX6_bad := goodIn_r _ [11, 12, 17, 18, 19, 20, 21, 22, 23, 24, 25, 26, 27, 28, 29, 30, 31] (by decide +kernel) (by decide +kernel)
set_option maxRecDepth 20000 in
theorem gX6_type_X6_bad : GoodIn wsX6_type (wsV RX6 42 RX6 yX6_bad wsX6_bad) := goodIn_app (goodIn_of _ (by decide +kernel)) ggX6_type_X6_bad
set_option maxRecDepth 20000 in
theorem ggX6_type_X6_full : GoodIn wsX6_type wsX6_full := goodIn_r _ [16, 12, 17, 18, 19, 20, 21, 22, 23, 24, 25, 26, 27, 28, 29, 30, 31] (by decide +kernel) (by decide +kernel)
set_option maxRecDepth 20000 in
theorem gX6_type_X6_full : GoodIn wsX6_type (wsV RX6 50 RX6 yX6_full wsX6_full) := goodIn_app (goodIn_of _ (by decide +kernel)) ggX6_type_X6_full
theorem dX6_type_0 : decode cX6_type 0 = .ok (.iload_n 1, 1) := by decide +kernel
theorem dX6_type_1 : decode cX6_type 1 = .ok (.i2l, 1) := by decide +kernel
theorem dX6_type_2 : decode cX6_type 2 = .ok (.lconst 0, 1) := by decide +kernel
theorem dX6_type_3 : decode cX6_type 3 = .ok (.ldc2_w 61, 3) := by decide +kernel
theorem dX6_type_6 : decode cX6_type 6 = .ok (.invokestatic 34, 3) := by decide +kernel
theorem dX6_type_9 : decode cX6_type 9 = .ok (.ifCond .ne 8, 3) := by decide +kernel
theorem dX6_type_12 : decode cX6_type 12 = .ok (.aload_n 0, 1) := by decide +kernel
theorem dX6_type_13 : decode cX6_type 13 = .ok (.invokevirtual 42, 3) := by decide +kernel
theorem dX6_type_16 : decode cX6_type 16 = .ok (.ireturn, 1) := by decide +kernel
theorem dX6_type_17 : decode cX6_type 17 = .ok (.aload_n 0, 1) := by decide +kernel
theorem dX6_type_18 : decode cX6_type 18 = .ok (.getfield 63, 3) := by decide +kernel
theorem dX6_type_21 : decode cX6_type 21 = .ok (.sipush 150, 3) := by decide +kernel
theorem dX6_type_24 : decode cX6_type 24 = .ok (.if_icmp .ne 8, 3) := by decide +kernel
theorem dX6_type_27 : decode cX6_type 27 = .ok (.aload_n 0, 1) := by decide +kernel
theorem dX6_type_28 : decode cX6_type 28 = .ok (.invokevirtual 50, 3) := by decide +kernel
theorem dX6_type_31 : decode cX6_type 31 = .ok (.ireturn, 1) := by decide +kernel
theorem dX6_type_32 : decode cX6_type 32 = .ok (.aload_n 0, 1) := by decide +kernel
theorem dX6_type_33 : decode cX6_type 33 = .ok (.getfield 17, 3) := by decide +kernel
theorem dX6_type_36 : decode cX6_type 36 = .ok (.aload_n 0, 1) := by decide +kernel
theorem dX6_type_37 : decode cX6_type 37 = .ok (.getfield 63, 3) := by decide +kernel
theorem dX6_type_40 : decode cX6_type 40 = .ok (.iload_n 1, 1) := by decide +kernel
theorem dX6_type_41 : decode cX6_type 41 = .ok (.iastore, 1) := by decide +kernel
theorem dX6_type_42 : decode cX6_type 42 = .ok (.aload_n 0, 1) := by decide +kernel
theorem dX6_type_43 : decode cX6_type 43 = .ok (.dup, 1) := by decide +kernel
theorem dX6_type_44 : decode cX6_type 44 = .ok (.getfield 63, 3) := by decide +kernel
theorem dX6_type_47 : decode cX6_type 47 = .ok (.iconst 1, 1) := by decide +kernel
theorem dX6_type_48 : decode cX6_type 48 = .ok (.iadd, 1) := by decide +kernel
theorem dX6_type_49 : decode cX6_type 49 = .ok (.putfield 63, 3) := by decide +kernel
theorem dX6_type_52 : decode cX6_type 52 = .ok (.aload_n 0, 1) := by decide +kernel
theorem dX6_type_53 : decode cX6_type 53 = .ok (.getfield 63, 3) := by decide +kernel
theorem dX6_type_56 : decode cX6_type 56 = .ok (.ireturn, 1) := by decide +kernel
theorem dX6_clear_0 : decode cX6_clear 0 = .ok (.aload_n 0, 1) := by decide +kernel
theorem dX6_clear_1 : decode cX6_clear 1 = .ok (.getfield 63, 3) := by decide +kernel
theorem dX6_clear_4 : decode cX6_clear 4 = .ok (.istore_n 1, 1) := by decide +kernel
theorem dX6_clear_5 : decode cX6_clear 5 = .ok (.aload_n 0, 1) := by decide +kernel
theorem dX6_clear_6 : decode cX6_clear 6 = .ok (.iconst 0, 1) := by decide +kernel
theorem dX6_clear_7 : decode cX6_clear 7 = .ok (.putfield 63, 3) := by decide +kernel
theorem dX6_clear_10 : decode cX6_clear 10 = .ok (.iload_n 1, 1) := by decide +kernel
theorem dX6_clear_11 : decode cX6_clear 11 = .ok (.ireturn, 1) := by decide +kernel
theorem dX6_byteAt_0 : decode cX6_byteAt 0 = .ok (.iload_n 1, 1) := by decide +kernel
theorem dX6_byteAt_1 : decode cX6_byteAt 1 = .ok (.aload_n 0, 1) := by decide +kernel
theorem dX6_byteAt_2 : decode cX6_byteAt 2 = .ok (.getfield 63, 3) := by decide +kernel
theorem dX6_byteAt_5 : decode cX6_byteAt 5 = .ok (.if_icmp .ge 12, 3) := by decide +kernel
theorem dX6_byteAt_8 : decode cX6_byteAt 8 = .ok (.aload_n 0, 1) := by decide +kernel
theorem dX6_byteAt_9 : decode cX6_byteAt 9 = .ok (.getfield 17, 3) := by decide +kernel
theorem dX6_byteAt_12 : decode cX6_byteAt 12 = .ok (.iload_n 1, 1) := by decide +kernel
theorem dX6_byteAt_13 : decode cX6_byteAt 13 = .ok (.iaload, 1) := by decide +kernel
theorem dX6_byteAt_14 : decode cX6_byteAt 14 = .ok (.goto 4, 3) := by decide +kernel
theorem dX6_byteAt_17 : decode cX6_byteAt 17 = .ok (.iconst (-1), 1) := by decide +kernel
theorem dX6_byteAt_18 : decode cX6_byteAt 18 = .ok (.ireturn, 1) := by decide +kernel
set_option maxRecDepth 20000 in
theorem ggX6_token_X6_byteAt : GoodIn wsX6_token wsX6_byteAt := goodIn_r _ [14, 9, 15, 19, 20, 21, 22, 23, 24, 25, 26, 27, 28, 29, 30, 31, 32, 33] (by decide +kernel) (by decide +kernel)
set_option maxRecDepth 20000 in
theorem gX6_token_X6_byteAt : GoodIn wsX6_token (wsV RX6 70 RX6 yX6_byteAt wsX6_byteAt) := goodIn_app (goodIn_of _ (by decide +kernel)) ggX6_token_X6_byteAt
set_option maxRecDepth 20000 in
theorem ggX6_token_X6_in : GoodIn wsX6_token wsX6_in := goodIn_r _ [18] (by decide +kernel) (by decide +kernel)
set_option maxRecDepth 20000 in
theorem gX6_token_X6_in : GoodIn wsX6_token (va_wsS RX6 34 yX6_in wsX6_in) := goodIn_app (goodIn_of _ (by decide +kernel)) ggX6_token_X6_in
theorem dX6_token_0 : decode cX6_token 0 = .ok (.aload_n 0, 1) := by decide +kernel
theorem dX6_token_1 : decode cX6_token 1 = .ok (.aload_n 0, 1) := by decide +kernel
theorem dX6_token_2 : decode cX6_token 2 = .ok (.getfield 67, 3) := by decide +kernel
theorem dX6_token_5 : decode cX6_token 5 = .ok (.invokevirtual 70, 3) := by decide +kernel
theorem dX6_token_8 : decode cX6_token 8 = .ok (.bipush 32, 2) := by decide +kernel
theorem dX6_token_10 : decode cX6_token 10 = .ok (.if_icmp .ne 16, 3) := by decide +kernel
theorem dX6_token_13 : decode cX6_token 13 = .ok (.aload_n 0, 1) := by decide +kernel
theorem dX6_token_14 : decode cX6_token 14 = .ok (.dup, 1) := by decide +kernel
theorem dX6_token_15 : decode cX6_token 15 = .ok (.getfield 67, 3) := by decide +kernel
theorem dX6_token_18 : decode cX6_token 18 = .ok (.iconst 1, 1) := by decide +kernel
theorem dX6_token_19 : decode cX6_token 19 = .ok (.iadd, 1) := by decide +kernel
theorem dX6_token_20 : decode cX6_token 20 = .ok (.putfield 67, 3) := by decide +kernel
theorem dX6_token_23 : decode cX6_token 23 = .ok (.goto (-23), 3) := by decide +kernel
theorem dX6_token_26 : decode cX6_token 26 = .ok (.aload_n 0, 1) := by decide +kernel
theorem dX6_token_27 : decode cX6_token 27 = .ok (.aload_n 0, 1) := by decide +kernel
theorem dX6_token_28 : decode cX6_token 28 = .ok (.getfield 67, 3) := by decide +kernel
theorem dX6_token_31 : decode cX6_token 31 = .ok (.putfield 74, 3) := by decide +kernel
theorem dX6_token_34 : decode cX6_token 34 = .ok (.aload_n 0, 1) := by decide +kernel
theorem dX6_token_35 : decode cX6_token 35 = .ok (.aload_n 0, 1) := by decide +kernel
theorem dX6_token_36 : decode cX6_token 36 = .ok (.aload_n 0, 1) := by decide +kernel
theorem dX6_token_37 : decode cX6_token 37 = .ok (.getfield 67, 3) := by decide +kernel
theorem dX6_token_40 : decode cX6_token 40 = .ok (.invokevirtual 70, 3) := by decide +kernel
theorem dX6_token_43 : decode cX6_token 43 = .ok (.i2l, 1) := by decide +kernel
theorem dX6_token_44 : decode cX6_token 44 = .ok (.ldc2_w 77, 3) := by decide +kernel
theorem dX6_token_47 : decode cX6_token 47 = .ok (.ldc2_w 79, 3) := by decide +kernel
theorem dX6_token_50 : decode cX6_token 50 = .ok (.invokestatic 34, 3) := by decide +kernel
theorem dX6_token_53 : decode cX6_token 53 = .ok (.putfield 81, 3) := by decide +kernel
theorem dX6_token_56 : decode cX6_token 56 = .ok (.aload_n 0, 1) := by decide +kernel
theorem dX6_token_57 : decode cX6_token 57 = .ok (.aload_n 0, 1) := by decide +kernel
theorem dX6_token_58 : decode cX6_token 58 = .ok (.aload_n 0, 1) := by decide +kernel
theorem dX6_token_59 : decode cX6_token 59 = .ok (.getfield 67, 3) := by decide +kernel
theorem dX6_token_62 : decode cX6_token 62 = .ok (.invokevirtual 70, 3) := by decide +kernel
theorem dX6_token_65 : decode cX6_token 65 = .ok (.i2l, 1) := by decide +kernel
theorem dX6_token_66 : decode cX6_token 66 = .ok (.ldc2_w 85, 3) := by decide +kernel
theorem dX6_token_69 : decode cX6_token 69 = .ok (.ldc2_w 87, 3) := by decide +kernel
theorem dX6_token_72 : decode cX6_token 72 = .ok (.invokestatic 34, 3) := by decide +kernel
theorem dX6_token_75 : decode cX6_token 75 = .ok (.putfield 89, 3) := by decide +kernel
theorem dX6_token_78 : decode cX6_token 78 = .ok (.aload_n 0, 1) := by decide +kernel
theorem dX6_token_79 : decode cX6_token 79 = .ok (.dup, 1) := by decide +kernel
theorem dX6_token_80 : decode cX6_token 80 = .ok (.getfield 67, 3) := by decide +kernel
theorem dX6_token_83 : decode cX6_token 83 = .ok (.aload_n 0, 1) := by decide +kernel
theorem dX6_token_84 : decode cX6_token 84 = .ok (.getfield 67, 3) := by decide +kernel
theorem dX6_token_87 : decode cX6_token 87 = .ok (.aload_n 0, 1) := by decide +kernel
theorem dX6_token_88 : decode cX6_token 88 = .ok (.getfield 63, 3) := by decide +kernel
theorem dX6_token_91 : decode cX6_token 91 = .ok (.if_icmp .ge 7, 3) := by decide +kernel
theorem dX6_token_94 : decode cX6_token 94 = .ok (.iconst 1, 1) := by decide +kernel
theorem dX6_token_95 : decode cX6_token 95 = .ok (.goto 4, 3) := by decide +kernel
theorem dX6_token_98 : decode cX6_token 98 = .ok (.iconst 0, 1) := by decide +kernel
theorem dX6_token_99 : decode cX6_token 99 = .ok (.iadd, 1) := by decide +kernel
theorem dX6_token_100 : decode cX6_token 100 = .ok (.putfield 67, 3) := by decide +kernel
theorem dX6_token_103 : decode cX6_token 103 = .ok (.aload_n 0, 1) := by decide +kernel
theorem dX6_token_104 : decode cX6_token 104 = .ok (.getfield 81, 3) := by decide +kernel
theorem dX6_token_107 : decode cX6_token 107 = .ok (.ifCond .eq 24, 3) := by decide +kernel
theorem dX6_token_110 : decode cX6_token 110 = .ok (.aload_n 0, 1) := by decide +kernel
theorem dX6_token_111 : decode cX6_token 111 = .ok (.aload_n 0, 1) := by decide +kernel
theorem dX6_token_112 : decode cX6_token 112 = .ok (.getfield 67, 3) := by decide +kernel
theorem dX6_token_115 : decode cX6_token 115 = .ok (.invokevirtual 70, 3) := by decide +kernel
theorem dX6_token_118 : decode cX6_token 118 = .ok (.i2l, 1) := by decide +kernel
theorem dX6_token_119 : decode cX6_token 119 = .ok (.ldc2_w 77, 3) := by decide +kernel
theorem dX6_token_122 : decode cX6_token 122 = .ok (.ldc2_w 79, 3) := by decide +kernel
theorem dX6_token_125 : decode cX6_token 125 = .ok (.invokestatic 34, 3) := by decide +kernel
theorem dX6_token_128 : decode cX6_token 128 = .ok (.ifCond .ne 31, 3) := by decide +kernel
theorem dX6_token_131 : decode cX6_token 131 = .ok (.aload_n 0, 1) := by decide +kernel
theorem dX6_token_132 : decode cX6_token 132 = .ok (.getfield 89, 3) := by decide +kernel
theorem dX6_token_135 : decode cX6_token 135 = .ok (.ifCond .eq 37, 3) := by decide +kernel
theorem dX6_token_138 : decode cX6_token 138 = .ok (.aload_n 0, 1) := by decide +kernel
theorem dX6_token_139 : decode cX6_token 139 = .ok (.aload_n 0, 1) := by decide +kernel
theorem dX6_token_140 : decode cX6_token 140 = .ok (.getfield 67, 3) := by decide +kernel
theorem dX6_token_143 : decode cX6_token 143 = .ok (.invokevirtual 70, 3) := by decide +kernel
theorem dX6_token_146 : decode cX6_token 146 = .ok (.i2l, 1) := by decide +kernel
theorem dX6_token_147 : decode cX6_token 147 = .ok (.ldc2_w 85, 3) := by decide +kernel
theorem dX6_token_150 : decode cX6_token 150 = .ok (.ldc2_w 87, 3) := by decide +kernel
theorem dX6_token_153 : decode cX6_token 153 = .ok (.invokestatic 34, 3) := by decide +kernel
theorem dX6_token_156 : decode cX6_token 156 = .ok (.ifCond .eq 16, 3) := by decide +kernel
theorem dX6_token_159 : decode cX6_token 159 = .ok (.aload_n 0, 1) := by decide +kernel
theorem dX6_token_160 : decode cX6_token 160 = .ok (.dup, 1) := by decide +kernel
theorem dX6_token_161 : decode cX6_token 161 = .ok (.getfield 67, 3) := by decide +kernel
theorem dX6_token_164 : decode cX6_token 164 = .ok (.iconst 1, 1) := by decide +kernel
theorem dX6_token_165 : decode cX6_token 165 = .ok (.iadd, 1) := by decide +kernel
theorem dX6_token_166 : decode cX6_token 166 = .ok (.putfield 67, 3) := by decide +kernel
theorem dX6_token_169 : decode cX6_token 169 = .ok (.goto (-66), 3) := by decide +kernel
theorem dX6_token_172 : decode cX6_token 172 = .ok (.return_, 1) := by decide +kernel
set_option maxRecDepth 20000 in
theorem ggX6_isNamed_X6_byteAt : GoodIn wsX6_isNamed wsX6_byteAt := goodIn_r _ [8, 9, 10, 11, 12, 13, 14, 15, 16, 17, 18, 19, 20, 21, 22, 23, 24, 25] (by decide +kernel) (by decide +kernel)
set_option maxRecDepth 20000 in
theorem gX6_isNamed_X6_byteAt : GoodIn wsX6_isNamed (wsV RX6 70 RX6 yX6_byteAt wsX6_byteAt) := goodIn_app (goodIn_of _ (by decide +kernel)) ggX6_isNamed_X6_byteAt
theorem dX6_isNamed_0 : decode cX6_isNamed 0 = .ok (.aload_n 0, 1) := by decide +kernel
theorem dX6_isNamed_1 : decode cX6_isNamed 1 = .ok (.getfield 81, 3) := by decide +kernel
theorem dX6_isNamed_4 : decode cX6_isNamed 4 = .ok (.ifCond .eq 29, 3) := by decide +kernel
theorem dX6_isNamed_7 : decode cX6_isNamed 7 = .ok (.aload_n 0, 1) := by decide +kernel
theorem dX6_isNamed_8 : decode cX6_isNamed 8 = .ok (.getfield 67, 3) := by decide +kernel
theorem dX6_isNamed_11 : decode cX6_isNamed 11 = .ok (.aload_n 0, 1) := by decide +kernel
theorem dX6_isNamed_12 : decode cX6_isNamed 12 = .ok (.getfield 74, 3) := by decide +kernel
theorem dX6_isNamed_15 : decode cX6_isNamed 15 = .ok (.isub, 1) := by decide +kernel
theorem dX6_isNamed_16 : decode cX6_isNamed 16 = .ok (.iload 5, 2) := by decide +kernel
theorem dX6_isNamed_18 : decode cX6_isNamed 18 = .ok (.ifCond .ne 7, 3) := by decide +kernel
theorem dX6_isNamed_21 : decode cX6_isNamed 21 = .ok (.iconst 4, 1) := by decide +kernel
theorem dX6_isNamed_22 : decode cX6_isNamed 22 = .ok (.goto 4, 3) := by decide +kernel
theorem dX6_isNamed_25 : decode cX6_isNamed 25 = .ok (.iconst 5, 1) := by decide +kernel
theorem dX6_isNamed_26 : decode cX6_isNamed 26 = .ok (.if_icmp .ne 7, 3) := by decide +kernel
theorem dX6_isNamed_29 : decode cX6_isNamed 29 = .ok (.iconst 1, 1) := by decide +kernel
theorem dX6_isNamed_30 : decode cX6_isNamed 30 = .ok (.goto 4, 3) := by decide +kernel
theorem dX6_isNamed_33 : decode cX6_isNamed 33 = .ok (.iconst 0, 1) := by decide +kernel
theorem dX6_isNamed_34 : decode cX6_isNamed 34 = .ok (.istore 6, 2) := by decide +kernel
theorem dX6_isNamed_36 : decode cX6_isNamed 36 = .ok (.iload 6, 2) := by decide +kernel
theorem dX6_isNamed_38 : decode cX6_isNamed 38 = .ok (.ifCond .eq 82, 3) := by decide +kernel
theorem dX6_isNamed_41 : decode cX6_isNamed 41 = .ok (.aload_n 0, 1) := by decide +kernel
theorem dX6_isNamed_42 : decode cX6_isNamed 42 = .ok (.aload_n 0, 1) := by decide +kernel
theorem dX6_isNamed_43 : decode cX6_isNamed 43 = .ok (.getfield 74, 3) := by decide +kernel
theorem dX6_isNamed_46 : decode cX6_isNamed 46 = .ok (.invokevirtual 70, 3) := by decide +kernel
theorem dX6_isNamed_49 : decode cX6_isNamed 49 = .ok (.iload_n 1, 1) := by decide +kernel
theorem dX6_isNamed_50 : decode cX6_isNamed 50 = .ok (.if_icmp .ne 70, 3) := by decide +kernel
theorem dX6_isNamed_53 : decode cX6_isNamed 53 = .ok (.aload_n 0, 1) := by decide +kernel
theorem dX6_isNamed_54 : decode cX6_isNamed 54 = .ok (.aload_n 0, 1) := by decide +kernel
theorem dX6_isNamed_55 : decode cX6_isNamed 55 = .ok (.getfield 74, 3) := by decide +kernel
theorem dX6_isNamed_58 : decode cX6_isNamed 58 = .ok (.iconst 1, 1) := by decide +kernel
theorem dX6_isNamed_59 : decode cX6_isNamed 59 = .ok (.iadd, 1) := by decide +kernel
theorem dX6_isNamed_60 : decode cX6_isNamed 60 = .ok (.invokevirtual 70, 3) := by decide +kernel
theorem dX6_isNamed_63 : decode cX6_isNamed 63 = .ok (.iload_n 2, 1) := by decide +kernel
theorem dX6_isNamed_64 : decode cX6_isNamed 64 = .ok (.if_icmp .ne 56, 3) := by decide +kernel
theorem dX6_isNamed_67 : decode cX6_isNamed 67 = .ok (.aload_n 0, 1) := by decide +kernel
theorem dX6_isNamed_68 : decode cX6_isNamed 68 = .ok (.aload_n 0, 1) := by decide +kernel
theorem dX6_isNamed_69 : decode cX6_isNamed 69 = .ok (.getfield 74, 3) := by decide +kernel
theorem dX6_isNamed_72 : decode cX6_isNamed 72 = .ok (.iconst 2, 1) := by decide +kernel
theorem dX6_isNamed_73 : decode cX6_isNamed 73 = .ok (.iadd, 1) := by decide +kernel
theorem dX6_isNamed_74 : decode cX6_isNamed 74 = .ok (.invokevirtual 70, 3) := by decide +kernel
theorem dX6_isNamed_77 : decode cX6_isNamed 77 = .ok (.iload_n 3, 1) := by decide +kernel
theorem dX6_isNamed_78 : decode cX6_isNamed 78 = .ok (.if_icmp .ne 42, 3) := by decide +kernel
theorem dX6_isNamed_81 : decode cX6_isNamed 81 = .ok (.aload_n 0, 1) := by decide +kernel
theorem dX6_isNamed_82 : decode cX6_isNamed 82 = .ok (.aload_n 0, 1) := by decide +kernel
theorem dX6_isNamed_83 : decode cX6_isNamed 83 = .ok (.getfield 74, 3) := by decide +kernel
theorem dX6_isNamed_86 : decode cX6_isNamed 86 = .ok (.iconst 3, 1) := by decide +kernel
theorem dX6_isNamed_87 : decode cX6_isNamed 87 = .ok (.iadd, 1) := by decide +kernel
theorem dX6_isNamed_88 : decode cX6_isNamed 88 = .ok (.invokevirtual 70, 3) := by decide +kernel
theorem dX6_isNamed_91 : decode cX6_isNamed 91 = .ok (.iload 4, 2) := by decide +kernel
theorem dX6_isNamed_93 : decode cX6_isNamed 93 = .ok (.if_icmp .ne 27, 3) := by decide +kernel
theorem dX6_isNamed_96 : decode cX6_isNamed 96 = .ok (.iload 5, 2) := by decide +kernel
theorem dX6_isNamed_98 : decode cX6_isNamed 98 = .ok (.ifCond .eq 18, 3) := by decide +kernel
theorem dX6_isNamed_101 : decode cX6_isNamed 101 = .ok (.aload_n 0, 1) := by decide +kernel
theorem dX6_isNamed_102 : decode cX6_isNamed 102 = .ok (.aload_n 0, 1) := by decide +kernel
theorem dX6_isNamed_103 : decode cX6_isNamed 103 = .ok (.getfield 74, 3) := by decide +kernel
theorem dX6_isNamed_106 : decode cX6_isNamed 106 = .ok (.iconst 4, 1) := by decide +kernel
theorem dX6_isNamed_107 : decode cX6_isNamed 107 = .ok (.iadd, 1) := by decide +kernel
theorem dX6_isNamed_108 : decode cX6_isNamed 108 = .ok (.invokevirtual 70, 3) := by decide +kernel
theorem dX6_isNamed_111 : decode cX6_isNamed 111 = .ok (.iload 5, 2) := by decide +kernel
theorem dX6_isNamed_113 : decode cX6_isNamed 113 = .ok (.if_icmp .ne 7, 3) := by decide +kernel
theorem dX6_isNamed_116 : decode cX6_isNamed 116 = .ok (.iconst 1, 1) := by decide +kernel
theorem dX6_isNamed_117 : decode cX6_isNamed 117 = .ok (.goto 4, 3) := by decide +kernel
theorem dX6_isNamed_120 : decode cX6_isNamed 120 = .ok (.iconst 0, 1) := by decide +kernel
theorem dX6_isNamed_121 : decode cX6_isNamed 121 = .ok (.ireturn, 1) := by decide +kernel
set_option maxRecDepth 20000 in
theorem ggX6_wordNow_X6_isNamed : GoodIn wsX6_wordNow wsX6_isNamed := goodIn_r _ [5, 6, 7, 8, 9, 10, 11, 4, 12, 13, 14, 15, 16, 17, 18, 19, 20, 21, 22, 23, 24, 25, 26, 27, 28, 29] (by decide +kernel) (by decide +kernel)
set_option maxRecDepth 20000 in
theorem gX6_wordNow_X6_isNamed : GoodIn wsX6_wordNow (wsV RX6 92 RX6 yX6_isNamed wsX6_isNamed) := goodIn_app (goodIn_of _ (by decide +kernel)) ggX6_wordNow_X6_isNamed
theorem dX6_wordNow_0 : decode cX6_wordNow 0 = .ok (.aload_n 0, 1) := by decide +kernel
theorem dX6_wordNow_1 : decode cX6_wordNow 1 = .ok (.bipush 104, 2) := by decide +kernel
theorem dX6_wordNow_3 : decode cX6_wordNow 3 = .ok (.bipush 111, 2) := by decide +kernel
theorem dX6_wordNow_5 : decode cX6_wordNow 5 = .ok (.bipush 117, 2) := by decide +kernel
theorem dX6_wordNow_7 : decode cX6_wordNow 7 = .ok (.bipush 115, 2) := by decide +kernel
theorem dX6_wordNow_9 : decode cX6_wordNow 9 = .ok (.bipush 101, 2) := by decide +kernel
theorem dX6_wordNow_11 : decode cX6_wordNow 11 = .ok (.invokevirtual 92, 3) := by decide +kernel
theorem dX6_wordNow_14 : decode cX6_wordNow 14 = .ok (.ifCond .eq 5, 3) := by decide +kernel
theorem dX6_wordNow_17 : decode cX6_wordNow 17 = .ok (.iconst 0, 1) := by decide +kernel
theorem dX6_wordNow_18 : decode cX6_wordNow 18 = .ok (.ireturn, 1) := by decide +kernel
theorem dX6_wordNow_19 : decode cX6_wordNow 19 = .ok (.aload_n 0, 1) := by decide +kernel
theorem dX6_wordNow_20 : decode cX6_wordNow 20 = .ok (.bipush 108, 2) := by decide +kernel
theorem dX6_wordNow_22 : decode cX6_wordNow 22 = .ok (.bipush 105, 2) := by decide +kernel
theorem dX6_wordNow_24 : decode cX6_wordNow 24 = .ok (.bipush 102, 2) := by decide +kernel
theorem dX6_wordNow_26 : decode cX6_wordNow 26 = .ok (.bipush 116, 2) := by decide +kernel
theorem dX6_wordNow_28 : decode cX6_wordNow 28 = .ok (.iconst 0, 1) := by decide +kernel
theorem dX6_wordNow_29 : decode cX6_wordNow 29 = .ok (.invokevirtual 92, 3) := by decide +kernel
theorem dX6_wordNow_32 : decode cX6_wordNow 32 = .ok (.ifCond .eq 7, 3) := by decide +kernel
theorem dX6_wordNow_35 : decode cX6_wordNow 35 = .ok (.iconst 1, 1) := by decide +kernel
theorem dX6_wordNow_36 : decode cX6_wordNow 36 = .ok (.goto 24, 3) := by decide +kernel
theorem dX6_wordNow_39 : decode cX6_wordNow 39 = .ok (.aload_n 0, 1) := by decide +kernel
theorem dX6_wordNow_40 : decode cX6_wordNow 40 = .ok (.bipush 108, 2) := by decide +kernel
theorem dX6_wordNow_42 : decode cX6_wordNow 42 = .ok (.bipush 105, 2) := by decide +kernel
theorem dX6_wordNow_44 : decode cX6_wordNow 44 = .ok (.bipush 110, 2) := by decide +kernel
theorem dX6_wordNow_46 : decode cX6_wordNow 46 = .ok (.bipush 101, 2) := by decide +kernel
theorem dX6_wordNow_48 : decode cX6_wordNow 48 = .ok (.iconst 0, 1) := by decide +kernel
theorem dX6_wordNow_49 : decode cX6_wordNow 49 = .ok (.invokevirtual 92, 3) := by decide +kernel
theorem dX6_wordNow_52 : decode cX6_wordNow 52 = .ok (.ifCond .eq 7, 3) := by decide +kernel
theorem dX6_wordNow_55 : decode cX6_wordNow 55 = .ok (.iconst 2, 1) := by decide +kernel
theorem dX6_wordNow_56 : decode cX6_wordNow 56 = .ok (.goto 4, 3) := by decide +kernel
theorem dX6_wordNow_59 : decode cX6_wordNow 59 = .ok (.iconst (-1), 1) := by decide +kernel
theorem dX6_wordNow_60 : decode cX6_wordNow 60 = .ok (.ireturn, 1) := by decide +kernel
set_option maxRecDepth 20000 in
theorem ggX6_takes_X6_token : GoodIn wsX6_takes wsX6_token := goodIn_r _ [9, 2, 3, 10, 11, 12, 13, 14, 1, 15, 16, 17, 18, 8, 19, 20, 21, 22, 23, 24, 25, 26, 27, 28, 29, 30, 31, 32, 33, 34, 35, 36, 37, 38] (by decide +kernel) (by decide +kernel)
set_option maxRecDepth 20000 in
theorem gX6_takes_X6_token : GoodIn wsX6_takes (wsV RX6 96 RX6 yX6_token wsX6_token) := goodIn_app (goodIn_of _ (by decide +kernel)) ggX6_takes_X6_token
set_option maxRecDepth 20000 in
theorem ggX6_takes_X6_byteAt : GoodIn wsX6_takes wsX6_byteAt := goodIn_r _ [19, 15, 20, 24, 25, 26, 27, 28, 29, 30, 31, 32, 33, 34, 35, 36, 37, 38] (by decide +kernel) (by decide +kernel)
set_option maxRecDepth 20000 in
theorem gX6_takes_X6_byteAt : GoodIn wsX6_takes (wsV RX6 70 RX6 yX6_byteAt wsX6_byteAt) := goodIn_app (goodIn_of _ (by decide +kernel)) ggX6_takes_X6_byteAt
set_option maxRecDepth 20000 in
theorem ggX6_takes_X6_in : GoodIn wsX6_takes wsX6_in := goodIn_r _ [23] (by decide +kernel) (by decide +kernel)
set_option maxRecDepth 20000 in
theorem gX6_takes_X6_in : GoodIn wsX6_takes (va_wsS RX6 34 yX6_in wsX6_in) := goodIn_app (goodIn_of _ (by decide +kernel)) ggX6_takes_X6_in
theorem dX6_takes_0 : decode cX6_takes 0 = .ok (.aload_n 0, 1) := by decide +kernel
theorem dX6_takes_1 : decode cX6_takes 1 = .ok (.invokevirtual 96, 3) := by decide +kernel
theorem dX6_takes_4 : decode cX6_takes 4 = .ok (.aload_n 0, 1) := by decide +kernel
theorem dX6_takes_5 : decode cX6_takes 5 = .ok (.getfield 89, 3) := by decide +kernel
theorem dX6_takes_8 : decode cX6_takes 8 = .ok (.ifCond .eq 16, 3) := by decide +kernel
theorem dX6_takes_11 : decode cX6_takes 11 = .ok (.aload_n 0, 1) := by decide +kernel
theorem dX6_takes_12 : decode cX6_takes 12 = .ok (.getfield 67, 3) := by decide +kernel
theorem dX6_takes_15 : decode cX6_takes 15 = .ok (.aload_n 0, 1) := by decide +kernel
theorem dX6_takes_16 : decode cX6_takes 16 = .ok (.getfield 74, 3) := by decide +kernel
theorem dX6_takes_19 : decode cX6_takes 19 = .ok (.isub, 1) := by decide +kernel
theorem dX6_takes_20 : decode cX6_takes 20 = .ok (.iconst 2, 1) := by decide +kernel
theorem dX6_takes_21 : decode cX6_takes 21 = .ok (.if_icmp .le 5, 3) := by decide +kernel
theorem dX6_takes_24 : decode cX6_takes 24 = .ok (.iconst 0, 1) := by decide +kernel
theorem dX6_takes_25 : decode cX6_takes 25 = .ok (.ireturn, 1) := by decide +kernel
theorem dX6_takes_26 : decode cX6_takes 26 = .ok (.iconst 0, 1) := by decide +kernel
theorem dX6_takes_27 : decode cX6_takes 27 = .ok (.istore 4, 2) := by decide +kernel
theorem dX6_takes_29 : decode cX6_takes 29 = .ok (.aload_n 0, 1) := by decide +kernel
theorem dX6_takes_30 : decode cX6_takes 30 = .ok (.getfield 74, 3) := by decide +kernel
theorem dX6_takes_33 : decode cX6_takes 33 = .ok (.istore 5, 2) := by decide +kernel
theorem dX6_takes_35 : decode cX6_takes 35 = .ok (.iload 5, 2) := by decide +kernel
theorem dX6_takes_37 : decode cX6_takes 37 = .ok (.aload_n 0, 1) := by decide +kernel
theorem dX6_takes_38 : decode cX6_takes 38 = .ok (.getfield 67, 3) := by decide +kernel
theorem dX6_takes_41 : decode cX6_takes 41 = .ok (.if_icmp .ge 26, 3) := by decide +kernel
theorem dX6_takes_44 : decode cX6_takes 44 = .ok (.bipush 10, 2) := by decide +kernel
theorem dX6_takes_46 : decode cX6_takes 46 = .ok (.iload 4, 2) := by decide +kernel
theorem dX6_takes_48 : decode cX6_takes 48 = .ok (.imul, 1) := by decide +kernel
theorem dX6_takes_49 : decode cX6_takes 49 = .ok (.aload_n 0, 1) := by decide +kernel
theorem dX6_takes_50 : decode cX6_takes 50 = .ok (.iload 5, 2) := by decide +kernel
theorem dX6_takes_52 : decode cX6_takes 52 = .ok (.invokevirtual 70, 3) := by decide +kernel
theorem dX6_takes_55 : decode cX6_takes 55 = .ok (.iadd, 1) := by decide +kernel
theorem dX6_takes_56 : decode cX6_takes 56 = .ok (.bipush 48, 2) := by decide +kernel
theorem dX6_takes_58 : decode cX6_takes 58 = .ok (.isub, 1) := by decide +kernel
theorem dX6_takes_59 : decode cX6_takes 59 = .ok (.istore 4, 2) := by decide +kernel
theorem dX6_takes_61 : decode cX6_takes 61 = .ok (.iinc 5 1, 3) := by decide +kernel
theorem dX6_takes_64 : decode cX6_takes 64 = .ok (.goto (-29), 3) := by decide +kernel
theorem dX6_takes_67 : decode cX6_takes 67 = .ok (.aload_n 0, 1) := by decide +kernel
theorem dX6_takes_68 : decode cX6_takes 68 = .ok (.getfield 27, 3) := by decide +kernel
theorem dX6_takes_71 : decode cX6_takes 71 = .ok (.iload_n 1, 1) := by decide +kernel
theorem dX6_takes_72 : decode cX6_takes 72 = .ok (.iload 4, 2) := by decide +kernel
theorem dX6_takes_74 : decode cX6_takes 74 = .ok (.iastore, 1) := by decide +kernel
theorem dX6_takes_75 : decode cX6_takes 75 = .ok (.iload 4, 2) := by decide +kernel
theorem dX6_takes_77 : decode cX6_takes 77 = .ok (.i2l, 1) := by decide +kernel
theorem dX6_takes_78 : decode cX6_takes 78 = .ok (.iload_n 2, 1) := by decide +kernel
theorem dX6_takes_79 : decode cX6_takes 79 = .ok (.i2l, 1) := by decide +kernel
theorem dX6_takes_80 : decode cX6_takes 80 = .ok (.iload_n 3, 1) := by decide +kernel
theorem dX6_takes_81 : decode cX6_takes 81 = .ok (.i2l, 1) := by decide +kernel
theorem dX6_takes_82 : decode cX6_takes 82 = .ok (.invokestatic 34, 3) := by decide +kernel
theorem dX6_takes_85 : decode cX6_takes 85 = .ok (.ireturn, 1) := by decide +kernel
set_option maxRecDepth 20000 in
theorem ggX6_takesHouse_X6_takes : GoodIn wsX6_takesHouse wsX6_takes := goodIn_r _ [7, 8, 9, 10, 2, 11, 12, 13, 6, 14, 15, 16, 17, 18, 19, 20, 21, 22, 23, 24, 25, 26, 27, 28, 29, 30, 31, 32, 33, 34, 35, 36, 37, 38, 39, 40, 41, 42, 43] (by decide +kernel) (by decide +kernel)
set_option maxRecDepth 20000 in
theorem gX6_takesHouse_X6_takes : GoodIn wsX6_takesHouse (wsV RX6 99 RX6 yX6_takes wsX6_takes) := goodIn_app (goodIn_of _ (by decide +kernel)) ggX6_takesHouse_X6_takes
theorem dX6_takesHouse_0 : decode cX6_takesHouse 0 = .ok (.aload_n 0, 1) := by decide +kernel
theorem dX6_takesHouse_1 : decode cX6_takesHouse 1 = .ok (.iconst 0, 1) := by decide +kernel
theorem dX6_takesHouse_2 : decode cX6_takesHouse 2 = .ok (.iconst 1, 1) := by decide +kernel
theorem dX6_takesHouse_3 : decode cX6_takesHouse 3 = .ok (.bipush 11, 2) := by decide +kernel
theorem dX6_takesHouse_5 : decode cX6_takesHouse 5 = .ok (.invokevirtual 99, 3) := by decide +kernel
theorem dX6_takesHouse_8 : decode cX6_takesHouse 8 = .ok (.ifCond .ne 5, 3) := by decide +kernel
theorem dX6_takesHouse_11 : decode cX6_takesHouse 11 = .ok (.iconst 0, 1) := by decide +kernel
theorem dX6_takesHouse_12 : decode cX6_takesHouse 12 = .ok (.ireturn, 1) := by decide +kernel
theorem dX6_takesHouse_13 : decode cX6_takesHouse 13 = .ok (.aload_n 0, 1) := by decide +kernel
theorem dX6_takesHouse_14 : decode cX6_takesHouse 14 = .ok (.getfield 7, 3) := by decide +kernel
theorem dX6_takesHouse_17 : decode cX6_takesHouse 17 = .ok (.sipush 148, 3) := by decide +kernel
theorem dX6_takesHouse_20 : decode cX6_takesHouse 20 = .ok (.aload_n 0, 1) := by decide +kernel
theorem dX6_takesHouse_21 : decode cX6_takesHouse 21 = .ok (.getfield 27, 3) := by decide +kernel
theorem dX6_takesHouse_24 : decode cX6_takesHouse 24 = .ok (.iconst 0, 1) := by decide +kernel
theorem dX6_takesHouse_25 : decode cX6_takesHouse 25 = .ok (.iaload, 1) := by decide +kernel
theorem dX6_takesHouse_26 : decode cX6_takesHouse 26 = .ok (.iastore, 1) := by decide +kernel
theorem dX6_takesHouse_27 : decode cX6_takesHouse 27 = .ok (.iconst 1, 1) := by decide +kernel
theorem dX6_takesHouse_28 : decode cX6_takesHouse 28 = .ok (.ireturn, 1) := by decide +kernel
set_option maxRecDepth 20000 in
theorem ggX6_takesLift_X6_takes : GoodIn wsX6_takesLift wsX6_takes := goodIn_r _ [7, 8, 9, 10, 2, 11, 12, 13, 6, 14, 15, 16, 17, 18, 19, 20, 21, 22, 23, 24, 25, 26, 27, 28, 33, 34, 35, 36, 37, 38, 39, 40, 41, 42, 43, 44, 45, 46, 47] (by decide +kernel) (by decide +kernel)
set_option maxRecDepth 20000 in
theorem gX6_takesLift_X6_takes : GoodIn wsX6_takesLift (wsV RX6 99 RX6 yX6_takes wsX6_takes) := goodIn_app (goodIn_of _ (by decide +kernel)) ggX6_takesLift_X6_takes
set_option maxRecDepth 20000 in
theorem ggX6_takesLift_X6_adds : GoodIn wsX6_takesLift wsX6_adds := goodIn_r _ [32, 1, 33, 34, 35, 36, 37, 38, 39, 40, 41, 42, 43, 44, 45, 46, 47] (by decide +kernel) (by decide +kernel)
set_option maxRecDepth 20000 in
theorem gX6_takesLift_X6_adds : GoodIn wsX6_takesLift (wsV RX6 53 RX6 yX6_adds wsX6_adds) := goodIn_app (goodIn_of _ (by decide +kernel)) ggX6_takesLift_X6_adds
theorem dX6_takesLift_0 : decode cX6_takesLift 0 = .ok (.aload_n 0, 1) := by decide +kernel
theorem dX6_takesLift_1 : decode cX6_takesLift 1 = .ok (.getfield 7, 3) := by decide +kernel
theorem dX6_takesLift_4 : decode cX6_takesLift 4 = .ok (.sipush 147, 3) := by decide +kernel
theorem dX6_takesLift_7 : decode cX6_takesLift 7 = .ok (.iaload, 1) := by decide +kernel
theorem dX6_takesLift_8 : decode cX6_takesLift 8 = .ok (.iconst 4, 1) := by decide +kernel
theorem dX6_takesLift_9 : decode cX6_takesLift 9 = .ok (.if_icmp .eq 24, 3) := by decide +kernel
theorem dX6_takesLift_12 : decode cX6_takesLift 12 = .ok (.aload_n 0, 1) := by decide +kernel
theorem dX6_takesLift_13 : decode cX6_takesLift 13 = .ok (.iconst 0, 1) := by decide +kernel
theorem dX6_takesLift_14 : decode cX6_takesLift 14 = .ok (.iconst 0, 1) := by decide +kernel
theorem dX6_takesLift_15 : decode cX6_takesLift 15 = .ok (.iconst 5, 1) := by decide +kernel
theorem dX6_takesLift_16 : decode cX6_takesLift 16 = .ok (.invokevirtual 99, 3) := by decide +kernel
theorem dX6_takesLift_19 : decode cX6_takesLift 19 = .ok (.ifCond .eq 14, 3) := by decide +kernel
theorem dX6_takesLift_22 : decode cX6_takesLift 22 = .ok (.aload_n 0, 1) := by decide +kernel
theorem dX6_takesLift_23 : decode cX6_takesLift 23 = .ok (.iconst 1, 1) := by decide +kernel
theorem dX6_takesLift_24 : decode cX6_takesLift 24 = .ok (.iconst 0, 1) := by decide +kernel
theorem dX6_takesLift_25 : decode cX6_takesLift 25 = .ok (.bipush 99, 2) := by decide +kernel
theorem dX6_takesLift_27 : decode cX6_takesLift 27 = .ok (.invokevirtual 99, 3) := by decide +kernel
theorem dX6_takesLift_30 : decode cX6_takesLift 30 = .ok (.ifCond .ne 5, 3) := by decide +kernel
theorem dX6_takesLift_33 : decode cX6_takesLift 33 = .ok (.iconst 0, 1) := by decide +kernel
theorem dX6_takesLift_34 : decode cX6_takesLift 34 = .ok (.ireturn, 1) := by decide +kernel
theorem dX6_takesLift_35 : decode cX6_takesLift 35 = .ok (.aload_n 0, 1) := by decide +kernel
theorem dX6_takesLift_36 : decode cX6_takesLift 36 = .ok (.sipush 147, 3) := by decide +kernel
theorem dX6_takesLift_39 : decode cX6_takesLift 39 = .ok (.aload_n 0, 1) := by decide +kernel
theorem dX6_takesLift_40 : decode cX6_takesLift 40 = .ok (.getfield 27, 3) := by decide +kernel
theorem dX6_takesLift_43 : decode cX6_takesLift 43 = .ok (.iconst 0, 1) := by decide +kernel
theorem dX6_takesLift_44 : decode cX6_takesLift 44 = .ok (.iaload, 1) := by decide +kernel
theorem dX6_takesLift_45 : decode cX6_takesLift 45 = .ok (.aload_n 0, 1) := by decide +kernel
theorem dX6_takesLift_46 : decode cX6_takesLift 46 = .ok (.getfield 27, 3) := by decide +kernel
theorem dX6_takesLift_49 : decode cX6_takesLift 49 = .ok (.iconst 1, 1) := by decide +kernel
theorem dX6_takesLift_50 : decode cX6_takesLift 50 = .ok (.iaload, 1) := by decide +kernel
theorem dX6_takesLift_51 : decode cX6_takesLift 51 = .ok (.invokevirtual 53, 3) := by decide +kernel
theorem dX6_takesLift_54 : decode cX6_takesLift 54 = .ok (.ifCond .lt 7, 3) := by decide +kernel
theorem dX6_takesLift_57 : decode cX6_takesLift 57 = .ok (.iconst 1, 1) := by decide +kernel
theorem dX6_takesLift_58 : decode cX6_takesLift 58 = .ok (.goto 4, 3) := by decide +kernel
theorem dX6_takesLift_61 : decode cX6_takesLift 61 = .ok (.iconst 0, 1) := by decide +kernel
theorem dX6_takesLift_62 : decode cX6_takesLift 62 = .ok (.ireturn, 1) := by decide +kernel
set_option maxRecDepth 20000 in
theorem ggX6_takesLine_X6_takes : GoodIn wsX6_takesLine wsX6_takes := goodIn_r _ [7, 8, 9, 10, 2, 11, 12, 13, 6, 14, 15, 16, 17, 18, 19, 20, 21, 22, 23, 24, 25, 26, 27, 28, 29, 30, 31, 32, 33, 34, 35, 36, 37, 38, 39, 40, 41, 42, 43] (by decide +kernel) (by decide +kernel)
set_option maxRecDepth 20000 in
theorem gX6_takesLine_X6_takes : GoodIn wsX6_takesLine (wsV RX6 99 RX6 yX6_takes wsX6_takes) := goodIn_app (goodIn_of _ (by decide +kernel)) ggX6_takesLine_X6_takes
theorem dX6_takesLine_0 : decode cX6_takesLine 0 = .ok (.aload_n 0, 1) := by decide +kernel
theorem dX6_takesLine_1 : decode cX6_takesLine 1 = .ok (.iconst 0, 1) := by decide +kernel
theorem dX6_takesLine_2 : decode cX6_takesLine 2 = .ok (.iconst 0, 1) := by decide +kernel
theorem dX6_takesLine_3 : decode cX6_takesLine 3 = .ok (.iconst 1, 1) := by decide +kernel
theorem dX6_takesLine_4 : decode cX6_takesLine 4 = .ok (.invokevirtual 99, 3) := by decide +kernel
theorem dX6_takesLine_7 : decode cX6_takesLine 7 = .ok (.ifCond .eq 25, 3) := by decide +kernel
theorem dX6_takesLine_10 : decode cX6_takesLine 10 = .ok (.aload_n 0, 1) := by decide +kernel
theorem dX6_takesLine_11 : decode cX6_takesLine 11 = .ok (.iconst 1, 1) := by decide +kernel
theorem dX6_takesLine_12 : decode cX6_takesLine 12 = .ok (.iconst 1, 1) := by decide +kernel
theorem dX6_takesLine_13 : decode cX6_takesLine 13 = .ok (.bipush 30, 2) := by decide +kernel
theorem dX6_takesLine_15 : decode cX6_takesLine 15 = .ok (.invokevirtual 99, 3) := by decide +kernel
theorem dX6_takesLine_18 : decode cX6_takesLine 18 = .ok (.ifCond .eq 14, 3) := by decide +kernel
theorem dX6_takesLine_21 : decode cX6_takesLine 21 = .ok (.aload_n 0, 1) := by decide +kernel
theorem dX6_takesLine_22 : decode cX6_takesLine 22 = .ok (.iconst 2, 1) := by decide +kernel
theorem dX6_takesLine_23 : decode cX6_takesLine 23 = .ok (.iconst 0, 1) := by decide +kernel
theorem dX6_takesLine_24 : decode cX6_takesLine 24 = .ok (.bipush 29, 2) := by decide +kernel
theorem dX6_takesLine_26 : decode cX6_takesLine 26 = .ok (.invokevirtual 99, 3) := by decide +kernel
theorem dX6_takesLine_29 : decode cX6_takesLine 29 = .ok (.ifCond .ne 5, 3) := by decide +kernel
theorem dX6_takesLine_32 : decode cX6_takesLine 32 = .ok (.iconst 0, 1) := by decide +kernel
theorem dX6_takesLine_33 : decode cX6_takesLine 33 = .ok (.ireturn, 1) := by decide +kernel
theorem dX6_takesLine_34 : decode cX6_takesLine 34 = .ok (.aload_n 0, 1) := by decide +kernel
theorem dX6_takesLine_35 : decode cX6_takesLine 35 = .ok (.getfield 7, 3) := by decide +kernel
theorem dX6_takesLine_38 : decode cX6_takesLine 38 = .ok (.sipush 160, 3) := by decide +kernel
theorem dX6_takesLine_41 : decode cX6_takesLine 41 = .ok (.aload_n 0, 1) := by decide +kernel
theorem dX6_takesLine_42 : decode cX6_takesLine 42 = .ok (.getfield 27, 3) := by decide +kernel
theorem dX6_takesLine_45 : decode cX6_takesLine 45 = .ok (.iconst 0, 1) := by decide +kernel
theorem dX6_takesLine_46 : decode cX6_takesLine 46 = .ok (.iaload, 1) := by decide +kernel
theorem dX6_takesLine_47 : decode cX6_takesLine 47 = .ok (.iadd, 1) := by decide +kernel
theorem dX6_takesLine_48 : decode cX6_takesLine 48 = .ok (.aload_n 0, 1) := by decide +kernel
theorem dX6_takesLine_49 : decode cX6_takesLine 49 = .ok (.getfield 27, 3) := by decide +kernel
theorem dX6_takesLine_52 : decode cX6_takesLine 52 = .ok (.iconst 1, 1) := by decide +kernel
theorem dX6_takesLine_53 : decode cX6_takesLine 53 = .ok (.iaload, 1) := by decide +kernel
theorem dX6_takesLine_54 : decode cX6_takesLine 54 = .ok (.iastore, 1) := by decide +kernel
theorem dX6_takesLine_55 : decode cX6_takesLine 55 = .ok (.aload_n 0, 1) := by decide +kernel
theorem dX6_takesLine_56 : decode cX6_takesLine 56 = .ok (.getfield 7, 3) := by decide +kernel
theorem dX6_takesLine_59 : decode cX6_takesLine 59 = .ok (.sipush 162, 3) := by decide +kernel
theorem dX6_takesLine_62 : decode cX6_takesLine 62 = .ok (.aload_n 0, 1) := by decide +kernel
theorem dX6_takesLine_63 : decode cX6_takesLine 63 = .ok (.getfield 27, 3) := by decide +kernel
theorem dX6_takesLine_66 : decode cX6_takesLine 66 = .ok (.iconst 0, 1) := by decide +kernel
theorem dX6_takesLine_67 : decode cX6_takesLine 67 = .ok (.iaload, 1) := by decide +kernel
theorem dX6_takesLine_68 : decode cX6_takesLine 68 = .ok (.iadd, 1) := by decide +kernel
theorem dX6_takesLine_69 : decode cX6_takesLine 69 = .ok (.aload_n 0, 1) := by decide +kernel
theorem dX6_takesLine_70 : decode cX6_takesLine 70 = .ok (.getfield 27, 3) := by decide +kernel
theorem dX6_takesLine_73 : decode cX6_takesLine 73 = .ok (.iconst 2, 1) := by decide +kernel
theorem dX6_takesLine_74 : decode cX6_takesLine 74 = .ok (.iaload, 1) := by decide +kernel
theorem dX6_takesLine_75 : decode cX6_takesLine 75 = .ok (.iastore, 1) := by decide +kernel
theorem dX6_takesLine_76 : decode cX6_takesLine 76 = .ok (.iconst 1, 1) := by decide +kernel
theorem dX6_takesLine_77 : decode cX6_takesLine 77 = .ok (.ireturn, 1) := by decide +kernel
set_option maxRecDepth 20000 in
theorem ggX6_takesItem_X6_wordNow : GoodIn wsX6_takesItem wsX6_wordNow := goodIn_r _ [6, 7, 8, 9, 5, 10, 11, 12, 1, 13, 14, 15, 16, 17, 18, 53, 54, 55, 56, 57, 58, 59, 60, 61, 62, 63, 64, 65, 66, 67] (by decide +kernel) (by decide +kernel)
set_option maxRecDepth 20000 in
theorem gX6_takesItem_X6_wordNow : GoodIn wsX6_takesItem (wsV RX6 103 RX6 yX6_wordNow wsX6_wordNow) := goodIn_app (goodIn_of _ (by decide +kernel)) ggX6_takesItem_X6_wordNow
set_option maxRecDepth 20000 in
theorem ggX6_takesItem_X6_takesHouse : GoodIn wsX6_takesItem wsX6_takesHouse := goodIn_r _ [22, 23, 24, 25, 26, 27, 5, 28, 29, 12, 1, 30, 31, 32, 33, 34, 35, 11, 36, 37, 17, 13, 14, 15, 16, 18, 38, 39, 40, 53, 54, 55, 56, 57, 58, 59, 60, 61, 62, 63, 64, 65, 66, 67] (by decide +kernel) (by decide +kernel)
set_option maxRecDepth 20000 in
theorem gX6_takesItem_X6_takesHouse : GoodIn wsX6_takesItem (wsV RX6 106 RX6 yX6_takesHouse wsX6_takesHouse) := goodIn_app (goodIn_of _ (by decide +kernel)) ggX6_takesItem_X6_takesHouse
set_option maxRecDepth 20000 in
theorem ggX6_takesItem_X6_takesLift : GoodIn wsX6_takesItem wsX6_takesLift := goodIn_r _ [44, 23, 24, 25, 26, 27, 5, 28, 29, 12, 1, 30, 31, 32, 33, 34, 35, 11, 36, 37, 17, 13, 14, 15, 16, 18, 38, 39, 40, 45, 46, 47, 48, 53, 54, 55, 56, 57, 58, 59, 60, 61, 62, 63, 64, 65, 66, 67] (by decide +kernel) (by decide +kernel)
set_option maxRecDepth 20000 in
theorem gX6_takesItem_X6_takesLift : GoodIn wsX6_takesItem (wsV RX6 110 RX6 yX6_takesLift wsX6_takesLift) := goodIn_app (goodIn_of _ (by decide +kernel)) ggX6_takesItem_X6_takesLift
set_option maxRecDepth 20000 in
theorem ggX6_takesItem_X6_takesLine : GoodIn wsX6_takesItem wsX6_takesLine := goodIn_r _ [52, 23, 24, 25, 26, 27, 5, 28, 29, 12, 1, 30, 31, 32, 33, 34, 35, 11, 36, 37, 17, 13, 14, 15, 16, 18, 38, 39, 40, 53, 54, 55, 56, 57, 58, 59, 60, 61, 62, 63, 64, 65, 66, 67] (by decide +kernel) (by decide +kernel)
set_option maxRecDepth 20000 in
theorem gX6_takesItem_X6_takesLine : GoodIn wsX6_takesItem (wsV RX6 113 RX6 yX6_takesLine wsX6_takesLine) := goodIn_app (goodIn_of _ (by decide +kernel)) ggX6_takesItem_X6_takesLine
set_option maxRecDepth 20000 in
theorem ggX6_takesItem_X6_token : GoodIn wsX6_takesItem wsX6_token := goodIn_r _ [33, 12, 1, 34, 35, 11, 36, 37, 29, 17, 13, 14, 15, 5, 16, 18, 38, 39, 40, 53, 54, 55, 56, 57, 58, 59, 60, 61, 62, 63, 64, 65, 66, 67] (by decide +kernel) (by decide +kernel)
set_option maxRecDepth 20000 in
theorem gX6_takesItem_X6_token : GoodIn wsX6_takesItem (wsV RX6 96 RX6 yX6_token wsX6_token) := goodIn_app (goodIn_of _ (by decide +kernel)) ggX6_takesItem_X6_token
set_option maxRecDepth 20000 in
theorem ggX6_takesItem_X6_byteAt : GoodIn wsX6_takesItem wsX6_byteAt := goodIn_r _ [16, 17, 18, 53, 54, 55, 56, 57, 58, 59, 60, 61, 62, 63, 64, 65, 66, 67] (by decide +kernel) (by decide +kernel)
set_option maxRecDepth 20000 in
theorem gX6_takesItem_X6_byteAt : GoodIn wsX6_takesItem (wsV RX6 70 RX6 yX6_byteAt wsX6_byteAt) := goodIn_app (goodIn_of _ (by decide +kernel)) ggX6_takesItem_X6_byteAt
theorem dX6_takesItem_0 : decode cX6_takesItem 0 = .ok (.aload_n 0, 1) := by decide +kernel
theorem dX6_takesItem_1 : decode cX6_takesItem 1 = .ok (.invokevirtual 103, 3) := by decide +kernel
theorem dX6_takesItem_4 : decode cX6_takesItem 4 = .ok (.istore_n 2, 1) := by decide +kernel
theorem dX6_takesItem_5 : decode cX6_takesItem 5 = .ok (.iload_n 2, 1) := by decide +kernel
theorem dX6_takesItem_6 : decode cX6_takesItem 6 = .ok (.iconst (-1), 1) := by decide +kernel
theorem dX6_takesItem_7 : decode cX6_takesItem 7 = .ok (.if_icmp .eq 24, 3) := by decide +kernel
theorem dX6_takesItem_10 : decode cX6_takesItem 10 = .ok (.iload_n 2, 1) := by decide +kernel
theorem dX6_takesItem_11 : decode cX6_takesItem 11 = .ok (.ifCond .ne 7, 3) := by decide +kernel
theorem dX6_takesItem_14 : decode cX6_takesItem 14 = .ok (.iconst 1, 1) := by decide +kernel
theorem dX6_takesItem_15 : decode cX6_takesItem 15 = .ok (.goto 4, 3) := by decide +kernel
theorem dX6_takesItem_18 : decode cX6_takesItem 18 = .ok (.iconst 0, 1) := by decide +kernel
theorem dX6_takesItem_19 : decode cX6_takesItem 19 = .ok (.iload_n 1, 1) := by decide +kernel
theorem dX6_takesItem_20 : decode cX6_takesItem 20 = .ok (.ifCond .ne 7, 3) := by decide +kernel
theorem dX6_takesItem_23 : decode cX6_takesItem 23 = .ok (.iconst 1, 1) := by decide +kernel
theorem dX6_takesItem_24 : decode cX6_takesItem 24 = .ok (.goto 4, 3) := by decide +kernel
theorem dX6_takesItem_27 : decode cX6_takesItem 27 = .ok (.iconst 0, 1) := by decide +kernel
theorem dX6_takesItem_28 : decode cX6_takesItem 28 = .ok (.if_icmp .eq 5, 3) := by decide +kernel
theorem dX6_takesItem_31 : decode cX6_takesItem 31 = .ok (.iconst 0, 1) := by decide +kernel
theorem dX6_takesItem_32 : decode cX6_takesItem 32 = .ok (.ireturn, 1) := by decide +kernel
theorem dX6_takesItem_33 : decode cX6_takesItem 33 = .ok (.iload_n 2, 1) := by decide +kernel
theorem dX6_takesItem_34 : decode cX6_takesItem 34 = .ok (.ifCond .ne 10, 3) := by decide +kernel
theorem dX6_takesItem_37 : decode cX6_takesItem 37 = .ok (.aload_n 0, 1) := by decide +kernel
theorem dX6_takesItem_38 : decode cX6_takesItem 38 = .ok (.invokevirtual 106, 3) := by decide +kernel
theorem dX6_takesItem_41 : decode cX6_takesItem 41 = .ok (.goto 19, 3) := by decide +kernel
theorem dX6_takesItem_44 : decode cX6_takesItem 44 = .ok (.iload_n 2, 1) := by decide +kernel
theorem dX6_takesItem_45 : decode cX6_takesItem 45 = .ok (.iconst 1, 1) := by decide +kernel
theorem dX6_takesItem_46 : decode cX6_takesItem 46 = .ok (.if_icmp .ne 10, 3) := by decide +kernel
theorem dX6_takesItem_49 : decode cX6_takesItem 49 = .ok (.aload_n 0, 1) := by decide +kernel
theorem dX6_takesItem_50 : decode cX6_takesItem 50 = .ok (.invokevirtual 110, 3) := by decide +kernel
theorem dX6_takesItem_53 : decode cX6_takesItem 53 = .ok (.goto 7, 3) := by decide +kernel
theorem dX6_takesItem_56 : decode cX6_takesItem 56 = .ok (.aload_n 0, 1) := by decide +kernel
theorem dX6_takesItem_57 : decode cX6_takesItem 57 = .ok (.invokevirtual 113, 3) := by decide +kernel
theorem dX6_takesItem_60 : decode cX6_takesItem 60 = .ok (.istore_n 3, 1) := by decide +kernel
theorem dX6_takesItem_61 : decode cX6_takesItem 61 = .ok (.iload_n 3, 1) := by decide +kernel
theorem dX6_takesItem_62 : decode cX6_takesItem 62 = .ok (.ifCond .ne 5, 3) := by decide +kernel
