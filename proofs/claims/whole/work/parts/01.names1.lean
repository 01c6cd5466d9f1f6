theorem dX1_hasFloor_9 : decode cX1_hasFloor 9 = .ok (.if_icmp .gt 7, 3) := by decide +kernel
theorem dX1_hasFloor_12 : decode cX1_hasFloor 12 = .ok (.iconst 1, 1) := by decide +kernel
theorem dX1_hasFloor_13 : decode cX1_hasFloor 13 = .ok (.goto 4, 3) := by decide +kernel
theorem dX1_hasFloor_16 : decode cX1_hasFloor 16 = .ok (.iconst 0, 1) := by decide +kernel
theorem dX1_hasFloor_17 : decode cX1_hasFloor 17 = .ok (.ireturn, 1) := by decide +kernel
theorem dX1_hasLift_0 : decode cX1_hasLift 0 = .ok (.iload_n 1, 1) := by decide +kernel
theorem dX1_hasLift_1 : decode cX1_hasLift 1 = .ok (.ifCond .lt 15, 3) := by decide +kernel
theorem dX1_hasLift_4 : decode cX1_hasLift 4 = .ok (.iload_n 1, 1) := by decide +kernel
theorem dX1_hasLift_5 : decode cX1_hasLift 5 = .ok (.aload_n 0, 1) := by decide +kernel
theorem dX1_hasLift_6 : decode cX1_hasLift 6 = .ok (.getfield 45, 3) := by decide +kernel
theorem dX1_hasLift_9 : decode cX1_hasLift 9 = .ok (.if_icmp .ge 7, 3) := by decide +kernel
theorem dX1_hasLift_12 : decode cX1_hasLift 12 = .ok (.iconst 1, 1) := by decide +kernel
theorem dX1_hasLift_13 : decode cX1_hasLift 13 = .ok (.goto 4, 3) := by decide +kernel
theorem dX1_hasLift_16 : decode cX1_hasLift 16 = .ok (.iconst 0, 1) := by decide +kernel
theorem dX1_hasLift_17 : decode cX1_hasLift 17 = .ok (.ireturn, 1) := by decide +kernel
theorem dX1_addLift_0 : decode cX1_addLift 0 = .ok (.aload_n 0, 1) := by decide +kernel
theorem dX1_addLift_1 : decode cX1_addLift 1 = .ok (.getfield 45, 3) := by decide +kernel
theorem dX1_addLift_4 : decode cX1_addLift 4 = .ok (.iconst 4, 1) := by decide +kernel
theorem dX1_addLift_5 : decode cX1_addLift 5 = .ok (.if_icmp .lt 4, 3) := by decide +kernel
theorem dX1_addLift_8 : decode cX1_addLift 8 = .ok (.return_, 1) := by decide +kernel
theorem dX1_addLift_9 : decode cX1_addLift 9 = .ok (.aload_n 0, 1) := by decide +kernel
theorem dX1_addLift_10 : decode cX1_addLift 10 = .ok (.getfield 9, 3) := by decide +kernel
theorem dX1_addLift_13 : decode cX1_addLift 13 = .ok (.aload_n 0, 1) := by decide +kernel
theorem dX1_addLift_14 : decode cX1_addLift 14 = .ok (.getfield 45, 3) := by decide +kernel
theorem dX1_addLift_17 : decode cX1_addLift 17 = .ok (.iload_n 1, 1) := by decide +kernel
theorem dX1_addLift_18 : decode cX1_addLift 18 = .ok (.iastore, 1) := by decide +kernel
theorem dX1_addLift_19 : decode cX1_addLift 19 = .ok (.aload_n 0, 1) := by decide +kernel
theorem dX1_addLift_20 : decode cX1_addLift 20 = .ok (.getfield 13, 3) := by decide +kernel
theorem dX1_addLift_23 : decode cX1_addLift 23 = .ok (.aload_n 0, 1) := by decide +kernel
theorem dX1_addLift_24 : decode cX1_addLift 24 = .ok (.getfield 45, 3) := by decide +kernel
theorem dX1_addLift_27 : decode cX1_addLift 27 = .ok (.iload_n 2, 1) := by decide +kernel
theorem dX1_addLift_28 : decode cX1_addLift 28 = .ok (.iastore, 1) := by decide +kernel
theorem dX1_addLift_29 : decode cX1_addLift 29 = .ok (.aload_n 0, 1) := by decide +kernel
theorem dX1_addLift_30 : decode cX1_addLift 30 = .ok (.dup, 1) := by decide +kernel
theorem dX1_addLift_31 : decode cX1_addLift 31 = .ok (.getfield 45, 3) := by decide +kernel
theorem dX1_addLift_34 : decode cX1_addLift 34 = .ok (.iconst 1, 1) := by decide +kernel
theorem dX1_addLift_35 : decode cX1_addLift 35 = .ok (.iadd, 1) := by decide +kernel
theorem dX1_addLift_36 : decode cX1_addLift 36 = .ok (.putfield 45, 3) := by decide +kernel
theorem dX1_addLift_39 : decode cX1_addLift 39 = .ok (.aload_n 0, 1) := by decide +kernel
theorem dX1_addLift_40 : decode cX1_addLift 40 = .ok (.iconst 0, 1) := by decide +kernel
theorem dX1_addLift_41 : decode cX1_addLift 41 = .ok (.putfield 54, 3) := by decide +kernel
theorem dX1_addLift_44 : decode cX1_addLift 44 = .ok (.return_, 1) := by decide +kernel
theorem dX1_setLine_0 : decode cX1_setLine 0 = .ok (.aload_n 0, 1) := by decide +kernel
theorem dX1_setLine_1 : decode cX1_setLine 1 = .ok (.getfield 16, 3) := by decide +kernel
theorem dX1_setLine_4 : decode cX1_setLine 4 = .ok (.iload_n 1, 1) := by decide +kernel
theorem dX1_setLine_5 : decode cX1_setLine 5 = .ok (.iload_n 2, 1) := by decide +kernel
theorem dX1_setLine_6 : decode cX1_setLine 6 = .ok (.iastore, 1) := by decide +kernel
theorem dX1_setLine_7 : decode cX1_setLine 7 = .ok (.aload_n 0, 1) := by decide +kernel
theorem dX1_setLine_8 : decode cX1_setLine 8 = .ok (.getfield 19, 3) := by decide +kernel
theorem dX1_setLine_11 : decode cX1_setLine 11 = .ok (.iload_n 1, 1) := by decide +kernel
theorem dX1_setLine_12 : decode cX1_setLine 12 = .ok (.iload_n 3, 1) := by decide +kernel
theorem dX1_setLine_13 : decode cX1_setLine 13 = .ok (.iastore, 1) := by decide +kernel
theorem dX1_setLine_14 : decode cX1_setLine 14 = .ok (.return_, 1) := by decide +kernel
theorem dX1_addNoted_0 : decode cX1_addNoted 0 = .ok (.aload_n 0, 1) := by decide +kernel
theorem dX1_addNoted_1 : decode cX1_addNoted 1 = .ok (.getfield 51, 3) := by decide +kernel
theorem dX1_addNoted_4 : decode cX1_addNoted 4 = .ok (.bipush 6, 2) := by decide +kernel
theorem dX1_addNoted_6 : decode cX1_addNoted 6 = .ok (.if_icmp .lt 4, 3) := by decide +kernel
theorem dX1_addNoted_9 : decode cX1_addNoted 9 = .ok (.return_, 1) := by decide +kernel
theorem dX1_addNoted_10 : decode cX1_addNoted 10 = .ok (.aload_n 0, 1) := by decide +kernel
theorem dX1_addNoted_11 : decode cX1_addNoted 11 = .ok (.getfield 22, 3) := by decide +kernel
theorem dX1_addNoted_14 : decode cX1_addNoted 14 = .ok (.aload_n 0, 1) := by decide +kernel
theorem dX1_addNoted_15 : decode cX1_addNoted 15 = .ok (.getfield 51, 3) := by decide +kernel
theorem dX1_addNoted_18 : decode cX1_addNoted 18 = .ok (.iload_n 1, 1) := by decide +kernel
theorem dX1_addNoted_19 : decode cX1_addNoted 19 = .ok (.iastore, 1) := by decide +kernel
theorem dX1_addNoted_20 : decode cX1_addNoted 20 = .ok (.aload_n 0, 1) := by decide +kernel
theorem dX1_addNoted_21 : decode cX1_addNoted 21 = .ok (.getfield 25, 3) := by decide +kernel
theorem dX1_addNoted_24 : decode cX1_addNoted 24 = .ok (.aload_n 0, 1) := by decide +kernel
theorem dX1_addNoted_25 : decode cX1_addNoted 25 = .ok (.getfield 51, 3) := by decide +kernel
theorem dX1_addNoted_28 : decode cX1_addNoted 28 = .ok (.iload_n 2, 1) := by decide +kernel
theorem dX1_addNoted_29 : decode cX1_addNoted 29 = .ok (.iastore, 1) := by decide +kernel
theorem dX1_addNoted_30 : decode cX1_addNoted 30 = .ok (.aload_n 0, 1) := by decide +kernel
theorem dX1_addNoted_31 : decode cX1_addNoted 31 = .ok (.getfield 28, 3) := by decide +kernel
theorem dX1_addNoted_34 : decode cX1_addNoted 34 = .ok (.aload_n 0, 1) := by decide +kernel
theorem dX1_addNoted_35 : decode cX1_addNoted 35 = .ok (.getfield 51, 3) := by decide +kernel
theorem dX1_addNoted_38 : decode cX1_addNoted 38 = .ok (.iload_n 3, 1) := by decide +kernel
theorem dX1_addNoted_39 : decode cX1_addNoted 39 = .ok (.iastore, 1) := by decide +kernel
theorem dX1_addNoted_40 : decode cX1_addNoted 40 = .ok (.aload_n 0, 1) := by decide +kernel
theorem dX1_addNoted_41 : decode cX1_addNoted 41 = .ok (.getfield 31, 3) := by decide +kernel
theorem dX1_addNoted_44 : decode cX1_addNoted 44 = .ok (.aload_n 0, 1) := by decide +kernel
theorem dX1_addNoted_45 : decode cX1_addNoted 45 = .ok (.getfield 51, 3) := by decide +kernel
theorem dX1_addNoted_48 : decode cX1_addNoted 48 = .ok (.iload 4, 2) := by decide +kernel
theorem dX1_addNoted_50 : decode cX1_addNoted 50 = .ok (.iastore, 1) := by decide +kernel
theorem dX1_addNoted_51 : decode cX1_addNoted 51 = .ok (.aload_n 0, 1) := by decide +kernel
theorem dX1_addNoted_52 : decode cX1_addNoted 52 = .ok (.dup, 1) := by decide +kernel
theorem dX1_addNoted_53 : decode cX1_addNoted 53 = .ok (.getfield 51, 3) := by decide +kernel
theorem dX1_addNoted_56 : decode cX1_addNoted 56 = .ok (.iconst 1, 1) := by decide +kernel
theorem dX1_addNoted_57 : decode cX1_addNoted 57 = .ok (.iadd, 1) := by decide +kernel
theorem dX1_addNoted_58 : decode cX1_addNoted 58 = .ok (.putfield 51, 3) := by decide +kernel
theorem dX1_addNoted_61 : decode cX1_addNoted 61 = .ok (.return_, 1) := by decide +kernel
theorem dX1_goOn_0 : decode cX1_goOn 0 = .ok (.aload_n 0, 1) := by decide +kernel
theorem dX1_goOn_1 : decode cX1_goOn 1 = .ok (.getfield 54, 3) := by decide +kernel
theorem dX1_goOn_4 : decode cX1_goOn 4 = .ok (.bipush 8, 2) := by decide +kernel
theorem dX1_goOn_6 : decode cX1_goOn 6 = .ok (.if_icmp .lt 24, 3) := by decide +kernel
theorem dX1_goOn_9 : decode cX1_goOn 9 = .ok (.aload_n 0, 1) := by decide +kernel
theorem dX1_goOn_10 : decode cX1_goOn 10 = .ok (.getfield 34, 3) := by decide +kernel
theorem dX1_goOn_13 : decode cX1_goOn 13 = .ok (.iconst 1, 1) := by decide +kernel
theorem dX1_goOn_14 : decode cX1_goOn 14 = .ok (.aload_n 0, 1) := by decide +kernel
theorem dX1_goOn_15 : decode cX1_goOn 15 = .ok (.getfield 34, 3) := by decide +kernel
theorem dX1_goOn_18 : decode cX1_goOn 18 = .ok (.iconst 0, 1) := by decide +kernel
theorem dX1_goOn_19 : decode cX1_goOn 19 = .ok (.bipush 7, 2) := by decide +kernel
theorem dX1_goOn_21 : decode cX1_goOn 21 = .ok (.invokestatic 61, 3) := by decide +kernel
theorem dX1_goOn_24 : decode cX1_goOn 24 = .ok (.aload_n 0, 1) := by decide +kernel
theorem dX1_goOn_25 : decode cX1_goOn 25 = .ok (.bipush 7, 2) := by decide +kernel
theorem dX1_goOn_27 : decode cX1_goOn 27 = .ok (.putfield 54, 3) := by decide +kernel
theorem dX1_goOn_30 : decode cX1_goOn 30 = .ok (.aload_n 0, 1) := by decide +kernel
theorem dX1_goOn_31 : decode cX1_goOn 31 = .ok (.getfield 34, 3) := by decide +kernel
theorem dX1_goOn_34 : decode cX1_goOn 34 = .ok (.aload_n 0, 1) := by decide +kernel
theorem dX1_goOn_35 : decode cX1_goOn 35 = .ok (.getfield 54, 3) := by decide +kernel
theorem dX1_goOn_38 : decode cX1_goOn 38 = .ok (.aload_n 0, 1) := by decide +kernel
theorem dX1_goOn_39 : decode cX1_goOn 39 = .ok (.getfield 48, 3) := by decide +kernel
theorem dX1_goOn_42 : decode cX1_goOn 42 = .ok (.iastore, 1) := by decide +kernel
theorem dX1_goOn_43 : decode cX1_goOn 43 = .ok (.aload_n 0, 1) := by decide +kernel
theorem dX1_goOn_44 : decode cX1_goOn 44 = .ok (.dup, 1) := by decide +kernel
theorem dX1_goOn_45 : decode cX1_goOn 45 = .ok (.getfield 54, 3) := by decide +kernel
theorem dX1_goOn_48 : decode cX1_goOn 48 = .ok (.iconst 1, 1) := by decide +kernel
theorem dX1_goOn_49 : decode cX1_goOn 49 = .ok (.iadd, 1) := by decide +kernel
theorem dX1_goOn_50 : decode cX1_goOn 50 = .ok (.putfield 54, 3) := by decide +kernel
theorem dX1_goOn_53 : decode cX1_goOn 53 = .ok (.aload_n 0, 1) := by decide +kernel
theorem dX1_goOn_54 : decode cX1_goOn 54 = .ok (.iload_n 1, 1) := by decide +kernel
theorem dX1_goOn_55 : decode cX1_goOn 55 = .ok (.putfield 48, 3) := by decide +kernel
theorem dX1_goOn_58 : decode cX1_goOn 58 = .ok (.return_, 1) := by decide +kernel
theorem dX1_goBack_0 : decode cX1_goBack 0 = .ok (.aload_n 0, 1) := by decide +kernel
theorem dX1_goBack_1 : decode cX1_goBack 1 = .ok (.getfield 54, 3) := by decide +kernel
theorem dX1_goBack_4 : decode cX1_goBack 4 = .ok (.ifCond .le 26, 3) := by decide +kernel
theorem dX1_goBack_7 : decode cX1_goBack 7 = .ok (.aload_n 0, 1) := by decide +kernel
theorem dX1_goBack_8 : decode cX1_goBack 8 = .ok (.dup, 1) := by decide +kernel
theorem dX1_goBack_9 : decode cX1_goBack 9 = .ok (.getfield 54, 3) := by decide +kernel
theorem dX1_goBack_12 : decode cX1_goBack 12 = .ok (.iconst 1, 1) := by decide +kernel
theorem dX1_goBack_13 : decode cX1_goBack 13 = .ok (.isub, 1) := by decide +kernel
theorem dX1_goBack_14 : decode cX1_goBack 14 = .ok (.putfield 54, 3) := by decide +kernel
theorem dX1_goBack_17 : decode cX1_goBack 17 = .ok (.aload_n 0, 1) := by decide +kernel
theorem dX1_goBack_18 : decode cX1_goBack 18 = .ok (.aload_n 0, 1) := by decide +kernel
theorem dX1_goBack_19 : decode cX1_goBack 19 = .ok (.getfield 34, 3) := by decide +kernel
theorem dX1_goBack_22 : decode cX1_goBack 22 = .ok (.aload_n 0, 1) := by decide +kernel
theorem dX1_goBack_23 : decode cX1_goBack 23 = .ok (.getfield 54, 3) := by decide +kernel
theorem dX1_goBack_26 : decode cX1_goBack 26 = .ok (.iaload, 1) := by decide +kernel
theorem dX1_goBack_27 : decode cX1_goBack 27 = .ok (.putfield 48, 3) := by decide +kernel
theorem dX1_goBack_30 : decode cX1_goBack 30 = .ok (.return_, 1) := by decide +kernel
set_option maxRecDepth 20000 in
theorem ggX1_turnsOfLine0_X1_nextTrain : GoodIn wsX1_turnsOfLine0 wsX1_nextTrain := goodIn_r _ [6] (by decide +kernel) (by decide +kernel)
set_option maxRecDepth 20000 in
theorem gX1_turnsOfLine0_X1_nextTrain : GoodIn wsX1_turnsOfLine0 (va_wsS RX1 67 yX1_nextTrain wsX1_nextTrain) := goodIn_app (goodIn_of _ (by decide +kernel)) ggX1_turnsOfLine0_X1_nextTrain
theorem dX1_turnsOfLine0_0 : decode cX1_turnsOfLine0 0 = .ok (.aload_n 0, 1) := by decide +kernel
theorem dX1_turnsOfLine0_1 : decode cX1_turnsOfLine0 1 = .ok (.getfield 19, 3) := by decide +kernel
theorem dX1_turnsOfLine0_4 : decode cX1_turnsOfLine0 4 = .ok (.iconst 1, 1) := by decide +kernel
theorem dX1_turnsOfLine0_5 : decode cX1_turnsOfLine0 5 = .ok (.iaload, 1) := by decide +kernel
theorem dX1_turnsOfLine0_6 : decode cX1_turnsOfLine0 6 = .ok (.iload_n 1, 1) := by decide +kernel
theorem dX1_turnsOfLine0_7 : decode cX1_turnsOfLine0 7 = .ok (.iadd, 1) := by decide +kernel
theorem dX1_turnsOfLine0_8 : decode cX1_turnsOfLine0 8 = .ok (.bipush 30, 2) := by decide +kernel
theorem dX1_turnsOfLine0_10 : decode cX1_turnsOfLine0 10 = .ok (.irem, 1) := by decide +kernel
theorem dX1_turnsOfLine0_11 : decode cX1_turnsOfLine0 11 = .ok (.istore_n 2, 1) := by decide +kernel
theorem dX1_turnsOfLine0_12 : decode cX1_turnsOfLine0 12 = .ok (.iconst 0, 1) := by decide +kernel
theorem dX1_turnsOfLine0_13 : decode cX1_turnsOfLine0 13 = .ok (.istore_n 3, 1) := by decide +kernel
theorem dX1_turnsOfLine0_14 : decode cX1_turnsOfLine0 14 = .ok (.iconst 0, 1) := by decide +kernel
theorem dX1_turnsOfLine0_15 : decode cX1_turnsOfLine0 15 = .ok (.istore 4, 2) := by decide +kernel
theorem dX1_turnsOfLine0_17 : decode cX1_turnsOfLine0 17 = .ok (.iload 4, 2) := by decide +kernel
theorem dX1_turnsOfLine0_19 : decode cX1_turnsOfLine0 19 = .ok (.bipush 60, 2) := by decide +kernel
theorem dX1_turnsOfLine0_21 : decode cX1_turnsOfLine0 21 = .ok (.if_icmp .ge 44, 3) := by decide +kernel
theorem dX1_turnsOfLine0_24 : decode cX1_turnsOfLine0 24 = .ok (.aload_n 0, 1) := by decide +kernel
theorem dX1_turnsOfLine0_25 : decode cX1_turnsOfLine0 25 = .ok (.getfield 16, 3) := by decide +kernel
theorem dX1_turnsOfLine0_28 : decode cX1_turnsOfLine0 28 = .ok (.iconst 0, 1) := by decide +kernel
theorem dX1_turnsOfLine0_29 : decode cX1_turnsOfLine0 29 = .ok (.iaload, 1) := by decide +kernel
theorem dX1_turnsOfLine0_30 : decode cX1_turnsOfLine0 30 = .ok (.aload_n 0, 1) := by decide +kernel
theorem dX1_turnsOfLine0_31 : decode cX1_turnsOfLine0 31 = .ok (.getfield 19, 3) := by decide +kernel
theorem dX1_turnsOfLine0_34 : decode cX1_turnsOfLine0 34 = .ok (.iconst 0, 1) := by decide +kernel
theorem dX1_turnsOfLine0_35 : decode cX1_turnsOfLine0 35 = .ok (.iaload, 1) := by decide +kernel
theorem dX1_turnsOfLine0_36 : decode cX1_turnsOfLine0 36 = .ok (.iload 4, 2) := by decide +kernel
theorem dX1_turnsOfLine0_38 : decode cX1_turnsOfLine0 38 = .ok (.invokestatic 67, 3) := by decide +kernel
theorem dX1_turnsOfLine0_41 : decode cX1_turnsOfLine0 41 = .ok (.aload_n 0, 1) := by decide +kernel
theorem dX1_turnsOfLine0_42 : decode cX1_turnsOfLine0 42 = .ok (.getfield 16, 3) := by decide +kernel
theorem dX1_turnsOfLine0_45 : decode cX1_turnsOfLine0 45 = .ok (.iconst 1, 1) := by decide +kernel
theorem dX1_turnsOfLine0_46 : decode cX1_turnsOfLine0 46 = .ok (.iaload, 1) := by decide +kernel
theorem dX1_turnsOfLine0_47 : decode cX1_turnsOfLine0 47 = .ok (.iload_n 2, 1) := by decide +kernel
theorem dX1_turnsOfLine0_48 : decode cX1_turnsOfLine0 48 = .ok (.iload 4, 2) := by decide +kernel
theorem dX1_turnsOfLine0_50 : decode cX1_turnsOfLine0 50 = .ok (.invokestatic 67, 3) := by decide +kernel
theorem dX1_turnsOfLine0_53 : decode cX1_turnsOfLine0 53 = .ok (.if_icmp .gt 6, 3) := by decide +kernel
theorem dX1_turnsOfLine0_56 : decode cX1_turnsOfLine0 56 = .ok (.iinc 3 1, 3) := by decide +kernel
theorem dX1_turnsOfLine0_59 : decode cX1_turnsOfLine0 59 = .ok (.iinc 4 1, 3) := by decide +kernel
theorem dX1_turnsOfLine0_62 : decode cX1_turnsOfLine0 62 = .ok (.goto (-45), 3) := by decide +kernel
theorem dX1_turnsOfLine0_65 : decode cX1_turnsOfLine0 65 = .ok (.iload_n 3, 1) := by decide +kernel
theorem dX1_turnsOfLine0_66 : decode cX1_turnsOfLine0 66 = .ok (.ireturn, 1) := by decide +kernel
theorem dX1_nextTrain_0 : decode cX1_nextTrain 0 = .ok (.iload_n 2, 1) := by decide +kernel
theorem dX1_nextTrain_1 : decode cX1_nextTrain 1 = .ok (.iload_n 1, 1) := by decide +kernel
theorem dX1_nextTrain_2 : decode cX1_nextTrain 2 = .ok (.if_icmp .le 8, 3) := by decide +kernel
theorem dX1_nextTrain_5 : decode cX1_nextTrain 5 = .ok (.iload_n 0, 1) := by decide +kernel
theorem dX1_nextTrain_6 : decode cX1_nextTrain 6 = .ok (.iconst 1, 1) := by decide +kernel
theorem dX1_nextTrain_7 : decode cX1_nextTrain 7 = .ok (.if_icmp .ge 5, 3) := by decide +kernel
theorem dX1_nextTrain_10 : decode cX1_nextTrain 10 = .ok (.iload_n 1, 1) := by decide +kernel
theorem dX1_nextTrain_11 : decode cX1_nextTrain 11 = .ok (.ireturn, 1) := by decide +kernel
theorem dX1_nextTrain_12 : decode cX1_nextTrain 12 = .ok (.iload_n 2, 1) := by decide +kernel
theorem dX1_nextTrain_13 : decode cX1_nextTrain 13 = .ok (.iload_n 1, 1) := by decide +kernel
theorem dX1_nextTrain_14 : decode cX1_nextTrain 14 = .ok (.isub, 1) := by decide +kernel
theorem dX1_nextTrain_15 : decode cX1_nextTrain 15 = .ok (.iload_n 0, 1) := by decide +kernel
theorem dX1_nextTrain_16 : decode cX1_nextTrain 16 = .ok (.irem, 1) := by decide +kernel
theorem dX1_nextTrain_17 : decode cX1_nextTrain 17 = .ok (.istore_n 3, 1) := by decide +kernel
theorem dX1_nextTrain_18 : decode cX1_nextTrain 18 = .ok (.iload_n 3, 1) := by decide +kernel
theorem dX1_nextTrain_19 : decode cX1_nextTrain 19 = .ok (.ifCond .ne 7, 3) := by decide +kernel
theorem dX1_nextTrain_22 : decode cX1_nextTrain 22 = .ok (.iload_n 2, 1) := by decide +kernel
theorem dX1_nextTrain_23 : decode cX1_nextTrain 23 = .ok (.goto 8, 3) := by decide +kernel
theorem dX1_nextTrain_26 : decode cX1_nextTrain 26 = .ok (.iload_n 2, 1) := by decide +kernel
theorem dX1_nextTrain_27 : decode cX1_nextTrain 27 = .ok (.iload_n 0, 1) := by decide +kernel
theorem dX1_nextTrain_28 : decode cX1_nextTrain 28 = .ok (.iadd, 1) := by decide +kernel
theorem dX1_nextTrain_29 : decode cX1_nextTrain 29 = .ok (.iload_n 3, 1) := by decide +kernel
theorem dX1_nextTrain_30 : decode cX1_nextTrain 30 = .ok (.isub, 1) := by decide +kernel
theorem dX1_nextTrain_31 : decode cX1_nextTrain 31 = .ok (.ireturn, 1) := by decide +kernel
theorem dX1_digestOver_0 : decode cX1_digestOver 0 = .ok (.lload_n 1, 1) := by decide +kernel
theorem dX1_digestOver_1 : decode cX1_digestOver 1 = .ok (.lstore_n 3, 1) := by decide +kernel
theorem dX1_digestOver_2 : decode cX1_digestOver 2 = .ok (.iconst 0, 1) := by decide +kernel
theorem dX1_digestOver_3 : decode cX1_digestOver 3 = .ok (.istore 5, 2) := by decide +kernel
theorem dX1_digestOver_5 : decode cX1_digestOver 5 = .ok (.iload 5, 2) := by decide +kernel
theorem dX1_digestOver_7 : decode cX1_digestOver 7 = .ok (.aload_n 0, 1) := by decide +kernel
theorem dX1_digestOver_8 : decode cX1_digestOver 8 = .ok (.getfield 45, 3) := by decide +kernel
theorem dX1_digestOver_11 : decode cX1_digestOver 11 = .ok (.if_icmp .ge 39, 3) := by decide +kernel
theorem dX1_digestOver_14 : decode cX1_digestOver 14 = .ok (.ldc2_w 71, 3) := by decide +kernel
theorem dX1_digestOver_17 : decode cX1_digestOver 17 = .ok (.lload_n 3, 1) := by decide +kernel
theorem dX1_digestOver_18 : decode cX1_digestOver 18 = .ok (.lmul, 1) := by decide +kernel
theorem dX1_digestOver_19 : decode cX1_digestOver 19 = .ok (.aload_n 0, 1) := by decide +kernel
theorem dX1_digestOver_20 : decode cX1_digestOver 20 = .ok (.getfield 9, 3) := by decide +kernel
theorem dX1_digestOver_23 : decode cX1_digestOver 23 = .ok (.iload 5, 2) := by decide +kernel
theorem dX1_digestOver_25 : decode cX1_digestOver 25 = .ok (.iaload, 1) := by decide +kernel
theorem dX1_digestOver_26 : decode cX1_digestOver 26 = .ok (.i2l, 1) := by decide +kernel
theorem dX1_digestOver_27 : decode cX1_digestOver 27 = .ok (.ladd, 1) := by decide +kernel
theorem dX1_digestOver_28 : decode cX1_digestOver 28 = .ok (.lstore_n 3, 1) := by decide +kernel
theorem dX1_digestOver_29 : decode cX1_digestOver 29 = .ok (.ldc2_w 71, 3) := by decide +kernel
theorem dX1_digestOver_32 : decode cX1_digestOver 32 = .ok (.lload_n 3, 1) := by decide +kernel
theorem dX1_digestOver_33 : decode cX1_digestOver 33 = .ok (.lmul, 1) := by decide +kernel
theorem dX1_digestOver_34 : decode cX1_digestOver 34 = .ok (.aload_n 0, 1) := by decide +kernel
theorem dX1_digestOver_35 : decode cX1_digestOver 35 = .ok (.getfield 13, 3) := by decide +kernel
theorem dX1_digestOver_38 : decode cX1_digestOver 38 = .ok (.iload 5, 2) := by decide +kernel
theorem dX1_digestOver_40 : decode cX1_digestOver 40 = .ok (.iaload, 1) := by decide +kernel
theorem dX1_digestOver_41 : decode cX1_digestOver 41 = .ok (.i2l, 1) := by decide +kernel
theorem dX1_digestOver_42 : decode cX1_digestOver 42 = .ok (.ladd, 1) := by decide +kernel
theorem dX1_digestOver_43 : decode cX1_digestOver 43 = .ok (.lstore_n 3, 1) := by decide +kernel
theorem dX1_digestOver_44 : decode cX1_digestOver 44 = .ok (.iinc 5 1, 3) := by decide +kernel
theorem dX1_digestOver_47 : decode cX1_digestOver 47 = .ok (.goto (-42), 3) := by decide +kernel
theorem dX1_digestOver_50 : decode cX1_digestOver 50 = .ok (.iconst 0, 1) := by decide +kernel
theorem dX1_digestOver_51 : decode cX1_digestOver 51 = .ok (.istore 5, 2) := by decide +kernel
theorem dX1_digestOver_53 : decode cX1_digestOver 53 = .ok (.iload 5, 2) := by decide +kernel
theorem dX1_digestOver_55 : decode cX1_digestOver 55 = .ok (.iconst 2, 1) := by decide +kernel
theorem dX1_digestOver_56 : decode cX1_digestOver 56 = .ok (.if_icmp .ge 39, 3) := by decide +kernel
theorem dX1_digestOver_59 : decode cX1_digestOver 59 = .ok (.ldc2_w 71, 3) := by decide +kernel
theorem dX1_digestOver_62 : decode cX1_digestOver 62 = .ok (.lload_n 3, 1) := by decide +kernel
theorem dX1_digestOver_63 : decode cX1_digestOver 63 = .ok (.lmul, 1) := by decide +kernel
theorem dX1_digestOver_64 : decode cX1_digestOver 64 = .ok (.aload_n 0, 1) := by decide +kernel
theorem dX1_digestOver_65 : decode cX1_digestOver 65 = .ok (.getfield 16, 3) := by decide +kernel
theorem dX1_digestOver_68 : decode cX1_digestOver 68 = .ok (.iload 5, 2) := by decide +kernel
theorem dX1_digestOver_70 : decode cX1_digestOver 70 = .ok (.iaload, 1) := by decide +kernel
theorem dX1_digestOver_71 : decode cX1_digestOver 71 = .ok (.i2l, 1) := by decide +kernel
theorem dX1_digestOver_72 : decode cX1_digestOver 72 = .ok (.ladd, 1) := by decide +kernel
theorem dX1_digestOver_73 : decode cX1_digestOver 73 = .ok (.lstore_n 3, 1) := by decide +kernel
theorem dX1_digestOver_74 : decode cX1_digestOver 74 = .ok (.ldc2_w 71, 3) := by decide +kernel
theorem dX1_digestOver_77 : decode cX1_digestOver 77 = .ok (.lload_n 3, 1) := by decide +kernel
theorem dX1_digestOver_78 : decode cX1_digestOver 78 = .ok (.lmul, 1) := by decide +kernel
theorem dX1_digestOver_79 : decode cX1_digestOver 79 = .ok (.aload_n 0, 1) := by decide +kernel
theorem dX1_digestOver_80 : decode cX1_digestOver 80 = .ok (.getfield 19, 3) := by decide +kernel
theorem dX1_digestOver_83 : decode cX1_digestOver 83 = .ok (.iload 5, 2) := by decide +kernel
theorem dX1_digestOver_85 : decode cX1_digestOver 85 = .ok (.iaload, 1) := by decide +kernel
theorem dX1_digestOver_86 : decode cX1_digestOver 86 = .ok (.i2l, 1) := by decide +kernel
theorem dX1_digestOver_87 : decode cX1_digestOver 87 = .ok (.ladd, 1) := by decide +kernel
theorem dX1_digestOver_88 : decode cX1_digestOver 88 = .ok (.lstore_n 3, 1) := by decide +kernel
theorem dX1_digestOver_89 : decode cX1_digestOver 89 = .ok (.iinc 5 1, 3) := by decide +kernel
theorem dX1_digestOver_92 : decode cX1_digestOver 92 = .ok (.goto (-39), 3) := by decide +kernel
theorem dX1_digestOver_95 : decode cX1_digestOver 95 = .ok (.iconst 0, 1) := by decide +kernel
theorem dX1_digestOver_96 : decode cX1_digestOver 96 = .ok (.istore 5, 2) := by decide +kernel
theorem dX1_digestOver_98 : decode cX1_digestOver 98 = .ok (.iload 5, 2) := by decide +kernel
theorem dX1_digestOver_100 : decode cX1_digestOver 100 = .ok (.aload_n 0, 1) := by decide +kernel
theorem dX1_digestOver_101 : decode cX1_digestOver 101 = .ok (.getfield 51, 3) := by decide +kernel
theorem dX1_digestOver_104 : decode cX1_digestOver 104 = .ok (.if_icmp .ge 69, 3) := by decide +kernel
theorem dX1_digestOver_107 : decode cX1_digestOver 107 = .ok (.ldc2_w 71, 3) := by decide +kernel
theorem dX1_digestOver_110 : decode cX1_digestOver 110 = .ok (.lload_n 3, 1) := by decide +kernel
theorem dX1_digestOver_111 : decode cX1_digestOver 111 = .ok (.lmul, 1) := by decide +kernel
theorem dX1_digestOver_112 : decode cX1_digestOver 112 = .ok (.aload_n 0, 1) := by decide +kernel
theorem dX1_digestOver_113 : decode cX1_digestOver 113 = .ok (.getfield 22, 3) := by decide +kernel
theorem dX1_digestOver_116 : decode cX1_digestOver 116 = .ok (.iload 5, 2) := by decide +kernel
theorem dX1_digestOver_118 : decode cX1_digestOver 118 = .ok (.iaload, 1) := by decide +kernel
theorem dX1_digestOver_119 : decode cX1_digestOver 119 = .ok (.i2l, 1) := by decide +kernel
theorem dX1_digestOver_120 : decode cX1_digestOver 120 = .ok (.ladd, 1) := by decide +kernel
theorem dX1_digestOver_121 : decode cX1_digestOver 121 = .ok (.lstore_n 3, 1) := by decide +kernel
theorem dX1_digestOver_122 : decode cX1_digestOver 122 = .ok (.ldc2_w 71, 3) := by decide +kernel
theorem dX1_digestOver_125 : decode cX1_digestOver 125 = .ok (.lload_n 3, 1) := by decide +kernel
theorem dX1_digestOver_126 : decode cX1_digestOver 126 = .ok (.lmul, 1) := by decide +kernel
theorem dX1_digestOver_127 : decode cX1_digestOver 127 = .ok (.aload_n 0, 1) := by decide +kernel
theorem dX1_digestOver_128 : decode cX1_digestOver 128 = .ok (.getfield 25, 3) := by decide +kernel
theorem dX1_digestOver_131 : decode cX1_digestOver 131 = .ok (.iload 5, 2) := by decide +kernel
theorem dX1_digestOver_133 : decode cX1_digestOver 133 = .ok (.iaload, 1) := by decide +kernel
theorem dX1_digestOver_134 : decode cX1_digestOver 134 = .ok (.i2l, 1) := by decide +kernel
theorem dX1_digestOver_135 : decode cX1_digestOver 135 = .ok (.ladd, 1) := by decide +kernel
theorem dX1_digestOver_136 : decode cX1_digestOver 136 = .ok (.lstore_n 3, 1) := by decide +kernel
theorem dX1_digestOver_137 : decode cX1_digestOver 137 = .ok (.ldc2_w 71, 3) := by decide +kernel
theorem dX1_digestOver_140 : decode cX1_digestOver 140 = .ok (.lload_n 3, 1) := by decide +kernel
theorem dX1_digestOver_141 : decode cX1_digestOver 141 = .ok (.lmul, 1) := by decide +kernel
theorem dX1_digestOver_142 : decode cX1_digestOver 142 = .ok (.aload_n 0, 1) := by decide +kernel
theorem dX1_digestOver_143 : decode cX1_digestOver 143 = .ok (.getfield 28, 3) := by decide +kernel
theorem dX1_digestOver_146 : decode cX1_digestOver 146 = .ok (.iload 5, 2) := by decide +kernel
theorem dX1_digestOver_148 : decode cX1_digestOver 148 = .ok (.iaload, 1) := by decide +kernel
theorem dX1_digestOver_149 : decode cX1_digestOver 149 = .ok (.i2l, 1) := by decide +kernel
theorem dX1_digestOver_150 : decode cX1_digestOver 150 = .ok (.ladd, 1) := by decide +kernel
theorem dX1_digestOver_151 : decode cX1_digestOver 151 = .ok (.lstore_n 3, 1) := by decide +kernel
theorem dX1_digestOver_152 : decode cX1_digestOver 152 = .ok (.ldc2_w 71, 3) := by decide +kernel
theorem dX1_digestOver_155 : decode cX1_digestOver 155 = .ok (.lload_n 3, 1) := by decide +kernel
theorem dX1_digestOver_156 : decode cX1_digestOver 156 = .ok (.lmul, 1) := by decide +kernel
theorem dX1_digestOver_157 : decode cX1_digestOver 157 = .ok (.aload_n 0, 1) := by decide +kernel
theorem dX1_digestOver_158 : decode cX1_digestOver 158 = .ok (.getfield 31, 3) := by decide +kernel
theorem dX1_digestOver_161 : decode cX1_digestOver 161 = .ok (.iload 5, 2) := by decide +kernel
theorem dX1_digestOver_163 : decode cX1_digestOver 163 = .ok (.iaload, 1) := by decide +kernel
theorem dX1_digestOver_164 : decode cX1_digestOver 164 = .ok (.i2l, 1) := by decide +kernel
theorem dX1_digestOver_165 : decode cX1_digestOver 165 = .ok (.ladd, 1) := by decide +kernel
theorem dX1_digestOver_166 : decode cX1_digestOver 166 = .ok (.lstore_n 3, 1) := by decide +kernel
theorem dX1_digestOver_167 : decode cX1_digestOver 167 = .ok (.iinc 5 1, 3) := by decide +kernel
theorem dX1_digestOver_170 : decode cX1_digestOver 170 = .ok (.goto (-72), 3) := by decide +kernel
theorem dX1_digestOver_173 : decode cX1_digestOver 173 = .ok (.lload_n 3, 1) := by decide +kernel
theorem dX1_digestOver_174 : decode cX1_digestOver 174 = .ok (.lreturn, 1) := by decide +kernel
theorem dX2_round_0 : decode cX2_round 0 = .ok (.iload_n 0, 1) := by decide +kernel
theorem dX2_round_1 : decode cX2_round 1 = .ok (.tableswitch 47 1 4 #[31, 33, 47, 39], 31) := by decide +kernel
theorem dX2_round_32 : decode cX2_round 32 = .ok (.iload_n 1, 1) := by decide +kernel
theorem dX2_round_33 : decode cX2_round 33 = .ok (.ireturn, 1) := by decide +kernel
theorem dX2_round_34 : decode cX2_round 34 = .ok (.iconst 2, 1) := by decide +kernel
theorem dX2_round_35 : decode cX2_round 35 = .ok (.iload_n 1, 1) := by decide +kernel
theorem dX2_round_36 : decode cX2_round 36 = .ok (.imul, 1) := by decide +kernel
theorem dX2_round_37 : decode cX2_round 37 = .ok (.iconst 4, 1) := by decide +kernel
theorem dX2_round_38 : decode cX2_round 38 = .ok (.iadd, 1) := by decide +kernel
theorem dX2_round_39 : decode cX2_round 39 = .ok (.ireturn, 1) := by decide +kernel
theorem dX2_round_40 : decode cX2_round 40 = .ok (.iconst 2, 1) := by decide +kernel
theorem dX2_round_41 : decode cX2_round 41 = .ok (.iload_n 1, 1) := by decide +kernel
theorem dX2_round_42 : decode cX2_round 42 = .ok (.imul, 1) := by decide +kernel
theorem dX2_round_43 : decode cX2_round 43 = .ok (.iconst 4, 1) := by decide +kernel
theorem dX2_round_44 : decode cX2_round 44 = .ok (.iadd, 1) := by decide +kernel
theorem dX2_round_45 : decode cX2_round 45 = .ok (.iconst 2, 1) := by decide +kernel
theorem dX2_round_46 : decode cX2_round 46 = .ok (.iadd, 1) := by decide +kernel
theorem dX2_round_47 : decode cX2_round 47 = .ok (.ireturn, 1) := by decide +kernel
theorem dX2_round_48 : decode cX2_round 48 = .ok (.iconst 2, 1) := by decide +kernel
theorem dX2_round_49 : decode cX2_round 49 = .ok (.iload_n 1, 1) := by decide +kernel
theorem dX2_round_50 : decode cX2_round 50 = .ok (.imul, 1) := by decide +kernel
theorem dX2_round_51 : decode cX2_round 51 = .ok (.ireturn, 1) := by decide +kernel
set_option maxRecDepth 20000 in
theorem ggX2_floorIn_X2_round : GoodIn wsX2_floorIn wsX2_round := goodIn_r _ [11] (by decide +kernel) (by decide +kernel)
set_option maxRecDepth 20000 in
theorem gX2_floorIn_X2_round : GoodIn wsX2_floorIn (va_wsS RX2 11 yX2_round wsX2_round) := goodIn_app (goodIn_of _ (by decide +kernel)) ggX2_floorIn_X2_round
theorem dX2_floorIn_0 : decode cX2_floorIn 0 = .ok (.iload_n 0, 1) := by decide +kernel
theorem dX2_floorIn_1 : decode cX2_floorIn 1 = .ok (.iload_n 1, 1) := by decide +kernel
theorem dX2_floorIn_2 : decode cX2_floorIn 2 = .ok (.invokestatic 11, 3) := by decide +kernel
theorem dX2_floorIn_5 : decode cX2_floorIn 5 = .ok (.istore 4, 2) := by decide +kernel
theorem dX2_floorIn_7 : decode cX2_floorIn 7 = .ok (.iload 4, 2) := by decide +kernel
theorem dX2_floorIn_9 : decode cX2_floorIn 9 = .ok (.iconst 1, 1) := by decide +kernel
theorem dX2_floorIn_10 : decode cX2_floorIn 10 = .ok (.if_icmp .ge 5, 3) := by decide +kernel
theorem dX2_floorIn_13 : decode cX2_floorIn 13 = .ok (.iconst 0, 1) := by decide +kernel
theorem dX2_floorIn_14 : decode cX2_floorIn 14 = .ok (.ireturn, 1) := by decide +kernel
theorem dX2_floorIn_15 : decode cX2_floorIn 15 = .ok (.iload_n 3, 1) := by decide +kernel
theorem dX2_floorIn_16 : decode cX2_floorIn 16 = .ok (.iload_n 2, 1) := by decide +kernel
theorem dX2_floorIn_17 : decode cX2_floorIn 17 = .ok (.iadd, 1) := by decide +kernel
theorem dX2_floorIn_18 : decode cX2_floorIn 18 = .ok (.iload 4, 2) := by decide +kernel
theorem dX2_floorIn_20 : decode cX2_floorIn 20 = .ok (.irem, 1) := by decide +kernel
theorem dX2_floorIn_21 : decode cX2_floorIn 21 = .ok (.istore 5, 2) := by decide +kernel
theorem dX2_floorIn_23 : decode cX2_floorIn 23 = .ok (.iload_n 0, 1) := by decide +kernel
theorem dX2_floorIn_24 : decode cX2_floorIn 24 = .ok (.iconst 1, 1) := by decide +kernel
theorem dX2_floorIn_25 : decode cX2_floorIn 25 = .ok (.if_icmp .ne 12, 3) := by decide +kernel
theorem dX2_floorIn_28 : decode cX2_floorIn 28 = .ok (.iconst 2, 1) := by decide +kernel
theorem dX2_floorIn_29 : decode cX2_floorIn 29 = .ok (.iload 5, 2) := by decide +kernel
theorem dX2_floorIn_31 : decode cX2_floorIn 31 = .ok (.imul, 1) := by decide +kernel
theorem dX2_floorIn_32 : decode cX2_floorIn 32 = .ok (.istore 5, 2) := by decide +kernel
theorem dX2_floorIn_34 : decode cX2_floorIn 34 = .ok (.goto 24, 3) := by decide +kernel
theorem dX2_floorIn_37 : decode cX2_floorIn 37 = .ok (.iload_n 0, 1) := by decide +kernel
theorem dX2_floorIn_38 : decode cX2_floorIn 38 = .ok (.iconst 4, 1) := by decide +kernel
theorem dX2_floorIn_39 : decode cX2_floorIn 39 = .ok (.if_icmp .ne 19, 3) := by decide +kernel
theorem dX2_floorIn_42 : decode cX2_floorIn 42 = .ok (.iload 5, 2) := by decide +kernel
theorem dX2_floorIn_44 : decode cX2_floorIn 44 = .ok (.iload_n 1, 1) := by decide +kernel
theorem dX2_floorIn_45 : decode cX2_floorIn 45 = .ok (.if_icmp .le 13, 3) := by decide +kernel
theorem dX2_floorIn_48 : decode cX2_floorIn 48 = .ok (.iload_n 1, 1) := by decide +kernel
theorem dX2_floorIn_49 : decode cX2_floorIn 49 = .ok (.iload 5, 2) := by decide +kernel
theorem dX2_floorIn_51 : decode cX2_floorIn 51 = .ok (.iconst 2, 1) := by decide +kernel
theorem dX2_floorIn_52 : decode cX2_floorIn 52 = .ok (.isub, 1) := by decide +kernel
theorem dX2_floorIn_53 : decode cX2_floorIn 53 = .ok (.invokestatic 15, 3) := by decide +kernel
theorem dX2_floorIn_56 : decode cX2_floorIn 56 = .ok (.istore 5, 2) := by decide +kernel
theorem dX2_floorIn_58 : decode cX2_floorIn 58 = .ok (.iconst 0, 1) := by decide +kernel
theorem dX2_floorIn_59 : decode cX2_floorIn 59 = .ok (.iconst 2, 1) := by decide +kernel
theorem dX2_floorIn_60 : decode cX2_floorIn 60 = .ok (.iload_n 1, 1) := by decide +kernel
theorem dX2_floorIn_61 : decode cX2_floorIn 61 = .ok (.imul, 1) := by decide +kernel
theorem dX2_floorIn_62 : decode cX2_floorIn 62 = .ok (.iload 5, 2) := by decide +kernel
theorem dX2_floorIn_64 : decode cX2_floorIn 64 = .ok (.isub, 1) := by decide +kernel
theorem dX2_floorIn_65 : decode cX2_floorIn 65 = .ok (.invokestatic 15, 3) := by decide +kernel
theorem dX2_floorIn_68 : decode cX2_floorIn 68 = .ok (.istore 6, 2) := by decide +kernel
theorem dX2_floorIn_70 : decode cX2_floorIn 70 = .ok (.iload 5, 2) := by decide +kernel
theorem dX2_floorIn_72 : decode cX2_floorIn 72 = .ok (.iload 6, 2) := by decide +kernel
theorem dX2_floorIn_74 : decode cX2_floorIn 74 = .ok (.invokestatic 20, 3) := by decide +kernel
theorem dX2_floorIn_77 : decode cX2_floorIn 77 = .ok (.ireturn, 1) := by decide +kernel
theorem dX2_opens_0 : decode cX2_opens 0 = .ok (.iload_n 0, 1) := by decide +kernel
theorem dX2_opens_1 : decode cX2_opens 1 = .ok (.lookupswitch 59 #[(3, 27), (5, 44)], 27) := by decide +kernel
theorem dX2_opens_28 : decode cX2_opens 28 = .ok (.iload_n 2, 1) := by decide +kernel
theorem dX2_opens_29 : decode cX2_opens 29 = .ok (.ifCond .eq 10, 3) := by decide +kernel
theorem dX2_opens_32 : decode cX2_opens 32 = .ok (.iload_n 2, 1) := by decide +kernel
theorem dX2_opens_33 : decode cX2_opens 33 = .ok (.iconst 2, 1) := by decide +kernel
theorem dX2_opens_34 : decode cX2_opens 34 = .ok (.irem, 1) := by decide +kernel
theorem dX2_opens_35 : decode cX2_opens 35 = .ok (.iconst 1, 1) := by decide +kernel
theorem dX2_opens_36 : decode cX2_opens 36 = .ok (.if_icmp .ne 7, 3) := by decide +kernel
theorem dX2_opens_39 : decode cX2_opens 39 = .ok (.iconst 1, 1) := by decide +kernel
theorem dX2_opens_40 : decode cX2_opens 40 = .ok (.goto 4, 3) := by decide +kernel
theorem dX2_opens_43 : decode cX2_opens 43 = .ok (.iconst 0, 1) := by decide +kernel
theorem dX2_opens_44 : decode cX2_opens 44 = .ok (.ireturn, 1) := by decide +kernel
theorem dX2_opens_45 : decode cX2_opens 45 = .ok (.iload_n 2, 1) := by decide +kernel
theorem dX2_opens_46 : decode cX2_opens 46 = .ok (.ifCond .eq 8, 3) := by decide +kernel
theorem dX2_opens_49 : decode cX2_opens 49 = .ok (.iload_n 2, 1) := by decide +kernel
theorem dX2_opens_50 : decode cX2_opens 50 = .ok (.iload_n 1, 1) := by decide +kernel
theorem dX2_opens_51 : decode cX2_opens 51 = .ok (.if_icmp .ne 7, 3) := by decide +kernel
theorem dX2_opens_54 : decode cX2_opens 54 = .ok (.iconst 1, 1) := by decide +kernel
theorem dX2_opens_55 : decode cX2_opens 55 = .ok (.goto 4, 3) := by decide +kernel
theorem dX2_opens_58 : decode cX2_opens 58 = .ok (.iconst 0, 1) := by decide +kernel
theorem dX2_opens_59 : decode cX2_opens 59 = .ok (.ireturn, 1) := by decide +kernel
theorem dX2_opens_60 : decode cX2_opens 60 = .ok (.iconst 1, 1) := by decide +kernel
theorem dX2_opens_61 : decode cX2_opens 61 = .ok (.ireturn, 1) := by decide +kernel
theorem dX3_init_0 : decode cX3_init 0 = .ok (.aload_n 0, 1) := by decide +kernel
theorem dX3_init_1 : decode cX3_init 1 = .ok (.invokespecial 3, 3) := by decide +kernel
theorem dX3_init_4 : decode cX3_init 4 = .ok (.aload_n 0, 1) := by decide +kernel
theorem dX3_init_5 : decode cX3_init 5 = .ok (.sipush 150, 3) := by decide +kernel
theorem dX3_init_8 : decode cX3_init 8 = .ok (.newarray .byte, 2) := by decide +kernel
theorem dX3_init_10 : decode cX3_init 10 = .ok (.putfield 11, 3) := by decide +kernel
theorem dX3_init_13 : decode cX3_init 13 = .ok (.return_, 1) := by decide +kernel
theorem dX3_add_0 : decode cX3_add 0 = .ok (.aload_n 0, 1) := by decide +kernel
theorem dX3_add_1 : decode cX3_add 1 = .ok (.getfield 15, 3) := by decide +kernel
theorem dX3_add_4 : decode cX3_add 4 = .ok (.sipush 150, 3) := by decide +kernel
theorem dX3_add_7 : decode cX3_add 7 = .ok (.if_icmp .ge 24, 3) := by decide +kernel
theorem dX3_add_10 : decode cX3_add 10 = .ok (.aload_n 0, 1) := by decide +kernel
theorem dX3_add_11 : decode cX3_add 11 = .ok (.getfield 11, 3) := by decide +kernel
theorem dX3_add_14 : decode cX3_add 14 = .ok (.aload_n 0, 1) := by decide +kernel
theorem dX3_add_15 : decode cX3_add 15 = .ok (.getfield 15, 3) := by decide +kernel
theorem dX3_add_18 : decode cX3_add 18 = .ok (.iload_n 1, 1) := by decide +kernel
theorem dX3_add_19 : decode cX3_add 19 = .ok (.i2b, 1) := by decide +kernel
theorem dX3_add_20 : decode cX3_add 20 = .ok (.bastore, 1) := by decide +kernel
theorem dX3_add_21 : decode cX3_add 21 = .ok (.aload_n 0, 1) := by decide +kernel
theorem dX3_add_22 : decode cX3_add 22 = .ok (.dup, 1) := by decide +kernel
theorem dX3_add_23 : decode cX3_add 23 = .ok (.getfield 15, 3) := by decide +kernel
theorem dX3_add_26 : decode cX3_add 26 = .ok (.iconst 1, 1) := by decide +kernel
theorem dX3_add_27 : decode cX3_add 27 = .ok (.iadd, 1) := by decide +kernel
theorem dX3_add_28 : decode cX3_add 28 = .ok (.putfield 15, 3) := by decide +kernel
theorem dX3_add_31 : decode cX3_add 31 = .ok (.return_, 1) := by decide +kernel
set_option maxRecDepth 20000 in
theorem ggX3_readInto_X3_nextToken : GoodIn wsX3_readInto wsX3_nextToken := goodIn_r _ [8, 1, 9, 10, 2, 3, 11, 12, 13, 7, 14, 15, 16, 17, 18, 19, 20, 21, 22, 23, 24, 25, 26, 27, 28, 29, 134, 135, 136, 137, 138, 139] (by decide +kernel) (by decide +kernel)
set_option maxRecDepth 20000 in
theorem gX3_readInto_X3_nextToken : GoodIn wsX3_readInto (wsV RX3 22 RX3 yX3_nextToken wsX3_nextToken) := goodIn_app (goodIn_of _ (by decide +kernel)) ggX3_readInto_X3_nextToken
set_option maxRecDepth 20000 in
theorem ggX3_readInto_X3_readHouse : GoodIn wsX3_readInto wsX3_readHouse := goodIn_r _ [33, 11, 34, 35, 36, 7, 37, 3, 1, 2, 10, 38, 39, 40, 41, 42, 43, 44, 45, 46, 47, 48, 49, 50, 51, 52, 53, 54, 55, 56, 57, 58, 59, 60, 61, 62, 63, 64, 65, 66, 67, 68, 69, 70, 71, 72, 73, 74, 75, 76, 77, 78, 79, 80, 81, 82, 83, 84, 85, 86, 87, 88, 89, 90, 4, 5, 6, 8, 9, 12, 13, 14, 15, 16, 17, 18, 19, 20, 21, 22, 23, 24, 25, 26, 27, 28, 29, 91, 92, 93, 94, 95, 96, 97, 98, 99, 100, 101, 102, 103, 104, 105, 106, 107, 108, 109, 110, 111, 112, 113, 134, 135, 136, 137, 138, 139, 140, 141, 142, 143, 144, 145, 146, 147, 148, 149, 150, 151, 152, 153] (by decide +kernel) (by decide +kernel)
set_option maxRecDepth 20000 in
theorem gX3_readInto_X3_readHouse : GoodIn wsX3_readInto (wsV RX3 25 RX3 yX3_readHouse wsX3_readHouse) := goodIn_app (goodIn_of _ (by decide +kernel)) ggX3_readInto_X3_readHouse
set_option maxRecDepth 20000 in
theorem ggX3_readInto_X3_readItem : GoodIn wsX3_readInto wsX3_readItem := goodIn_r _ [117, 118, 34, 35, 36, 7, 37, 3, 1, 2, 10, 38, 39, 40, 41, 42, 43, 44, 45, 46, 47, 48, 49, 50, 51, 52, 53, 54, 55, 56, 57, 58, 59, 60, 61, 62, 63, 64, 65, 66, 67, 68, 69, 70, 71, 72, 73, 74, 75, 76, 77, 78, 79, 80, 81, 82, 83, 84, 85, 86, 119, 120, 121, 122, 11, 87, 88, 89, 90, 4, 5, 6, 8, 9, 12, 13, 14, 15, 16, 17, 18, 19, 20, 21, 22, 23, 24, 25, 26, 27, 28, 29, 91, 92, 93, 123, 124, 125, 97, 126, 100, 127, 128, 103, 110, 111, 112, 113, 129, 130, 131, 132, 133, 105, 106, 107, 108, 109, 140, 141, 142, 143, 144, 145, 146, 147, 148, 149, 150, 151, 152, 153, 134, 135, 136, 137, 138, 139] (by decide +kernel) (by decide +kernel)
set_option maxRecDepth 20000 in
theorem gX3_readInto_X3_readItem : GoodIn wsX3_readInto (wsV RX3 35 RX3 yX3_readItem wsX3_readItem) := goodIn_app (goodIn_of _ (by decide +kernel)) ggX3_readInto_X3_readItem
theorem dX3_readInto_0 : decode cX3_readInto 0 = .ok (.aload_n 0, 1) := by decide +kernel
theorem dX3_readInto_1 : decode cX3_readInto 1 = .ok (.iconst 0, 1) := by decide +kernel
theorem dX3_readInto_2 : decode cX3_readInto 2 = .ok (.putfield 19, 3) := by decide +kernel
theorem dX3_readInto_5 : decode cX3_readInto 5 = .ok (.aload_n 0, 1) := by decide +kernel
theorem dX3_readInto_6 : decode cX3_readInto 6 = .ok (.invokevirtual 22, 3) := by decide +kernel
theorem dX3_readInto_9 : decode cX3_readInto 9 = .ok (.aload_n 0, 1) := by decide +kernel
theorem dX3_readInto_10 : decode cX3_readInto 10 = .ok (.aload_n 1, 1) := by decide +kernel
theorem dX3_readInto_11 : decode cX3_readInto 11 = .ok (.invokevirtual 25, 3) := by decide +kernel
theorem dX3_readInto_14 : decode cX3_readInto 14 = .ok (.ifCond .ne 11, 3) := by decide +kernel
theorem dX3_readInto_17 : decode cX3_readInto 17 = .ok (.bipush (-10), 2) := by decide +kernel
theorem dX3_readInto_19 : decode cX3_readInto 19 = .ok (.aload_n 0, 1) := by decide +kernel
theorem dX3_readInto_20 : decode cX3_readInto 20 = .ok (.getfield 29, 3) := by decide +kernel
theorem dX3_readInto_23 : decode cX3_readInto 23 = .ok (.isub, 1) := by decide +kernel
theorem dX3_readInto_24 : decode cX3_readInto 24 = .ok (.ireturn, 1) := by decide +kernel
theorem dX3_readInto_25 : decode cX3_readInto 25 = .ok (.iconst 1, 1) := by decide +kernel
theorem dX3_readInto_26 : decode cX3_readInto 26 = .ok (.istore_n 2, 1) := by decide +kernel
theorem dX3_readInto_27 : decode cX3_readInto 27 = .ok (.aload_n 0, 1) := by decide +kernel
theorem dX3_readInto_28 : decode cX3_readInto 28 = .ok (.invokevirtual 22, 3) := by decide +kernel
theorem dX3_readInto_31 : decode cX3_readInto 31 = .ok (.aload_n 0, 1) := by decide +kernel
theorem dX3_readInto_32 : decode cX3_readInto 32 = .ok (.getfield 32, 3) := by decide +kernel
theorem dX3_readInto_35 : decode cX3_readInto 35 = .ok (.ifCond .eq 36, 3) := by decide +kernel
theorem dX3_readInto_38 : decode cX3_readInto 38 = .ok (.iload_n 2, 1) := by decide +kernel
theorem dX3_readInto_39 : decode cX3_readInto 39 = .ok (.sipush 150, 3) := by decide +kernel
theorem dX3_readInto_42 : decode cX3_readInto 42 = .ok (.if_icmp .ge 29, 3) := by decide +kernel
theorem dX3_readInto_45 : decode cX3_readInto 45 = .ok (.aload_n 0, 1) := by decide +kernel
theorem dX3_readInto_46 : decode cX3_readInto 46 = .ok (.aload_n 1, 1) := by decide +kernel
theorem dX3_readInto_47 : decode cX3_readInto 47 = .ok (.invokevirtual 35, 3) := by decide +kernel
theorem dX3_readInto_50 : decode cX3_readInto 50 = .ok (.ifCond .ne 11, 3) := by decide +kernel
theorem dX3_readInto_53 : decode cX3_readInto 53 = .ok (.bipush (-10), 2) := by decide +kernel
theorem dX3_readInto_55 : decode cX3_readInto 55 = .ok (.aload_n 0, 1) := by decide +kernel
theorem dX3_readInto_56 : decode cX3_readInto 56 = .ok (.getfield 29, 3) := by decide +kernel
theorem dX3_readInto_59 : decode cX3_readInto 59 = .ok (.isub, 1) := by decide +kernel
theorem dX3_readInto_60 : decode cX3_readInto 60 = .ok (.ireturn, 1) := by decide +kernel
theorem dX3_readInto_61 : decode cX3_readInto 61 = .ok (.iinc 2 1, 3) := by decide +kernel
theorem dX3_readInto_64 : decode cX3_readInto 64 = .ok (.aload_n 0, 1) := by decide +kernel
theorem dX3_readInto_65 : decode cX3_readInto 65 = .ok (.invokevirtual 22, 3) := by decide +kernel
theorem dX3_readInto_68 : decode cX3_readInto 68 = .ok (.goto (-37), 3) := by decide +kernel
theorem dX3_readInto_71 : decode cX3_readInto 71 = .ok (.iload_n 2, 1) := by decide +kernel
theorem dX3_readInto_72 : decode cX3_readInto 72 = .ok (.ireturn, 1) := by decide +kernel
set_option maxRecDepth 20000 in
theorem ggX3_readHouse_X3_isWord : GoodIn wsX3_readHouse wsX3_isWord := goodIn_r _ [6, 7, 8, 9, 10, 11, 12, 13, 14, 15, 16, 17, 18, 19, 20, 21, 22, 23, 24, 25, 26, 27, 28, 29, 30, 31, 32, 33, 34, 35, 36, 37, 38, 39, 40, 41, 42, 43, 44, 45, 46, 47, 48, 49, 50, 51, 52, 53, 54, 55, 56, 57, 58, 59, 110, 111, 112, 113, 114, 115] (by decide +kernel) (by decide +kernel)
set_option maxRecDepth 20000 in
theorem gX3_readHouse_X3_isWord : GoodIn wsX3_readHouse (wsV RX3 40 RX3 yX3_isWord wsX3_isWord) := goodIn_app (goodIn_of _ (by decide +kernel)) ggX3_readHouse_X3_isWord
set_option maxRecDepth 20000 in
theorem ggX3_readHouse_X3_nextIsNumber : GoodIn wsX3_readHouse wsX3_nextIsNumber := goodIn_r _ [63, 7, 1, 64, 65, 66, 5, 67, 8, 68, 10, 9, 69, 70, 71, 72, 73, 74, 75, 76, 77, 78, 79, 80, 81, 82, 83, 84, 85, 86, 87, 88, 89, 110, 111, 112, 113, 114, 115] (by decide +kernel) (by decide +kernel)
set_option maxRecDepth 20000 in
theorem gX3_readHouse_X3_nextIsNumber : GoodIn wsX3_readHouse (wsV RX3 46 RX3 yX3_nextIsNumber wsX3_nextIsNumber) := goodIn_app (goodIn_of _ (by decide +kernel)) ggX3_readHouse_X3_nextIsNumber
set_option maxRecDepth 20000 in
theorem ggX3_readHouse_X1_build : GoodIn wsX3_readHouse wsX1_build := goodIn_r _ [94, 95, 96, 97, 98, 99, 100, 101, 102, 93, 103, 104, 105, 116, 117, 118, 119, 120, 121, 122, 123, 124, 125, 126, 127, 128, 129] (by decide +kernel) (by decide +kernel)
set_option maxRecDepth 20000 in
theorem gX3_readHouse_X1_build : GoodIn wsX3_readHouse (wsV RX3 53 RX1 yX1_build wsX1_build) := goodIn_app (goodIn_of _ (by decide +kernel)) ggX3_readHouse_X1_build
set_option maxRecDepth 20000 in
theorem ggX3_readHouse_X3_nextIsSemicolon : GoodIn wsX3_readHouse wsX3_nextIsSemicolon := goodIn_r _ [109, 7, 64, 65, 66, 5, 67, 8, 68, 10, 9, 1, 69, 70, 71, 72, 73, 74, 75, 76, 77, 78, 79, 80, 81, 82, 83, 84, 85, 86, 110, 111, 112, 113, 114, 115] (by decide +kernel) (by decide +kernel)
set_option maxRecDepth 20000 in
theorem gX3_readHouse_X3_nextIsSemicolon : GoodIn wsX3_readHouse (wsV RX3 57 RX3 yX3_nextIsSemicolon wsX3_nextIsSemicolon) := goodIn_app (goodIn_of _ (by decide +kernel)) ggX3_readHouse_X3_nextIsSemicolon
theorem dX3_readHouse_0 : decode cX3_readHouse 0 = .ok (.aload_n 0, 1) := by decide +kernel
theorem dX3_readHouse_1 : decode cX3_readHouse 1 = .ok (.ldc 38, 2) := by decide +kernel
theorem dX3_readHouse_3 : decode cX3_readHouse 3 = .ok (.invokevirtual 40, 3) := by decide +kernel
theorem dX3_readHouse_6 : decode cX3_readHouse 6 = .ok (.ifCond .eq 13, 3) := by decide +kernel
theorem dX3_readHouse_9 : decode cX3_readHouse 9 = .ok (.aload_n 0, 1) := by decide +kernel
theorem dX3_readHouse_10 : decode cX3_readHouse 10 = .ok (.iconst 1, 1) := by decide +kernel
theorem dX3_readHouse_11 : decode cX3_readHouse 11 = .ok (.bipush 11, 2) := by decide +kernel
theorem dX3_readHouse_13 : decode cX3_readHouse 13 = .ok (.invokevirtual 46, 3) := by decide +kernel
theorem dX3_readHouse_16 : decode cX3_readHouse 16 = .ok (.ifCond .ne 5, 3) := by decide +kernel
theorem dX3_readHouse_19 : decode cX3_readHouse 19 = .ok (.iconst 0, 1) := by decide +kernel
theorem dX3_readHouse_20 : decode cX3_readHouse 20 = .ok (.ireturn, 1) := by decide +kernel
theorem dX3_readHouse_21 : decode cX3_readHouse 21 = .ok (.aload_n 1, 1) := by decide +kernel
theorem dX3_readHouse_22 : decode cX3_readHouse 22 = .ok (.aload_n 0, 1) := by decide +kernel
theorem dX3_readHouse_23 : decode cX3_readHouse 23 = .ok (.getfield 50, 3) := by decide +kernel
theorem dX3_readHouse_26 : decode cX3_readHouse 26 = .ok (.invokevirtual 53, 3) := by decide +kernel
theorem dX3_readHouse_29 : decode cX3_readHouse 29 = .ok (.aload_n 0, 1) := by decide +kernel
theorem dX3_readHouse_30 : decode cX3_readHouse 30 = .ok (.invokevirtual 57, 3) := by decide +kernel
theorem dX3_readHouse_33 : decode cX3_readHouse 33 = .ok (.ireturn, 1) := by decide +kernel
set_option maxRecDepth 20000 in
theorem ggX3_readItem_X3_isWord : GoodIn wsX3_readItem wsX3_isWord := goodIn_r _ [6, 7, 8, 9, 10, 11, 12, 13, 14, 15, 16, 17, 18, 19, 20, 21, 22, 23, 24, 25, 26, 27, 28, 29, 30, 31, 32, 33, 34, 35, 36, 37, 38, 39, 40, 41, 42, 43, 44, 45, 46, 47, 48, 49, 50, 51, 52, 53, 54, 55, 56, 57, 58, 59, 132, 133, 134, 135, 136, 137] (by decide +kernel) (by decide +kernel)
set_option maxRecDepth 20000 in
theorem gX3_readItem_X3_isWord : GoodIn wsX3_readItem (wsV RX3 40 RX3 yX3_isWord wsX3_isWord) := goodIn_app (goodIn_of _ (by decide +kernel)) ggX3_readItem_X3_isWord
set_option maxRecDepth 20000 in
theorem ggX3_readItem_X3_readLift : GoodIn wsX3_readItem wsX3_readLift := goodIn_r _ [63, 64, 65, 66, 67, 5, 68, 7, 69, 70, 71, 72, 8, 73, 10, 9, 74, 75, 76, 77, 78, 79, 80, 81, 82, 83, 84, 85, 86, 87, 88, 89, 90, 91, 92, 93, 94, 95, 96, 97, 98, 99, 100, 101, 102, 103, 104, 105, 106, 107, 132, 133, 134, 135, 136, 137, 118, 119, 120, 121, 122, 123, 124, 125, 126, 127, 128, 129, 130, 131] (by decide +kernel) (by decide +kernel)
set_option maxRecDepth 20000 in
theorem gX3_readItem_X3_readLift : GoodIn wsX3_readItem (wsV RX3 66 RX3 yX3_readLift wsX3_readLift) := goodIn_app (goodIn_of _ (by decide +kernel)) ggX3_readItem_X3_readLift
set_option maxRecDepth 20000 in
theorem ggX3_readItem_X3_readLine : GoodIn wsX3_readItem wsX3_readLine := goodIn_r _ [111, 64, 65, 66, 67, 5, 68, 7, 69, 70, 71, 72, 8, 73, 10, 9, 74, 75, 76, 77, 78, 79, 80, 81, 82, 83, 84, 85, 86, 87, 88, 89, 90, 91, 92, 93, 94, 112, 113, 114, 98, 115, 116, 117, 104, 105, 106, 107, 132, 133, 134, 135, 136, 137, 118, 119, 120, 121, 122, 123, 124, 125, 126, 127, 128, 129, 130, 131] (by decide +kernel) (by decide +kernel)
set_option maxRecDepth 20000 in
theorem gX3_readItem_X3_readLine : GoodIn wsX3_readItem (wsV RX3 71 RX3 yX3_readLine wsX3_readLine) := goodIn_app (goodIn_of _ (by decide +kernel)) ggX3_readItem_X3_readLine
theorem dX3_readItem_0 : decode cX3_readItem 0 = .ok (.aload_n 0, 1) := by decide +kernel
theorem dX3_readItem_1 : decode cX3_readItem 1 = .ok (.ldc 61, 2) := by decide +kernel
theorem dX3_readItem_3 : decode cX3_readItem 3 = .ok (.invokevirtual 40, 3) := by decide +kernel
theorem dX3_readItem_6 : decode cX3_readItem 6 = .ok (.ifCond .eq 17, 3) := by decide +kernel
theorem dX3_readItem_9 : decode cX3_readItem 9 = .ok (.aload_n 1, 1) := by decide +kernel
theorem dX3_readItem_10 : decode cX3_readItem 10 = .ok (.getfield 63, 3) := by decide +kernel
theorem dX3_readItem_13 : decode cX3_readItem 13 = .ok (.iconst 4, 1) := by decide +kernel
theorem dX3_readItem_14 : decode cX3_readItem 14 = .ok (.if_icmp .ge 9, 3) := by decide +kernel
theorem dX3_readItem_17 : decode cX3_readItem 17 = .ok (.aload_n 0, 1) := by decide +kernel
theorem dX3_readItem_18 : decode cX3_readItem 18 = .ok (.aload_n 1, 1) := by decide +kernel
theorem dX3_readItem_19 : decode cX3_readItem 19 = .ok (.invokevirtual 66, 3) := by decide +kernel
theorem dX3_readItem_22 : decode cX3_readItem 22 = .ok (.ireturn, 1) := by decide +kernel
theorem dX3_readItem_23 : decode cX3_readItem 23 = .ok (.aload_n 0, 1) := by decide +kernel
theorem dX3_readItem_24 : decode cX3_readItem 24 = .ok (.ldc 69, 2) := by decide +kernel
theorem dX3_readItem_26 : decode cX3_readItem 26 = .ok (.invokevirtual 40, 3) := by decide +kernel
theorem dX3_readItem_29 : decode cX3_readItem 29 = .ok (.ifCond .eq 15, 3) := by decide +kernel
theorem dX3_readItem_32 : decode cX3_readItem 32 = .ok (.aload_n 0, 1) := by decide +kernel
theorem dX3_readItem_33 : decode cX3_readItem 33 = .ok (.aload_n 1, 1) := by decide +kernel
theorem dX3_readItem_34 : decode cX3_readItem 34 = .ok (.invokevirtual 71, 3) := by decide +kernel
theorem dX3_readItem_37 : decode cX3_readItem 37 = .ok (.ifCond .eq 7, 3) := by decide +kernel
theorem dX3_readItem_40 : decode cX3_readItem 40 = .ok (.iconst 1, 1) := by decide +kernel
theorem dX3_readItem_41 : decode cX3_readItem 41 = .ok (.goto 4, 3) := by decide +kernel
theorem dX3_readItem_44 : decode cX3_readItem 44 = .ok (.iconst 0, 1) := by decide +kernel
theorem dX3_readItem_45 : decode cX3_readItem 45 = .ok (.ireturn, 1) := by decide +kernel
set_option maxRecDepth 20000 in
theorem ggX3_readLift_X3_nextIsNumber : GoodIn wsX3_readLift wsX3_nextIsNumber := goodIn_r _ [6, 7, 1, 8, 9, 10, 5, 11, 12, 13, 14, 15, 16, 17, 18, 19, 20, 21, 22, 23, 24, 25, 26, 27, 28, 29, 30, 31, 32, 33, 34, 35, 36, 50, 51, 52, 53, 54, 55] (by decide +kernel) (by decide +kernel)
set_option maxRecDepth 20000 in
theorem gX3_readLift_X3_nextIsNumber : GoodIn wsX3_readLift (wsV RX3 46 RX3 yX3_nextIsNumber wsX3_nextIsNumber) := goodIn_app (goodIn_of _ (by decide +kernel)) ggX3_readLift_X3_nextIsNumber
set_option maxRecDepth 20000 in
theorem ggX3_readLift_X1_addLift : GoodIn wsX3_readLift wsX1_addLift := goodIn_r _ [41, 42, 43, 44, 45, 56, 57, 58, 59, 60, 61, 62, 63, 64, 65, 66, 67, 68, 69] (by decide +kernel) (by decide +kernel)
set_option maxRecDepth 20000 in
theorem gX3_readLift_X1_addLift : GoodIn wsX3_readLift (wsV RX3 76 RX1 yX1_addLift wsX1_addLift) := goodIn_app (goodIn_of _ (by decide +kernel)) ggX3_readLift_X1_addLift
set_option maxRecDepth 20000 in
theorem ggX3_readLift_X3_nextIsSemicolon : GoodIn wsX3_readLift wsX3_nextIsSemicolon := goodIn_r _ [49, 7, 8, 9, 10, 5, 11, 12, 13, 14, 15, 1, 16, 17, 18, 19, 20, 21, 22, 23, 24, 25, 26, 27, 28, 29, 30, 31, 32, 33, 50, 51, 52, 53, 54, 55] (by decide +kernel) (by decide +kernel)
set_option maxRecDepth 20000 in
theorem gX3_readLift_X3_nextIsSemicolon : GoodIn wsX3_readLift (wsV RX3 57 RX3 yX3_nextIsSemicolon wsX3_nextIsSemicolon) := goodIn_app (goodIn_of _ (by decide +kernel)) ggX3_readLift_X3_nextIsSemicolon
theorem dX3_readLift_0 : decode cX3_readLift 0 = .ok (.aload_n 0, 1) := by decide +kernel
theorem dX3_readLift_1 : decode cX3_readLift 1 = .ok (.iconst 0, 1) := by decide +kernel
theorem dX3_readLift_2 : decode cX3_readLift 2 = .ok (.iconst 5, 1) := by decide +kernel
theorem dX3_readLift_3 : decode cX3_readLift 3 = .ok (.invokevirtual 46, 3) := by decide +kernel
theorem dX3_readLift_6 : decode cX3_readLift 6 = .ok (.ifCond .ne 5, 3) := by decide +kernel
theorem dX3_readLift_9 : decode cX3_readLift 9 = .ok (.iconst 0, 1) := by decide +kernel
theorem dX3_readLift_10 : decode cX3_readLift 10 = .ok (.ireturn, 1) := by decide +kernel
theorem dX3_readLift_11 : decode cX3_readLift 11 = .ok (.aload_n 0, 1) := by decide +kernel
theorem dX3_readLift_12 : decode cX3_readLift 12 = .ok (.getfield 50, 3) := by decide +kernel
theorem dX3_readLift_15 : decode cX3_readLift 15 = .ok (.istore_n 2, 1) := by decide +kernel
theorem dX3_readLift_16 : decode cX3_readLift 16 = .ok (.aload_n 0, 1) := by decide +kernel
theorem dX3_readLift_17 : decode cX3_readLift 17 = .ok (.iconst 0, 1) := by decide +kernel
theorem dX3_readLift_18 : decode cX3_readLift 18 = .ok (.bipush 99, 2) := by decide +kernel
theorem dX3_readLift_20 : decode cX3_readLift 20 = .ok (.invokevirtual 46, 3) := by decide +kernel
theorem dX3_readLift_23 : decode cX3_readLift 23 = .ok (.ifCond .ne 5, 3) := by decide +kernel
theorem dX3_readLift_26 : decode cX3_readLift 26 = .ok (.iconst 0, 1) := by decide +kernel
theorem dX3_readLift_27 : decode cX3_readLift 27 = .ok (.ireturn, 1) := by decide +kernel
theorem dX3_readLift_28 : decode cX3_readLift 28 = .ok (.aload_n 1, 1) := by decide +kernel
theorem dX3_readLift_29 : decode cX3_readLift 29 = .ok (.iload_n 2, 1) := by decide +kernel
theorem dX3_readLift_30 : decode cX3_readLift 30 = .ok (.aload_n 0, 1) := by decide +kernel
theorem dX3_readLift_31 : decode cX3_readLift 31 = .ok (.getfield 50, 3) := by decide +kernel
theorem dX3_readLift_34 : decode cX3_readLift 34 = .ok (.invokevirtual 76, 3) := by decide +kernel
theorem dX3_readLift_37 : decode cX3_readLift 37 = .ok (.aload_n 0, 1) := by decide +kernel
theorem dX3_readLift_38 : decode cX3_readLift 38 = .ok (.invokevirtual 57, 3) := by decide +kernel
theorem dX3_readLift_41 : decode cX3_readLift 41 = .ok (.ireturn, 1) := by decide +kernel
set_option maxRecDepth 20000 in
theorem ggX3_readLine_X3_nextIsNumber : GoodIn wsX3_readLine wsX3_nextIsNumber := goodIn_r _ [6, 7, 1, 8, 9, 10, 5, 11, 12, 13, 14, 15, 16, 17, 18, 19, 20, 21, 22, 23, 24, 25, 26, 27, 28, 29, 30, 31, 32, 33, 34, 35, 36, 48, 49, 50, 51, 52, 53] (by decide +kernel) (by decide +kernel)
set_option maxRecDepth 20000 in
theorem gX3_readLine_X3_nextIsNumber : GoodIn wsX3_readLine (wsV RX3 46 RX3 yX3_nextIsNumber wsX3_nextIsNumber) := goodIn_app (goodIn_of _ (by decide +kernel)) ggX3_readLine_X3_nextIsNumber
set_option maxRecDepth 20000 in
theorem ggX3_readLine_X1_setLine : GoodIn wsX3_readLine wsX1_setLine := goodIn_r _ [41, 42, 43, 54, 55, 56, 57, 58, 59, 60, 61, 62, 63, 64, 65, 66, 67] (by decide +kernel) (by decide +kernel)
set_option maxRecDepth 20000 in
theorem gX3_readLine_X1_setLine : GoodIn wsX3_readLine (wsV RX3 80 RX1 yX1_setLine wsX1_setLine) := goodIn_app (goodIn_of _ (by decide +kernel)) ggX3_readLine_X1_setLine
set_option maxRecDepth 20000 in
theorem ggX3_readLine_X3_nextIsSemicolon : GoodIn wsX3_readLine wsX3_nextIsSemicolon := goodIn_r _ [47, 7, 8, 9, 10, 5, 11, 12, 13, 14, 15, 1, 16, 17, 18, 19, 20, 21, 22, 23, 24, 25, 26, 27, 28, 29, 30, 31, 32, 33, 48, 49, 50, 51, 52, 53] (by decide +kernel) (by decide +kernel)
set_option maxRecDepth 20000 in
theorem gX3_readLine_X3_nextIsSemicolon : GoodIn wsX3_readLine (wsV RX3 57 RX3 yX3_nextIsSemicolon wsX3_nextIsSemicolon) := goodIn_app (goodIn_of _ (by decide +kernel)) ggX3_readLine_X3_nextIsSemicolon
theorem dX3_readLine_0 : decode cX3_readLine 0 = .ok (.aload_n 0, 1) := by decide +kernel
theorem dX3_readLine_1 : decode cX3_readLine 1 = .ok (.iconst 0, 1) := by decide +kernel
theorem dX3_readLine_2 : decode cX3_readLine 2 = .ok (.iconst 1, 1) := by decide +kernel
theorem dX3_readLine_3 : decode cX3_readLine 3 = .ok (.invokevirtual 46, 3) := by decide +kernel
theorem dX3_readLine_6 : decode cX3_readLine 6 = .ok (.ifCond .ne 5, 3) := by decide +kernel
theorem dX3_readLine_9 : decode cX3_readLine 9 = .ok (.iconst 0, 1) := by decide +kernel
theorem dX3_readLine_10 : decode cX3_readLine 10 = .ok (.ireturn, 1) := by decide +kernel
theorem dX3_readLine_11 : decode cX3_readLine 11 = .ok (.aload_n 0, 1) := by decide +kernel
theorem dX3_readLine_12 : decode cX3_readLine 12 = .ok (.getfield 50, 3) := by decide +kernel
theorem dX3_readLine_15 : decode cX3_readLine 15 = .ok (.istore_n 2, 1) := by decide +kernel
theorem dX3_readLine_16 : decode cX3_readLine 16 = .ok (.aload_n 0, 1) := by decide +kernel
theorem dX3_readLine_17 : decode cX3_readLine 17 = .ok (.iconst 1, 1) := by decide +kernel
theorem dX3_readLine_18 : decode cX3_readLine 18 = .ok (.bipush 30, 2) := by decide +kernel
theorem dX3_readLine_20 : decode cX3_readLine 20 = .ok (.invokevirtual 46, 3) := by decide +kernel
theorem dX3_readLine_23 : decode cX3_readLine 23 = .ok (.ifCond .ne 5, 3) := by decide +kernel
theorem dX3_readLine_26 : decode cX3_readLine 26 = .ok (.iconst 0, 1) := by decide +kernel
theorem dX3_readLine_27 : decode cX3_readLine 27 = .ok (.ireturn, 1) := by decide +kernel
theorem dX3_readLine_28 : decode cX3_readLine 28 = .ok (.aload_n 0, 1) := by decide +kernel
theorem dX3_readLine_29 : decode cX3_readLine 29 = .ok (.getfield 50, 3) := by decide +kernel
theorem dX3_readLine_32 : decode cX3_readLine 32 = .ok (.istore_n 3, 1) := by decide +kernel
theorem dX3_readLine_33 : decode cX3_readLine 33 = .ok (.aload_n 0, 1) := by decide +kernel
theorem dX3_readLine_34 : decode cX3_readLine 34 = .ok (.iconst 0, 1) := by decide +kernel
theorem dX3_readLine_35 : decode cX3_readLine 35 = .ok (.bipush 29, 2) := by decide +kernel
theorem dX3_readLine_37 : decode cX3_readLine 37 = .ok (.invokevirtual 46, 3) := by decide +kernel
theorem dX3_readLine_40 : decode cX3_readLine 40 = .ok (.ifCond .ne 5, 3) := by decide +kernel
theorem dX3_readLine_43 : decode cX3_readLine 43 = .ok (.iconst 0, 1) := by decide +kernel
theorem dX3_readLine_44 : decode cX3_readLine 44 = .ok (.ireturn, 1) := by decide +kernel
theorem dX3_readLine_45 : decode cX3_readLine 45 = .ok (.aload_n 1, 1) := by decide +kernel
theorem dX3_readLine_46 : decode cX3_readLine 46 = .ok (.iload_n 2, 1) := by decide +kernel
theorem dX3_readLine_47 : decode cX3_readLine 47 = .ok (.iload_n 3, 1) := by decide +kernel
theorem dX3_readLine_48 : decode cX3_readLine 48 = .ok (.aload_n 0, 1) := by decide +kernel
theorem dX3_readLine_49 : decode cX3_readLine 49 = .ok (.getfield 50, 3) := by decide +kernel
theorem dX3_readLine_52 : decode cX3_readLine 52 = .ok (.invokevirtual 80, 3) := by decide +kernel
theorem dX3_readLine_55 : decode cX3_readLine 55 = .ok (.aload_n 0, 1) := by decide +kernel
theorem dX3_readLine_56 : decode cX3_readLine 56 = .ok (.invokevirtual 57, 3) := by decide +kernel
theorem dX3_readLine_59 : decode cX3_readLine 59 = .ok (.ireturn, 1) := by decide +kernel
set_option maxRecDepth 20000 in
theorem ggX3_isWord_J0_length_8abf5 : GoodIn wsX3_isWord wsJ0_length_8abf5 := goodIn_r _ [9, 10, 11, 12, 13, 8, 14, 15, 16] (by decide +kernel) (by decide +kernel)
set_option maxRecDepth 20000 in
theorem gX3_isWord_J0_length_8abf5 : GoodIn wsX3_isWord (wsV RX3 84 RJ0 yJ0_length_8abf5 wsJ0_length_8abf5) := goodIn_app (goodIn_of _ (by decide +kernel)) ggX3_isWord_J0_length_8abf5
set_option maxRecDepth 20000 in
theorem ggX3_isWord_J0_charAt_5068e : GoodIn wsX3_isWord wsJ0_charAt_5068e := goodIn_r _ [20, 10, 21, 22, 23, 8, 24, 15, 16, 25, 26, 27, 28, 29, 30, 31, 32, 33, 34, 35, 36, 37, 38, 39, 40, 41, 42, 43, 44, 45, 46, 47, 48, 49, 50, 51, 52, 53] (by decide +kernel) (by decide +kernel)
set_option maxRecDepth 20000 in
theorem gX3_isWord_J0_charAt_5068e : GoodIn wsX3_isWord (wsV RX3 89 RJ0 yJ0_charAt_5068e wsJ0_charAt_5068e) := goodIn_app (goodIn_of _ (by decide +kernel)) ggX3_isWord_J0_charAt_5068e
theorem dX3_isWord_0 : decode cX3_isWord 0 = .ok (.aload_n 0, 1) := by decide +kernel
theorem dX3_isWord_1 : decode cX3_isWord 1 = .ok (.getfield 32, 3) := by decide +kernel
theorem dX3_isWord_4 : decode cX3_isWord 4 = .ok (.iconst 1, 1) := by decide +kernel
theorem dX3_isWord_5 : decode cX3_isWord 5 = .ok (.if_icmp .ne 19, 3) := by decide +kernel
theorem dX3_isWord_8 : decode cX3_isWord 8 = .ok (.aload_n 0, 1) := by decide +kernel
theorem dX3_isWord_9 : decode cX3_isWord 9 = .ok (.getfield 19, 3) := by decide +kernel
theorem dX3_isWord_12 : decode cX3_isWord 12 = .ok (.aload_n 0, 1) := by decide +kernel
theorem dX3_isWord_13 : decode cX3_isWord 13 = .ok (.getfield 29, 3) := by decide +kernel
theorem dX3_isWord_16 : decode cX3_isWord 16 = .ok (.isub, 1) := by decide +kernel
theorem dX3_isWord_17 : decode cX3_isWord 17 = .ok (.aload_n 1, 1) := by decide +kernel
theorem dX3_isWord_18 : decode cX3_isWord 18 = .ok (.invokevirtual 84, 3) := by decide +kernel
theorem dX3_isWord_21 : decode cX3_isWord 21 = .ok (.if_icmp .eq 5, 3) := by decide +kernel
theorem dX3_isWord_24 : decode cX3_isWord 24 = .ok (.iconst 0, 1) := by decide +kernel
theorem dX3_isWord_25 : decode cX3_isWord 25 = .ok (.ireturn, 1) := by decide +kernel
theorem dX3_isWord_26 : decode cX3_isWord 26 = .ok (.iconst 0, 1) := by decide +kernel
theorem dX3_isWord_27 : decode cX3_isWord 27 = .ok (.istore_n 2, 1) := by decide +kernel
theorem dX3_isWord_28 : decode cX3_isWord 28 = .ok (.iload_n 2, 1) := by decide +kernel
theorem dX3_isWord_29 : decode cX3_isWord 29 = .ok (.aload_n 1, 1) := by decide +kernel
theorem dX3_isWord_30 : decode cX3_isWord 30 = .ok (.invokevirtual 84, 3) := by decide +kernel
theorem dX3_isWord_33 : decode cX3_isWord 33 = .ok (.if_icmp .ge 30, 3) := by decide +kernel
theorem dX3_isWord_36 : decode cX3_isWord 36 = .ok (.aload_n 0, 1) := by decide +kernel
theorem dX3_isWord_37 : decode cX3_isWord 37 = .ok (.getfield 11, 3) := by decide +kernel
theorem dX3_isWord_40 : decode cX3_isWord 40 = .ok (.aload_n 0, 1) := by decide +kernel
theorem dX3_isWord_41 : decode cX3_isWord 41 = .ok (.getfield 29, 3) := by decide +kernel
theorem dX3_isWord_44 : decode cX3_isWord 44 = .ok (.iload_n 2, 1) := by decide +kernel
theorem dX3_isWord_45 : decode cX3_isWord 45 = .ok (.iadd, 1) := by decide +kernel
theorem dX3_isWord_46 : decode cX3_isWord 46 = .ok (.baload, 1) := by decide +kernel
theorem dX3_isWord_47 : decode cX3_isWord 47 = .ok (.aload_n 1, 1) := by decide +kernel
theorem dX3_isWord_48 : decode cX3_isWord 48 = .ok (.iload_n 2, 1) := by decide +kernel
theorem dX3_isWord_49 : decode cX3_isWord 49 = .ok (.invokevirtual 89, 3) := by decide +kernel
theorem dX3_isWord_52 : decode cX3_isWord 52 = .ok (.if_icmp .eq 5, 3) := by decide +kernel
theorem dX3_isWord_55 : decode cX3_isWord 55 = .ok (.iconst 0, 1) := by decide +kernel
theorem dX3_isWord_56 : decode cX3_isWord 56 = .ok (.ireturn, 1) := by decide +kernel
theorem dX3_isWord_57 : decode cX3_isWord 57 = .ok (.iinc 2 1, 3) := by decide +kernel
theorem dX3_isWord_60 : decode cX3_isWord 60 = .ok (.goto (-32), 3) := by decide +kernel
theorem dX3_isWord_63 : decode cX3_isWord 63 = .ok (.iconst 1, 1) := by decide +kernel
theorem dX3_isWord_64 : decode cX3_isWord 64 = .ok (.ireturn, 1) := by decide +kernel
set_option maxRecDepth 20000 in
theorem ggX3_nextIsNumber_X3_nextToken : GoodIn wsX3_nextIsNumber wsX3_nextToken := goodIn_r _ [7, 8, 9, 10, 11, 1, 2, 12, 13, 6, 14, 15, 16, 17, 18, 19, 20, 21, 22, 23, 24, 25, 26, 27, 28, 29, 33, 34, 35, 36, 37, 38] (by decide +kernel) (by decide +kernel)
set_option maxRecDepth 20000 in
theorem gX3_nextIsNumber_X3_nextToken : GoodIn wsX3_nextIsNumber (wsV RX3 22 RX3 yX3_nextToken wsX3_nextToken) := goodIn_app (goodIn_of _ (by decide +kernel)) ggX3_nextIsNumber_X3_nextToken
set_option maxRecDepth 20000 in
theorem ggX3_nextIsNumber_X5_isWithin : GoodIn wsX3_nextIsNumber wsX5_isWithin := goodIn_r _ [32] (by decide +kernel) (by decide +kernel)
set_option maxRecDepth 20000 in
theorem gX3_nextIsNumber_X5_isWithin_n93 : GoodIn wsX3_nextIsNumber (wsX5_isWithin) := ggX3_nextIsNumber_X5_isWithin
theorem dX3_nextIsNumber_0 : decode cX3_nextIsNumber 0 = .ok (.aload_n 0, 1) := by decide +kernel
theorem dX3_nextIsNumber_1 : decode cX3_nextIsNumber 1 = .ok (.invokevirtual 22, 3) := by decide +kernel
theorem dX3_nextIsNumber_4 : decode cX3_nextIsNumber 4 = .ok (.aload_n 0, 1) := by decide +kernel
theorem dX3_nextIsNumber_5 : decode cX3_nextIsNumber 5 = .ok (.getfield 32, 3) := by decide +kernel
theorem dX3_nextIsNumber_8 : decode cX3_nextIsNumber 8 = .ok (.iconst 2, 1) := by decide +kernel
theorem dX3_nextIsNumber_9 : decode cX3_nextIsNumber 9 = .ok (.if_icmp .ne 19, 3) := by decide +kernel
theorem dX3_nextIsNumber_12 : decode cX3_nextIsNumber 12 = .ok (.aload_n 0, 1) := by decide +kernel
theorem dX3_nextIsNumber_13 : decode cX3_nextIsNumber 13 = .ok (.getfield 50, 3) := by decide +kernel
theorem dX3_nextIsNumber_16 : decode cX3_nextIsNumber 16 = .ok (.iload_n 1, 1) := by decide +kernel
theorem dX3_nextIsNumber_17 : decode cX3_nextIsNumber 17 = .ok (.iload_n 2, 1) := by decide +kernel
theorem dX3_nextIsNumber_18 : decode cX3_nextIsNumber 18 = .ok (.invokestatic 93, 3) := by decide +kernel
theorem dX3_nextIsNumber_21 : decode cX3_nextIsNumber 21 = .ok (.ifCond .eq 7, 3) := by decide +kernel
theorem dX3_nextIsNumber_24 : decode cX3_nextIsNumber 24 = .ok (.iconst 1, 1) := by decide +kernel
theorem dX3_nextIsNumber_25 : decode cX3_nextIsNumber 25 = .ok (.goto 4, 3) := by decide +kernel
theorem dX3_nextIsNumber_28 : decode cX3_nextIsNumber 28 = .ok (.iconst 0, 1) := by decide +kernel
theorem dX3_nextIsNumber_29 : decode cX3_nextIsNumber 29 = .ok (.ireturn, 1) := by decide +kernel
set_option maxRecDepth 20000 in
theorem ggX3_nextIsSemicolon_X3_nextToken : GoodIn wsX3_nextIsSemicolon wsX3_nextToken := goodIn_r _ [6, 7, 8, 9, 10, 1, 11, 12, 13, 5, 14, 15, 16, 17, 18, 19, 20, 21, 22, 23, 24, 25, 26, 27, 28, 29, 30, 31, 32, 33, 34, 35] (by decide +kernel) (by decide +kernel)
set_option maxRecDepth 20000 in
theorem gX3_nextIsSemicolon_X3_nextToken : GoodIn wsX3_nextIsSemicolon (wsV RX3 22 RX3 yX3_nextToken wsX3_nextToken) := goodIn_app (goodIn_of _ (by decide +kernel)) ggX3_nextIsSemicolon_X3_nextToken
theorem dX3_nextIsSemicolon_0 : decode cX3_nextIsSemicolon 0 = .ok (.aload_n 0, 1) := by decide +kernel
theorem dX3_nextIsSemicolon_1 : decode cX3_nextIsSemicolon 1 = .ok (.invokevirtual 22, 3) := by decide +kernel
theorem dX3_nextIsSemicolon_4 : decode cX3_nextIsSemicolon 4 = .ok (.aload_n 0, 1) := by decide +kernel
theorem dX3_nextIsSemicolon_5 : decode cX3_nextIsSemicolon 5 = .ok (.getfield 32, 3) := by decide +kernel
theorem dX3_nextIsSemicolon_8 : decode cX3_nextIsSemicolon 8 = .ok (.iconst 3, 1) := by decide +kernel
theorem dX3_nextIsSemicolon_9 : decode cX3_nextIsSemicolon 9 = .ok (.if_icmp .ne 7, 3) := by decide +kernel
theorem dX3_nextIsSemicolon_12 : decode cX3_nextIsSemicolon 12 = .ok (.iconst 1, 1) := by decide +kernel
theorem dX3_nextIsSemicolon_13 : decode cX3_nextIsSemicolon 13 = .ok (.goto 4, 3) := by decide +kernel
theorem dX3_nextIsSemicolon_16 : decode cX3_nextIsSemicolon 16 = .ok (.iconst 0, 1) := by decide +kernel
theorem dX3_nextIsSemicolon_17 : decode cX3_nextIsSemicolon 17 = .ok (.ireturn, 1) := by decide +kernel
set_option maxRecDepth 20000 in
theorem ggX3_nextToken_X3_isLetter : GoodIn wsX3_nextToken wsX3_isLetter := goodIn_r _ [10] (by decide +kernel) (by decide +kernel)
set_option maxRecDepth 20000 in
theorem gX3_nextToken_X3_isLetter : GoodIn wsX3_nextToken (va_wsS RX3 97 yX3_isLetter wsX3_isLetter) := goodIn_app (goodIn_of _ (by decide +kernel)) ggX3_nextToken_X3_isLetter
set_option maxRecDepth 20000 in
theorem ggX3_nextToken_X3_endOfWord : GoodIn wsX3_nextToken wsX3_endOfWord := goodIn_r _ [14, 2, 3, 7, 8, 9, 10, 26, 27, 28, 29, 30, 31] (by decide +kernel) (by decide +kernel)
set_option maxRecDepth 20000 in
theorem gX3_nextToken_X3_endOfWord : GoodIn wsX3_nextToken (wsV RX3 101 RX3 yX3_endOfWord wsX3_endOfWord) := goodIn_app (goodIn_of _ (by decide +kernel)) ggX3_nextToken_X3_endOfWord
set_option maxRecDepth 20000 in
theorem ggX3_nextToken_X3_isFigure : GoodIn wsX3_nextToken wsX3_isFigure := goodIn_r _ [17] (by decide +kernel) (by decide +kernel)
set_option maxRecDepth 20000 in
theorem gX3_nextToken_X3_isFigure : GoodIn wsX3_nextToken (va_wsS RX3 105 yX3_isFigure wsX3_isFigure) := goodIn_app (goodIn_of _ (by decide +kernel)) ggX3_nextToken_X3_isFigure
set_option maxRecDepth 20000 in
theorem ggX3_nextToken_X3_endOfNumber : GoodIn wsX3_nextToken wsX3_endOfNumber := goodIn_r _ [21, 2, 3, 15, 16, 9, 17, 26, 27, 28, 29, 30, 31] (by decide +kernel) (by decide +kernel)
set_option maxRecDepth 20000 in
theorem gX3_nextToken_X3_endOfNumber : GoodIn wsX3_nextToken (wsV RX3 108 RX3 yX3_endOfNumber wsX3_endOfNumber) := goodIn_app (goodIn_of _ (by decide +kernel)) ggX3_nextToken_X3_endOfNumber
set_option maxRecDepth 20000 in
theorem ggX3_nextToken_X3_valueOf : GoodIn wsX3_nextToken wsX3_valueOf := goodIn_r _ [25, 3, 26, 27, 28, 29, 30, 31] (by decide +kernel) (by decide +kernel)
set_option maxRecDepth 20000 in
theorem gX3_nextToken_X3_valueOf : GoodIn wsX3_nextToken (wsV RX3 111 RX3 yX3_valueOf wsX3_valueOf) := goodIn_app (goodIn_of _ (by decide +kernel)) ggX3_nextToken_X3_valueOf
theorem dX3_nextToken_0 : decode cX3_nextToken 0 = .ok (.aload_n 0, 1) := by decide +kernel
theorem dX3_nextToken_1 : decode cX3_nextToken 1 = .ok (.getfield 19, 3) := by decide +kernel
theorem dX3_nextToken_4 : decode cX3_nextToken 4 = .ok (.istore_n 1, 1) := by decide +kernel
theorem dX3_nextToken_5 : decode cX3_nextToken 5 = .ok (.iload_n 1, 1) := by decide +kernel
theorem dX3_nextToken_6 : decode cX3_nextToken 6 = .ok (.aload_n 0, 1) := by decide +kernel
theorem dX3_nextToken_7 : decode cX3_nextToken 7 = .ok (.getfield 15, 3) := by decide +kernel
theorem dX3_nextToken_10 : decode cX3_nextToken 10 = .ok (.if_icmp .ge 20, 3) := by decide +kernel
theorem dX3_nextToken_13 : decode cX3_nextToken 13 = .ok (.aload_n 0, 1) := by decide +kernel
theorem dX3_nextToken_14 : decode cX3_nextToken 14 = .ok (.getfield 11, 3) := by decide +kernel
theorem dX3_nextToken_17 : decode cX3_nextToken 17 = .ok (.iload_n 1, 1) := by decide +kernel
theorem dX3_nextToken_18 : decode cX3_nextToken 18 = .ok (.baload, 1) := by decide +kernel
theorem dX3_nextToken_19 : decode cX3_nextToken 19 = .ok (.bipush 32, 2) := by decide +kernel
theorem dX3_nextToken_21 : decode cX3_nextToken 21 = .ok (.if_icmp .ne 9, 3) := by decide +kernel
theorem dX3_nextToken_24 : decode cX3_nextToken 24 = .ok (.iinc 1 1, 3) := by decide +kernel
theorem dX3_nextToken_27 : decode cX3_nextToken 27 = .ok (.goto (-22), 3) := by decide +kernel
theorem dX3_nextToken_30 : decode cX3_nextToken 30 = .ok (.aload_n 0, 1) := by decide +kernel
theorem dX3_nextToken_31 : decode cX3_nextToken 31 = .ok (.iload_n 1, 1) := by decide +kernel
theorem dX3_nextToken_32 : decode cX3_nextToken 32 = .ok (.putfield 29, 3) := by decide +kernel
theorem dX3_nextToken_35 : decode cX3_nextToken 35 = .ok (.iload_n 1, 1) := by decide +kernel
theorem dX3_nextToken_36 : decode cX3_nextToken 36 = .ok (.aload_n 0, 1) := by decide +kernel
theorem dX3_nextToken_37 : decode cX3_nextToken 37 = .ok (.getfield 15, 3) := by decide +kernel
theorem dX3_nextToken_40 : decode cX3_nextToken 40 = .ok (.if_icmp .lt 11, 3) := by decide +kernel
theorem dX3_nextToken_43 : decode cX3_nextToken 43 = .ok (.aload_n 0, 1) := by decide +kernel
theorem dX3_nextToken_44 : decode cX3_nextToken 44 = .ok (.iconst 0, 1) := by decide +kernel
theorem dX3_nextToken_45 : decode cX3_nextToken 45 = .ok (.putfield 32, 3) := by decide +kernel
theorem dX3_nextToken_48 : decode cX3_nextToken 48 = .ok (.goto 91, 3) := by decide +kernel
theorem dX3_nextToken_51 : decode cX3_nextToken 51 = .ok (.aload_n 0, 1) := by decide +kernel
theorem dX3_nextToken_52 : decode cX3_nextToken 52 = .ok (.getfield 11, 3) := by decide +kernel
theorem dX3_nextToken_55 : decode cX3_nextToken 55 = .ok (.iload_n 1, 1) := by decide +kernel
theorem dX3_nextToken_56 : decode cX3_nextToken 56 = .ok (.baload, 1) := by decide +kernel
theorem dX3_nextToken_57 : decode cX3_nextToken 57 = .ok (.invokestatic 97, 3) := by decide +kernel
theorem dX3_nextToken_60 : decode cX3_nextToken 60 = .ok (.ifCond .eq 17, 3) := by decide +kernel
theorem dX3_nextToken_63 : decode cX3_nextToken 63 = .ok (.aload_n 0, 1) := by decide +kernel
theorem dX3_nextToken_64 : decode cX3_nextToken 64 = .ok (.iconst 1, 1) := by decide +kernel
theorem dX3_nextToken_65 : decode cX3_nextToken 65 = .ok (.putfield 32, 3) := by decide +kernel
theorem dX3_nextToken_68 : decode cX3_nextToken 68 = .ok (.aload_n 0, 1) := by decide +kernel
theorem dX3_nextToken_69 : decode cX3_nextToken 69 = .ok (.iload_n 1, 1) := by decide +kernel
theorem dX3_nextToken_70 : decode cX3_nextToken 70 = .ok (.invokevirtual 101, 3) := by decide +kernel
theorem dX3_nextToken_73 : decode cX3_nextToken 73 = .ok (.istore_n 1, 1) := by decide +kernel
theorem dX3_nextToken_74 : decode cX3_nextToken 74 = .ok (.goto 65, 3) := by decide +kernel
theorem dX3_nextToken_77 : decode cX3_nextToken 77 = .ok (.aload_n 0, 1) := by decide +kernel
theorem dX3_nextToken_78 : decode cX3_nextToken 78 = .ok (.getfield 11, 3) := by decide +kernel
theorem dX3_nextToken_81 : decode cX3_nextToken 81 = .ok (.iload_n 1, 1) := by decide +kernel
theorem dX3_nextToken_82 : decode cX3_nextToken 82 = .ok (.baload, 1) := by decide +kernel
theorem dX3_nextToken_83 : decode cX3_nextToken 83 = .ok (.invokestatic 105, 3) := by decide +kernel
theorem dX3_nextToken_86 : decode cX3_nextToken 86 = .ok (.ifCond .eq 30, 3) := by decide +kernel
theorem dX3_nextToken_89 : decode cX3_nextToken 89 = .ok (.aload_n 0, 1) := by decide +kernel
theorem dX3_nextToken_90 : decode cX3_nextToken 90 = .ok (.iconst 2, 1) := by decide +kernel
theorem dX3_nextToken_91 : decode cX3_nextToken 91 = .ok (.putfield 32, 3) := by decide +kernel
theorem dX3_nextToken_94 : decode cX3_nextToken 94 = .ok (.aload_n 0, 1) := by decide +kernel
theorem dX3_nextToken_95 : decode cX3_nextToken 95 = .ok (.iload_n 1, 1) := by decide +kernel
theorem dX3_nextToken_96 : decode cX3_nextToken 96 = .ok (.invokevirtual 108, 3) := by decide +kernel
theorem dX3_nextToken_99 : decode cX3_nextToken 99 = .ok (.istore_n 1, 1) := by decide +kernel
theorem dX3_nextToken_100 : decode cX3_nextToken 100 = .ok (.aload_n 0, 1) := by decide +kernel
theorem dX3_nextToken_101 : decode cX3_nextToken 101 = .ok (.aload_n 0, 1) := by decide +kernel
theorem dX3_nextToken_102 : decode cX3_nextToken 102 = .ok (.aload_n 0, 1) := by decide +kernel
theorem dX3_nextToken_103 : decode cX3_nextToken 103 = .ok (.getfield 29, 3) := by decide +kernel
theorem dX3_nextToken_106 : decode cX3_nextToken 106 = .ok (.iload_n 1, 1) := by decide +kernel
theorem dX3_nextToken_107 : decode cX3_nextToken 107 = .ok (.invokevirtual 111, 3) := by decide +kernel
theorem dX3_nextToken_110 : decode cX3_nextToken 110 = .ok (.putfield 50, 3) := by decide +kernel
theorem dX3_nextToken_113 : decode cX3_nextToken 113 = .ok (.goto 26, 3) := by decide +kernel
theorem dX3_nextToken_116 : decode cX3_nextToken 116 = .ok (.aload_n 0, 1) := by decide +kernel
theorem dX3_nextToken_117 : decode cX3_nextToken 117 = .ok (.aload_n 0, 1) := by decide +kernel
theorem dX3_nextToken_118 : decode cX3_nextToken 118 = .ok (.getfield 11, 3) := by decide +kernel
theorem dX3_nextToken_121 : decode cX3_nextToken 121 = .ok (.iload_n 1, 1) := by decide +kernel
theorem dX3_nextToken_122 : decode cX3_nextToken 122 = .ok (.baload, 1) := by decide +kernel
theorem dX3_nextToken_123 : decode cX3_nextToken 123 = .ok (.bipush 59, 2) := by decide +kernel
theorem dX3_nextToken_125 : decode cX3_nextToken 125 = .ok (.if_icmp .ne 7, 3) := by decide +kernel
theorem dX3_nextToken_128 : decode cX3_nextToken 128 = .ok (.iconst 3, 1) := by decide +kernel
theorem dX3_nextToken_129 : decode cX3_nextToken 129 = .ok (.goto 4, 3) := by decide +kernel
theorem dX3_nextToken_132 : decode cX3_nextToken 132 = .ok (.iconst 4, 1) := by decide +kernel
theorem dX3_nextToken_133 : decode cX3_nextToken 133 = .ok (.putfield 32, 3) := by decide +kernel
theorem dX3_nextToken_136 : decode cX3_nextToken 136 = .ok (.iinc 1 1, 3) := by decide +kernel
theorem dX3_nextToken_139 : decode cX3_nextToken 139 = .ok (.aload_n 0, 1) := by decide +kernel
theorem dX3_nextToken_140 : decode cX3_nextToken 140 = .ok (.iload_n 1, 1) := by decide +kernel
theorem dX3_nextToken_141 : decode cX3_nextToken 141 = .ok (.putfield 19, 3) := by decide +kernel
theorem dX3_nextToken_144 : decode cX3_nextToken 144 = .ok (.return_, 1) := by decide +kernel
set_option maxRecDepth 20000 in
theorem ggX3_endOfWord_X3_isLetter : GoodIn wsX3_endOfWord wsX3_isLetter := goodIn_r _ [6] (by decide +kernel) (by decide +kernel)
set_option maxRecDepth 20000 in
theorem gX3_endOfWord_X3_isLetter : GoodIn wsX3_endOfWord (va_wsS RX3 97 yX3_isLetter wsX3_isLetter) := goodIn_app (goodIn_of _ (by decide +kernel)) ggX3_endOfWord_X3_isLetter
theorem dX3_endOfWord_0 : decode cX3_endOfWord 0 = .ok (.iload_n 1, 1) := by decide +kernel
theorem dX3_endOfWord_1 : decode cX3_endOfWord 1 = .ok (.istore_n 2, 1) := by decide +kernel
theorem dX3_endOfWord_2 : decode cX3_endOfWord 2 = .ok (.iload_n 2, 1) := by decide +kernel
theorem dX3_endOfWord_3 : decode cX3_endOfWord 3 = .ok (.aload_n 0, 1) := by decide +kernel
theorem dX3_endOfWord_4 : decode cX3_endOfWord 4 = .ok (.getfield 15, 3) := by decide +kernel
theorem dX3_endOfWord_7 : decode cX3_endOfWord 7 = .ok (.if_icmp .ge 21, 3) := by decide +kernel
theorem dX3_endOfWord_10 : decode cX3_endOfWord 10 = .ok (.aload_n 0, 1) := by decide +kernel
theorem dX3_endOfWord_11 : decode cX3_endOfWord 11 = .ok (.getfield 11, 3) := by decide +kernel
theorem dX3_endOfWord_14 : decode cX3_endOfWord 14 = .ok (.iload_n 2, 1) := by decide +kernel
theorem dX3_endOfWord_15 : decode cX3_endOfWord 15 = .ok (.baload, 1) := by decide +kernel
theorem dX3_endOfWord_16 : decode cX3_endOfWord 16 = .ok (.invokestatic 97, 3) := by decide +kernel
theorem dX3_endOfWord_19 : decode cX3_endOfWord 19 = .ok (.ifCond .eq 9, 3) := by decide +kernel
theorem dX3_endOfWord_22 : decode cX3_endOfWord 22 = .ok (.iinc 2 1, 3) := by decide +kernel
theorem dX3_endOfWord_25 : decode cX3_endOfWord 25 = .ok (.goto (-23), 3) := by decide +kernel
theorem dX3_endOfWord_28 : decode cX3_endOfWord 28 = .ok (.iload_n 2, 1) := by decide +kernel
theorem dX3_endOfWord_29 : decode cX3_endOfWord 29 = .ok (.ireturn, 1) := by decide +kernel
set_option maxRecDepth 20000 in
theorem ggX3_endOfNumber_X3_isFigure : GoodIn wsX3_endOfNumber wsX3_isFigure := goodIn_r _ [6] (by decide +kernel) (by decide +kernel)
set_option maxRecDepth 20000 in
theorem gX3_endOfNumber_X3_isFigure : GoodIn wsX3_endOfNumber (va_wsS RX3 105 yX3_isFigure wsX3_isFigure) := goodIn_app (goodIn_of _ (by decide +kernel)) ggX3_endOfNumber_X3_isFigure
theorem dX3_endOfNumber_0 : decode cX3_endOfNumber 0 = .ok (.iload_n 1, 1) := by decide +kernel
theorem dX3_endOfNumber_1 : decode cX3_endOfNumber 1 = .ok (.istore_n 2, 1) := by decide +kernel
theorem dX3_endOfNumber_2 : decode cX3_endOfNumber 2 = .ok (.iload_n 2, 1) := by decide +kernel
theorem dX3_endOfNumber_3 : decode cX3_endOfNumber 3 = .ok (.aload_n 0, 1) := by decide +kernel
theorem dX3_endOfNumber_4 : decode cX3_endOfNumber 4 = .ok (.getfield 15, 3) := by decide +kernel
theorem dX3_endOfNumber_7 : decode cX3_endOfNumber 7 = .ok (.if_icmp .ge 21, 3) := by decide +kernel
theorem dX3_endOfNumber_10 : decode cX3_endOfNumber 10 = .ok (.aload_n 0, 1) := by decide +kernel
theorem dX3_endOfNumber_11 : decode cX3_endOfNumber 11 = .ok (.getfield 11, 3) := by decide +kernel
theorem dX3_endOfNumber_14 : decode cX3_endOfNumber 14 = .ok (.iload_n 2, 1) := by decide +kernel
theorem dX3_endOfNumber_15 : decode cX3_endOfNumber 15 = .ok (.baload, 1) := by decide +kernel
theorem dX3_endOfNumber_16 : decode cX3_endOfNumber 16 = .ok (.invokestatic 105, 3) := by decide +kernel
theorem dX3_endOfNumber_19 : decode cX3_endOfNumber 19 = .ok (.ifCond .eq 9, 3) := by decide +kernel
theorem dX3_endOfNumber_22 : decode cX3_endOfNumber 22 = .ok (.iinc 2 1, 3) := by decide +kernel
theorem dX3_endOfNumber_25 : decode cX3_endOfNumber 25 = .ok (.goto (-23), 3) := by decide +kernel
theorem dX3_endOfNumber_28 : decode cX3_endOfNumber 28 = .ok (.iload_n 2, 1) := by decide +kernel
theorem dX3_endOfNumber_29 : decode cX3_endOfNumber 29 = .ok (.ireturn, 1) := by decide +kernel
theorem dX3_valueOf_0 : decode cX3_valueOf 0 = .ok (.iload_n 2, 1) := by decide +kernel
theorem dX3_valueOf_1 : decode cX3_valueOf 1 = .ok (.iload_n 1, 1) := by decide +kernel
theorem dX3_valueOf_2 : decode cX3_valueOf 2 = .ok (.isub, 1) := by decide +kernel
theorem dX3_valueOf_3 : decode cX3_valueOf 3 = .ok (.iconst 2, 1) := by decide +kernel
theorem dX3_valueOf_4 : decode cX3_valueOf 4 = .ok (.if_icmp .le 5, 3) := by decide +kernel
theorem dX3_valueOf_7 : decode cX3_valueOf 7 = .ok (.iconst (-1), 1) := by decide +kernel
theorem dX3_valueOf_8 : decode cX3_valueOf 8 = .ok (.ireturn, 1) := by decide +kernel
theorem dX3_valueOf_9 : decode cX3_valueOf 9 = .ok (.iconst 0, 1) := by decide +kernel
theorem dX3_valueOf_10 : decode cX3_valueOf 10 = .ok (.istore_n 3, 1) := by decide +kernel
theorem dX3_valueOf_11 : decode cX3_valueOf 11 = .ok (.iload_n 1, 1) := by decide +kernel
theorem dX3_valueOf_12 : decode cX3_valueOf 12 = .ok (.istore 4, 2) := by decide +kernel
theorem dX3_valueOf_14 : decode cX3_valueOf 14 = .ok (.iload 4, 2) := by decide +kernel
theorem dX3_valueOf_16 : decode cX3_valueOf 16 = .ok (.iload_n 2, 1) := by decide +kernel
theorem dX3_valueOf_17 : decode cX3_valueOf 17 = .ok (.if_icmp .ge 25, 3) := by decide +kernel
theorem dX3_valueOf_20 : decode cX3_valueOf 20 = .ok (.bipush 10, 2) := by decide +kernel
theorem dX3_valueOf_22 : decode cX3_valueOf 22 = .ok (.iload_n 3, 1) := by decide +kernel
theorem dX3_valueOf_23 : decode cX3_valueOf 23 = .ok (.imul, 1) := by decide +kernel
theorem dX3_valueOf_24 : decode cX3_valueOf 24 = .ok (.aload_n 0, 1) := by decide +kernel
theorem dX3_valueOf_25 : decode cX3_valueOf 25 = .ok (.getfield 11, 3) := by decide +kernel
theorem dX3_valueOf_28 : decode cX3_valueOf 28 = .ok (.iload 4, 2) := by decide +kernel
theorem dX3_valueOf_30 : decode cX3_valueOf 30 = .ok (.baload, 1) := by decide +kernel
theorem dX3_valueOf_31 : decode cX3_valueOf 31 = .ok (.iadd, 1) := by decide +kernel
theorem dX3_valueOf_32 : decode cX3_valueOf 32 = .ok (.bipush 48, 2) := by decide +kernel
theorem dX3_valueOf_34 : decode cX3_valueOf 34 = .ok (.isub, 1) := by decide +kernel
theorem dX3_valueOf_35 : decode cX3_valueOf 35 = .ok (.istore_n 3, 1) := by decide +kernel
theorem dX3_valueOf_36 : decode cX3_valueOf 36 = .ok (.iinc 4 1, 3) := by decide +kernel
theorem dX3_valueOf_39 : decode cX3_valueOf 39 = .ok (.goto (-25), 3) := by decide +kernel
theorem dX3_valueOf_42 : decode cX3_valueOf 42 = .ok (.iload_n 3, 1) := by decide +kernel
theorem dX3_valueOf_43 : decode cX3_valueOf 43 = .ok (.ireturn, 1) := by decide +kernel
theorem dX3_isLetter_0 : decode cX3_isLetter 0 = .ok (.iload_n 0, 1) := by decide +kernel
theorem dX3_isLetter_1 : decode cX3_isLetter 1 = .ok (.bipush 97, 2) := by decide +kernel
theorem dX3_isLetter_3 : decode cX3_isLetter 3 = .ok (.if_icmp .lt 13, 3) := by decide +kernel
theorem dX3_isLetter_6 : decode cX3_isLetter 6 = .ok (.iload_n 0, 1) := by decide +kernel
theorem dX3_isLetter_7 : decode cX3_isLetter 7 = .ok (.bipush 122, 2) := by decide +kernel
theorem dX3_isLetter_9 : decode cX3_isLetter 9 = .ok (.if_icmp .gt 7, 3) := by decide +kernel
theorem dX3_isLetter_12 : decode cX3_isLetter 12 = .ok (.iconst 1, 1) := by decide +kernel
theorem dX3_isLetter_13 : decode cX3_isLetter 13 = .ok (.goto 4, 3) := by decide +kernel
theorem dX3_isLetter_16 : decode cX3_isLetter 16 = .ok (.iconst 0, 1) := by decide +kernel
theorem dX3_isLetter_17 : decode cX3_isLetter 17 = .ok (.ireturn, 1) := by decide +kernel
theorem dX3_isFigure_0 : decode cX3_isFigure 0 = .ok (.iload_n 0, 1) := by decide +kernel
theorem dX3_isFigure_1 : decode cX3_isFigure 1 = .ok (.bipush 48, 2) := by decide +kernel
theorem dX3_isFigure_3 : decode cX3_isFigure 3 = .ok (.if_icmp .lt 13, 3) := by decide +kernel
theorem dX3_isFigure_6 : decode cX3_isFigure 6 = .ok (.iload_n 0, 1) := by decide +kernel
theorem dX3_isFigure_7 : decode cX3_isFigure 7 = .ok (.bipush 57, 2) := by decide +kernel
theorem dX3_isFigure_9 : decode cX3_isFigure 9 = .ok (.if_icmp .gt 7, 3) := by decide +kernel
theorem dX3_isFigure_12 : decode cX3_isFigure 12 = .ok (.iconst 1, 1) := by decide +kernel
theorem dX3_isFigure_13 : decode cX3_isFigure 13 = .ok (.goto 4, 3) := by decide +kernel
theorem dX3_isFigure_16 : decode cX3_isFigure 16 = .ok (.iconst 0, 1) := by decide +kernel
theorem dX3_isFigure_17 : decode cX3_isFigure 17 = .ok (.ireturn, 1) := by decide +kernel
theorem dX4_init_0 : decode cX4_init 0 = .ok (.aload_n 0, 1) := by decide +kernel
theorem dX4_init_1 : decode cX4_init 1 = .ok (.invokespecial 3, 3) := by decide +kernel
theorem dX4_init_4 : decode cX4_init 4 = .ok (.aload_n 0, 1) := by decide +kernel
theorem dX4_init_5 : decode cX4_init 5 = .ok (.aload_n 1, 1) := by decide +kernel
theorem dX4_init_6 : decode cX4_init 6 = .ok (.putfield 9, 3) := by decide +kernel
theorem dX4_init_9 : decode cX4_init 9 = .ok (.return_, 1) := by decide +kernel
set_option maxRecDepth 20000 in
theorem ggX4_floorOf_X2_floorIn : GoodIn wsX4_floorOf wsX2_floorIn := goodIn_r _ [8, 9, 10, 11, 12, 13, 14, 15, 16, 17, 7, 18] (by decide +kernel) (by decide +kernel)
set_option maxRecDepth 20000 in
theorem gX4_floorOf_X2_floorIn : GoodIn wsX4_floorOf (va_wsS RX4 28 yX2_floorIn wsX2_floorIn) := goodIn_app (goodIn_of _ (by decide +kernel)) ggX4_floorOf_X2_floorIn
theorem dX4_floorOf_0 : decode cX4_floorOf 0 = .ok (.aload_n 0, 1) := by decide +kernel
theorem dX4_floorOf_1 : decode cX4_floorOf 1 = .ok (.getfield 9, 3) := by decide +kernel
theorem dX4_floorOf_4 : decode cX4_floorOf 4 = .ok (.getfield 15, 3) := by decide +kernel
theorem dX4_floorOf_7 : decode cX4_floorOf 7 = .ok (.iload_n 1, 1) := by decide +kernel
theorem dX4_floorOf_8 : decode cX4_floorOf 8 = .ok (.iaload, 1) := by decide +kernel
theorem dX4_floorOf_9 : decode cX4_floorOf 9 = .ok (.aload_n 0, 1) := by decide +kernel
theorem dX4_floorOf_10 : decode cX4_floorOf 10 = .ok (.getfield 9, 3) := by decide +kernel
theorem dX4_floorOf_13 : decode cX4_floorOf 13 = .ok (.getfield 21, 3) := by decide +kernel
theorem dX4_floorOf_16 : decode cX4_floorOf 16 = .ok (.aload_n 0, 1) := by decide +kernel
theorem dX4_floorOf_17 : decode cX4_floorOf 17 = .ok (.getfield 9, 3) := by decide +kernel
theorem dX4_floorOf_20 : decode cX4_floorOf 20 = .ok (.getfield 25, 3) := by decide +kernel
theorem dX4_floorOf_23 : decode cX4_floorOf 23 = .ok (.iload_n 1, 1) := by decide +kernel
theorem dX4_floorOf_24 : decode cX4_floorOf 24 = .ok (.iaload, 1) := by decide +kernel
theorem dX4_floorOf_25 : decode cX4_floorOf 25 = .ok (.iload_n 2, 1) := by decide +kernel
theorem dX4_floorOf_26 : decode cX4_floorOf 26 = .ok (.invokestatic 28, 3) := by decide +kernel
theorem dX4_floorOf_29 : decode cX4_floorOf 29 = .ok (.ireturn, 1) := by decide +kernel
set_option maxRecDepth 20000 in
theorem ggX4_wayOf_X2_floorIn : GoodIn wsX4_wayOf wsX2_floorIn := goodIn_r _ [8, 9, 10, 11, 12, 13, 14, 15, 16, 17, 7, 18] (by decide +kernel) (by decide +kernel)
set_option maxRecDepth 20000 in
theorem gX4_wayOf_X2_floorIn : GoodIn wsX4_wayOf (va_wsS RX4 28 yX2_floorIn wsX2_floorIn) := goodIn_app (goodIn_of _ (by decide +kernel)) ggX4_wayOf_X2_floorIn
theorem dX4_wayOf_0 : decode cX4_wayOf 0 = .ok (.aload_n 0, 1) := by decide +kernel
theorem dX4_wayOf_1 : decode cX4_wayOf 1 = .ok (.getfield 9, 3) := by decide +kernel
theorem dX4_wayOf_4 : decode cX4_wayOf 4 = .ok (.getfield 15, 3) := by decide +kernel
theorem dX4_wayOf_7 : decode cX4_wayOf 7 = .ok (.iload_n 1, 1) := by decide +kernel
theorem dX4_wayOf_8 : decode cX4_wayOf 8 = .ok (.iaload, 1) := by decide +kernel
theorem dX4_wayOf_9 : decode cX4_wayOf 9 = .ok (.istore_n 3, 1) := by decide +kernel
theorem dX4_wayOf_10 : decode cX4_wayOf 10 = .ok (.aload_n 0, 1) := by decide +kernel
theorem dX4_wayOf_11 : decode cX4_wayOf 11 = .ok (.getfield 9, 3) := by decide +kernel
theorem dX4_wayOf_14 : decode cX4_wayOf 14 = .ok (.getfield 25, 3) := by decide +kernel
theorem dX4_wayOf_17 : decode cX4_wayOf 17 = .ok (.iload_n 1, 1) := by decide +kernel
theorem dX4_wayOf_18 : decode cX4_wayOf 18 = .ok (.iaload, 1) := by decide +kernel
theorem dX4_wayOf_19 : decode cX4_wayOf 19 = .ok (.istore 4, 2) := by decide +kernel
theorem dX4_wayOf_21 : decode cX4_wayOf 21 = .ok (.iload_n 3, 1) := by decide +kernel
theorem dX4_wayOf_22 : decode cX4_wayOf 22 = .ok (.aload_n 0, 1) := by decide +kernel
theorem dX4_wayOf_23 : decode cX4_wayOf 23 = .ok (.getfield 9, 3) := by decide +kernel
theorem dX4_wayOf_26 : decode cX4_wayOf 26 = .ok (.getfield 21, 3) := by decide +kernel
theorem dX4_wayOf_29 : decode cX4_wayOf 29 = .ok (.iload 4, 2) := by decide +kernel
theorem dX4_wayOf_31 : decode cX4_wayOf 31 = .ok (.iload_n 2, 1) := by decide +kernel
theorem dX4_wayOf_32 : decode cX4_wayOf 32 = .ok (.invokestatic 28, 3) := by decide +kernel
theorem dX4_wayOf_35 : decode cX4_wayOf 35 = .ok (.istore 5, 2) := by decide +kernel
theorem dX4_wayOf_37 : decode cX4_wayOf 37 = .ok (.iconst 1, 1) := by decide +kernel
theorem dX4_wayOf_38 : decode cX4_wayOf 38 = .ok (.istore 6, 2) := by decide +kernel
theorem dX4_wayOf_40 : decode cX4_wayOf 40 = .ok (.iload 6, 2) := by decide +kernel
theorem dX4_wayOf_42 : decode cX4_wayOf 42 = .ok (.bipush 28, 2) := by decide +kernel
theorem dX4_wayOf_44 : decode cX4_wayOf 44 = .ok (.if_icmp .ge 48, 3) := by decide +kernel
theorem dX4_wayOf_47 : decode cX4_wayOf 47 = .ok (.iload_n 3, 1) := by decide +kernel
theorem dX4_wayOf_48 : decode cX4_wayOf 48 = .ok (.aload_n 0, 1) := by decide +kernel
theorem dX4_wayOf_49 : decode cX4_wayOf 49 = .ok (.getfield 9, 3) := by decide +kernel
theorem dX4_wayOf_52 : decode cX4_wayOf 52 = .ok (.getfield 21, 3) := by decide +kernel
theorem dX4_wayOf_55 : decode cX4_wayOf 55 = .ok (.iload 4, 2) := by decide +kernel
theorem dX4_wayOf_57 : decode cX4_wayOf 57 = .ok (.iload_n 2, 1) := by decide +kernel
theorem dX4_wayOf_58 : decode cX4_wayOf 58 = .ok (.iload 6, 2) := by decide +kernel
theorem dX4_wayOf_60 : decode cX4_wayOf 60 = .ok (.iadd, 1) := by decide +kernel
theorem dX4_wayOf_61 : decode cX4_wayOf 61 = .ok (.invokestatic 28, 3) := by decide +kernel
theorem dX4_wayOf_64 : decode cX4_wayOf 64 = .ok (.istore 7, 2) := by decide +kernel
theorem dX4_wayOf_66 : decode cX4_wayOf 66 = .ok (.iload 7, 2) := by decide +kernel
theorem dX4_wayOf_68 : decode cX4_wayOf 68 = .ok (.iload 5, 2) := by decide +kernel
theorem dX4_wayOf_70 : decode cX4_wayOf 70 = .ok (.if_icmp .eq 16, 3) := by decide +kernel
theorem dX4_wayOf_73 : decode cX4_wayOf 73 = .ok (.iload 7, 2) := by decide +kernel
theorem dX4_wayOf_75 : decode cX4_wayOf 75 = .ok (.iload 5, 2) := by decide +kernel
theorem dX4_wayOf_77 : decode cX4_wayOf 77 = .ok (.if_icmp .le 7, 3) := by decide +kernel
theorem dX4_wayOf_80 : decode cX4_wayOf 80 = .ok (.iconst 1, 1) := by decide +kernel
theorem dX4_wayOf_81 : decode cX4_wayOf 81 = .ok (.goto 4, 3) := by decide +kernel
theorem dX4_wayOf_84 : decode cX4_wayOf 84 = .ok (.iconst 0, 1) := by decide +kernel
theorem dX4_wayOf_85 : decode cX4_wayOf 85 = .ok (.ireturn, 1) := by decide +kernel
theorem dX4_wayOf_86 : decode cX4_wayOf 86 = .ok (.iinc 6 1, 3) := by decide +kernel
theorem dX4_wayOf_89 : decode cX4_wayOf 89 = .ok (.goto (-49), 3) := by decide +kernel
theorem dX4_wayOf_92 : decode cX4_wayOf 92 = .ok (.iconst 0, 1) := by decide +kernel
theorem dX4_wayOf_93 : decode cX4_wayOf 93 = .ok (.ireturn, 1) := by decide +kernel
set_option maxRecDepth 20000 in
theorem ggX4_isSeen_X2_opens : GoodIn wsX4_isSeen wsX2_opens := goodIn_r _ [8] (by decide +kernel) (by decide +kernel)
set_option maxRecDepth 20000 in
theorem gX4_isSeen_X2_opens : GoodIn wsX4_isSeen (va_wsS RX4 34 yX2_opens wsX2_opens) := goodIn_app (goodIn_of _ (by decide +kernel)) ggX4_isSeen_X2_opens
set_option maxRecDepth 20000 in
theorem ggX4_isSeen_X2_floorIn : GoodIn wsX4_isSeen wsX2_floorIn := goodIn_r _ [11, 12, 13, 14, 15, 16, 17, 18, 19, 20, 7, 21] (by decide +kernel) (by decide +kernel)
set_option maxRecDepth 20000 in
theorem gX4_isSeen_X2_floorIn : GoodIn wsX4_isSeen (va_wsS RX4 28 yX2_floorIn wsX2_floorIn) := goodIn_app (goodIn_of _ (by decide +kernel)) ggX4_isSeen_X2_floorIn
theorem dX4_isSeen_0 : decode cX4_isSeen 0 = .ok (.aload_n 0, 1) := by decide +kernel
theorem dX4_isSeen_1 : decode cX4_isSeen 1 = .ok (.getfield 9, 3) := by decide +kernel
theorem dX4_isSeen_4 : decode cX4_isSeen 4 = .ok (.getfield 15, 3) := by decide +kernel
theorem dX4_isSeen_7 : decode cX4_isSeen 7 = .ok (.iload_n 1, 1) := by decide +kernel
