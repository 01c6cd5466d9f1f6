theorem dX6_takesItem_65 : decode cX6_takesItem 65 = .ok (.iconst 0, 1) := by decide +kernel
theorem dX6_takesItem_66 : decode cX6_takesItem 66 = .ok (.ireturn, 1) := by decide +kernel
theorem dX6_takesItem_67 : decode cX6_takesItem 67 = .ok (.aload_n 0, 1) := by decide +kernel
theorem dX6_takesItem_68 : decode cX6_takesItem 68 = .ok (.invokevirtual 96, 3) := by decide +kernel
theorem dX6_takesItem_71 : decode cX6_takesItem 71 = .ok (.aload_n 0, 1) := by decide +kernel
theorem dX6_takesItem_72 : decode cX6_takesItem 72 = .ok (.aload_n 0, 1) := by decide +kernel
theorem dX6_takesItem_73 : decode cX6_takesItem 73 = .ok (.getfield 74, 3) := by decide +kernel
theorem dX6_takesItem_76 : decode cX6_takesItem 76 = .ok (.invokevirtual 70, 3) := by decide +kernel
theorem dX6_takesItem_79 : decode cX6_takesItem 79 = .ok (.bipush 59, 2) := by decide +kernel
theorem dX6_takesItem_81 : decode cX6_takesItem 81 = .ok (.if_icmp .ne 7, 3) := by decide +kernel
theorem dX6_takesItem_84 : decode cX6_takesItem 84 = .ok (.iconst 1, 1) := by decide +kernel
theorem dX6_takesItem_85 : decode cX6_takesItem 85 = .ok (.goto 4, 3) := by decide +kernel
theorem dX6_takesItem_88 : decode cX6_takesItem 88 = .ok (.iconst 0, 1) := by decide +kernel
theorem dX6_takesItem_89 : decode cX6_takesItem 89 = .ok (.ireturn, 1) := by decide +kernel
set_option maxRecDepth 20000 in
theorem ggX6_read_X6_begins : GoodIn wsX6_read wsX6_begins := goodIn_r _ [8, 9, 65, 66, 67, 68, 69, 70, 71, 72, 73, 74, 75, 76, 77, 78, 79] (by decide +kernel) (by decide +kernel)
set_option maxRecDepth 20000 in
theorem gX6_read_X6_begins : GoodIn wsX6_read (wsV RX6 30 RX6 yX6_begins wsX6_begins) := goodIn_app (goodIn_of _ (by decide +kernel)) ggX6_read_X6_begins
set_option maxRecDepth 20000 in
theorem ggX6_read_X6_token : GoodIn wsX6_read wsX6_token := goodIn_r _ [13, 1, 2, 14, 15, 16, 17, 18, 19, 3, 20, 21, 22, 7, 23, 24, 25, 26, 27, 65, 66, 67, 68, 69, 70, 71, 72, 73, 74, 75, 76, 77, 78, 79] (by decide +kernel) (by decide +kernel)
set_option maxRecDepth 20000 in
theorem gX6_read_X6_token : GoodIn wsX6_read (wsV RX6 96 RX6 yX6_token wsX6_token) := goodIn_app (goodIn_of _ (by decide +kernel)) ggX6_read_X6_token
set_option maxRecDepth 20000 in
theorem ggX6_read_X6_takesItem : GoodIn wsX6_read wsX6_takesItem := goodIn_r _ [31, 2, 32, 33, 34, 7, 35, 36, 37, 38, 39, 16, 1, 20, 21, 22, 23, 3, 24, 40, 41, 42, 43, 9, 44, 45, 46, 47, 48, 19, 10, 11, 12, 13, 14, 15, 17, 18, 25, 26, 27, 49, 50, 51, 52, 53, 54, 55, 56, 57, 58, 59, 60, 65, 66, 67, 68, 69, 70, 71, 72, 73, 74, 75, 76, 77, 78, 79] (by decide +kernel) (by decide +kernel)
set_option maxRecDepth 20000 in
theorem gX6_read_X6_takesItem : GoodIn wsX6_read (wsV RX6 116 RX6 yX6_takesItem wsX6_takesItem) := goodIn_app (goodIn_of _ (by decide +kernel)) ggX6_read_X6_takesItem
set_option maxRecDepth 20000 in
theorem ggX6_read_X6_copy : GoodIn wsX6_read wsX6_copy := goodIn_r _ [64, 9, 65, 66, 67, 68, 69, 70, 71, 72, 73, 74, 75, 76, 77, 78, 79] (by decide +kernel) (by decide +kernel)
set_option maxRecDepth 20000 in
theorem gX6_read_X6_copy : GoodIn wsX6_read (wsV RX6 120 RX6 yX6_copy wsX6_copy) := goodIn_app (goodIn_of _ (by decide +kernel)) ggX6_read_X6_copy
theorem dX6_read_0 : decode cX6_read 0 = .ok (.aload_n 0, 1) := by decide +kernel
theorem dX6_read_1 : decode cX6_read 1 = .ok (.iconst 0, 1) := by decide +kernel
theorem dX6_read_2 : decode cX6_read 2 = .ok (.putfield 67, 3) := by decide +kernel
theorem dX6_read_5 : decode cX6_read 5 = .ok (.iconst 0, 1) := by decide +kernel
theorem dX6_read_6 : decode cX6_read 6 = .ok (.istore_n 1, 1) := by decide +kernel
theorem dX6_read_7 : decode cX6_read 7 = .ok (.aload_n 0, 1) := by decide +kernel
theorem dX6_read_8 : decode cX6_read 8 = .ok (.sipush 147, 3) := by decide +kernel
theorem dX6_read_11 : decode cX6_read 11 = .ok (.bipush 11, 2) := by decide +kernel
theorem dX6_read_13 : decode cX6_read 13 = .ok (.invokevirtual 30, 3) := by decide +kernel
theorem dX6_read_16 : decode cX6_read 16 = .ok (.aload_n 0, 1) := by decide +kernel
theorem dX6_read_17 : decode cX6_read 17 = .ok (.invokevirtual 96, 3) := by decide +kernel
theorem dX6_read_20 : decode cX6_read 20 = .ok (.aload_n 0, 1) := by decide +kernel
theorem dX6_read_21 : decode cX6_read 21 = .ok (.getfield 74, 3) := by decide +kernel
theorem dX6_read_24 : decode cX6_read 24 = .ok (.aload_n 0, 1) := by decide +kernel
theorem dX6_read_25 : decode cX6_read 25 = .ok (.getfield 63, 3) := by decide +kernel
theorem dX6_read_28 : decode cX6_read 28 = .ok (.if_icmp .lt 7, 3) := by decide +kernel
theorem dX6_read_31 : decode cX6_read 31 = .ok (.iload_n 1, 1) := by decide +kernel
theorem dX6_read_32 : decode cX6_read 32 = .ok (.ifCond .ne 29, 3) := by decide +kernel
theorem dX6_read_35 : decode cX6_read 35 = .ok (.aload_n 0, 1) := by decide +kernel
theorem dX6_read_36 : decode cX6_read 36 = .ok (.iload_n 1, 1) := by decide +kernel
theorem dX6_read_37 : decode cX6_read 37 = .ok (.invokevirtual 116, 3) := by decide +kernel
theorem dX6_read_40 : decode cX6_read 40 = .ok (.ifCond .ne 11, 3) := by decide +kernel
theorem dX6_read_43 : decode cX6_read 43 = .ok (.bipush (-10), 2) := by decide +kernel
theorem dX6_read_45 : decode cX6_read 45 = .ok (.aload_n 0, 1) := by decide +kernel
theorem dX6_read_46 : decode cX6_read 46 = .ok (.getfield 74, 3) := by decide +kernel
theorem dX6_read_49 : decode cX6_read 49 = .ok (.isub, 1) := by decide +kernel
theorem dX6_read_50 : decode cX6_read 50 = .ok (.ireturn, 1) := by decide +kernel
theorem dX6_read_51 : decode cX6_read 51 = .ok (.iinc 1 1, 3) := by decide +kernel
theorem dX6_read_54 : decode cX6_read 54 = .ok (.aload_n 0, 1) := by decide +kernel
theorem dX6_read_55 : decode cX6_read 55 = .ok (.invokevirtual 96, 3) := by decide +kernel
theorem dX6_read_58 : decode cX6_read 58 = .ok (.goto (-38), 3) := by decide +kernel
theorem dX6_read_61 : decode cX6_read 61 = .ok (.aload_n 0, 1) := by decide +kernel
theorem dX6_read_62 : decode cX6_read 62 = .ok (.sipush 147, 3) := by decide +kernel
theorem dX6_read_65 : decode cX6_read 65 = .ok (.iconst 0, 1) := by decide +kernel
theorem dX6_read_66 : decode cX6_read 66 = .ok (.invokevirtual 120, 3) := by decide +kernel
theorem dX6_read_69 : decode cX6_read 69 = .ok (.iload_n 1, 1) := by decide +kernel
theorem dX6_read_70 : decode cX6_read 70 = .ok (.ireturn, 1) := by decide +kernel
theorem dX6_roundOf_0 : decode cX6_roundOf 0 = .ok (.aload_n 0, 1) := by decide +kernel
theorem dX6_roundOf_1 : decode cX6_roundOf 1 = .ok (.getfield 7, 3) := by decide +kernel
theorem dX6_roundOf_4 : decode cX6_roundOf 4 = .ok (.iconst 1, 1) := by decide +kernel
theorem dX6_roundOf_5 : decode cX6_roundOf 5 = .ok (.iaload, 1) := by decide +kernel
theorem dX6_roundOf_6 : decode cX6_roundOf 6 = .ok (.istore_n 2, 1) := by decide +kernel
theorem dX6_roundOf_7 : decode cX6_roundOf 7 = .ok (.iload_n 1, 1) := by decide +kernel
theorem dX6_roundOf_8 : decode cX6_roundOf 8 = .ok (.iconst 1, 1) := by decide +kernel
theorem dX6_roundOf_9 : decode cX6_roundOf 9 = .ok (.if_icmp .ne 7, 3) := by decide +kernel
theorem dX6_roundOf_12 : decode cX6_roundOf 12 = .ok (.iload_n 2, 1) := by decide +kernel
theorem dX6_roundOf_13 : decode cX6_roundOf 13 = .ok (.goto 33, 3) := by decide +kernel
theorem dX6_roundOf_16 : decode cX6_roundOf 16 = .ok (.iload_n 1, 1) := by decide +kernel
theorem dX6_roundOf_17 : decode cX6_roundOf 17 = .ok (.iconst 2, 1) := by decide +kernel
theorem dX6_roundOf_18 : decode cX6_roundOf 18 = .ok (.if_icmp .ne 11, 3) := by decide +kernel
theorem dX6_roundOf_21 : decode cX6_roundOf 21 = .ok (.iconst 2, 1) := by decide +kernel
theorem dX6_roundOf_22 : decode cX6_roundOf 22 = .ok (.iload_n 2, 1) := by decide +kernel
theorem dX6_roundOf_23 : decode cX6_roundOf 23 = .ok (.imul, 1) := by decide +kernel
theorem dX6_roundOf_24 : decode cX6_roundOf 24 = .ok (.iconst 4, 1) := by decide +kernel
theorem dX6_roundOf_25 : decode cX6_roundOf 25 = .ok (.iadd, 1) := by decide +kernel
theorem dX6_roundOf_26 : decode cX6_roundOf 26 = .ok (.goto 20, 3) := by decide +kernel
theorem dX6_roundOf_29 : decode cX6_roundOf 29 = .ok (.iload_n 1, 1) := by decide +kernel
theorem dX6_roundOf_30 : decode cX6_roundOf 30 = .ok (.iconst 4, 1) := by decide +kernel
theorem dX6_roundOf_31 : decode cX6_roundOf 31 = .ok (.if_icmp .ne 12, 3) := by decide +kernel
theorem dX6_roundOf_34 : decode cX6_roundOf 34 = .ok (.iconst 2, 1) := by decide +kernel
theorem dX6_roundOf_35 : decode cX6_roundOf 35 = .ok (.iload_n 2, 1) := by decide +kernel
theorem dX6_roundOf_36 : decode cX6_roundOf 36 = .ok (.imul, 1) := by decide +kernel
theorem dX6_roundOf_37 : decode cX6_roundOf 37 = .ok (.bipush 6, 2) := by decide +kernel
theorem dX6_roundOf_39 : decode cX6_roundOf 39 = .ok (.iadd, 1) := by decide +kernel
theorem dX6_roundOf_40 : decode cX6_roundOf 40 = .ok (.goto 6, 3) := by decide +kernel
theorem dX6_roundOf_43 : decode cX6_roundOf 43 = .ok (.iconst 2, 1) := by decide +kernel
theorem dX6_roundOf_44 : decode cX6_roundOf 44 = .ok (.iload_n 2, 1) := by decide +kernel
theorem dX6_roundOf_45 : decode cX6_roundOf 45 = .ok (.imul, 1) := by decide +kernel
theorem dX6_roundOf_46 : decode cX6_roundOf 46 = .ok (.ireturn, 1) := by decide +kernel
theorem dX6_plain_0 : decode cX6_plain 0 = .ok (.aload_n 0, 1) := by decide +kernel
theorem dX6_plain_1 : decode cX6_plain 1 = .ok (.getfield 7, 3) := by decide +kernel
theorem dX6_plain_4 : decode cX6_plain 4 = .ok (.iconst 1, 1) := by decide +kernel
theorem dX6_plain_5 : decode cX6_plain 5 = .ok (.iaload, 1) := by decide +kernel
theorem dX6_plain_6 : decode cX6_plain 6 = .ok (.istore_n 2, 1) := by decide +kernel
theorem dX6_plain_7 : decode cX6_plain 7 = .ok (.iload_n 1, 1) := by decide +kernel
theorem dX6_plain_8 : decode cX6_plain 8 = .ok (.iload_n 2, 1) := by decide +kernel
theorem dX6_plain_9 : decode cX6_plain 9 = .ok (.if_icmp .gt 7, 3) := by decide +kernel
theorem dX6_plain_12 : decode cX6_plain 12 = .ok (.iload_n 1, 1) := by decide +kernel
theorem dX6_plain_13 : decode cX6_plain 13 = .ok (.goto 8, 3) := by decide +kernel
theorem dX6_plain_16 : decode cX6_plain 16 = .ok (.iconst 2, 1) := by decide +kernel
theorem dX6_plain_17 : decode cX6_plain 17 = .ok (.iload_n 2, 1) := by decide +kernel
theorem dX6_plain_18 : decode cX6_plain 18 = .ok (.imul, 1) := by decide +kernel
theorem dX6_plain_19 : decode cX6_plain 19 = .ok (.iload_n 1, 1) := by decide +kernel
theorem dX6_plain_20 : decode cX6_plain 20 = .ok (.isub, 1) := by decide +kernel
theorem dX6_plain_21 : decode cX6_plain 21 = .ok (.ireturn, 1) := by decide +kernel
set_option maxRecDepth 20000 in
theorem ggX6_rests_X6_plain : GoodIn wsX6_rests wsX6_plain := goodIn_r _ [6, 1, 7, 8, 9, 10, 11, 12, 13, 14, 15, 16, 17, 18, 19, 20, 21] (by decide +kernel) (by decide +kernel)
set_option maxRecDepth 20000 in
theorem gX6_rests_X6_plain : GoodIn wsX6_rests (wsV RX6 123 RX6 yX6_plain wsX6_plain) := goodIn_app (goodIn_of _ (by decide +kernel)) ggX6_rests_X6_plain
theorem dX6_rests_0 : decode cX6_rests 0 = .ok (.iload_n 1, 1) := by decide +kernel
theorem dX6_rests_1 : decode cX6_rests 1 = .ok (.iconst 2, 1) := by decide +kernel
theorem dX6_rests_2 : decode cX6_rests 2 = .ok (.aload_n 0, 1) := by decide +kernel
theorem dX6_rests_3 : decode cX6_rests 3 = .ok (.getfield 7, 3) := by decide +kernel
theorem dX6_rests_6 : decode cX6_rests 6 = .ok (.iconst 1, 1) := by decide +kernel
theorem dX6_rests_7 : decode cX6_rests 7 = .ok (.iaload, 1) := by decide +kernel
theorem dX6_rests_8 : decode cX6_rests 8 = .ok (.imul, 1) := by decide +kernel
theorem dX6_rests_9 : decode cX6_rests 9 = .ok (.if_icmp .lt 7, 3) := by decide +kernel
theorem dX6_rests_12 : decode cX6_rests 12 = .ok (.iconst 0, 1) := by decide +kernel
theorem dX6_rests_13 : decode cX6_rests 13 = .ok (.goto 8, 3) := by decide +kernel
theorem dX6_rests_16 : decode cX6_rests 16 = .ok (.aload_n 0, 1) := by decide +kernel
theorem dX6_rests_17 : decode cX6_rests 17 = .ok (.iload_n 1, 1) := by decide +kernel
theorem dX6_rests_18 : decode cX6_rests 18 = .ok (.invokevirtual 123, 3) := by decide +kernel
theorem dX6_rests_21 : decode cX6_rests 21 = .ok (.ireturn, 1) := by decide +kernel
set_option maxRecDepth 20000 in
theorem ggX6_floorOf_X6_roundOf : GoodIn wsX6_floorOf wsX6_roundOf := goodIn_r _ [6, 1, 15, 16, 17, 18, 19, 20, 21, 22, 23, 24, 25, 26, 27, 28, 29] (by decide +kernel) (by decide +kernel)
set_option maxRecDepth 20000 in
theorem gX6_floorOf_X6_roundOf : GoodIn wsX6_floorOf (wsV RX6 126 RX6 yX6_roundOf wsX6_roundOf) := goodIn_app (goodIn_of _ (by decide +kernel)) ggX6_floorOf_X6_roundOf
set_option maxRecDepth 20000 in
theorem ggX6_floorOf_X6_plain : GoodIn wsX6_floorOf wsX6_plain := goodIn_r _ [10, 1, 15, 16, 17, 18, 19, 20, 21, 22, 23, 24, 25, 26, 27, 28, 29] (by decide +kernel) (by decide +kernel)
set_option maxRecDepth 20000 in
theorem gX6_floorOf_X6_plain : GoodIn wsX6_floorOf (wsV RX6 123 RX6 yX6_plain wsX6_plain) := goodIn_app (goodIn_of _ (by decide +kernel)) ggX6_floorOf_X6_plain
set_option maxRecDepth 20000 in
theorem ggX6_floorOf_X6_rests : GoodIn wsX6_floorOf wsX6_rests := goodIn_r _ [14, 1, 7, 8, 9, 5, 10, 15, 16, 17, 18, 19, 20, 21, 22, 23, 24, 25, 26, 27, 28, 29] (by decide +kernel) (by decide +kernel)
set_option maxRecDepth 20000 in
theorem gX6_floorOf_X6_rests : GoodIn wsX6_floorOf (wsV RX6 129 RX6 yX6_rests wsX6_rests) := goodIn_app (goodIn_of _ (by decide +kernel)) ggX6_floorOf_X6_rests
theorem dX6_floorOf_0 : decode cX6_floorOf 0 = .ok (.aload_n 0, 1) := by decide +kernel
theorem dX6_floorOf_1 : decode cX6_floorOf 1 = .ok (.getfield 7, 3) := by decide +kernel
theorem dX6_floorOf_4 : decode cX6_floorOf 4 = .ok (.iconst 1, 1) := by decide +kernel
theorem dX6_floorOf_5 : decode cX6_floorOf 5 = .ok (.iaload, 1) := by decide +kernel
theorem dX6_floorOf_6 : decode cX6_floorOf 6 = .ok (.istore 4, 2) := by decide +kernel
theorem dX6_floorOf_8 : decode cX6_floorOf 8 = .ok (.iload_n 3, 1) := by decide +kernel
theorem dX6_floorOf_9 : decode cX6_floorOf 9 = .ok (.iload_n 2, 1) := by decide +kernel
theorem dX6_floorOf_10 : decode cX6_floorOf 10 = .ok (.iadd, 1) := by decide +kernel
theorem dX6_floorOf_11 : decode cX6_floorOf 11 = .ok (.aload_n 0, 1) := by decide +kernel
theorem dX6_floorOf_12 : decode cX6_floorOf 12 = .ok (.iload_n 1, 1) := by decide +kernel
theorem dX6_floorOf_13 : decode cX6_floorOf 13 = .ok (.invokevirtual 126, 3) := by decide +kernel
theorem dX6_floorOf_16 : decode cX6_floorOf 16 = .ok (.irem, 1) := by decide +kernel
theorem dX6_floorOf_17 : decode cX6_floorOf 17 = .ok (.istore 5, 2) := by decide +kernel
theorem dX6_floorOf_19 : decode cX6_floorOf 19 = .ok (.iload_n 1, 1) := by decide +kernel
theorem dX6_floorOf_20 : decode cX6_floorOf 20 = .ok (.tableswitch 98 1 4 #[32, 41, 98, 48], 32) := by decide +kernel
theorem dX6_floorOf_52 : decode cX6_floorOf 52 = .ok (.aload_n 0, 1) := by decide +kernel
theorem dX6_floorOf_53 : decode cX6_floorOf 53 = .ok (.iconst 2, 1) := by decide +kernel
theorem dX6_floorOf_54 : decode cX6_floorOf 54 = .ok (.iload 5, 2) := by decide +kernel
theorem dX6_floorOf_56 : decode cX6_floorOf 56 = .ok (.imul, 1) := by decide +kernel
theorem dX6_floorOf_57 : decode cX6_floorOf 57 = .ok (.invokevirtual 123, 3) := by decide +kernel
theorem dX6_floorOf_60 : decode cX6_floorOf 60 = .ok (.ireturn, 1) := by decide +kernel
theorem dX6_floorOf_61 : decode cX6_floorOf 61 = .ok (.aload_n 0, 1) := by decide +kernel
theorem dX6_floorOf_62 : decode cX6_floorOf 62 = .ok (.iload 5, 2) := by decide +kernel
theorem dX6_floorOf_64 : decode cX6_floorOf 64 = .ok (.invokevirtual 129, 3) := by decide +kernel
theorem dX6_floorOf_67 : decode cX6_floorOf 67 = .ok (.ireturn, 1) := by decide +kernel
theorem dX6_floorOf_68 : decode cX6_floorOf 68 = .ok (.iload 5, 2) := by decide +kernel
theorem dX6_floorOf_70 : decode cX6_floorOf 70 = .ok (.iload 4, 2) := by decide +kernel
theorem dX6_floorOf_72 : decode cX6_floorOf 72 = .ok (.iconst 1, 1) := by decide +kernel
theorem dX6_floorOf_73 : decode cX6_floorOf 73 = .ok (.iadd, 1) := by decide +kernel
theorem dX6_floorOf_74 : decode cX6_floorOf 74 = .ok (.if_icmp .eq 12, 3) := by decide +kernel
theorem dX6_floorOf_77 : decode cX6_floorOf 77 = .ok (.iload 5, 2) := by decide +kernel
theorem dX6_floorOf_79 : decode cX6_floorOf 79 = .ok (.iload 4, 2) := by decide +kernel
theorem dX6_floorOf_81 : decode cX6_floorOf 81 = .ok (.iconst 2, 1) := by decide +kernel
theorem dX6_floorOf_82 : decode cX6_floorOf 82 = .ok (.iadd, 1) := by decide +kernel
theorem dX6_floorOf_83 : decode cX6_floorOf 83 = .ok (.if_icmp .ne 8, 3) := by decide +kernel
theorem dX6_floorOf_86 : decode cX6_floorOf 86 = .ok (.iload 4, 2) := by decide +kernel
theorem dX6_floorOf_88 : decode cX6_floorOf 88 = .ok (.goto 29, 3) := by decide +kernel
theorem dX6_floorOf_91 : decode cX6_floorOf 91 = .ok (.iload 5, 2) := by decide +kernel
theorem dX6_floorOf_93 : decode cX6_floorOf 93 = .ok (.iload 4, 2) := by decide +kernel
theorem dX6_floorOf_95 : decode cX6_floorOf 95 = .ok (.iconst 2, 1) := by decide +kernel
theorem dX6_floorOf_96 : decode cX6_floorOf 96 = .ok (.iadd, 1) := by decide +kernel
theorem dX6_floorOf_97 : decode cX6_floorOf 97 = .ok (.if_icmp .le 14, 3) := by decide +kernel
theorem dX6_floorOf_100 : decode cX6_floorOf 100 = .ok (.aload_n 0, 1) := by decide +kernel
theorem dX6_floorOf_101 : decode cX6_floorOf 101 = .ok (.iload 5, 2) := by decide +kernel
theorem dX6_floorOf_103 : decode cX6_floorOf 103 = .ok (.iconst 2, 1) := by decide +kernel
theorem dX6_floorOf_104 : decode cX6_floorOf 104 = .ok (.isub, 1) := by decide +kernel
theorem dX6_floorOf_105 : decode cX6_floorOf 105 = .ok (.invokevirtual 129, 3) := by decide +kernel
theorem dX6_floorOf_108 : decode cX6_floorOf 108 = .ok (.goto 9, 3) := by decide +kernel
theorem dX6_floorOf_111 : decode cX6_floorOf 111 = .ok (.aload_n 0, 1) := by decide +kernel
theorem dX6_floorOf_112 : decode cX6_floorOf 112 = .ok (.iload 5, 2) := by decide +kernel
theorem dX6_floorOf_114 : decode cX6_floorOf 114 = .ok (.invokevirtual 129, 3) := by decide +kernel
theorem dX6_floorOf_117 : decode cX6_floorOf 117 = .ok (.ireturn, 1) := by decide +kernel
theorem dX6_floorOf_118 : decode cX6_floorOf 118 = .ok (.aload_n 0, 1) := by decide +kernel
theorem dX6_floorOf_119 : decode cX6_floorOf 119 = .ok (.iload 5, 2) := by decide +kernel
theorem dX6_floorOf_121 : decode cX6_floorOf 121 = .ok (.invokevirtual 123, 3) := by decide +kernel
theorem dX6_floorOf_124 : decode cX6_floorOf 124 = .ok (.ireturn, 1) := by decide +kernel
set_option maxRecDepth 20000 in
theorem ggX6_floorIn_X6_floorOf : GoodIn wsX6_floorIn wsX6_floorOf := goodIn_r _ [6, 1, 7, 8, 9, 5, 10, 11, 12, 13, 14, 15, 16, 17, 18, 19, 20, 21, 22, 23, 24, 25, 26, 27, 28, 29, 30, 31, 32, 33] (by decide +kernel) (by decide +kernel)
set_option maxRecDepth 20000 in
theorem gX6_floorIn_X6_floorOf : GoodIn wsX6_floorIn (wsV RX6 132 RX6 yX6_floorOf wsX6_floorOf) := goodIn_app (goodIn_of _ (by decide +kernel)) ggX6_floorIn_X6_floorOf
theorem dX6_floorIn_0 : decode cX6_floorIn 0 = .ok (.aload_n 0, 1) := by decide +kernel
theorem dX6_floorIn_1 : decode cX6_floorIn 1 = .ok (.aload_n 0, 1) := by decide +kernel
theorem dX6_floorIn_2 : decode cX6_floorIn 2 = .ok (.getfield 7, 3) := by decide +kernel
theorem dX6_floorIn_5 : decode cX6_floorIn 5 = .ok (.iconst 5, 1) := by decide +kernel
theorem dX6_floorIn_6 : decode cX6_floorIn 6 = .ok (.iload_n 1, 1) := by decide +kernel
theorem dX6_floorIn_7 : decode cX6_floorIn 7 = .ok (.iadd, 1) := by decide +kernel
theorem dX6_floorIn_8 : decode cX6_floorIn 8 = .ok (.iaload, 1) := by decide +kernel
theorem dX6_floorIn_9 : decode cX6_floorIn 9 = .ok (.aload_n 0, 1) := by decide +kernel
theorem dX6_floorIn_10 : decode cX6_floorIn 10 = .ok (.getfield 7, 3) := by decide +kernel
theorem dX6_floorIn_13 : decode cX6_floorIn 13 = .ok (.bipush 9, 2) := by decide +kernel
theorem dX6_floorIn_15 : decode cX6_floorIn 15 = .ok (.iload_n 1, 1) := by decide +kernel
theorem dX6_floorIn_16 : decode cX6_floorIn 16 = .ok (.iadd, 1) := by decide +kernel
theorem dX6_floorIn_17 : decode cX6_floorIn 17 = .ok (.iaload, 1) := by decide +kernel
theorem dX6_floorIn_18 : decode cX6_floorIn 18 = .ok (.iload_n 2, 1) := by decide +kernel
theorem dX6_floorIn_19 : decode cX6_floorIn 19 = .ok (.invokevirtual 132, 3) := by decide +kernel
theorem dX6_floorIn_22 : decode cX6_floorIn 22 = .ok (.ireturn, 1) := by decide +kernel
theorem dX6_isTaken_0 : decode cX6_isTaken 0 = .ok (.aload_n 0, 1) := by decide +kernel
theorem dX6_isTaken_1 : decode cX6_isTaken 1 = .ok (.getfield 7, 3) := by decide +kernel
theorem dX6_isTaken_4 : decode cX6_isTaken 4 = .ok (.iconst 5, 1) := by decide +kernel
theorem dX6_isTaken_5 : decode cX6_isTaken 5 = .ok (.iload_n 1, 1) := by decide +kernel
theorem dX6_isTaken_6 : decode cX6_isTaken 6 = .ok (.iadd, 1) := by decide +kernel
theorem dX6_isTaken_7 : decode cX6_isTaken 7 = .ok (.iaload, 1) := by decide +kernel
theorem dX6_isTaken_8 : decode cX6_isTaken 8 = .ok (.istore_n 3, 1) := by decide +kernel
theorem dX6_isTaken_9 : decode cX6_isTaken 9 = .ok (.iload_n 3, 1) := by decide +kernel
theorem dX6_isTaken_10 : decode cX6_isTaken 10 = .ok (.iconst 3, 1) := by decide +kernel
theorem dX6_isTaken_11 : decode cX6_isTaken 11 = .ok (.if_icmp .ne 22, 3) := by decide +kernel
theorem dX6_isTaken_14 : decode cX6_isTaken 14 = .ok (.iload_n 2, 1) := by decide +kernel
theorem dX6_isTaken_15 : decode cX6_isTaken 15 = .ok (.ifCond .eq 10, 3) := by decide +kernel
theorem dX6_isTaken_18 : decode cX6_isTaken 18 = .ok (.iload_n 2, 1) := by decide +kernel
theorem dX6_isTaken_19 : decode cX6_isTaken 19 = .ok (.iconst 2, 1) := by decide +kernel
theorem dX6_isTaken_20 : decode cX6_isTaken 20 = .ok (.irem, 1) := by decide +kernel
theorem dX6_isTaken_21 : decode cX6_isTaken 21 = .ok (.iconst 1, 1) := by decide +kernel
theorem dX6_isTaken_22 : decode cX6_isTaken 22 = .ok (.if_icmp .ne 7, 3) := by decide +kernel
theorem dX6_isTaken_25 : decode cX6_isTaken 25 = .ok (.iconst 1, 1) := by decide +kernel
theorem dX6_isTaken_26 : decode cX6_isTaken 26 = .ok (.goto 31, 3) := by decide +kernel
theorem dX6_isTaken_29 : decode cX6_isTaken 29 = .ok (.iconst 0, 1) := by decide +kernel
theorem dX6_isTaken_30 : decode cX6_isTaken 30 = .ok (.goto 27, 3) := by decide +kernel
theorem dX6_isTaken_33 : decode cX6_isTaken 33 = .ok (.iload_n 3, 1) := by decide +kernel
theorem dX6_isTaken_34 : decode cX6_isTaken 34 = .ok (.iconst 5, 1) := by decide +kernel
theorem dX6_isTaken_35 : decode cX6_isTaken 35 = .ok (.if_icmp .ne 17, 3) := by decide +kernel
theorem dX6_isTaken_38 : decode cX6_isTaken 38 = .ok (.iload_n 2, 1) := by decide +kernel
theorem dX6_isTaken_39 : decode cX6_isTaken 39 = .ok (.ifCond .eq 13, 3) := by decide +kernel
theorem dX6_isTaken_42 : decode cX6_isTaken 42 = .ok (.iload_n 2, 1) := by decide +kernel
theorem dX6_isTaken_43 : decode cX6_isTaken 43 = .ok (.aload_n 0, 1) := by decide +kernel
theorem dX6_isTaken_44 : decode cX6_isTaken 44 = .ok (.getfield 7, 3) := by decide +kernel
theorem dX6_isTaken_47 : decode cX6_isTaken 47 = .ok (.iconst 1, 1) := by decide +kernel
theorem dX6_isTaken_48 : decode cX6_isTaken 48 = .ok (.iaload, 1) := by decide +kernel
theorem dX6_isTaken_49 : decode cX6_isTaken 49 = .ok (.if_icmp .ne 7, 3) := by decide +kernel
theorem dX6_isTaken_52 : decode cX6_isTaken 52 = .ok (.iconst 1, 1) := by decide +kernel
theorem dX6_isTaken_53 : decode cX6_isTaken 53 = .ok (.goto 4, 3) := by decide +kernel
theorem dX6_isTaken_56 : decode cX6_isTaken 56 = .ok (.iconst 0, 1) := by decide +kernel
theorem dX6_isTaken_57 : decode cX6_isTaken 57 = .ok (.ireturn, 1) := by decide +kernel
set_option maxRecDepth 20000 in
theorem ggX6_wayIn_X6_floorIn : GoodIn wsX6_wayIn wsX6_floorIn := goodIn_r _ [6, 1, 7, 8, 9, 5, 10, 11, 12, 13, 14, 15, 16, 17, 18, 19, 20, 21, 22, 23, 24, 25, 26, 27, 28, 29, 30, 31, 32, 33, 34, 35, 36, 37] (by decide +kernel) (by decide +kernel)
set_option maxRecDepth 20000 in
theorem gX6_wayIn_X6_floorIn : GoodIn wsX6_wayIn (wsV RX6 135 RX6 yX6_floorIn wsX6_floorIn) := goodIn_app (goodIn_of _ (by decide +kernel)) ggX6_wayIn_X6_floorIn
set_option maxRecDepth 20000 in
theorem ggX6_wayIn_X6_roundOf : GoodIn wsX6_wayIn wsX6_roundOf := goodIn_r _ [14, 1, 23, 24, 25, 26, 27, 28, 29, 30, 31, 32, 33, 34, 35, 36, 37] (by decide +kernel) (by decide +kernel)
set_option maxRecDepth 20000 in
theorem gX6_wayIn_X6_roundOf : GoodIn wsX6_wayIn (wsV RX6 126 RX6 yX6_roundOf wsX6_roundOf) := goodIn_app (goodIn_of _ (by decide +kernel)) ggX6_wayIn_X6_roundOf
theorem dX6_wayIn_0 : decode cX6_wayIn 0 = .ok (.aload_n 0, 1) := by decide +kernel
theorem dX6_wayIn_1 : decode cX6_wayIn 1 = .ok (.iload_n 1, 1) := by decide +kernel
theorem dX6_wayIn_2 : decode cX6_wayIn 2 = .ok (.iload_n 2, 1) := by decide +kernel
theorem dX6_wayIn_3 : decode cX6_wayIn 3 = .ok (.invokevirtual 135, 3) := by decide +kernel
theorem dX6_wayIn_6 : decode cX6_wayIn 6 = .ok (.istore_n 3, 1) := by decide +kernel
theorem dX6_wayIn_7 : decode cX6_wayIn 7 = .ok (.iconst 1, 1) := by decide +kernel
theorem dX6_wayIn_8 : decode cX6_wayIn 8 = .ok (.istore 4, 2) := by decide +kernel
theorem dX6_wayIn_10 : decode cX6_wayIn 10 = .ok (.iload 4, 2) := by decide +kernel
theorem dX6_wayIn_12 : decode cX6_wayIn 12 = .ok (.aload_n 0, 1) := by decide +kernel
theorem dX6_wayIn_13 : decode cX6_wayIn 13 = .ok (.aload_n 0, 1) := by decide +kernel
theorem dX6_wayIn_14 : decode cX6_wayIn 14 = .ok (.getfield 7, 3) := by decide +kernel
theorem dX6_wayIn_17 : decode cX6_wayIn 17 = .ok (.iconst 5, 1) := by decide +kernel
theorem dX6_wayIn_18 : decode cX6_wayIn 18 = .ok (.iload_n 1, 1) := by decide +kernel
theorem dX6_wayIn_19 : decode cX6_wayIn 19 = .ok (.iadd, 1) := by decide +kernel
theorem dX6_wayIn_20 : decode cX6_wayIn 20 = .ok (.iaload, 1) := by decide +kernel
theorem dX6_wayIn_21 : decode cX6_wayIn 21 = .ok (.invokevirtual 126, 3) := by decide +kernel
theorem dX6_wayIn_24 : decode cX6_wayIn 24 = .ok (.if_icmp .ge 38, 3) := by decide +kernel
theorem dX6_wayIn_27 : decode cX6_wayIn 27 = .ok (.aload_n 0, 1) := by decide +kernel
theorem dX6_wayIn_28 : decode cX6_wayIn 28 = .ok (.iload_n 1, 1) := by decide +kernel
theorem dX6_wayIn_29 : decode cX6_wayIn 29 = .ok (.iload_n 2, 1) := by decide +kernel
theorem dX6_wayIn_30 : decode cX6_wayIn 30 = .ok (.iload 4, 2) := by decide +kernel
theorem dX6_wayIn_32 : decode cX6_wayIn 32 = .ok (.iadd, 1) := by decide +kernel
theorem dX6_wayIn_33 : decode cX6_wayIn 33 = .ok (.invokevirtual 135, 3) := by decide +kernel
theorem dX6_wayIn_36 : decode cX6_wayIn 36 = .ok (.istore 5, 2) := by decide +kernel
theorem dX6_wayIn_38 : decode cX6_wayIn 38 = .ok (.iload 5, 2) := by decide +kernel
theorem dX6_wayIn_40 : decode cX6_wayIn 40 = .ok (.iload_n 3, 1) := by decide +kernel
theorem dX6_wayIn_41 : decode cX6_wayIn 41 = .ok (.if_icmp .eq 15, 3) := by decide +kernel
theorem dX6_wayIn_44 : decode cX6_wayIn 44 = .ok (.iload 5, 2) := by decide +kernel
theorem dX6_wayIn_46 : decode cX6_wayIn 46 = .ok (.iload_n 3, 1) := by decide +kernel
theorem dX6_wayIn_47 : decode cX6_wayIn 47 = .ok (.if_icmp .le 7, 3) := by decide +kernel
theorem dX6_wayIn_50 : decode cX6_wayIn 50 = .ok (.iconst 1, 1) := by decide +kernel
theorem dX6_wayIn_51 : decode cX6_wayIn 51 = .ok (.goto 4, 3) := by decide +kernel
theorem dX6_wayIn_54 : decode cX6_wayIn 54 = .ok (.iconst 0, 1) := by decide +kernel
theorem dX6_wayIn_55 : decode cX6_wayIn 55 = .ok (.ireturn, 1) := by decide +kernel
theorem dX6_wayIn_56 : decode cX6_wayIn 56 = .ok (.iinc 4 1, 3) := by decide +kernel
theorem dX6_wayIn_59 : decode cX6_wayIn 59 = .ok (.goto (-49), 3) := by decide +kernel
theorem dX6_wayIn_62 : decode cX6_wayIn 62 = .ok (.iconst 0, 1) := by decide +kernel
theorem dX6_wayIn_63 : decode cX6_wayIn 63 = .ok (.ireturn, 1) := by decide +kernel
set_option maxRecDepth 20000 in
theorem ggX6_isSeen_X6_floorIn : GoodIn wsX6_isSeen wsX6_floorIn := goodIn_r _ [5, 6, 7, 8, 9, 4, 10, 11, 12, 13, 14, 15, 16, 17, 18, 19, 20, 21, 22, 27, 28, 29, 30, 31, 32, 33, 34, 35, 36, 37, 38, 39, 40, 41] (by decide +kernel) (by decide +kernel)
set_option maxRecDepth 20000 in
theorem gX6_isSeen_X6_floorIn : GoodIn wsX6_isSeen (wsV RX6 135 RX6 yX6_floorIn wsX6_floorIn) := goodIn_app (goodIn_of _ (by decide +kernel)) ggX6_isSeen_X6_floorIn
set_option maxRecDepth 20000 in
theorem ggX6_isSeen_X6_isTaken : GoodIn wsX6_isSeen wsX6_isTaken := goodIn_r _ [26, 6, 27, 28, 29, 30, 31, 32, 33, 34, 35, 36, 37, 38, 39, 40, 41] (by decide +kernel) (by decide +kernel)
set_option maxRecDepth 20000 in
theorem gX6_isSeen_X6_isTaken : GoodIn wsX6_isSeen (wsV RX6 139 RX6 yX6_isTaken wsX6_isTaken) := goodIn_app (goodIn_of _ (by decide +kernel)) ggX6_isSeen_X6_isTaken
theorem dX6_isSeen_0 : decode cX6_isSeen 0 = .ok (.aload_n 0, 1) := by decide +kernel
theorem dX6_isSeen_1 : decode cX6_isSeen 1 = .ok (.iload_n 1, 1) := by decide +kernel
theorem dX6_isSeen_2 : decode cX6_isSeen 2 = .ok (.iload_n 3, 1) := by decide +kernel
theorem dX6_isSeen_3 : decode cX6_isSeen 3 = .ok (.invokevirtual 135, 3) := by decide +kernel
theorem dX6_isSeen_6 : decode cX6_isSeen 6 = .ok (.iload_n 2, 1) := by decide +kernel
theorem dX6_isSeen_7 : decode cX6_isSeen 7 = .ok (.if_icmp .ne 16, 3) := by decide +kernel
theorem dX6_isSeen_10 : decode cX6_isSeen 10 = .ok (.aload_n 0, 1) := by decide +kernel
theorem dX6_isSeen_11 : decode cX6_isSeen 11 = .ok (.iload_n 1, 1) := by decide +kernel
theorem dX6_isSeen_12 : decode cX6_isSeen 12 = .ok (.iload_n 2, 1) := by decide +kernel
theorem dX6_isSeen_13 : decode cX6_isSeen 13 = .ok (.invokevirtual 139, 3) := by decide +kernel
theorem dX6_isSeen_16 : decode cX6_isSeen 16 = .ok (.ifCond .eq 7, 3) := by decide +kernel
theorem dX6_isSeen_19 : decode cX6_isSeen 19 = .ok (.iconst 1, 1) := by decide +kernel
theorem dX6_isSeen_20 : decode cX6_isSeen 20 = .ok (.goto 4, 3) := by decide +kernel
theorem dX6_isSeen_23 : decode cX6_isSeen 23 = .ok (.iconst 0, 1) := by decide +kernel
theorem dX6_isSeen_24 : decode cX6_isSeen 24 = .ok (.ireturn, 1) := by decide +kernel
set_option maxRecDepth 20000 in
theorem ggX6_passes_X6_in : GoodIn wsX6_passes wsX6_in := goodIn_r _ [6] (by decide +kernel) (by decide +kernel)
set_option maxRecDepth 20000 in
theorem gX6_passes_X6_in : GoodIn wsX6_passes (va_wsS RX6 34 yX6_in wsX6_in) := goodIn_app (goodIn_of _ (by decide +kernel)) ggX6_passes_X6_in
set_option maxRecDepth 20000 in
theorem ggX6_passes_X6_bad : GoodIn wsX6_passes wsX6_bad := goodIn_r _ [10, 11, 12, 13, 14, 15, 16, 17, 18, 19, 20, 21, 22, 23, 24, 25, 26] (by decide +kernel) (by decide +kernel)
set_option maxRecDepth 20000 in
theorem gX6_passes_X6_bad : GoodIn wsX6_passes (wsV RX6 42 RX6 yX6_bad wsX6_bad) := goodIn_app (goodIn_of _ (by decide +kernel)) ggX6_passes_X6_bad
theorem dX6_passes_0 : decode cX6_passes 0 = .ok (.iload_n 1, 1) := by decide +kernel
theorem dX6_passes_1 : decode cX6_passes 1 = .ok (.i2l, 1) := by decide +kernel
theorem dX6_passes_2 : decode cX6_passes 2 = .ok (.lconst 1, 1) := by decide +kernel
theorem dX6_passes_3 : decode cX6_passes 3 = .ok (.ldc2_w 48, 3) := by decide +kernel
theorem dX6_passes_6 : decode cX6_passes 6 = .ok (.invokestatic 34, 3) := by decide +kernel
theorem dX6_passes_9 : decode cX6_passes 9 = .ok (.ifCond .ne 8, 3) := by decide +kernel
theorem dX6_passes_12 : decode cX6_passes 12 = .ok (.aload_n 0, 1) := by decide +kernel
theorem dX6_passes_13 : decode cX6_passes 13 = .ok (.invokevirtual 42, 3) := by decide +kernel
theorem dX6_passes_16 : decode cX6_passes 16 = .ok (.ireturn, 1) := by decide +kernel
theorem dX6_passes_17 : decode cX6_passes 17 = .ok (.aload_n 0, 1) := by decide +kernel
theorem dX6_passes_18 : decode cX6_passes 18 = .ok (.getfield 7, 3) := by decide +kernel
theorem dX6_passes_21 : decode cX6_passes 21 = .ok (.iconst 4, 1) := by decide +kernel
theorem dX6_passes_22 : decode cX6_passes 22 = .ok (.iaload, 1) := by decide +kernel
theorem dX6_passes_23 : decode cX6_passes 23 = .ok (.bipush 8, 2) := by decide +kernel
theorem dX6_passes_25 : decode cX6_passes 25 = .ok (.if_icmp .ne 47, 3) := by decide +kernel
theorem dX6_passes_28 : decode cX6_passes 28 = .ok (.iconst 0, 1) := by decide +kernel
theorem dX6_passes_29 : decode cX6_passes 29 = .ok (.istore_n 2, 1) := by decide +kernel
theorem dX6_passes_30 : decode cX6_passes 30 = .ok (.iload_n 2, 1) := by decide +kernel
theorem dX6_passes_31 : decode cX6_passes 31 = .ok (.bipush 7, 2) := by decide +kernel
theorem dX6_passes_33 : decode cX6_passes 33 = .ok (.if_icmp .ge 29, 3) := by decide +kernel
theorem dX6_passes_36 : decode cX6_passes 36 = .ok (.aload_n 0, 1) := by decide +kernel
theorem dX6_passes_37 : decode cX6_passes 37 = .ok (.getfield 7, 3) := by decide +kernel
theorem dX6_passes_40 : decode cX6_passes 40 = .ok (.bipush 41, 2) := by decide +kernel
theorem dX6_passes_42 : decode cX6_passes 42 = .ok (.iload_n 2, 1) := by decide +kernel
theorem dX6_passes_43 : decode cX6_passes 43 = .ok (.iadd, 1) := by decide +kernel
theorem dX6_passes_44 : decode cX6_passes 44 = .ok (.aload_n 0, 1) := by decide +kernel
theorem dX6_passes_45 : decode cX6_passes 45 = .ok (.getfield 7, 3) := by decide +kernel
theorem dX6_passes_48 : decode cX6_passes 48 = .ok (.bipush 41, 2) := by decide +kernel
theorem dX6_passes_50 : decode cX6_passes 50 = .ok (.iload_n 2, 1) := by decide +kernel
theorem dX6_passes_51 : decode cX6_passes 51 = .ok (.iadd, 1) := by decide +kernel
theorem dX6_passes_52 : decode cX6_passes 52 = .ok (.iconst 1, 1) := by decide +kernel
theorem dX6_passes_53 : decode cX6_passes 53 = .ok (.iadd, 1) := by decide +kernel
theorem dX6_passes_54 : decode cX6_passes 54 = .ok (.iaload, 1) := by decide +kernel
theorem dX6_passes_55 : decode cX6_passes 55 = .ok (.iastore, 1) := by decide +kernel
theorem dX6_passes_56 : decode cX6_passes 56 = .ok (.iinc 2 1, 3) := by decide +kernel
theorem dX6_passes_59 : decode cX6_passes 59 = .ok (.goto (-29), 3) := by decide +kernel
theorem dX6_passes_62 : decode cX6_passes 62 = .ok (.aload_n 0, 1) := by decide +kernel
theorem dX6_passes_63 : decode cX6_passes 63 = .ok (.getfield 7, 3) := by decide +kernel
theorem dX6_passes_66 : decode cX6_passes 66 = .ok (.iconst 4, 1) := by decide +kernel
theorem dX6_passes_67 : decode cX6_passes 67 = .ok (.dup2, 1) := by decide +kernel
theorem dX6_passes_68 : decode cX6_passes 68 = .ok (.iaload, 1) := by decide +kernel
theorem dX6_passes_69 : decode cX6_passes 69 = .ok (.iconst 1, 1) := by decide +kernel
theorem dX6_passes_70 : decode cX6_passes 70 = .ok (.isub, 1) := by decide +kernel
theorem dX6_passes_71 : decode cX6_passes 71 = .ok (.iastore, 1) := by decide +kernel
theorem dX6_passes_72 : decode cX6_passes 72 = .ok (.aload_n 0, 1) := by decide +kernel
theorem dX6_passes_73 : decode cX6_passes 73 = .ok (.getfield 7, 3) := by decide +kernel
theorem dX6_passes_76 : decode cX6_passes 76 = .ok (.bipush 41, 2) := by decide +kernel
theorem dX6_passes_78 : decode cX6_passes 78 = .ok (.aload_n 0, 1) := by decide +kernel
theorem dX6_passes_79 : decode cX6_passes 79 = .ok (.getfield 7, 3) := by decide +kernel
theorem dX6_passes_82 : decode cX6_passes 82 = .ok (.iconst 4, 1) := by decide +kernel
theorem dX6_passes_83 : decode cX6_passes 83 = .ok (.iaload, 1) := by decide +kernel
theorem dX6_passes_84 : decode cX6_passes 84 = .ok (.iadd, 1) := by decide +kernel
theorem dX6_passes_85 : decode cX6_passes 85 = .ok (.aload_n 0, 1) := by decide +kernel
theorem dX6_passes_86 : decode cX6_passes 86 = .ok (.getfield 7, 3) := by decide +kernel
theorem dX6_passes_89 : decode cX6_passes 89 = .ok (.iconst 2, 1) := by decide +kernel
theorem dX6_passes_90 : decode cX6_passes 90 = .ok (.iaload, 1) := by decide +kernel
theorem dX6_passes_91 : decode cX6_passes 91 = .ok (.iastore, 1) := by decide +kernel
theorem dX6_passes_92 : decode cX6_passes 92 = .ok (.aload_n 0, 1) := by decide +kernel
theorem dX6_passes_93 : decode cX6_passes 93 = .ok (.getfield 7, 3) := by decide +kernel
theorem dX6_passes_96 : decode cX6_passes 96 = .ok (.iconst 4, 1) := by decide +kernel
theorem dX6_passes_97 : decode cX6_passes 97 = .ok (.dup2, 1) := by decide +kernel
theorem dX6_passes_98 : decode cX6_passes 98 = .ok (.iaload, 1) := by decide +kernel
theorem dX6_passes_99 : decode cX6_passes 99 = .ok (.iconst 1, 1) := by decide +kernel
theorem dX6_passes_100 : decode cX6_passes 100 = .ok (.iadd, 1) := by decide +kernel
theorem dX6_passes_101 : decode cX6_passes 101 = .ok (.iastore, 1) := by decide +kernel
theorem dX6_passes_102 : decode cX6_passes 102 = .ok (.aload_n 0, 1) := by decide +kernel
theorem dX6_passes_103 : decode cX6_passes 103 = .ok (.getfield 7, 3) := by decide +kernel
theorem dX6_passes_106 : decode cX6_passes 106 = .ok (.iconst 2, 1) := by decide +kernel
theorem dX6_passes_107 : decode cX6_passes 107 = .ok (.aload_n 0, 1) := by decide +kernel
theorem dX6_passes_108 : decode cX6_passes 108 = .ok (.getfield 7, 3) := by decide +kernel
theorem dX6_passes_111 : decode cX6_passes 111 = .ok (.iconst 2, 1) := by decide +kernel
theorem dX6_passes_112 : decode cX6_passes 112 = .ok (.iaload, 1) := by decide +kernel
theorem dX6_passes_113 : decode cX6_passes 113 = .ok (.iload_n 1, 1) := by decide +kernel
theorem dX6_passes_114 : decode cX6_passes 114 = .ok (.iadd, 1) := by decide +kernel
theorem dX6_passes_115 : decode cX6_passes 115 = .ok (.sipush 999, 3) := by decide +kernel
theorem dX6_passes_118 : decode cX6_passes 118 = .ok (.if_icmp .le 9, 3) := by decide +kernel
theorem dX6_passes_121 : decode cX6_passes 121 = .ok (.sipush 999, 3) := by decide +kernel
theorem dX6_passes_124 : decode cX6_passes 124 = .ok (.goto 11, 3) := by decide +kernel
theorem dX6_passes_127 : decode cX6_passes 127 = .ok (.aload_n 0, 1) := by decide +kernel
theorem dX6_passes_128 : decode cX6_passes 128 = .ok (.getfield 7, 3) := by decide +kernel
theorem dX6_passes_131 : decode cX6_passes 131 = .ok (.iconst 2, 1) := by decide +kernel
theorem dX6_passes_132 : decode cX6_passes 132 = .ok (.iaload, 1) := by decide +kernel
theorem dX6_passes_133 : decode cX6_passes 133 = .ok (.iload_n 1, 1) := by decide +kernel
theorem dX6_passes_134 : decode cX6_passes 134 = .ok (.iadd, 1) := by decide +kernel
theorem dX6_passes_135 : decode cX6_passes 135 = .ok (.iastore, 1) := by decide +kernel
theorem dX6_passes_136 : decode cX6_passes 136 = .ok (.aload_n 0, 1) := by decide +kernel
theorem dX6_passes_137 : decode cX6_passes 137 = .ok (.getfield 7, 3) := by decide +kernel
theorem dX6_passes_140 : decode cX6_passes 140 = .ok (.iconst 2, 1) := by decide +kernel
theorem dX6_passes_141 : decode cX6_passes 141 = .ok (.iaload, 1) := by decide +kernel
theorem dX6_passes_142 : decode cX6_passes 142 = .ok (.ireturn, 1) := by decide +kernel
set_option maxRecDepth 20000 in
theorem ggX6_undo_X6_no : GoodIn wsX6_undo wsX6_no := goodIn_r _ [6, 7, 8, 9, 10, 11, 12, 13, 14, 15, 16, 17, 18, 19, 20, 21, 22] (by decide +kernel) (by decide +kernel)
set_option maxRecDepth 20000 in
theorem gX6_undo_X6_no : GoodIn wsX6_undo (wsV RX6 143 RX6 yX6_no wsX6_no) := goodIn_app (goodIn_of _ (by decide +kernel)) ggX6_undo_X6_no
theorem dX6_undo_0 : decode cX6_undo 0 = .ok (.aload_n 0, 1) := by decide +kernel
theorem dX6_undo_1 : decode cX6_undo 1 = .ok (.getfield 7, 3) := by decide +kernel
theorem dX6_undo_4 : decode cX6_undo 4 = .ok (.iconst 4, 1) := by decide +kernel
theorem dX6_undo_5 : decode cX6_undo 5 = .ok (.iaload, 1) := by decide +kernel
theorem dX6_undo_6 : decode cX6_undo 6 = .ok (.ifCond .ne 8, 3) := by decide +kernel
theorem dX6_undo_9 : decode cX6_undo 9 = .ok (.aload_n 0, 1) := by decide +kernel
theorem dX6_undo_10 : decode cX6_undo 10 = .ok (.invokevirtual 143, 3) := by decide +kernel
theorem dX6_undo_13 : decode cX6_undo 13 = .ok (.ireturn, 1) := by decide +kernel
theorem dX6_undo_14 : decode cX6_undo 14 = .ok (.aload_n 0, 1) := by decide +kernel
theorem dX6_undo_15 : decode cX6_undo 15 = .ok (.getfield 7, 3) := by decide +kernel
theorem dX6_undo_18 : decode cX6_undo 18 = .ok (.iconst 4, 1) := by decide +kernel
theorem dX6_undo_19 : decode cX6_undo 19 = .ok (.dup2, 1) := by decide +kernel
theorem dX6_undo_20 : decode cX6_undo 20 = .ok (.iaload, 1) := by decide +kernel
theorem dX6_undo_21 : decode cX6_undo 21 = .ok (.iconst 1, 1) := by decide +kernel
theorem dX6_undo_22 : decode cX6_undo 22 = .ok (.isub, 1) := by decide +kernel
theorem dX6_undo_23 : decode cX6_undo 23 = .ok (.iastore, 1) := by decide +kernel
theorem dX6_undo_24 : decode cX6_undo 24 = .ok (.aload_n 0, 1) := by decide +kernel
theorem dX6_undo_25 : decode cX6_undo 25 = .ok (.getfield 7, 3) := by decide +kernel
theorem dX6_undo_28 : decode cX6_undo 28 = .ok (.iconst 2, 1) := by decide +kernel
theorem dX6_undo_29 : decode cX6_undo 29 = .ok (.aload_n 0, 1) := by decide +kernel
theorem dX6_undo_30 : decode cX6_undo 30 = .ok (.getfield 7, 3) := by decide +kernel
theorem dX6_undo_33 : decode cX6_undo 33 = .ok (.bipush 41, 2) := by decide +kernel
theorem dX6_undo_35 : decode cX6_undo 35 = .ok (.aload_n 0, 1) := by decide +kernel
theorem dX6_undo_36 : decode cX6_undo 36 = .ok (.getfield 7, 3) := by decide +kernel
theorem dX6_undo_39 : decode cX6_undo 39 = .ok (.iconst 4, 1) := by decide +kernel
theorem dX6_undo_40 : decode cX6_undo 40 = .ok (.iaload, 1) := by decide +kernel
theorem dX6_undo_41 : decode cX6_undo 41 = .ok (.iadd, 1) := by decide +kernel
theorem dX6_undo_42 : decode cX6_undo 42 = .ok (.iaload, 1) := by decide +kernel
theorem dX6_undo_43 : decode cX6_undo 43 = .ok (.iastore, 1) := by decide +kernel
theorem dX6_undo_44 : decode cX6_undo 44 = .ok (.aload_n 0, 1) := by decide +kernel
theorem dX6_undo_45 : decode cX6_undo 45 = .ok (.getfield 7, 3) := by decide +kernel
theorem dX6_undo_48 : decode cX6_undo 48 = .ok (.iconst 2, 1) := by decide +kernel
theorem dX6_undo_49 : decode cX6_undo 49 = .ok (.iaload, 1) := by decide +kernel
theorem dX6_undo_50 : decode cX6_undo 50 = .ok (.ireturn, 1) := by decide +kernel
set_option maxRecDepth 20000 in
theorem ggX6_of_X6_isLift : GoodIn wsX6_of wsX6_isLift := goodIn_r _ [7, 2, 8, 9, 6, 10, 44, 45, 46, 47, 48, 49, 50, 51, 52, 53, 54, 55, 56, 57, 58] (by decide +kernel) (by decide +kernel)
set_option maxRecDepth 20000 in
theorem gX6_of_X6_isLift : GoodIn wsX6_of (wsV RX6 146 RX6 yX6_isLift wsX6_isLift) := goodIn_app (goodIn_of _ (by decide +kernel)) ggX6_of_X6_isLift
set_option maxRecDepth 20000 in
theorem ggX6_of_X6_in : GoodIn wsX6_of wsX6_in := goodIn_r _ [10] (by decide +kernel) (by decide +kernel)
set_option maxRecDepth 20000 in
theorem gX6_of_X6_in : GoodIn wsX6_of (va_wsS RX6 34 yX6_in wsX6_in) := goodIn_app (goodIn_of _ (by decide +kernel)) ggX6_of_X6_in
set_option maxRecDepth 20000 in
theorem ggX6_of_X6_bad : GoodIn wsX6_of wsX6_bad := goodIn_r _ [14, 15, 44, 45, 46, 47, 48, 49, 50, 51, 52, 53, 54, 55, 56, 57, 58] (by decide +kernel) (by decide +kernel)
set_option maxRecDepth 20000 in
theorem gX6_of_X6_bad : GoodIn wsX6_of (wsV RX6 42 RX6 yX6_bad wsX6_bad) := goodIn_app (goodIn_of _ (by decide +kernel)) ggX6_of_X6_bad
set_option maxRecDepth 20000 in
theorem ggX6_of_X6_floorIn : GoodIn wsX6_of wsX6_floorIn := goodIn_r _ [19, 2, 20, 21, 22, 6, 23, 24, 25, 26, 27, 28, 29, 30, 31, 32, 33, 34, 35, 44, 45, 46, 47, 48, 49, 50, 51, 52, 53, 54, 55, 56, 57, 58] (by decide +kernel) (by decide +kernel)
set_option maxRecDepth 20000 in
theorem gX6_of_X6_floorIn : GoodIn wsX6_of (wsV RX6 135 RX6 yX6_floorIn wsX6_floorIn) := goodIn_app (goodIn_of _ (by decide +kernel)) ggX6_of_X6_floorIn
set_option maxRecDepth 20000 in
theorem ggX6_of_X6_roundOf : GoodIn wsX6_of wsX6_roundOf := goodIn_r _ [27, 2, 44, 45, 46, 47, 48, 49, 50, 51, 52, 53, 54, 55, 56, 57, 58] (by decide +kernel) (by decide +kernel)
set_option maxRecDepth 20000 in
theorem gX6_of_X6_roundOf : GoodIn wsX6_of (wsV RX6 126 RX6 yX6_roundOf wsX6_roundOf) := goodIn_app (goodIn_of _ (by decide +kernel)) ggX6_of_X6_roundOf
set_option maxRecDepth 20000 in
theorem ggX6_of_X6_wayIn : GoodIn wsX6_of wsX6_wayIn := goodIn_r _ [39, 2, 16, 17, 18, 6, 19, 20, 21, 22, 23, 24, 25, 26, 27, 28, 29, 30, 31, 32, 33, 34, 35, 44, 45, 46, 47, 48, 49, 50, 51, 52, 53, 54, 55, 56, 57, 58] (by decide +kernel) (by decide +kernel)
set_option maxRecDepth 20000 in
theorem gX6_of_X6_wayIn : GoodIn wsX6_of (wsV RX6 149 RX6 yX6_wayIn wsX6_wayIn) := goodIn_app (goodIn_of _ (by decide +kernel)) ggX6_of_X6_wayIn
set_option maxRecDepth 20000 in
theorem ggX6_of_X6_isTaken : GoodIn wsX6_of wsX6_isTaken := goodIn_r _ [43, 2, 44, 45, 46, 47, 48, 49, 50, 51, 52, 53, 54, 55, 56, 57, 58] (by decide +kernel) (by decide +kernel)
set_option maxRecDepth 20000 in
theorem gX6_of_X6_isTaken : GoodIn wsX6_of (wsV RX6 139 RX6 yX6_isTaken wsX6_isTaken) := goodIn_app (goodIn_of _ (by decide +kernel)) ggX6_of_X6_isTaken
theorem dX6_of_0 : decode cX6_of 0 = .ok (.aload_n 0, 1) := by decide +kernel
theorem dX6_of_1 : decode cX6_of 1 = .ok (.iload_n 1, 1) := by decide +kernel
theorem dX6_of_2 : decode cX6_of 2 = .ok (.invokevirtual 146, 3) := by decide +kernel
theorem dX6_of_5 : decode cX6_of 5 = .ok (.ifCond .eq 15, 3) := by decide +kernel
theorem dX6_of_8 : decode cX6_of 8 = .ok (.iload_n 2, 1) := by decide +kernel
theorem dX6_of_9 : decode cX6_of 9 = .ok (.i2l, 1) := by decide +kernel
theorem dX6_of_10 : decode cX6_of 10 = .ok (.lconst 0, 1) := by decide +kernel
theorem dX6_of_11 : decode cX6_of 11 = .ok (.ldc2_w 46, 3) := by decide +kernel
theorem dX6_of_14 : decode cX6_of 14 = .ok (.invokestatic 34, 3) := by decide +kernel
theorem dX6_of_17 : decode cX6_of 17 = .ok (.ifCond .ne 8, 3) := by decide +kernel
theorem dX6_of_20 : decode cX6_of 20 = .ok (.aload_n 0, 1) := by decide +kernel
theorem dX6_of_21 : decode cX6_of 21 = .ok (.invokevirtual 42, 3) := by decide +kernel
theorem dX6_of_24 : decode cX6_of 24 = .ok (.ireturn, 1) := by decide +kernel
theorem dX6_of_25 : decode cX6_of 25 = .ok (.aload_n 0, 1) := by decide +kernel
theorem dX6_of_26 : decode cX6_of 26 = .ok (.iload_n 1, 1) := by decide +kernel
theorem dX6_of_27 : decode cX6_of 27 = .ok (.aload_n 0, 1) := by decide +kernel
theorem dX6_of_28 : decode cX6_of 28 = .ok (.getfield 7, 3) := by decide +kernel
theorem dX6_of_31 : decode cX6_of 31 = .ok (.iconst 2, 1) := by decide +kernel
theorem dX6_of_32 : decode cX6_of 32 = .ok (.iaload, 1) := by decide +kernel
theorem dX6_of_33 : decode cX6_of 33 = .ok (.invokevirtual 135, 3) := by decide +kernel
theorem dX6_of_36 : decode cX6_of 36 = .ok (.istore_n 3, 1) := by decide +kernel
theorem dX6_of_37 : decode cX6_of 37 = .ok (.iload_n 2, 1) := by decide +kernel
theorem dX6_of_38 : decode cX6_of 38 = .ok (.tableswitch 80 0 4 #[34, 43, 53, 66, 68], 34) := by decide +kernel
theorem dX6_of_72 : decode cX6_of 72 = .ok (.aload_n 0, 1) := by decide +kernel
theorem dX6_of_73 : decode cX6_of 73 = .ok (.getfield 7, 3) := by decide +kernel
theorem dX6_of_76 : decode cX6_of 76 = .ok (.iconst 5, 1) := by decide +kernel
theorem dX6_of_77 : decode cX6_of 77 = .ok (.iload_n 1, 1) := by decide +kernel
theorem dX6_of_78 : decode cX6_of 78 = .ok (.iadd, 1) := by decide +kernel
theorem dX6_of_79 : decode cX6_of 79 = .ok (.iaload, 1) := by decide +kernel
theorem dX6_of_80 : decode cX6_of 80 = .ok (.ireturn, 1) := by decide +kernel
theorem dX6_of_81 : decode cX6_of 81 = .ok (.aload_n 0, 1) := by decide +kernel
theorem dX6_of_82 : decode cX6_of 82 = .ok (.getfield 7, 3) := by decide +kernel
theorem dX6_of_85 : decode cX6_of 85 = .ok (.bipush 9, 2) := by decide +kernel
theorem dX6_of_87 : decode cX6_of 87 = .ok (.iload_n 1, 1) := by decide +kernel
theorem dX6_of_88 : decode cX6_of 88 = .ok (.iadd, 1) := by decide +kernel
theorem dX6_of_89 : decode cX6_of 89 = .ok (.iaload, 1) := by decide +kernel
theorem dX6_of_90 : decode cX6_of 90 = .ok (.ireturn, 1) := by decide +kernel
theorem dX6_of_91 : decode cX6_of 91 = .ok (.aload_n 0, 1) := by decide +kernel
theorem dX6_of_92 : decode cX6_of 92 = .ok (.aload_n 0, 1) := by decide +kernel
theorem dX6_of_93 : decode cX6_of 93 = .ok (.getfield 7, 3) := by decide +kernel
theorem dX6_of_96 : decode cX6_of 96 = .ok (.iconst 5, 1) := by decide +kernel
theorem dX6_of_97 : decode cX6_of 97 = .ok (.iload_n 1, 1) := by decide +kernel
theorem dX6_of_98 : decode cX6_of 98 = .ok (.iadd, 1) := by decide +kernel
theorem dX6_of_99 : decode cX6_of 99 = .ok (.iaload, 1) := by decide +kernel
theorem dX6_of_100 : decode cX6_of 100 = .ok (.invokevirtual 126, 3) := by decide +kernel
theorem dX6_of_103 : decode cX6_of 103 = .ok (.ireturn, 1) := by decide +kernel
theorem dX6_of_104 : decode cX6_of 104 = .ok (.iload_n 3, 1) := by decide +kernel
theorem dX6_of_105 : decode cX6_of 105 = .ok (.ireturn, 1) := by decide +kernel
theorem dX6_of_106 : decode cX6_of 106 = .ok (.aload_n 0, 1) := by decide +kernel
theorem dX6_of_107 : decode cX6_of 107 = .ok (.iload_n 1, 1) := by decide +kernel
theorem dX6_of_108 : decode cX6_of 108 = .ok (.aload_n 0, 1) := by decide +kernel
theorem dX6_of_109 : decode cX6_of 109 = .ok (.getfield 7, 3) := by decide +kernel
theorem dX6_of_112 : decode cX6_of 112 = .ok (.iconst 2, 1) := by decide +kernel
theorem dX6_of_113 : decode cX6_of 113 = .ok (.iaload, 1) := by decide +kernel
theorem dX6_of_114 : decode cX6_of 114 = .ok (.invokevirtual 149, 3) := by decide +kernel
theorem dX6_of_117 : decode cX6_of 117 = .ok (.ireturn, 1) := by decide +kernel
theorem dX6_of_118 : decode cX6_of 118 = .ok (.aload_n 0, 1) := by decide +kernel
theorem dX6_of_119 : decode cX6_of 119 = .ok (.iload_n 1, 1) := by decide +kernel
theorem dX6_of_120 : decode cX6_of 120 = .ok (.iload_n 3, 1) := by decide +kernel
theorem dX6_of_121 : decode cX6_of 121 = .ok (.invokevirtual 139, 3) := by decide +kernel
theorem dX6_of_124 : decode cX6_of 124 = .ok (.ifCond .eq 7, 3) := by decide +kernel
theorem dX6_of_127 : decode cX6_of 127 = .ok (.iconst 1, 1) := by decide +kernel
theorem dX6_of_128 : decode cX6_of 128 = .ok (.goto 4, 3) := by decide +kernel
theorem dX6_of_131 : decode cX6_of 131 = .ok (.iconst 0, 1) := by decide +kernel
theorem dX6_of_132 : decode cX6_of 132 = .ok (.ireturn, 1) := by decide +kernel
set_option maxRecDepth 20000 in
theorem ggX6_where_X6_isLift : GoodIn wsX6_where wsX6_isLift := goodIn_r _ [5, 6, 7, 8, 4, 9, 39, 40, 41, 42, 43, 44, 45, 46, 47, 48, 49, 50, 51, 52, 53] (by decide +kernel) (by decide +kernel)
set_option maxRecDepth 20000 in
theorem gX6_where_X6_isLift : GoodIn wsX6_where (wsV RX6 146 RX6 yX6_isLift wsX6_isLift) := goodIn_app (goodIn_of _ (by decide +kernel)) ggX6_where_X6_isLift
set_option maxRecDepth 20000 in
theorem ggX6_where_X6_isMinute : GoodIn wsX6_where wsX6_isMinute := goodIn_r _ [12, 13, 7, 8, 4, 9] (by decide +kernel) (by decide +kernel)
set_option maxRecDepth 20000 in
theorem gX6_where_X6_isMinute : GoodIn wsX6_where (va_wsS RX6 152 yX6_isMinute wsX6_isMinute) := goodIn_app (goodIn_of _ (by decide +kernel)) ggX6_where_X6_isMinute
set_option maxRecDepth 20000 in
theorem ggX6_where_X6_floorIn : GoodIn wsX6_where wsX6_floorIn := goodIn_r _ [17, 6, 18, 19, 20, 4, 21, 22, 23, 24, 25, 26, 27, 28, 29, 30, 31, 32, 33, 39, 40, 41, 42, 43, 44, 45, 46, 47, 48, 49, 50, 51, 52, 53] (by decide +kernel) (by decide +kernel)
set_option maxRecDepth 20000 in
theorem gX6_where_X6_floorIn : GoodIn wsX6_where (wsV RX6 135 RX6 yX6_floorIn wsX6_floorIn) := goodIn_app (goodIn_of _ (by decide +kernel)) ggX6_where_X6_floorIn
set_option maxRecDepth 20000 in
theorem ggX6_where_X6_bad : GoodIn wsX6_where wsX6_bad := goodIn_r _ [37, 38, 39, 40, 41, 42, 43, 44, 45, 46, 47, 48, 49, 50, 51, 52, 53] (by decide +kernel) (by decide +kernel)
set_option maxRecDepth 20000 in
theorem gX6_where_X6_bad : GoodIn wsX6_where (wsV RX6 42 RX6 yX6_bad wsX6_bad) := goodIn_app (goodIn_of _ (by decide +kernel)) ggX6_where_X6_bad
theorem dX6_where_0 : decode cX6_where 0 = .ok (.aload_n 0, 1) := by decide +kernel
theorem dX6_where_1 : decode cX6_where 1 = .ok (.iload_n 1, 1) := by decide +kernel
theorem dX6_where_2 : decode cX6_where 2 = .ok (.invokevirtual 146, 3) := by decide +kernel
theorem dX6_where_5 : decode cX6_where 5 = .ok (.ifCond .eq 19, 3) := by decide +kernel
theorem dX6_where_8 : decode cX6_where 8 = .ok (.iload_n 2, 1) := by decide +kernel
theorem dX6_where_9 : decode cX6_where 9 = .ok (.invokestatic 152, 3) := by decide +kernel
theorem dX6_where_12 : decode cX6_where 12 = .ok (.ifCond .eq 12, 3) := by decide +kernel
theorem dX6_where_15 : decode cX6_where 15 = .ok (.aload_n 0, 1) := by decide +kernel
theorem dX6_where_16 : decode cX6_where 16 = .ok (.iload_n 1, 1) := by decide +kernel
theorem dX6_where_17 : decode cX6_where 17 = .ok (.iload_n 2, 1) := by decide +kernel
theorem dX6_where_18 : decode cX6_where 18 = .ok (.invokevirtual 135, 3) := by decide +kernel
theorem dX6_where_21 : decode cX6_where 21 = .ok (.goto 7, 3) := by decide +kernel
theorem dX6_where_24 : decode cX6_where 24 = .ok (.aload_n 0, 1) := by decide +kernel
theorem dX6_where_25 : decode cX6_where 25 = .ok (.invokevirtual 42, 3) := by decide +kernel
theorem dX6_where_28 : decode cX6_where 28 = .ok (.ireturn, 1) := by decide +kernel
set_option maxRecDepth 20000 in
theorem ggX6_comes_X6_has : GoodIn wsX6_comes wsX6_has := goodIn_r _ [7] (by decide +kernel) (by decide +kernel)
set_option maxRecDepth 20000 in
theorem gX6_comes_X6_has : GoodIn wsX6_comes (va_wsS RX6 155 yX6_has wsX6_has) := goodIn_app (goodIn_of _ (by decide +kernel)) ggX6_comes_X6_has
set_option maxRecDepth 20000 in
theorem ggX6_comes_X6_isSeen : GoodIn wsX6_comes wsX6_isSeen := goodIn_r _ [11, 12, 13, 14, 6, 15, 1, 16, 17, 18, 19, 20, 21, 22, 23, 24, 25, 26, 27, 28, 29, 30, 31, 32, 33, 34, 35, 40, 41, 42, 43, 44, 45, 46, 47, 48, 49, 50, 51, 52, 53, 54] (by decide +kernel) (by decide +kernel)
set_option maxRecDepth 20000 in
theorem gX6_comes_X6_isSeen : GoodIn wsX6_comes (wsV RX6 158 RX6 yX6_isSeen wsX6_isSeen) := goodIn_app (goodIn_of _ (by decide +kernel)) ggX6_comes_X6_isSeen
set_option maxRecDepth 20000 in
theorem ggX6_comes_X6_wayIn : GoodIn wsX6_comes wsX6_wayIn := goodIn_r _ [39, 1, 12, 13, 14, 6, 15, 16, 17, 18, 19, 20, 21, 22, 23, 24, 25, 26, 27, 28, 29, 30, 31, 40, 41, 42, 43, 44, 45, 46, 47, 48, 49, 50, 51, 52, 53, 54] (by decide +kernel) (by decide +kernel)
set_option maxRecDepth 20000 in
theorem gX6_comes_X6_wayIn : GoodIn wsX6_comes (wsV RX6 149 RX6 yX6_wayIn wsX6_wayIn) := goodIn_app (goodIn_of _ (by decide +kernel)) ggX6_comes_X6_wayIn
theorem dX6_comes_0 : decode cX6_comes 0 = .ok (.iconst 0, 1) := by decide +kernel
theorem dX6_comes_1 : decode cX6_comes 1 = .ok (.istore 5, 2) := by decide +kernel
theorem dX6_comes_3 : decode cX6_comes 3 = .ok (.iload 5, 2) := by decide +kernel
theorem dX6_comes_5 : decode cX6_comes 5 = .ok (.sipush 200, 3) := by decide +kernel
theorem dX6_comes_8 : decode cX6_comes 8 = .ok (.if_icmp .ge 101, 3) := by decide +kernel
theorem dX6_comes_11 : decode cX6_comes 11 = .ok (.iconst 0, 1) := by decide +kernel
theorem dX6_comes_12 : decode cX6_comes 12 = .ok (.istore 6, 2) := by decide +kernel
theorem dX6_comes_14 : decode cX6_comes 14 = .ok (.iload 6, 2) := by decide +kernel
theorem dX6_comes_16 : decode cX6_comes 16 = .ok (.aload_n 0, 1) := by decide +kernel
theorem dX6_comes_17 : decode cX6_comes 17 = .ok (.getfield 7, 3) := by decide +kernel
theorem dX6_comes_20 : decode cX6_comes 20 = .ok (.iconst 0, 1) := by decide +kernel
theorem dX6_comes_21 : decode cX6_comes 21 = .ok (.iaload, 1) := by decide +kernel
theorem dX6_comes_22 : decode cX6_comes 22 = .ok (.if_icmp .ge 81, 3) := by decide +kernel
theorem dX6_comes_25 : decode cX6_comes 25 = .ok (.iload_n 3, 1) := by decide +kernel
theorem dX6_comes_26 : decode cX6_comes 26 = .ok (.iload 6, 2) := by decide +kernel
theorem dX6_comes_28 : decode cX6_comes 28 = .ok (.invokestatic 155, 3) := by decide +kernel
theorem dX6_comes_31 : decode cX6_comes 31 = .ok (.ifCond .eq 21, 3) := by decide +kernel
theorem dX6_comes_34 : decode cX6_comes 34 = .ok (.aload_n 0, 1) := by decide +kernel
theorem dX6_comes_35 : decode cX6_comes 35 = .ok (.iload 6, 2) := by decide +kernel
theorem dX6_comes_37 : decode cX6_comes 37 = .ok (.iload_n 1, 1) := by decide +kernel
theorem dX6_comes_38 : decode cX6_comes 38 = .ok (.iload_n 2, 1) := by decide +kernel
theorem dX6_comes_39 : decode cX6_comes 39 = .ok (.iload 5, 2) := by decide +kernel
theorem dX6_comes_41 : decode cX6_comes 41 = .ok (.iadd, 1) := by decide +kernel
theorem dX6_comes_42 : decode cX6_comes 42 = .ok (.invokevirtual 158, 3) := by decide +kernel
theorem dX6_comes_45 : decode cX6_comes 45 = .ok (.ifCond .eq 7, 3) := by decide +kernel
theorem dX6_comes_48 : decode cX6_comes 48 = .ok (.iconst 1, 1) := by decide +kernel
theorem dX6_comes_49 : decode cX6_comes 49 = .ok (.goto 4, 3) := by decide +kernel
theorem dX6_comes_52 : decode cX6_comes 52 = .ok (.iconst 0, 1) := by decide +kernel
theorem dX6_comes_53 : decode cX6_comes 53 = .ok (.istore 7, 2) := by decide +kernel
theorem dX6_comes_55 : decode cX6_comes 55 = .ok (.iload 7, 2) := by decide +kernel
theorem dX6_comes_57 : decode cX6_comes 57 = .ok (.ifCond .eq 40, 3) := by decide +kernel
theorem dX6_comes_60 : decode cX6_comes 60 = .ok (.iload 4, 2) := by decide +kernel
theorem dX6_comes_62 : decode cX6_comes 62 = .ok (.iconst 2, 1) := by decide +kernel
theorem dX6_comes_63 : decode cX6_comes 63 = .ok (.if_icmp .eq 18, 3) := by decide +kernel
theorem dX6_comes_66 : decode cX6_comes 66 = .ok (.aload_n 0, 1) := by decide +kernel
theorem dX6_comes_67 : decode cX6_comes 67 = .ok (.iload 6, 2) := by decide +kernel
theorem dX6_comes_69 : decode cX6_comes 69 = .ok (.iload_n 2, 1) := by decide +kernel
theorem dX6_comes_70 : decode cX6_comes 70 = .ok (.iload 5, 2) := by decide +kernel
theorem dX6_comes_72 : decode cX6_comes 72 = .ok (.iadd, 1) := by decide +kernel
theorem dX6_comes_73 : decode cX6_comes 73 = .ok (.invokevirtual 149, 3) := by decide +kernel
theorem dX6_comes_76 : decode cX6_comes 76 = .ok (.iload 4, 2) := by decide +kernel
theorem dX6_comes_78 : decode cX6_comes 78 = .ok (.if_icmp .ne 19, 3) := by decide +kernel
theorem dX6_comes_81 : decode cX6_comes 81 = .ok (.aload_n 0, 1) := by decide +kernel
theorem dX6_comes_82 : decode cX6_comes 82 = .ok (.iload 6, 2) := by decide +kernel
theorem dX6_comes_84 : decode cX6_comes 84 = .ok (.putfield 161, 3) := by decide +kernel
theorem dX6_comes_87 : decode cX6_comes 87 = .ok (.aload_n 0, 1) := by decide +kernel
theorem dX6_comes_88 : decode cX6_comes 88 = .ok (.iload_n 2, 1) := by decide +kernel
theorem dX6_comes_89 : decode cX6_comes 89 = .ok (.iload 5, 2) := by decide +kernel
theorem dX6_comes_91 : decode cX6_comes 91 = .ok (.iadd, 1) := by decide +kernel
theorem dX6_comes_92 : decode cX6_comes 92 = .ok (.putfield 164, 3) := by decide +kernel
theorem dX6_comes_95 : decode cX6_comes 95 = .ok (.iconst 1, 1) := by decide +kernel
theorem dX6_comes_96 : decode cX6_comes 96 = .ok (.ireturn, 1) := by decide +kernel
theorem dX6_comes_97 : decode cX6_comes 97 = .ok (.iinc 6 1, 3) := by decide +kernel
theorem dX6_comes_100 : decode cX6_comes 100 = .ok (.goto (-86), 3) := by decide +kernel
theorem dX6_comes_103 : decode cX6_comes 103 = .ok (.iinc 5 1, 3) := by decide +kernel
theorem dX6_comes_106 : decode cX6_comes 106 = .ok (.goto (-103), 3) := by decide +kernel
theorem dX6_comes_109 : decode cX6_comes 109 = .ok (.iconst 0, 1) := by decide +kernel
theorem dX6_comes_110 : decode cX6_comes 110 = .ok (.ireturn, 1) := by decide +kernel
set_option maxRecDepth 20000 in
theorem ggX6_first_X6_isFloor : GoodIn wsX6_first wsX6_isFloor := goodIn_r _ [8, 9, 10, 11, 7, 12, 61, 62, 63, 64, 65, 66, 67, 68, 69, 70, 71, 72, 73, 74, 75] (by decide +kernel) (by decide +kernel)
set_option maxRecDepth 20000 in
theorem gX6_first_X6_isFloor : GoodIn wsX6_first (wsV RX6 167 RX6 yX6_isFloor wsX6_isFloor) := goodIn_app (goodIn_of _ (by decide +kernel)) ggX6_first_X6_isFloor
set_option maxRecDepth 20000 in
theorem ggX6_first_X6_isMinute : GoodIn wsX6_first wsX6_isMinute := goodIn_r _ [15, 16, 10, 11, 7, 12] (by decide +kernel) (by decide +kernel)
set_option maxRecDepth 20000 in
theorem gX6_first_X6_isMinute : GoodIn wsX6_first (va_wsS RX6 152 yX6_isMinute wsX6_isMinute) := goodIn_app (goodIn_of _ (by decide +kernel)) ggX6_first_X6_isMinute
set_option maxRecDepth 20000 in
theorem ggX6_first_X6_in : GoodIn wsX6_first wsX6_in := goodIn_r _ [12] (by decide +kernel) (by decide +kernel)
set_option maxRecDepth 20000 in
theorem gX6_first_X6_in : GoodIn wsX6_first (va_wsS RX6 34 yX6_in wsX6_in) := goodIn_app (goodIn_of _ (by decide +kernel)) ggX6_first_X6_in
set_option maxRecDepth 20000 in
theorem ggX6_first_X6_bad : GoodIn wsX6_first wsX6_bad := goodIn_r _ [20, 21, 61, 62, 63, 64, 65, 66, 67, 68, 69, 70, 71, 72, 73, 74, 75] (by decide +kernel) (by decide +kernel)
set_option maxRecDepth 20000 in
theorem gX6_first_X6_bad : GoodIn wsX6_first (wsV RX6 42 RX6 yX6_bad wsX6_bad) := goodIn_app (goodIn_of _ (by decide +kernel)) ggX6_first_X6_bad
set_option maxRecDepth 20000 in
theorem ggX6_first_X6_comes : GoodIn wsX6_first wsX6_comes := goodIn_r _ [25, 9, 2, 3, 26, 27, 7, 28, 29, 30, 31, 32, 33, 34, 35, 36, 37, 38, 39, 40, 41, 42, 43, 44, 45, 46, 47, 48, 49, 50, 51, 52, 53, 54, 55, 56, 57, 58, 59, 60, 61, 62, 63, 64, 65, 66, 67, 68, 69, 70, 71, 72, 73, 74, 75] (by decide +kernel) (by decide +kernel)
set_option maxRecDepth 20000 in
theorem gX6_first_X6_comes : GoodIn wsX6_first (wsV RX6 172 RX6 yX6_comes wsX6_comes) := goodIn_app (goodIn_of _ (by decide +kernel)) ggX6_first_X6_comes
set_option maxRecDepth 20000 in
theorem ggX6_first_X6_wayIn : GoodIn wsX6_first wsX6_wayIn := goodIn_r _ [60, 9, 33, 34, 35, 7, 36, 37, 38, 39, 40, 41, 42, 43, 44, 45, 46, 47, 48, 49, 50, 51, 52, 61, 62, 63, 64, 65, 66, 67, 68, 69, 70, 71, 72, 73, 74, 75] (by decide +kernel) (by decide +kernel)
set_option maxRecDepth 20000 in
theorem gX6_first_X6_wayIn : GoodIn wsX6_first (wsV RX6 149 RX6 yX6_wayIn wsX6_wayIn) := goodIn_app (goodIn_of _ (by decide +kernel)) ggX6_first_X6_wayIn
theorem dX6_first_0 : decode cX6_first 0 = .ok (.aload_n 0, 1) := by decide +kernel
theorem dX6_first_1 : decode cX6_first 1 = .ok (.iload_n 1, 1) := by decide +kernel
theorem dX6_first_2 : decode cX6_first 2 = .ok (.invokevirtual 167, 3) := by decide +kernel
theorem dX6_first_5 : decode cX6_first 5 = .ok (.ifCond .eq 22, 3) := by decide +kernel
theorem dX6_first_8 : decode cX6_first 8 = .ok (.iload_n 2, 1) := by decide +kernel
theorem dX6_first_9 : decode cX6_first 9 = .ok (.invokestatic 152, 3) := by decide +kernel
theorem dX6_first_12 : decode cX6_first 12 = .ok (.ifCond .eq 15, 3) := by decide +kernel
theorem dX6_first_15 : decode cX6_first 15 = .ok (.iload_n 3, 1) := by decide +kernel
theorem dX6_first_16 : decode cX6_first 16 = .ok (.i2l, 1) := by decide +kernel
theorem dX6_first_17 : decode cX6_first 17 = .ok (.lconst 0, 1) := by decide +kernel
theorem dX6_first_18 : decode cX6_first 18 = .ok (.ldc2_w 170, 3) := by decide +kernel
theorem dX6_first_21 : decode cX6_first 21 = .ok (.invokestatic 34, 3) := by decide +kernel
theorem dX6_first_24 : decode cX6_first 24 = .ok (.ifCond .ne 8, 3) := by decide +kernel
theorem dX6_first_27 : decode cX6_first 27 = .ok (.aload_n 0, 1) := by decide +kernel
theorem dX6_first_28 : decode cX6_first 28 = .ok (.invokevirtual 42, 3) := by decide +kernel
theorem dX6_first_31 : decode cX6_first 31 = .ok (.ireturn, 1) := by decide +kernel
theorem dX6_first_32 : decode cX6_first 32 = .ok (.aload_n 0, 1) := by decide +kernel
theorem dX6_first_33 : decode cX6_first 33 = .ok (.iload_n 1, 1) := by decide +kernel
theorem dX6_first_34 : decode cX6_first 34 = .ok (.iload_n 2, 1) := by decide +kernel
theorem dX6_first_35 : decode cX6_first 35 = .ok (.bipush 15, 2) := by decide +kernel
theorem dX6_first_37 : decode cX6_first 37 = .ok (.iconst 2, 1) := by decide +kernel
theorem dX6_first_38 : decode cX6_first 38 = .ok (.invokevirtual 172, 3) := by decide +kernel
theorem dX6_first_41 : decode cX6_first 41 = .ok (.ifCond .ne 5, 3) := by decide +kernel
theorem dX6_first_44 : decode cX6_first 44 = .ok (.iconst (-1), 1) := by decide +kernel
theorem dX6_first_45 : decode cX6_first 45 = .ok (.ireturn, 1) := by decide +kernel
theorem dX6_first_46 : decode cX6_first 46 = .ok (.iload_n 3, 1) := by decide +kernel
theorem dX6_first_47 : decode cX6_first 47 = .ok (.ifCond .ne 10, 3) := by decide +kernel
theorem dX6_first_50 : decode cX6_first 50 = .ok (.aload_n 0, 1) := by decide +kernel
theorem dX6_first_51 : decode cX6_first 51 = .ok (.getfield 161, 3) := by decide +kernel
theorem dX6_first_54 : decode cX6_first 54 = .ok (.goto 29, 3) := by decide +kernel
theorem dX6_first_57 : decode cX6_first 57 = .ok (.iload_n 3, 1) := by decide +kernel
theorem dX6_first_58 : decode cX6_first 58 = .ok (.iconst 1, 1) := by decide +kernel
theorem dX6_first_59 : decode cX6_first 59 = .ok (.if_icmp .ne 18, 3) := by decide +kernel
theorem dX6_first_62 : decode cX6_first 62 = .ok (.aload_n 0, 1) := by decide +kernel
theorem dX6_first_63 : decode cX6_first 63 = .ok (.aload_n 0, 1) := by decide +kernel
theorem dX6_first_64 : decode cX6_first 64 = .ok (.getfield 161, 3) := by decide +kernel
theorem dX6_first_67 : decode cX6_first 67 = .ok (.aload_n 0, 1) := by decide +kernel
theorem dX6_first_68 : decode cX6_first 68 = .ok (.getfield 164, 3) := by decide +kernel
theorem dX6_first_71 : decode cX6_first 71 = .ok (.invokevirtual 149, 3) := by decide +kernel
theorem dX6_first_74 : decode cX6_first 74 = .ok (.goto 9, 3) := by decide +kernel
theorem dX6_first_77 : decode cX6_first 77 = .ok (.aload_n 0, 1) := by decide +kernel
theorem dX6_first_78 : decode cX6_first 78 = .ok (.getfield 164, 3) := by decide +kernel
theorem dX6_first_81 : decode cX6_first 81 = .ok (.iload_n 2, 1) := by decide +kernel
theorem dX6_first_82 : decode cX6_first 82 = .ok (.isub, 1) := by decide +kernel
theorem dX6_first_83 : decode cX6_first 83 = .ok (.ireturn, 1) := by decide +kernel
theorem dX6_tells_0 : decode cX6_tells 0 = .ok (.lload_n 1, 1) := by decide +kernel
theorem dX6_tells_1 : decode cX6_tells 1 = .ok (.lstore 5, 2) := by decide +kernel
theorem dX6_tells_3 : decode cX6_tells 3 = .ok (.lload_n 3, 1) := by decide +kernel
theorem dX6_tells_4 : decode cX6_tells 4 = .ok (.lstore 7, 2) := by decide +kernel
theorem dX6_tells_6 : decode cX6_tells 6 = .ok (.lload 7, 2) := by decide +kernel
theorem dX6_tells_8 : decode cX6_tells 8 = .ok (.lconst 0, 1) := by decide +kernel
theorem dX6_tells_9 : decode cX6_tells 9 = .ok (.lcmp, 1) := by decide +kernel
theorem dX6_tells_10 : decode cX6_tells 10 = .ok (.ifCond .eq 21, 3) := by decide +kernel
theorem dX6_tells_13 : decode cX6_tells 13 = .ok (.lload 5, 2) := by decide +kernel
theorem dX6_tells_15 : decode cX6_tells 15 = .ok (.lload 7, 2) := by decide +kernel
theorem dX6_tells_17 : decode cX6_tells 17 = .ok (.lrem, 1) := by decide +kernel
theorem dX6_tells_18 : decode cX6_tells 18 = .ok (.lstore 9, 2) := by decide +kernel
theorem dX6_tells_20 : decode cX6_tells 20 = .ok (.lload 7, 2) := by decide +kernel
theorem dX6_tells_22 : decode cX6_tells 22 = .ok (.lstore 5, 2) := by decide +kernel
theorem dX6_tells_24 : decode cX6_tells 24 = .ok (.lload 9, 2) := by decide +kernel
theorem dX6_tells_26 : decode cX6_tells 26 = .ok (.lstore 7, 2) := by decide +kernel
theorem dX6_tells_28 : decode cX6_tells 28 = .ok (.goto (-22), 3) := by decide +kernel
theorem dX6_tells_31 : decode cX6_tells 31 = .ok (.aload_n 0, 1) := by decide +kernel
theorem dX6_tells_32 : decode cX6_tells 32 = .ok (.lload_n 1, 1) := by decide +kernel
theorem dX6_tells_33 : decode cX6_tells 33 = .ok (.lload 5, 2) := by decide +kernel
theorem dX6_tells_35 : decode cX6_tells 35 = .ok (.ldiv, 1) := by decide +kernel
theorem dX6_tells_36 : decode cX6_tells 36 = .ok (.putfield 176, 3) := by decide +kernel
theorem dX6_tells_39 : decode cX6_tells 39 = .ok (.aload_n 0, 1) := by decide +kernel
theorem dX6_tells_40 : decode cX6_tells 40 = .ok (.lload_n 3, 1) := by decide +kernel
theorem dX6_tells_41 : decode cX6_tells 41 = .ok (.lload 5, 2) := by decide +kernel
theorem dX6_tells_43 : decode cX6_tells 43 = .ok (.ldiv, 1) := by decide +kernel
theorem dX6_tells_44 : decode cX6_tells 44 = .ok (.putfield 23, 3) := by decide +kernel
theorem dX6_tells_47 : decode cX6_tells 47 = .ok (.iconst 1, 1) := by decide +kernel
theorem dX6_tells_48 : decode cX6_tells 48 = .ok (.ireturn, 1) := by decide +kernel
set_option maxRecDepth 20000 in
theorem ggX6_often_X6_isFloor : GoodIn wsX6_often wsX6_isFloor := goodIn_r _ [7, 8, 9, 10, 6, 11, 66, 67, 68, 69, 70, 71, 72, 73, 74, 75, 76, 77, 78, 79, 80] (by decide +kernel) (by decide +kernel)
set_option maxRecDepth 20000 in
theorem gX6_often_X6_isFloor : GoodIn wsX6_often (wsV RX6 167 RX6 yX6_isFloor wsX6_isFloor) := goodIn_app (goodIn_of _ (by decide +kernel)) ggX6_often_X6_isFloor
set_option maxRecDepth 20000 in
theorem ggX6_often_X6_in : GoodIn wsX6_often wsX6_in := goodIn_r _ [11] (by decide +kernel) (by decide +kernel)
set_option maxRecDepth 20000 in
theorem gX6_often_X6_in : GoodIn wsX6_often (va_wsS RX6 34 yX6_in wsX6_in) := goodIn_app (goodIn_of _ (by decide +kernel)) ggX6_often_X6_in
set_option maxRecDepth 20000 in
theorem ggX6_often_X6_bad : GoodIn wsX6_often wsX6_bad := goodIn_r _ [15, 16, 66, 67, 68, 69, 70, 71, 72, 73, 74, 75, 76, 77, 78, 79, 80] (by decide +kernel) (by decide +kernel)
set_option maxRecDepth 20000 in
theorem gX6_often_X6_bad : GoodIn wsX6_often (wsV RX6 42 RX6 yX6_bad wsX6_bad) := goodIn_app (goodIn_of _ (by decide +kernel)) ggX6_often_X6_bad
set_option maxRecDepth 20000 in
theorem ggX6_often_X6_comes : GoodIn wsX6_often wsX6_comes := goodIn_r _ [20, 8, 1, 2, 21, 22, 6, 23, 24, 25, 26, 27, 28, 29, 30, 31, 32, 33, 34, 35, 36, 37, 38, 39, 40, 41, 42, 43, 44, 45, 46, 47, 48, 49, 50, 51, 52, 53, 54, 55, 66, 67, 68, 69, 70, 71, 72, 73, 74, 75, 76, 77, 78, 79, 80] (by decide +kernel) (by decide +kernel)
set_option maxRecDepth 20000 in
theorem gX6_often_X6_comes : GoodIn wsX6_often (wsV RX6 172 RX6 yX6_comes wsX6_comes) := goodIn_app (goodIn_of _ (by decide +kernel)) ggX6_often_X6_comes
set_option maxRecDepth 20000 in
theorem ggX6_often_X6_wayIn : GoodIn wsX6_often wsX6_wayIn := goodIn_r _ [55, 8, 28, 29, 30, 6, 31, 32, 33, 34, 35, 36, 37, 38, 39, 40, 41, 42, 43, 44, 45, 46, 47, 66, 67, 68, 69, 70, 71, 72, 73, 74, 75, 76, 77, 78, 79, 80] (by decide +kernel) (by decide +kernel)
set_option maxRecDepth 20000 in
theorem gX6_often_X6_wayIn : GoodIn wsX6_often (wsV RX6 149 RX6 yX6_wayIn wsX6_wayIn) := goodIn_app (goodIn_of _ (by decide +kernel)) ggX6_often_X6_wayIn
set_option maxRecDepth 20000 in
theorem ggX6_often_X6_no : GoodIn wsX6_often wsX6_no := goodIn_r _ [59, 16, 66, 67, 68, 69, 70, 71, 72, 73, 74, 75, 76, 77, 78, 79, 80] (by decide +kernel) (by decide +kernel)
set_option maxRecDepth 20000 in
theorem gX6_often_X6_no : GoodIn wsX6_often (wsV RX6 143 RX6 yX6_no wsX6_no) := goodIn_app (goodIn_of _ (by decide +kernel)) ggX6_often_X6_no
set_option maxRecDepth 20000 in
theorem ggX6_often_X6_tells : GoodIn wsX6_often wsX6_tells := goodIn_r _ [63, 64, 65, 66, 67, 68, 69, 70, 71, 72, 73, 74, 75, 76, 77, 78, 79, 80] (by decide +kernel) (by decide +kernel)
set_option maxRecDepth 20000 in
theorem gX6_often_X6_tells : GoodIn wsX6_often (wsV RX6 179 RX6 yX6_tells wsX6_tells) := goodIn_app (goodIn_of _ (by decide +kernel)) ggX6_often_X6_tells
theorem dX6_often_0 : decode cX6_often 0 = .ok (.aload_n 0, 1) := by decide +kernel
theorem dX6_often_1 : decode cX6_often 1 = .ok (.iload_n 1, 1) := by decide +kernel
theorem dX6_often_2 : decode cX6_often 2 = .ok (.invokevirtual 167, 3) := by decide +kernel
theorem dX6_often_5 : decode cX6_often 5 = .ok (.ifCond .eq 13, 3) := by decide +kernel
theorem dX6_often_8 : decode cX6_often 8 = .ok (.iload_n 2, 1) := by decide +kernel
theorem dX6_often_9 : decode cX6_often 9 = .ok (.i2l, 1) := by decide +kernel
theorem dX6_often_10 : decode cX6_often 10 = .ok (.lconst 0, 1) := by decide +kernel
theorem dX6_often_11 : decode cX6_often 11 = .ok (.lconst 1, 1) := by decide +kernel
theorem dX6_often_12 : decode cX6_often 12 = .ok (.invokestatic 34, 3) := by decide +kernel
theorem dX6_often_15 : decode cX6_often 15 = .ok (.ifCond .ne 8, 3) := by decide +kernel
theorem dX6_often_18 : decode cX6_often 18 = .ok (.aload_n 0, 1) := by decide +kernel
theorem dX6_often_19 : decode cX6_often 19 = .ok (.invokevirtual 42, 3) := by decide +kernel
theorem dX6_often_22 : decode cX6_often 22 = .ok (.ireturn, 1) := by decide +kernel
theorem dX6_often_23 : decode cX6_often 23 = .ok (.iconst 0, 1) := by decide +kernel
theorem dX6_often_24 : decode cX6_often 24 = .ok (.istore_n 3, 1) := by decide +kernel
theorem dX6_often_25 : decode cX6_often 25 = .ok (.iconst 0, 1) := by decide +kernel
theorem dX6_often_26 : decode cX6_often 26 = .ok (.istore 4, 2) := by decide +kernel
theorem dX6_often_28 : decode cX6_often 28 = .ok (.iconst 0, 1) := by decide +kernel
theorem dX6_often_29 : decode cX6_often 29 = .ok (.istore 5, 2) := by decide +kernel
theorem dX6_often_31 : decode cX6_often 31 = .ok (.iload 5, 2) := by decide +kernel
theorem dX6_often_33 : decode cX6_often 33 = .ok (.bipush 120, 2) := by decide +kernel
theorem dX6_often_35 : decode cX6_often 35 = .ok (.if_icmp .ge 56, 3) := by decide +kernel
theorem dX6_often_38 : decode cX6_often 38 = .ok (.aload_n 0, 1) := by decide +kernel
theorem dX6_often_39 : decode cX6_often 39 = .ok (.iload_n 1, 1) := by decide +kernel
theorem dX6_often_40 : decode cX6_often 40 = .ok (.iload 5, 2) := by decide +kernel
theorem dX6_often_42 : decode cX6_often 42 = .ok (.bipush 15, 2) := by decide +kernel
theorem dX6_often_44 : decode cX6_often 44 = .ok (.iconst 2, 1) := by decide +kernel
theorem dX6_often_45 : decode cX6_often 45 = .ok (.invokevirtual 172, 3) := by decide +kernel
theorem dX6_often_48 : decode cX6_often 48 = .ok (.ifCond .eq 37, 3) := by decide +kernel
theorem dX6_often_51 : decode cX6_often 51 = .ok (.iinc 3 1, 3) := by decide +kernel
theorem dX6_often_54 : decode cX6_often 54 = .ok (.iload 4, 2) := by decide +kernel
theorem dX6_often_56 : decode cX6_often 56 = .ok (.iload_n 2, 1) := by decide +kernel
theorem dX6_often_57 : decode cX6_often 57 = .ok (.ifCond .ne 18, 3) := by decide +kernel
theorem dX6_often_60 : decode cX6_often 60 = .ok (.aload_n 0, 1) := by decide +kernel
theorem dX6_often_61 : decode cX6_often 61 = .ok (.aload_n 0, 1) := by decide +kernel
theorem dX6_often_62 : decode cX6_often 62 = .ok (.getfield 161, 3) := by decide +kernel
theorem dX6_often_65 : decode cX6_often 65 = .ok (.aload_n 0, 1) := by decide +kernel
theorem dX6_often_66 : decode cX6_often 66 = .ok (.getfield 164, 3) := by decide +kernel
theorem dX6_often_69 : decode cX6_often 69 = .ok (.invokevirtual 149, 3) := by decide +kernel
theorem dX6_often_72 : decode cX6_often 72 = .ok (.goto 10, 3) := by decide +kernel
theorem dX6_often_75 : decode cX6_often 75 = .ok (.aload_n 0, 1) := by decide +kernel
theorem dX6_often_76 : decode cX6_often 76 = .ok (.getfield 164, 3) := by decide +kernel
theorem dX6_often_79 : decode cX6_often 79 = .ok (.iload 5, 2) := by decide +kernel
theorem dX6_often_81 : decode cX6_often 81 = .ok (.isub, 1) := by decide +kernel
theorem dX6_often_82 : decode cX6_often 82 = .ok (.iadd, 1) := by decide +kernel
theorem dX6_often_83 : decode cX6_often 83 = .ok (.istore 4, 2) := by decide +kernel
theorem dX6_often_85 : decode cX6_often 85 = .ok (.iinc 5 1, 3) := by decide +kernel
theorem dX6_often_88 : decode cX6_often 88 = .ok (.goto (-57), 3) := by decide +kernel
theorem dX6_often_91 : decode cX6_often 91 = .ok (.iload_n 3, 1) := by decide +kernel
theorem dX6_often_92 : decode cX6_often 92 = .ok (.ifCond .ne 10, 3) := by decide +kernel
theorem dX6_often_95 : decode cX6_often 95 = .ok (.aload_n 0, 1) := by decide +kernel
theorem dX6_often_96 : decode cX6_often 96 = .ok (.invokevirtual 143, 3) := by decide +kernel
theorem dX6_often_99 : decode cX6_often 99 = .ok (.goto 12, 3) := by decide +kernel
theorem dX6_often_102 : decode cX6_often 102 = .ok (.aload_n 0, 1) := by decide +kernel
theorem dX6_often_103 : decode cX6_often 103 = .ok (.iload 4, 2) := by decide +kernel
theorem dX6_often_105 : decode cX6_often 105 = .ok (.i2l, 1) := by decide +kernel
theorem dX6_often_106 : decode cX6_often 106 = .ok (.iload_n 3, 1) := by decide +kernel
theorem dX6_often_107 : decode cX6_often 107 = .ok (.i2l, 1) := by decide +kernel
theorem dX6_often_108 : decode cX6_often 108 = .ok (.invokevirtual 179, 3) := by decide +kernel
theorem dX6_often_111 : decode cX6_often 111 = .ok (.ireturn, 1) := by decide +kernel
set_option maxRecDepth 20000 in
theorem ggX6_own_X6_isFloor : GoodIn wsX6_own wsX6_isFloor := goodIn_r _ [6, 7, 8, 9, 5, 10, 66, 67, 68, 69, 70, 71, 72, 73, 74, 75, 76, 77, 78, 79, 80] (by decide +kernel) (by decide +kernel)
set_option maxRecDepth 20000 in
theorem gX6_own_X6_isFloor : GoodIn wsX6_own (wsV RX6 167 RX6 yX6_isFloor wsX6_isFloor) := goodIn_app (goodIn_of _ (by decide +kernel)) ggX6_own_X6_isFloor
set_option maxRecDepth 20000 in
theorem ggX6_own_X6_in : GoodIn wsX6_own wsX6_in := goodIn_r _ [10] (by decide +kernel) (by decide +kernel)
set_option maxRecDepth 20000 in
theorem gX6_own_X6_in : GoodIn wsX6_own (va_wsS RX6 34 yX6_in wsX6_in) := goodIn_app (goodIn_of _ (by decide +kernel)) ggX6_own_X6_in
set_option maxRecDepth 20000 in
theorem ggX6_own_X6_bad : GoodIn wsX6_own wsX6_bad := goodIn_r _ [14, 15, 66, 67, 68, 69, 70, 71, 72, 73, 74, 75, 76, 77, 78, 79, 80] (by decide +kernel) (by decide +kernel)
set_option maxRecDepth 20000 in
theorem gX6_own_X6_bad : GoodIn wsX6_own (wsV RX6 42 RX6 yX6_bad wsX6_bad) := goodIn_app (goodIn_of _ (by decide +kernel)) ggX6_own_X6_bad
set_option maxRecDepth 20000 in
theorem ggX6_own_X6_comes : GoodIn wsX6_own wsX6_comes := goodIn_r _ [19, 7, 20, 1, 21, 22, 5, 23, 24, 25, 26, 27, 28, 29, 30, 31, 32, 33, 34, 35, 36, 37, 38, 39, 40, 41, 42, 43, 44, 45, 46, 47, 48, 49, 50, 51, 52, 53, 54, 55, 66, 67, 68, 69, 70, 71, 72, 73, 74, 75, 76, 77, 78, 79, 80] (by decide +kernel) (by decide +kernel)
set_option maxRecDepth 20000 in
theorem gX6_own_X6_comes : GoodIn wsX6_own (wsV RX6 172 RX6 yX6_comes wsX6_comes) := goodIn_app (goodIn_of _ (by decide +kernel)) ggX6_own_X6_comes
set_option maxRecDepth 20000 in
theorem ggX6_own_X6_no : GoodIn wsX6_own wsX6_no := goodIn_r _ [59, 15, 66, 67, 68, 69, 70, 71, 72, 73, 74, 75, 76, 77, 78, 79, 80] (by decide +kernel) (by decide +kernel)
set_option maxRecDepth 20000 in
theorem gX6_own_X6_no : GoodIn wsX6_own (wsV RX6 143 RX6 yX6_no wsX6_no) := goodIn_app (goodIn_of _ (by decide +kernel)) ggX6_own_X6_no
set_option maxRecDepth 20000 in
theorem ggX6_own_X6_tells : GoodIn wsX6_own wsX6_tells := goodIn_r _ [63, 64, 65, 66, 67, 68, 69, 70, 71, 72, 73, 74, 75, 76, 77, 78, 79, 80] (by decide +kernel) (by decide +kernel)
set_option maxRecDepth 20000 in
theorem gX6_own_X6_tells : GoodIn wsX6_own (wsV RX6 179 RX6 yX6_tells wsX6_tells) := goodIn_app (goodIn_of _ (by decide +kernel)) ggX6_own_X6_tells
theorem dX6_own_0 : decode cX6_own 0 = .ok (.aload_n 0, 1) := by decide +kernel
theorem dX6_own_1 : decode cX6_own 1 = .ok (.iload_n 1, 1) := by decide +kernel
theorem dX6_own_2 : decode cX6_own 2 = .ok (.invokevirtual 167, 3) := by decide +kernel
theorem dX6_own_5 : decode cX6_own 5 = .ok (.ifCond .eq 13, 3) := by decide +kernel
theorem dX6_own_8 : decode cX6_own 8 = .ok (.iload_n 2, 1) := by decide +kernel
theorem dX6_own_9 : decode cX6_own 9 = .ok (.i2l, 1) := by decide +kernel
theorem dX6_own_10 : decode cX6_own 10 = .ok (.lconst 0, 1) := by decide +kernel
theorem dX6_own_11 : decode cX6_own 11 = .ok (.lconst 1, 1) := by decide +kernel
theorem dX6_own_12 : decode cX6_own 12 = .ok (.invokestatic 34, 3) := by decide +kernel
theorem dX6_own_15 : decode cX6_own 15 = .ok (.ifCond .ne 8, 3) := by decide +kernel
theorem dX6_own_18 : decode cX6_own 18 = .ok (.aload_n 0, 1) := by decide +kernel
theorem dX6_own_19 : decode cX6_own 19 = .ok (.invokevirtual 42, 3) := by decide +kernel
theorem dX6_own_22 : decode cX6_own 22 = .ok (.ireturn, 1) := by decide +kernel
theorem dX6_own_23 : decode cX6_own 23 = .ok (.iconst 0, 1) := by decide +kernel
theorem dX6_own_24 : decode cX6_own 24 = .ok (.istore_n 3, 1) := by decide +kernel
theorem dX6_own_25 : decode cX6_own 25 = .ok (.iconst 0, 1) := by decide +kernel
theorem dX6_own_26 : decode cX6_own 26 = .ok (.istore 4, 2) := by decide +kernel
theorem dX6_own_28 : decode cX6_own 28 = .ok (.iconst 0, 1) := by decide +kernel
theorem dX6_own_29 : decode cX6_own 29 = .ok (.istore 5, 2) := by decide +kernel
theorem dX6_own_31 : decode cX6_own 31 = .ok (.iload 5, 2) := by decide +kernel
theorem dX6_own_33 : decode cX6_own 33 = .ok (.bipush 120, 2) := by decide +kernel
theorem dX6_own_35 : decode cX6_own 35 = .ok (.if_icmp .ge 37, 3) := by decide +kernel
theorem dX6_own_38 : decode cX6_own 38 = .ok (.aload_n 0, 1) := by decide +kernel
theorem dX6_own_39 : decode cX6_own 39 = .ok (.iload_n 1, 1) := by decide +kernel
theorem dX6_own_40 : decode cX6_own 40 = .ok (.iload 5, 2) := by decide +kernel
theorem dX6_own_42 : decode cX6_own 42 = .ok (.bipush 15, 2) := by decide +kernel
theorem dX6_own_44 : decode cX6_own 44 = .ok (.iload_n 2, 1) := by decide +kernel
theorem dX6_own_45 : decode cX6_own 45 = .ok (.invokevirtual 172, 3) := by decide +kernel
theorem dX6_own_48 : decode cX6_own 48 = .ok (.ifCond .eq 18, 3) := by decide +kernel
theorem dX6_own_51 : decode cX6_own 51 = .ok (.iinc 3 1, 3) := by decide +kernel
theorem dX6_own_54 : decode cX6_own 54 = .ok (.iload 4, 2) := by decide +kernel
theorem dX6_own_56 : decode cX6_own 56 = .ok (.aload_n 0, 1) := by decide +kernel
theorem dX6_own_57 : decode cX6_own 57 = .ok (.getfield 164, 3) := by decide +kernel
theorem dX6_own_60 : decode cX6_own 60 = .ok (.iload 5, 2) := by decide +kernel
theorem dX6_own_62 : decode cX6_own 62 = .ok (.isub, 1) := by decide +kernel
theorem dX6_own_63 : decode cX6_own 63 = .ok (.iadd, 1) := by decide +kernel
theorem dX6_own_64 : decode cX6_own 64 = .ok (.istore 4, 2) := by decide +kernel
theorem dX6_own_66 : decode cX6_own 66 = .ok (.iinc 5 1, 3) := by decide +kernel
theorem dX6_own_69 : decode cX6_own 69 = .ok (.goto (-38), 3) := by decide +kernel
theorem dX6_own_72 : decode cX6_own 72 = .ok (.iload_n 3, 1) := by decide +kernel
theorem dX6_own_73 : decode cX6_own 73 = .ok (.ifCond .ne 10, 3) := by decide +kernel
theorem dX6_own_76 : decode cX6_own 76 = .ok (.aload_n 0, 1) := by decide +kernel
theorem dX6_own_77 : decode cX6_own 77 = .ok (.invokevirtual 143, 3) := by decide +kernel
theorem dX6_own_80 : decode cX6_own 80 = .ok (.goto 12, 3) := by decide +kernel
theorem dX6_own_83 : decode cX6_own 83 = .ok (.aload_n 0, 1) := by decide +kernel
theorem dX6_own_84 : decode cX6_own 84 = .ok (.iload 4, 2) := by decide +kernel
theorem dX6_own_86 : decode cX6_own 86 = .ok (.i2l, 1) := by decide +kernel
theorem dX6_own_87 : decode cX6_own 87 = .ok (.iload_n 3, 1) := by decide +kernel
theorem dX6_own_88 : decode cX6_own 88 = .ok (.i2l, 1) := by decide +kernel
theorem dX6_own_89 : decode cX6_own 89 = .ok (.invokevirtual 179, 3) := by decide +kernel
theorem dX6_own_92 : decode cX6_own 92 = .ok (.ireturn, 1) := by decide +kernel
set_option maxRecDepth 20000 in
theorem ggX6_rides_X6_comes : GoodIn wsX6_rides wsX6_comes := goodIn_r _ [7, 8, 1, 2, 9, 10, 6, 11, 12, 13, 14, 15, 16, 17, 18, 19, 20, 21, 22, 23, 24, 25, 26, 27, 28, 29, 30, 31, 32, 33, 34, 35, 36, 37, 38, 39, 40, 41, 42, 43, 44, 45, 46, 47, 48, 49, 50, 51, 52, 53, 54, 55, 56, 57, 58] (by decide +kernel) (by decide +kernel)
set_option maxRecDepth 20000 in
theorem gX6_rides_X6_comes : GoodIn wsX6_rides (wsV RX6 172 RX6 yX6_comes wsX6_comes) := goodIn_app (goodIn_of _ (by decide +kernel)) ggX6_rides_X6_comes
set_option maxRecDepth 20000 in
theorem ggX6_rides_X6_isSeen : GoodIn wsX6_rides wsX6_isSeen := goodIn_r _ [15, 16, 17, 18, 6, 19, 8, 20, 21, 22, 23, 24, 25, 26, 27, 28, 29, 30, 31, 32, 33, 34, 35, 36, 37, 38, 39, 44, 45, 46, 47, 48, 49, 50, 51, 52, 53, 54, 55, 56, 57, 58] (by decide +kernel) (by decide +kernel)
set_option maxRecDepth 20000 in
theorem gX6_rides_X6_isSeen : GoodIn wsX6_rides (wsV RX6 158 RX6 yX6_isSeen wsX6_isSeen) := goodIn_app (goodIn_of _ (by decide +kernel)) ggX6_rides_X6_isSeen
theorem dX6_rides_0 : decode cX6_rides 0 = .ok (.iload_n 1, 1) := by decide +kernel
theorem dX6_rides_1 : decode cX6_rides 1 = .ok (.iload_n 2, 1) := by decide +kernel
theorem dX6_rides_2 : decode cX6_rides 2 = .ok (.if_icmp .ne 5, 3) := by decide +kernel
theorem dX6_rides_5 : decode cX6_rides 5 = .ok (.iload_n 3, 1) := by decide +kernel
theorem dX6_rides_6 : decode cX6_rides 6 = .ok (.ireturn, 1) := by decide +kernel
theorem dX6_rides_7 : decode cX6_rides 7 = .ok (.aload_n 0, 1) := by decide +kernel
theorem dX6_rides_8 : decode cX6_rides 8 = .ok (.iload_n 1, 1) := by decide +kernel
theorem dX6_rides_9 : decode cX6_rides 9 = .ok (.iload_n 3, 1) := by decide +kernel
theorem dX6_rides_10 : decode cX6_rides 10 = .ok (.bipush 15, 2) := by decide +kernel
theorem dX6_rides_12 : decode cX6_rides 12 = .ok (.iload 4, 2) := by decide +kernel
theorem dX6_rides_14 : decode cX6_rides 14 = .ok (.invokevirtual 172, 3) := by decide +kernel
theorem dX6_rides_17 : decode cX6_rides 17 = .ok (.ifCond .ne 5, 3) := by decide +kernel
theorem dX6_rides_20 : decode cX6_rides 20 = .ok (.iconst (-1), 1) := by decide +kernel
theorem dX6_rides_21 : decode cX6_rides 21 = .ok (.ireturn, 1) := by decide +kernel
theorem dX6_rides_22 : decode cX6_rides 22 = .ok (.iconst 0, 1) := by decide +kernel
theorem dX6_rides_23 : decode cX6_rides 23 = .ok (.istore 5, 2) := by decide +kernel
theorem dX6_rides_25 : decode cX6_rides 25 = .ok (.iload 5, 2) := by decide +kernel
theorem dX6_rides_27 : decode cX6_rides 27 = .ok (.sipush 200, 3) := by decide +kernel
theorem dX6_rides_30 : decode cX6_rides 30 = .ok (.if_icmp .ge 36, 3) := by decide +kernel
theorem dX6_rides_33 : decode cX6_rides 33 = .ok (.aload_n 0, 1) := by decide +kernel
theorem dX6_rides_34 : decode cX6_rides 34 = .ok (.aload_n 0, 1) := by decide +kernel
theorem dX6_rides_35 : decode cX6_rides 35 = .ok (.getfield 161, 3) := by decide +kernel
theorem dX6_rides_38 : decode cX6_rides 38 = .ok (.iload_n 2, 1) := by decide +kernel
theorem dX6_rides_39 : decode cX6_rides 39 = .ok (.aload_n 0, 1) := by decide +kernel
theorem dX6_rides_40 : decode cX6_rides 40 = .ok (.getfield 164, 3) := by decide +kernel
theorem dX6_rides_43 : decode cX6_rides 43 = .ok (.iload 5, 2) := by decide +kernel
theorem dX6_rides_45 : decode cX6_rides 45 = .ok (.iadd, 1) := by decide +kernel
theorem dX6_rides_46 : decode cX6_rides 46 = .ok (.invokevirtual 158, 3) := by decide +kernel
theorem dX6_rides_49 : decode cX6_rides 49 = .ok (.ifCond .eq 11, 3) := by decide +kernel
theorem dX6_rides_52 : decode cX6_rides 52 = .ok (.aload_n 0, 1) := by decide +kernel
theorem dX6_rides_53 : decode cX6_rides 53 = .ok (.getfield 164, 3) := by decide +kernel
theorem dX6_rides_56 : decode cX6_rides 56 = .ok (.iload 5, 2) := by decide +kernel
theorem dX6_rides_58 : decode cX6_rides 58 = .ok (.iadd, 1) := by decide +kernel
theorem dX6_rides_59 : decode cX6_rides 59 = .ok (.ireturn, 1) := by decide +kernel
theorem dX6_rides_60 : decode cX6_rides 60 = .ok (.iinc 5 1, 3) := by decide +kernel
theorem dX6_rides_63 : decode cX6_rides 63 = .ok (.goto (-38), 3) := by decide +kernel
theorem dX6_rides_66 : decode cX6_rides 66 = .ok (.iconst (-1), 1) := by decide +kernel
theorem dX6_rides_67 : decode cX6_rides 67 = .ok (.ireturn, 1) := by decide +kernel
set_option maxRecDepth 20000 in
theorem ggX6_ride_X6_isFloor : GoodIn wsX6_ride wsX6_isFloor := goodIn_r _ [5, 6, 7, 8, 4, 9, 64, 65, 66, 67, 68, 69, 70, 71, 72, 73, 74, 75, 76, 77, 78] (by decide +kernel) (by decide +kernel)
set_option maxRecDepth 20000 in
theorem gX6_ride_X6_isFloor : GoodIn wsX6_ride (wsV RX6 167 RX6 yX6_isFloor wsX6_isFloor) := goodIn_app (goodIn_of _ (by decide +kernel)) ggX6_ride_X6_isFloor
set_option maxRecDepth 20000 in
theorem ggX6_ride_X6_isMinute : GoodIn wsX6_ride wsX6_isMinute := goodIn_r _ [12, 13, 7, 8, 4, 9] (by decide +kernel) (by decide +kernel)
set_option maxRecDepth 20000 in
theorem gX6_ride_X6_isMinute : GoodIn wsX6_ride (va_wsS RX6 152 yX6_isMinute wsX6_isMinute) := goodIn_app (goodIn_of _ (by decide +kernel)) ggX6_ride_X6_isMinute
set_option maxRecDepth 20000 in
theorem ggX6_ride_X6_in : GoodIn wsX6_ride wsX6_in := goodIn_r _ [9] (by decide +kernel) (by decide +kernel)
set_option maxRecDepth 20000 in
theorem gX6_ride_X6_in : GoodIn wsX6_ride (va_wsS RX6 34 yX6_in wsX6_in) := goodIn_app (goodIn_of _ (by decide +kernel)) ggX6_ride_X6_in
set_option maxRecDepth 20000 in
theorem ggX6_ride_X6_bad : GoodIn wsX6_ride wsX6_bad := goodIn_r _ [17, 18, 64, 65, 66, 67, 68, 69, 70, 71, 72, 73, 74, 75, 76, 77, 78] (by decide +kernel) (by decide +kernel)
set_option maxRecDepth 20000 in
theorem gX6_ride_X6_bad : GoodIn wsX6_ride (wsV RX6 42 RX6 yX6_bad wsX6_bad) := goodIn_app (goodIn_of _ (by decide +kernel)) ggX6_ride_X6_bad
set_option maxRecDepth 20000 in
theorem ggX6_ride_X6_rides : GoodIn wsX6_ride wsX6_rides := goodIn_r _ [22, 23, 24, 25, 26, 27, 4, 28, 6, 29, 30, 31, 32, 33, 34, 35, 36, 37, 38, 39, 40, 41, 42, 43, 44, 45, 46, 47, 48, 49, 50, 51, 52, 53, 54, 55, 56, 57, 58, 59, 60, 61, 62, 63, 64, 65, 66, 67, 68, 69, 70, 71, 72, 73, 74, 75, 76, 77, 78] (by decide +kernel) (by decide +kernel)
set_option maxRecDepth 20000 in
theorem gX6_ride_X6_rides : GoodIn wsX6_ride (wsV RX6 183 RX6 yX6_rides wsX6_rides) := goodIn_app (goodIn_of _ (by decide +kernel)) ggX6_ride_X6_rides
theorem dX6_ride_0 : decode cX6_ride 0 = .ok (.aload_n 0, 1) := by decide +kernel
theorem dX6_ride_1 : decode cX6_ride 1 = .ok (.iload_n 1, 1) := by decide +kernel
theorem dX6_ride_2 : decode cX6_ride 2 = .ok (.invokevirtual 167, 3) := by decide +kernel
theorem dX6_ride_5 : decode cX6_ride 5 = .ok (.ifCond .eq 29, 3) := by decide +kernel
theorem dX6_ride_8 : decode cX6_ride 8 = .ok (.aload_n 0, 1) := by decide +kernel
theorem dX6_ride_9 : decode cX6_ride 9 = .ok (.iload_n 2, 1) := by decide +kernel
theorem dX6_ride_10 : decode cX6_ride 10 = .ok (.invokevirtual 167, 3) := by decide +kernel
theorem dX6_ride_13 : decode cX6_ride 13 = .ok (.ifCond .eq 21, 3) := by decide +kernel
theorem dX6_ride_16 : decode cX6_ride 16 = .ok (.iload_n 3, 1) := by decide +kernel
theorem dX6_ride_17 : decode cX6_ride 17 = .ok (.invokestatic 152, 3) := by decide +kernel
theorem dX6_ride_20 : decode cX6_ride 20 = .ok (.ifCond .eq 14, 3) := by decide +kernel
theorem dX6_ride_23 : decode cX6_ride 23 = .ok (.iload 4, 2) := by decide +kernel
theorem dX6_ride_25 : decode cX6_ride 25 = .ok (.i2l, 1) := by decide +kernel
theorem dX6_ride_26 : decode cX6_ride 26 = .ok (.lconst 0, 1) := by decide +kernel
theorem dX6_ride_27 : decode cX6_ride 27 = .ok (.lconst 1, 1) := by decide +kernel
theorem dX6_ride_28 : decode cX6_ride 28 = .ok (.invokestatic 34, 3) := by decide +kernel
theorem dX6_ride_31 : decode cX6_ride 31 = .ok (.ifCond .ne 8, 3) := by decide +kernel
