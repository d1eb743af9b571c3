theorem dX2_init_0 : decode cX2_init 0 = .ok (.aload_n 0, 1) := by decide +kernel
theorem dX2_init_1 : decode cX2_init 1 = .ok (.invokespecial 3, 3) := by decide +kernel
theorem dX2_init_4 : decode cX2_init 4 = .ok (.aload_n 0, 1) := by decide +kernel
theorem dX2_init_5 : decode cX2_init 5 = .ok (.aload_n 1, 1) := by decide +kernel
theorem dX2_init_6 : decode cX2_init 6 = .ok (.putfield 9, 3) := by decide +kernel
theorem dX2_init_9 : decode cX2_init 9 = .ok (.return_, 1) := by decide +kernel
set_option maxRecDepth 100000 in
theorem ggX2_addressesOfKind_X5_addressCount : GoodIn wsX2_addressesOfKind wsX5_addressCount := goodIn_r _ [6, 7, 39, 40, 41, 42, 43, 44, 45, 46] rfl rfl
set_option maxRecDepth 100000 in
theorem gX2_addressesOfKind_X5_addressCount : GoodIn wsX2_addressesOfKind (wsV RX2 15 RX5 yX5_addressCount wsX5_addressCount) := goodIn_app (goodIn_r _ [2, 3, 4, 5] rfl rfl) ggX2_addressesOfKind_X5_addressCount
set_option maxRecDepth 100000 in
theorem ggX2_addressesOfKind_X2_isOfKind : GoodIn wsX2_addressesOfKind wsX2_isOfKind := goodIn_r _ [12, 1, 13, 14, 15, 5, 16, 17, 18, 19, 20, 21, 22, 23, 24, 25, 26, 27, 28, 29, 30, 31, 32, 33, 34, 35, 36, 37, 38, 39, 40, 41, 42, 43, 44, 45, 46, 47, 48] rfl rfl
set_option maxRecDepth 100000 in
theorem gX2_addressesOfKind_X2_isOfKind : GoodIn wsX2_addressesOfKind (wsV RX2 21 RX2 yX2_isOfKind wsX2_isOfKind) := goodIn_app (goodIn_r _ [8, 9, 10, 11] rfl rfl) ggX2_addressesOfKind_X2_isOfKind
theorem dX2_addressesOfKind_0 : decode cX2_addressesOfKind 0 = .ok (.iconst 0, 1) := by decide +kernel
theorem dX2_addressesOfKind_1 : decode cX2_addressesOfKind 1 = .ok (.istore_n 2, 1) := by decide +kernel
theorem dX2_addressesOfKind_2 : decode cX2_addressesOfKind 2 = .ok (.iconst 0, 1) := by decide +kernel
theorem dX2_addressesOfKind_3 : decode cX2_addressesOfKind 3 = .ok (.istore_n 3, 1) := by decide +kernel
theorem dX2_addressesOfKind_4 : decode cX2_addressesOfKind 4 = .ok (.iload_n 3, 1) := by decide +kernel
theorem dX2_addressesOfKind_5 : decode cX2_addressesOfKind 5 = .ok (.aload_n 0, 1) := by decide +kernel
theorem dX2_addressesOfKind_6 : decode cX2_addressesOfKind 6 = .ok (.getfield 9, 3) := by decide +kernel
theorem dX2_addressesOfKind_9 : decode cX2_addressesOfKind 9 = .ok (.invokevirtual 15, 3) := by decide +kernel
theorem dX2_addressesOfKind_12 : decode cX2_addressesOfKind 12 = .ok (.if_icmp .ge 24, 3) := by decide +kernel
theorem dX2_addressesOfKind_15 : decode cX2_addressesOfKind 15 = .ok (.aload_n 0, 1) := by decide +kernel
theorem dX2_addressesOfKind_16 : decode cX2_addressesOfKind 16 = .ok (.iload_n 3, 1) := by decide +kernel
theorem dX2_addressesOfKind_17 : decode cX2_addressesOfKind 17 = .ok (.iload_n 1, 1) := by decide +kernel
theorem dX2_addressesOfKind_18 : decode cX2_addressesOfKind 18 = .ok (.invokevirtual 21, 3) := by decide +kernel
theorem dX2_addressesOfKind_21 : decode cX2_addressesOfKind 21 = .ok (.ifCond .eq 9, 3) := by decide +kernel
theorem dX2_addressesOfKind_24 : decode cX2_addressesOfKind 24 = .ok (.iload_n 2, 1) := by decide +kernel
theorem dX2_addressesOfKind_25 : decode cX2_addressesOfKind 25 = .ok (.iconst 1, 1) := by decide +kernel
theorem dX2_addressesOfKind_26 : decode cX2_addressesOfKind 26 = .ok (.iload_n 3, 1) := by decide +kernel
theorem dX2_addressesOfKind_27 : decode cX2_addressesOfKind 27 = .ok (.ishl, 1) := by decide +kernel
theorem dX2_addressesOfKind_28 : decode cX2_addressesOfKind 28 = .ok (.ior, 1) := by decide +kernel
theorem dX2_addressesOfKind_29 : decode cX2_addressesOfKind 29 = .ok (.istore_n 2, 1) := by decide +kernel
theorem dX2_addressesOfKind_30 : decode cX2_addressesOfKind 30 = .ok (.iinc 3 1, 3) := by decide +kernel
theorem dX2_addressesOfKind_33 : decode cX2_addressesOfKind 33 = .ok (.goto (-29), 3) := by decide +kernel
theorem dX2_addressesOfKind_36 : decode cX2_addressesOfKind 36 = .ok (.iload_n 2, 1) := by decide +kernel
theorem dX2_addressesOfKind_37 : decode cX2_addressesOfKind 37 = .ok (.ireturn, 1) := by decide +kernel
set_option maxRecDepth 100000 in
theorem ggX2_number_X5_addressCount : GoodIn wsX2_number wsX5_addressCount := goodIn_r _ [6, 7, 75, 76, 77, 78, 79, 80, 81, 82] rfl rfl
set_option maxRecDepth 100000 in
theorem gX2_number_X5_addressCount : GoodIn wsX2_number (wsV RX2 15 RX5 yX5_addressCount wsX5_addressCount) := goodIn_app (goodIn_r _ [2, 3, 4, 5] rfl rfl) ggX2_number_X5_addressCount
set_option maxRecDepth 100000 in
theorem ggX2_number_X5_interviewerCount : GoodIn wsX2_number wsX5_interviewerCount := goodIn_r _ [11, 12, 75, 76, 77, 78, 79, 80, 81, 82] rfl rfl
set_option maxRecDepth 100000 in
theorem gX2_number_X5_interviewerCount : GoodIn wsX2_number (wsV RX2 25 RX5 yX5_interviewerCount wsX5_interviewerCount) := goodIn_app (goodIn_r _ [8, 9, 10, 5] rfl rfl) ggX2_number_X5_interviewerCount
set_option maxRecDepth 100000 in
theorem ggX2_number_X5_day : GoodIn wsX2_number wsX5_day := goodIn_r _ [16, 17, 75, 76, 77, 78, 79, 80, 81, 82] rfl rfl
set_option maxRecDepth 100000 in
theorem gX2_number_X5_day : GoodIn wsX2_number (wsV RX2 28 RX5 yX5_day wsX5_day) := goodIn_app (goodIn_r _ [13, 14, 15, 5] rfl rfl) ggX2_number_X5_day
set_option maxRecDepth 100000 in
theorem ggX2_number_X2_sumOfAddresses : GoodIn wsX2_number wsX2_sumOfAddresses := goodIn_r _ [22, 1, 2, 3, 4, 5, 6, 7, 23, 24, 25, 26, 27, 28, 29, 30, 31, 32, 33, 34, 74, 75, 76, 77, 78, 79, 80, 81, 82, 83, 84] rfl rfl
set_option maxRecDepth 100000 in
theorem gX2_number_X2_sumOfAddresses : GoodIn wsX2_number (wsV RX2 31 RX2 yX2_sumOfAddresses wsX2_sumOfAddresses) := goodIn_app (goodIn_r _ [18, 19, 20, 21] rfl rfl) ggX2_number_X2_sumOfAddresses
set_option maxRecDepth 100000 in
theorem ggX2_number_X2_addressesWith : GoodIn wsX2_number wsX2_addressesWith := goodIn_r _ [38, 1, 2, 3, 4, 5, 6, 7, 23, 24, 25, 26, 27, 28, 29, 30, 31, 32, 33, 34, 74, 75, 76, 77, 78, 79, 80, 81, 82, 83, 84] rfl rfl
set_option maxRecDepth 100000 in
theorem gX2_number_X2_addressesWith : GoodIn wsX2_number (wsV RX2 35 RX2 yX2_addressesWith wsX2_addressesWith) := goodIn_app (goodIn_r _ [35, 36, 37, 21] rfl rfl) ggX2_number_X2_addressesWith
set_option maxRecDepth 100000 in
theorem ggX2_number_X2_wantedInAll : GoodIn wsX2_number wsX2_wantedInAll := goodIn_r _ [42, 43, 44, 45, 21, 46, 1, 47, 48, 49, 5, 50, 51, 28, 29, 30, 31, 32, 33, 34, 74, 75, 76, 77, 78, 79, 80, 81, 82, 83, 84] rfl rfl
set_option maxRecDepth 100000 in
theorem gX2_number_X2_wantedInAll : GoodIn wsX2_number (wsV RX2 38 RX2 yX2_wantedInAll wsX2_wantedInAll) := goodIn_app (goodIn_r _ [39, 40, 41, 21] rfl rfl) ggX2_number_X2_wantedInAll
set_option maxRecDepth 100000 in
theorem ggX2_number_X5_meetings : GoodIn wsX2_number wsX5_meetings := goodIn_r _ [55, 7, 56, 57, 58, 5, 59, 27, 28, 29, 30, 31, 32, 33, 34, 60, 61, 62, 63, 75, 76, 77, 78, 79, 80, 81, 82, 83, 84] rfl rfl
set_option maxRecDepth 100000 in
theorem gX2_number_X5_meetings : GoodIn wsX2_number (wsV RX2 41 RX5 yX5_meetings wsX5_meetings) := goodIn_app (goodIn_r _ [52, 53, 54, 5] rfl rfl) ggX2_number_X5_meetings
set_option maxRecDepth 100000 in
theorem ggX2_number_X5_vainLimit : GoodIn wsX2_number wsX5_vainLimit := goodIn_r _ [67, 68, 75, 76, 77, 78, 79, 80, 81, 82] rfl rfl
set_option maxRecDepth 100000 in
theorem gX2_number_X5_vainLimit : GoodIn wsX2_number (wsV RX2 44 RX5 yX5_vainLimit wsX5_vainLimit) := goodIn_app (goodIn_r _ [64, 65, 66, 5] rfl rfl) ggX2_number_X5_vainLimit
set_option maxRecDepth 100000 in
theorem ggX2_number_X5_daysBetween : GoodIn wsX2_number wsX5_daysBetween := goodIn_r _ [72, 73, 75, 76, 77, 78, 79, 80, 81, 82] rfl rfl
set_option maxRecDepth 100000 in
theorem gX2_number_X5_daysBetween : GoodIn wsX2_number (wsV RX2 47 RX5 yX5_daysBetween wsX5_daysBetween) := goodIn_app (goodIn_r _ [69, 70, 71, 5] rfl rfl) ggX2_number_X5_daysBetween
theorem dX2_number_0 : decode cX2_number 0 = .ok (.iload_n 1, 1) := by decide +kernel
theorem dX2_number_1 : decode cX2_number 1 = .ok (.tableswitch 134 0 11 #[63, 71, 79, 87, 93, 99, 105, 110, 134, 134, 118, 126], 63) := by decide +kernel
theorem dX2_number_64 : decode cX2_number 64 = .ok (.aload_n 0, 1) := by decide +kernel
theorem dX2_number_65 : decode cX2_number 65 = .ok (.getfield 9, 3) := by decide +kernel
theorem dX2_number_68 : decode cX2_number 68 = .ok (.invokevirtual 15, 3) := by decide +kernel
theorem dX2_number_71 : decode cX2_number 71 = .ok (.ireturn, 1) := by decide +kernel
theorem dX2_number_72 : decode cX2_number 72 = .ok (.aload_n 0, 1) := by decide +kernel
theorem dX2_number_73 : decode cX2_number 73 = .ok (.getfield 9, 3) := by decide +kernel
theorem dX2_number_76 : decode cX2_number 76 = .ok (.invokevirtual 25, 3) := by decide +kernel
theorem dX2_number_79 : decode cX2_number 79 = .ok (.ireturn, 1) := by decide +kernel
theorem dX2_number_80 : decode cX2_number 80 = .ok (.aload_n 0, 1) := by decide +kernel
theorem dX2_number_81 : decode cX2_number 81 = .ok (.getfield 9, 3) := by decide +kernel
theorem dX2_number_84 : decode cX2_number 84 = .ok (.invokevirtual 28, 3) := by decide +kernel
theorem dX2_number_87 : decode cX2_number 87 = .ok (.ireturn, 1) := by decide +kernel
theorem dX2_number_88 : decode cX2_number 88 = .ok (.aload_n 0, 1) := by decide +kernel
theorem dX2_number_89 : decode cX2_number 89 = .ok (.iconst 2, 1) := by decide +kernel
theorem dX2_number_90 : decode cX2_number 90 = .ok (.invokevirtual 31, 3) := by decide +kernel
theorem dX2_number_93 : decode cX2_number 93 = .ok (.ireturn, 1) := by decide +kernel
theorem dX2_number_94 : decode cX2_number 94 = .ok (.aload_n 0, 1) := by decide +kernel
theorem dX2_number_95 : decode cX2_number 95 = .ok (.iconst 3, 1) := by decide +kernel
theorem dX2_number_96 : decode cX2_number 96 = .ok (.invokevirtual 31, 3) := by decide +kernel
theorem dX2_number_99 : decode cX2_number 99 = .ok (.ireturn, 1) := by decide +kernel
theorem dX2_number_100 : decode cX2_number 100 = .ok (.aload_n 0, 1) := by decide +kernel
theorem dX2_number_101 : decode cX2_number 101 = .ok (.iconst 1, 1) := by decide +kernel
theorem dX2_number_102 : decode cX2_number 102 = .ok (.invokevirtual 35, 3) := by decide +kernel
theorem dX2_number_105 : decode cX2_number 105 = .ok (.ireturn, 1) := by decide +kernel
theorem dX2_number_106 : decode cX2_number 106 = .ok (.aload_n 0, 1) := by decide +kernel
theorem dX2_number_107 : decode cX2_number 107 = .ok (.invokevirtual 38, 3) := by decide +kernel
theorem dX2_number_110 : decode cX2_number 110 = .ok (.ireturn, 1) := by decide +kernel
theorem dX2_number_111 : decode cX2_number 111 = .ok (.aload_n 0, 1) := by decide +kernel
theorem dX2_number_112 : decode cX2_number 112 = .ok (.getfield 9, 3) := by decide +kernel
theorem dX2_number_115 : decode cX2_number 115 = .ok (.invokevirtual 41, 3) := by decide +kernel
theorem dX2_number_118 : decode cX2_number 118 = .ok (.ireturn, 1) := by decide +kernel
theorem dX2_number_119 : decode cX2_number 119 = .ok (.aload_n 0, 1) := by decide +kernel
theorem dX2_number_120 : decode cX2_number 120 = .ok (.getfield 9, 3) := by decide +kernel
theorem dX2_number_123 : decode cX2_number 123 = .ok (.invokevirtual 44, 3) := by decide +kernel
theorem dX2_number_126 : decode cX2_number 126 = .ok (.ireturn, 1) := by decide +kernel
theorem dX2_number_127 : decode cX2_number 127 = .ok (.aload_n 0, 1) := by decide +kernel
theorem dX2_number_128 : decode cX2_number 128 = .ok (.getfield 9, 3) := by decide +kernel
theorem dX2_number_131 : decode cX2_number 131 = .ok (.invokevirtual 47, 3) := by decide +kernel
theorem dX2_number_134 : decode cX2_number 134 = .ok (.ireturn, 1) := by decide +kernel
theorem dX2_number_135 : decode cX2_number 135 = .ok (.iconst (-1), 1) := by decide +kernel
theorem dX2_number_136 : decode cX2_number 136 = .ok (.ireturn, 1) := by decide +kernel
set_option maxRecDepth 100000 in
theorem ggX2_possibleAddresses_X5_addressCount : GoodIn wsX2_possibleAddresses wsX5_addressCount := goodIn_r _ [6, 7, 32, 33, 34, 35, 36, 37, 38, 39] rfl rfl
set_option maxRecDepth 100000 in
theorem gX2_possibleAddresses_X5_addressCount : GoodIn wsX2_possibleAddresses (wsV RX2 15 RX5 yX5_addressCount wsX5_addressCount) := goodIn_app (goodIn_r _ [2, 3, 4, 5] rfl rfl) ggX2_possibleAddresses_X5_addressCount
set_option maxRecDepth 100000 in
theorem ggX2_possibleAddresses_X5_isPossible : GoodIn wsX2_possibleAddresses wsX5_isPossible := goodIn_r _ [11, 12, 13, 14, 15, 16, 17, 18, 19, 20, 21, 22, 5, 23, 24, 25, 26, 27, 28, 29, 30, 32, 33, 34, 35, 36, 37, 38, 39, 40, 41] rfl rfl
set_option maxRecDepth 100000 in
theorem gX2_possibleAddresses_X5_isPossible : GoodIn wsX2_possibleAddresses (wsV RX2 50 RX5 yX5_isPossible wsX5_isPossible) := goodIn_app (goodIn_r _ [8, 9, 10, 5] rfl rfl) ggX2_possibleAddresses_X5_isPossible
theorem dX2_possibleAddresses_0 : decode cX2_possibleAddresses 0 = .ok (.iconst 0, 1) := by decide +kernel
theorem dX2_possibleAddresses_1 : decode cX2_possibleAddresses 1 = .ok (.istore_n 3, 1) := by decide +kernel
theorem dX2_possibleAddresses_2 : decode cX2_possibleAddresses 2 = .ok (.iconst 0, 1) := by decide +kernel
theorem dX2_possibleAddresses_3 : decode cX2_possibleAddresses 3 = .ok (.istore 4, 2) := by decide +kernel
theorem dX2_possibleAddresses_5 : decode cX2_possibleAddresses 5 = .ok (.iload 4, 2) := by decide +kernel
theorem dX2_possibleAddresses_7 : decode cX2_possibleAddresses 7 = .ok (.aload_n 0, 1) := by decide +kernel
theorem dX2_possibleAddresses_8 : decode cX2_possibleAddresses 8 = .ok (.getfield 9, 3) := by decide +kernel
theorem dX2_possibleAddresses_11 : decode cX2_possibleAddresses 11 = .ok (.invokevirtual 15, 3) := by decide +kernel
theorem dX2_possibleAddresses_14 : decode cX2_possibleAddresses 14 = .ok (.if_icmp .ge 30, 3) := by decide +kernel
theorem dX2_possibleAddresses_17 : decode cX2_possibleAddresses 17 = .ok (.aload_n 0, 1) := by decide +kernel
theorem dX2_possibleAddresses_18 : decode cX2_possibleAddresses 18 = .ok (.getfield 9, 3) := by decide +kernel
theorem dX2_possibleAddresses_21 : decode cX2_possibleAddresses 21 = .ok (.iload_n 1, 1) := by decide +kernel
theorem dX2_possibleAddresses_22 : decode cX2_possibleAddresses 22 = .ok (.iload 4, 2) := by decide +kernel
theorem dX2_possibleAddresses_24 : decode cX2_possibleAddresses 24 = .ok (.iload_n 2, 1) := by decide +kernel
theorem dX2_possibleAddresses_25 : decode cX2_possibleAddresses 25 = .ok (.invokevirtual 50, 3) := by decide +kernel
theorem dX2_possibleAddresses_28 : decode cX2_possibleAddresses 28 = .ok (.ifCond .eq 10, 3) := by decide +kernel
theorem dX2_possibleAddresses_31 : decode cX2_possibleAddresses 31 = .ok (.iload_n 3, 1) := by decide +kernel
theorem dX2_possibleAddresses_32 : decode cX2_possibleAddresses 32 = .ok (.iconst 1, 1) := by decide +kernel
theorem dX2_possibleAddresses_33 : decode cX2_possibleAddresses 33 = .ok (.iload 4, 2) := by decide +kernel
theorem dX2_possibleAddresses_35 : decode cX2_possibleAddresses 35 = .ok (.ishl, 1) := by decide +kernel
theorem dX2_possibleAddresses_36 : decode cX2_possibleAddresses 36 = .ok (.ior, 1) := by decide +kernel
theorem dX2_possibleAddresses_37 : decode cX2_possibleAddresses 37 = .ok (.istore_n 3, 1) := by decide +kernel
theorem dX2_possibleAddresses_38 : decode cX2_possibleAddresses 38 = .ok (.iinc 4 1, 3) := by decide +kernel
theorem dX2_possibleAddresses_41 : decode cX2_possibleAddresses 41 = .ok (.goto (-36), 3) := by decide +kernel
theorem dX2_possibleAddresses_44 : decode cX2_possibleAddresses 44 = .ok (.iload_n 3, 1) := by decide +kernel
theorem dX2_possibleAddresses_45 : decode cX2_possibleAddresses 45 = .ok (.ireturn, 1) := by decide +kernel
set_option maxRecDepth 100000 in
theorem ggX2_bestAddress_X5_addressCount : GoodIn wsX2_bestAddress wsX5_addressCount := goodIn_r _ [6, 7, 68, 69, 70, 71, 72, 73, 74, 75] rfl rfl
set_option maxRecDepth 100000 in
theorem gX2_bestAddress_X5_addressCount : GoodIn wsX2_bestAddress (wsV RX2 15 RX5 yX5_addressCount wsX5_addressCount) := goodIn_app (goodIn_r _ [2, 3, 4, 5] rfl rfl) ggX2_bestAddress_X5_addressCount
set_option maxRecDepth 100000 in
theorem ggX2_bestAddress_X5_isPossible : GoodIn wsX2_bestAddress wsX5_isPossible := goodIn_r _ [11, 12, 13, 14, 15, 16, 17, 18, 19, 20, 21, 22, 5, 23, 24, 25, 26, 27, 28, 29, 30, 68, 69, 70, 71, 72, 73, 74, 75, 76, 77] rfl rfl
set_option maxRecDepth 100000 in
theorem gX2_bestAddress_X5_isPossible : GoodIn wsX2_bestAddress (wsV RX2 50 RX5 yX5_isPossible wsX5_isPossible) := goodIn_app (goodIn_r _ [8, 9, 10, 5] rfl rfl) ggX2_bestAddress_X5_isPossible
set_option maxRecDepth 100000 in
theorem ggX2_bestAddress_X2_rankOf : GoodIn wsX2_bestAddress wsX2_rankOf := goodIn_r _ [35, 1, 36, 37, 38, 39, 40, 41, 42, 43, 44, 5, 45, 24, 13, 14, 15, 16, 17, 18, 19, 46, 47, 48, 49, 50, 51, 52, 53, 29, 54, 55, 56, 57, 12, 58, 59, 60, 34, 61, 62, 63, 64, 65, 66, 67, 68, 69, 70, 71, 72, 73, 74, 75, 76, 77] rfl rfl
set_option maxRecDepth 100000 in
theorem gX2_bestAddress_X2_rankOf : GoodIn wsX2_bestAddress (wsV RX2 54 RX2 yX2_rankOf wsX2_rankOf) := goodIn_app (goodIn_r _ [31, 32, 33, 34] rfl rfl) ggX2_bestAddress_X2_rankOf
theorem dX2_bestAddress_0 : decode cX2_bestAddress 0 = .ok (.bipush (-4), 2) := by decide +kernel
theorem dX2_bestAddress_2 : decode cX2_bestAddress 2 = .ok (.istore_n 3, 1) := by decide +kernel
theorem dX2_bestAddress_3 : decode cX2_bestAddress 3 = .ok (.iconst 0, 1) := by decide +kernel
theorem dX2_bestAddress_4 : decode cX2_bestAddress 4 = .ok (.istore 4, 2) := by decide +kernel
theorem dX2_bestAddress_6 : decode cX2_bestAddress 6 = .ok (.iconst 0, 1) := by decide +kernel
theorem dX2_bestAddress_7 : decode cX2_bestAddress 7 = .ok (.istore 5, 2) := by decide +kernel
theorem dX2_bestAddress_9 : decode cX2_bestAddress 9 = .ok (.iload 5, 2) := by decide +kernel
theorem dX2_bestAddress_11 : decode cX2_bestAddress 11 = .ok (.aload_n 0, 1) := by decide +kernel
theorem dX2_bestAddress_12 : decode cX2_bestAddress 12 = .ok (.getfield 9, 3) := by decide +kernel
theorem dX2_bestAddress_15 : decode cX2_bestAddress 15 = .ok (.invokevirtual 15, 3) := by decide +kernel
theorem dX2_bestAddress_18 : decode cX2_bestAddress 18 = .ok (.if_icmp .ge 52, 3) := by decide +kernel
theorem dX2_bestAddress_21 : decode cX2_bestAddress 21 = .ok (.aload_n 0, 1) := by decide +kernel
theorem dX2_bestAddress_22 : decode cX2_bestAddress 22 = .ok (.getfield 9, 3) := by decide +kernel
theorem dX2_bestAddress_25 : decode cX2_bestAddress 25 = .ok (.iload_n 1, 1) := by decide +kernel
theorem dX2_bestAddress_26 : decode cX2_bestAddress 26 = .ok (.iload 5, 2) := by decide +kernel
theorem dX2_bestAddress_28 : decode cX2_bestAddress 28 = .ok (.iload_n 2, 1) := by decide +kernel
theorem dX2_bestAddress_29 : decode cX2_bestAddress 29 = .ok (.invokevirtual 50, 3) := by decide +kernel
theorem dX2_bestAddress_32 : decode cX2_bestAddress 32 = .ok (.ifCond .eq 32, 3) := by decide +kernel
theorem dX2_bestAddress_35 : decode cX2_bestAddress 35 = .ok (.aload_n 0, 1) := by decide +kernel
theorem dX2_bestAddress_36 : decode cX2_bestAddress 36 = .ok (.iload_n 1, 1) := by decide +kernel
theorem dX2_bestAddress_37 : decode cX2_bestAddress 37 = .ok (.iload 5, 2) := by decide +kernel
theorem dX2_bestAddress_39 : decode cX2_bestAddress 39 = .ok (.invokevirtual 54, 3) := by decide +kernel
theorem dX2_bestAddress_42 : decode cX2_bestAddress 42 = .ok (.istore 6, 2) := by decide +kernel
theorem dX2_bestAddress_44 : decode cX2_bestAddress 44 = .ok (.iload_n 3, 1) := by decide +kernel
theorem dX2_bestAddress_45 : decode cX2_bestAddress 45 = .ok (.bipush (-4), 2) := by decide +kernel
theorem dX2_bestAddress_47 : decode cX2_bestAddress 47 = .ok (.if_icmp .eq 10, 3) := by decide +kernel
theorem dX2_bestAddress_50 : decode cX2_bestAddress 50 = .ok (.iload 6, 2) := by decide +kernel
theorem dX2_bestAddress_52 : decode cX2_bestAddress 52 = .ok (.iload 4, 2) := by decide +kernel
theorem dX2_bestAddress_54 : decode cX2_bestAddress 54 = .ok (.if_icmp .ge 10, 3) := by decide +kernel
theorem dX2_bestAddress_57 : decode cX2_bestAddress 57 = .ok (.iload 5, 2) := by decide +kernel
theorem dX2_bestAddress_59 : decode cX2_bestAddress 59 = .ok (.istore_n 3, 1) := by decide +kernel
theorem dX2_bestAddress_60 : decode cX2_bestAddress 60 = .ok (.iload 6, 2) := by decide +kernel
theorem dX2_bestAddress_62 : decode cX2_bestAddress 62 = .ok (.istore 4, 2) := by decide +kernel
theorem dX2_bestAddress_64 : decode cX2_bestAddress 64 = .ok (.iinc 5 1, 3) := by decide +kernel
theorem dX2_bestAddress_67 : decode cX2_bestAddress 67 = .ok (.goto (-58), 3) := by decide +kernel
theorem dX2_bestAddress_70 : decode cX2_bestAddress 70 = .ok (.iload_n 3, 1) := by decide +kernel
theorem dX2_bestAddress_71 : decode cX2_bestAddress 71 = .ok (.ireturn, 1) := by decide +kernel
set_option maxRecDepth 100000 in
theorem ggX2_daysNeeded_X2_callsNeeded : GoodIn wsX2_daysNeeded wsX2_callsNeeded := goodIn_r _ [5, 6, 7, 8, 9, 10, 11, 12, 13, 14, 15, 16, 17, 18, 19, 20, 21, 22, 23, 24, 25, 26, 27, 28, 29, 30, 31, 32, 33, 34, 35, 36, 37, 52, 53, 54, 55, 56, 57, 58, 59, 60, 61, 62] rfl rfl
set_option maxRecDepth 100000 in
theorem gX2_daysNeeded_X2_callsNeeded : GoodIn wsX2_daysNeeded (wsV RX2 58 RX2 yX2_callsNeeded wsX2_callsNeeded) := goodIn_app (goodIn_r _ [1, 2, 3, 4] rfl rfl) ggX2_daysNeeded_X2_callsNeeded
set_option maxRecDepth 100000 in
theorem ggX2_daysNeeded_X2_sumOfInterviewers : GoodIn wsX2_daysNeeded wsX2_sumOfInterviewers := goodIn_r _ [41, 6, 42, 43, 44, 14, 45, 46, 47, 48, 49, 50, 51, 22, 23, 24, 25, 26, 27, 28, 52, 53, 54, 55, 56, 57, 58, 59, 60, 61, 62] rfl rfl
set_option maxRecDepth 100000 in
theorem gX2_daysNeeded_X2_sumOfInterviewers : GoodIn wsX2_daysNeeded (wsV RX2 61 RX2 yX2_sumOfInterviewers wsX2_sumOfInterviewers) := goodIn_app (goodIn_r _ [38, 39, 40, 4] rfl rfl) ggX2_daysNeeded_X2_sumOfInterviewers
theorem dX2_daysNeeded_0 : decode cX2_daysNeeded 0 = .ok (.aload_n 0, 1) := by decide +kernel
theorem dX2_daysNeeded_1 : decode cX2_daysNeeded 1 = .ok (.invokevirtual 58, 3) := by decide +kernel
theorem dX2_daysNeeded_4 : decode cX2_daysNeeded 4 = .ok (.istore_n 1, 1) := by decide +kernel
theorem dX2_daysNeeded_5 : decode cX2_daysNeeded 5 = .ok (.iload_n 1, 1) := by decide +kernel
theorem dX2_daysNeeded_6 : decode cX2_daysNeeded 6 = .ok (.ifCond .ne 5, 3) := by decide +kernel
theorem dX2_daysNeeded_9 : decode cX2_daysNeeded 9 = .ok (.iconst 0, 1) := by decide +kernel
theorem dX2_daysNeeded_10 : decode cX2_daysNeeded 10 = .ok (.ireturn, 1) := by decide +kernel
theorem dX2_daysNeeded_11 : decode cX2_daysNeeded 11 = .ok (.aload_n 0, 1) := by decide +kernel
theorem dX2_daysNeeded_12 : decode cX2_daysNeeded 12 = .ok (.iconst 1, 1) := by decide +kernel
theorem dX2_daysNeeded_13 : decode cX2_daysNeeded 13 = .ok (.invokevirtual 61, 3) := by decide +kernel
theorem dX2_daysNeeded_16 : decode cX2_daysNeeded 16 = .ok (.istore_n 2, 1) := by decide +kernel
theorem dX2_daysNeeded_17 : decode cX2_daysNeeded 17 = .ok (.iload_n 2, 1) := by decide +kernel
theorem dX2_daysNeeded_18 : decode cX2_daysNeeded 18 = .ok (.ifCond .gt 6, 3) := by decide +kernel
theorem dX2_daysNeeded_21 : decode cX2_daysNeeded 21 = .ok (.bipush (-4), 2) := by decide +kernel
theorem dX2_daysNeeded_23 : decode cX2_daysNeeded 23 = .ok (.ireturn, 1) := by decide +kernel
theorem dX2_daysNeeded_24 : decode cX2_daysNeeded 24 = .ok (.iload_n 1, 1) := by decide +kernel
theorem dX2_daysNeeded_25 : decode cX2_daysNeeded 25 = .ok (.iload_n 2, 1) := by decide +kernel
theorem dX2_daysNeeded_26 : decode cX2_daysNeeded 26 = .ok (.aload_n 0, 1) := by decide +kernel
theorem dX2_daysNeeded_27 : decode cX2_daysNeeded 27 = .ok (.iconst 2, 1) := by decide +kernel
theorem dX2_daysNeeded_28 : decode cX2_daysNeeded 28 = .ok (.invokevirtual 61, 3) := by decide +kernel
theorem dX2_daysNeeded_31 : decode cX2_daysNeeded 31 = .ok (.isub, 1) := by decide +kernel
theorem dX2_daysNeeded_32 : decode cX2_daysNeeded 32 = .ok (.isub, 1) := by decide +kernel
theorem dX2_daysNeeded_33 : decode cX2_daysNeeded 33 = .ok (.istore_n 3, 1) := by decide +kernel
theorem dX2_daysNeeded_34 : decode cX2_daysNeeded 34 = .ok (.iload_n 3, 1) := by decide +kernel
theorem dX2_daysNeeded_35 : decode cX2_daysNeeded 35 = .ok (.ifCond .gt 5, 3) := by decide +kernel
theorem dX2_daysNeeded_38 : decode cX2_daysNeeded 38 = .ok (.iconst 1, 1) := by decide +kernel
theorem dX2_daysNeeded_39 : decode cX2_daysNeeded 39 = .ok (.ireturn, 1) := by decide +kernel
theorem dX2_daysNeeded_40 : decode cX2_daysNeeded 40 = .ok (.iconst 1, 1) := by decide +kernel
theorem dX2_daysNeeded_41 : decode cX2_daysNeeded 41 = .ok (.iload_n 3, 1) := by decide +kernel
theorem dX2_daysNeeded_42 : decode cX2_daysNeeded 42 = .ok (.iload_n 2, 1) := by decide +kernel
theorem dX2_daysNeeded_43 : decode cX2_daysNeeded 43 = .ok (.iadd, 1) := by decide +kernel
theorem dX2_daysNeeded_44 : decode cX2_daysNeeded 44 = .ok (.iconst 1, 1) := by decide +kernel
theorem dX2_daysNeeded_45 : decode cX2_daysNeeded 45 = .ok (.isub, 1) := by decide +kernel
theorem dX2_daysNeeded_46 : decode cX2_daysNeeded 46 = .ok (.iload_n 2, 1) := by decide +kernel
theorem dX2_daysNeeded_47 : decode cX2_daysNeeded 47 = .ok (.idiv, 1) := by decide +kernel
theorem dX2_daysNeeded_48 : decode cX2_daysNeeded 48 = .ok (.iadd, 1) := by decide +kernel
theorem dX2_daysNeeded_49 : decode cX2_daysNeeded 49 = .ok (.ireturn, 1) := by decide +kernel
set_option maxRecDepth 100000 in
theorem ggX2_rateOfInterviews_X5_addressCount : GoodIn wsX2_rateOfInterviews wsX5_addressCount := goodIn_r _ [6, 7, 31, 32, 33, 34, 35, 36, 37, 38] rfl rfl
set_option maxRecDepth 100000 in
theorem gX2_rateOfInterviews_X5_addressCount : GoodIn wsX2_rateOfInterviews (wsV RX2 15 RX5 yX5_addressCount wsX5_addressCount) := goodIn_app (goodIn_r _ [2, 3, 4, 5] rfl rfl) ggX2_rateOfInterviews_X5_addressCount
set_option maxRecDepth 100000 in
theorem ggX2_rateOfInterviews_X2_addressesWith : GoodIn wsX2_rateOfInterviews wsX2_addressesWith := goodIn_r _ [12, 1, 2, 3, 4, 5, 6, 7, 13, 14, 15, 16, 17, 18, 19, 20, 21, 22, 23, 24, 30, 31, 32, 33, 34, 35, 36, 37, 38, 39, 40] rfl rfl
set_option maxRecDepth 100000 in
theorem gX2_rateOfInterviews_X2_addressesWith : GoodIn wsX2_rateOfInterviews (wsV RX2 35 RX2 yX2_addressesWith wsX2_addressesWith) := goodIn_app (goodIn_r _ [8, 9, 10, 11] rfl rfl) ggX2_rateOfInterviews_X2_addressesWith
set_option maxRecDepth 100000 in
theorem ggX2_rateOfInterviews_X2_bitsOf : GoodIn wsX2_rateOfInterviews wsX2_bitsOf := goodIn_r _ [27, 28, 29] rfl rfl
set_option maxRecDepth 100000 in
theorem gX2_rateOfInterviews_X2_bitsOf : GoodIn wsX2_rateOfInterviews (va_wsS RX2 64 yX2_bitsOf wsX2_bitsOf) := goodIn_app (goodIn_r _ [25, 26, 11] rfl rfl) ggX2_rateOfInterviews_X2_bitsOf
theorem dX2_rateOfInterviews_0 : decode cX2_rateOfInterviews 0 = .ok (.aload_n 0, 1) := by decide +kernel
theorem dX2_rateOfInterviews_1 : decode cX2_rateOfInterviews 1 = .ok (.getfield 9, 3) := by decide +kernel
theorem dX2_rateOfInterviews_4 : decode cX2_rateOfInterviews 4 = .ok (.invokevirtual 15, 3) := by decide +kernel
theorem dX2_rateOfInterviews_7 : decode cX2_rateOfInterviews 7 = .ok (.aload_n 0, 1) := by decide +kernel
theorem dX2_rateOfInterviews_8 : decode cX2_rateOfInterviews 8 = .ok (.iconst 0, 1) := by decide +kernel
theorem dX2_rateOfInterviews_9 : decode cX2_rateOfInterviews 9 = .ok (.invokevirtual 35, 3) := by decide +kernel
theorem dX2_rateOfInterviews_12 : decode cX2_rateOfInterviews 12 = .ok (.isub, 1) := by decide +kernel
theorem dX2_rateOfInterviews_13 : decode cX2_rateOfInterviews 13 = .ok (.istore_n 1, 1) := by decide +kernel
theorem dX2_rateOfInterviews_14 : decode cX2_rateOfInterviews 14 = .ok (.iload_n 1, 1) := by decide +kernel
theorem dX2_rateOfInterviews_15 : decode cX2_rateOfInterviews 15 = .ok (.ifCond .gt 6, 3) := by decide +kernel
theorem dX2_rateOfInterviews_18 : decode cX2_rateOfInterviews 18 = .ok (.bipush (-4), 2) := by decide +kernel
theorem dX2_rateOfInterviews_20 : decode cX2_rateOfInterviews 20 = .ok (.ireturn, 1) := by decide +kernel
theorem dX2_rateOfInterviews_21 : decode cX2_rateOfInterviews 21 = .ok (.aload_n 0, 1) := by decide +kernel
theorem dX2_rateOfInterviews_22 : decode cX2_rateOfInterviews 22 = .ok (.iconst 1, 1) := by decide +kernel
theorem dX2_rateOfInterviews_23 : decode cX2_rateOfInterviews 23 = .ok (.invokevirtual 35, 3) := by decide +kernel
theorem dX2_rateOfInterviews_26 : decode cX2_rateOfInterviews 26 = .ok (.i2f, 1) := by decide +kernel
theorem dX2_rateOfInterviews_27 : decode cX2_rateOfInterviews 27 = .ok (.iload_n 1, 1) := by decide +kernel
theorem dX2_rateOfInterviews_28 : decode cX2_rateOfInterviews 28 = .ok (.i2f, 1) := by decide +kernel
theorem dX2_rateOfInterviews_29 : decode cX2_rateOfInterviews 29 = .ok (.fdiv, 1) := by decide +kernel
theorem dX2_rateOfInterviews_30 : decode cX2_rateOfInterviews 30 = .ok (.invokestatic 64, 3) := by decide +kernel
theorem dX2_rateOfInterviews_33 : decode cX2_rateOfInterviews 33 = .ok (.ireturn, 1) := by decide +kernel
set_option maxRecDepth 100000 in
theorem ggX2_weightBits_X5_ofCell : GoodIn wsX2_weightBits wsX5_ofCell := goodIn_r _ [6, 7, 8, 9, 10, 11, 12, 13, 14, 26, 27, 28, 29, 30, 31, 32, 33, 34, 35] rfl rfl
set_option maxRecDepth 100000 in
theorem gX2_weightBits_X5_ofCell : GoodIn wsX2_weightBits (wsV RX2 68 RX5 yX5_ofCell wsX5_ofCell) := goodIn_app (goodIn_r _ [2, 3, 4, 5] rfl rfl) ggX2_weightBits_X5_ofCell
set_option maxRecDepth 100000 in
theorem ggX2_weightBits_X2_weightOf : GoodIn wsX2_weightBits wsX2_weightOf := goodIn_r _ [19, 1, 2, 3, 4, 5, 6, 7, 8, 9, 10, 11, 12, 13, 14, 25, 26, 27, 28, 29, 30, 31, 32, 33, 34, 35] rfl rfl
set_option maxRecDepth 100000 in
theorem gX2_weightBits_X2_weightOf : GoodIn wsX2_weightBits (wsV RX2 72 RX2 yX2_weightOf wsX2_weightOf) := goodIn_app (goodIn_r _ [15, 16, 17, 18] rfl rfl) ggX2_weightBits_X2_weightOf
set_option maxRecDepth 100000 in
theorem ggX2_weightBits_X2_bitsOf : GoodIn wsX2_weightBits wsX2_bitsOf := goodIn_r _ [22, 23, 24] rfl rfl
set_option maxRecDepth 100000 in
theorem gX2_weightBits_X2_bitsOf : GoodIn wsX2_weightBits (va_wsS RX2 64 yX2_bitsOf wsX2_bitsOf) := goodIn_app (goodIn_r _ [20, 21, 18] rfl rfl) ggX2_weightBits_X2_bitsOf
theorem dX2_weightBits_0 : decode cX2_weightBits 0 = .ok (.aload_n 0, 1) := by decide +kernel
theorem dX2_weightBits_1 : decode cX2_weightBits 1 = .ok (.getfield 9, 3) := by decide +kernel
theorem dX2_weightBits_4 : decode cX2_weightBits 4 = .ok (.iload_n 1, 1) := by decide +kernel
theorem dX2_weightBits_5 : decode cX2_weightBits 5 = .ok (.iload_n 2, 1) := by decide +kernel
theorem dX2_weightBits_6 : decode cX2_weightBits 6 = .ok (.iconst 1, 1) := by decide +kernel
theorem dX2_weightBits_7 : decode cX2_weightBits 7 = .ok (.invokevirtual 68, 3) := by decide +kernel
theorem dX2_weightBits_10 : decode cX2_weightBits 10 = .ok (.ifCond .gt 6, 3) := by decide +kernel
theorem dX2_weightBits_13 : decode cX2_weightBits 13 = .ok (.bipush (-4), 2) := by decide +kernel
theorem dX2_weightBits_15 : decode cX2_weightBits 15 = .ok (.ireturn, 1) := by decide +kernel
theorem dX2_weightBits_16 : decode cX2_weightBits 16 = .ok (.aload_n 0, 1) := by decide +kernel
theorem dX2_weightBits_17 : decode cX2_weightBits 17 = .ok (.iload_n 1, 1) := by decide +kernel
theorem dX2_weightBits_18 : decode cX2_weightBits 18 = .ok (.iload_n 2, 1) := by decide +kernel
theorem dX2_weightBits_19 : decode cX2_weightBits 19 = .ok (.invokevirtual 72, 3) := by decide +kernel
theorem dX2_weightBits_22 : decode cX2_weightBits 22 = .ok (.invokestatic 64, 3) := by decide +kernel
theorem dX2_weightBits_25 : decode cX2_weightBits 25 = .ok (.ireturn, 1) := by decide +kernel
set_option maxRecDepth 100000 in
theorem ggX2_partOfGroup_X2_addWeights : GoodIn wsX2_partOfGroup wsX2_addWeights := goodIn_r _ [5, 6, 7, 8, 9, 10, 11, 12, 13, 14, 15, 16, 17, 18, 19, 20, 21, 22, 4, 23, 29, 30, 31, 32, 33, 34, 35, 36, 37, 38, 39] rfl rfl
set_option maxRecDepth 100000 in
theorem gX2_partOfGroup_X2_addWeights : GoodIn wsX2_partOfGroup (wsV RX2 76 RX2 yX2_addWeights wsX2_addWeights) := goodIn_app (goodIn_r _ [1, 2, 3, 4] rfl rfl) ggX2_partOfGroup_X2_addWeights
set_option maxRecDepth 100000 in
theorem ggX2_partOfGroup_X2_bitsOf : GoodIn wsX2_partOfGroup wsX2_bitsOf := goodIn_r _ [26, 27, 28] rfl rfl
set_option maxRecDepth 100000 in
theorem gX2_partOfGroup_X2_bitsOf : GoodIn wsX2_partOfGroup (va_wsS RX2 64 yX2_bitsOf wsX2_bitsOf) := goodIn_app (goodIn_r _ [24, 25, 4] rfl rfl) ggX2_partOfGroup_X2_bitsOf
theorem dX2_partOfGroup_0 : decode cX2_partOfGroup 0 = .ok (.fconst 0, 1) := by decide +kernel
theorem dX2_partOfGroup_1 : decode cX2_partOfGroup 1 = .ok (.fstore_n 2, 1) := by decide +kernel
theorem dX2_partOfGroup_2 : decode cX2_partOfGroup 2 = .ok (.iconst 0, 1) := by decide +kernel
theorem dX2_partOfGroup_3 : decode cX2_partOfGroup 3 = .ok (.istore_n 3, 1) := by decide +kernel
theorem dX2_partOfGroup_4 : decode cX2_partOfGroup 4 = .ok (.iload_n 3, 1) := by decide +kernel
theorem dX2_partOfGroup_5 : decode cX2_partOfGroup 5 = .ok (.iconst 3, 1) := by decide +kernel
theorem dX2_partOfGroup_6 : decode cX2_partOfGroup 6 = .ok (.if_icmp .ge 16, 3) := by decide +kernel
theorem dX2_partOfGroup_9 : decode cX2_partOfGroup 9 = .ok (.aload_n 0, 1) := by decide +kernel
theorem dX2_partOfGroup_10 : decode cX2_partOfGroup 10 = .ok (.fload_n 2, 1) := by decide +kernel
theorem dX2_partOfGroup_11 : decode cX2_partOfGroup 11 = .ok (.iload_n 3, 1) := by decide +kernel
theorem dX2_partOfGroup_12 : decode cX2_partOfGroup 12 = .ok (.invokevirtual 76, 3) := by decide +kernel
theorem dX2_partOfGroup_15 : decode cX2_partOfGroup 15 = .ok (.fstore_n 2, 1) := by decide +kernel
theorem dX2_partOfGroup_16 : decode cX2_partOfGroup 16 = .ok (.iinc 3 1, 3) := by decide +kernel
theorem dX2_partOfGroup_19 : decode cX2_partOfGroup 19 = .ok (.goto (-15), 3) := by decide +kernel
theorem dX2_partOfGroup_22 : decode cX2_partOfGroup 22 = .ok (.fload_n 2, 1) := by decide +kernel
theorem dX2_partOfGroup_23 : decode cX2_partOfGroup 23 = .ok (.fconst 0, 1) := by decide +kernel
theorem dX2_partOfGroup_24 : decode cX2_partOfGroup 24 = .ok (.fcmp .l, 1) := by decide +kernel
theorem dX2_partOfGroup_25 : decode cX2_partOfGroup 25 = .ok (.ifCond .gt 6, 3) := by decide +kernel
theorem dX2_partOfGroup_28 : decode cX2_partOfGroup 28 = .ok (.bipush (-4), 2) := by decide +kernel
theorem dX2_partOfGroup_30 : decode cX2_partOfGroup 30 = .ok (.ireturn, 1) := by decide +kernel
theorem dX2_partOfGroup_31 : decode cX2_partOfGroup 31 = .ok (.aload_n 0, 1) := by decide +kernel
theorem dX2_partOfGroup_32 : decode cX2_partOfGroup 32 = .ok (.fconst 0, 1) := by decide +kernel
theorem dX2_partOfGroup_33 : decode cX2_partOfGroup 33 = .ok (.iload_n 1, 1) := by decide +kernel
theorem dX2_partOfGroup_34 : decode cX2_partOfGroup 34 = .ok (.invokevirtual 76, 3) := by decide +kernel
theorem dX2_partOfGroup_37 : decode cX2_partOfGroup 37 = .ok (.fload_n 2, 1) := by decide +kernel
theorem dX2_partOfGroup_38 : decode cX2_partOfGroup 38 = .ok (.fdiv, 1) := by decide +kernel
theorem dX2_partOfGroup_39 : decode cX2_partOfGroup 39 = .ok (.invokestatic 64, 3) := by decide +kernel
theorem dX2_partOfGroup_42 : decode cX2_partOfGroup 42 = .ok (.ireturn, 1) := by decide +kernel
set_option maxRecDepth 100000 in
theorem ggX2_isOfKind_X5_isOpen : GoodIn wsX2_isOfKind wsX5_isOpen := goodIn_r _ [6, 7, 8, 9, 10, 11, 12, 13, 14, 29, 30, 31, 32, 33, 34, 35, 36, 37, 38] rfl rfl
set_option maxRecDepth 100000 in
theorem gX2_isOfKind_X5_isOpen : GoodIn wsX2_isOfKind (wsV RX2 80 RX5 yX5_isOpen wsX5_isOpen) := goodIn_app (goodIn_r _ [2, 3, 4, 5] rfl rfl) ggX2_isOfKind_X5_isOpen
set_option maxRecDepth 100000 in
theorem ggX2_isOfKind_X5_hasMeeting : GoodIn wsX2_isOfKind wsX5_hasMeeting := goodIn_r _ [18, 7, 8, 9, 10, 11, 12, 13, 14, 29, 30, 31, 32, 33, 34, 35, 36, 37, 38] rfl rfl
set_option maxRecDepth 100000 in
theorem gX2_isOfKind_X5_hasMeeting : GoodIn wsX2_isOfKind (wsV RX2 84 RX5 yX5_hasMeeting wsX5_hasMeeting) := goodIn_app (goodIn_r _ [15, 16, 17, 5] rfl rfl) ggX2_isOfKind_X5_hasMeeting
set_option maxRecDepth 100000 in
theorem ggX2_isOfKind_X5_isMeetingOver : GoodIn wsX2_isOfKind wsX5_isMeetingOver := goodIn_r _ [22, 7, 23, 8, 9, 10, 11, 12, 13, 14, 29, 30, 31, 32, 33, 34, 35, 36, 37, 38] rfl rfl
set_option maxRecDepth 100000 in
theorem gX2_isOfKind_X5_isMeetingOver : GoodIn wsX2_isOfKind (wsV RX2 87 RX5 yX5_isMeetingOver wsX5_isMeetingOver) := goodIn_app (goodIn_r _ [19, 20, 21, 5] rfl rfl) ggX2_isOfKind_X5_isMeetingOver
set_option maxRecDepth 100000 in
theorem ggX2_isOfKind_X5_ofAddress : GoodIn wsX2_isOfKind wsX5_ofAddress := goodIn_r _ [27, 7, 8, 9, 10, 11, 12, 13, 14, 29, 30, 31, 32, 33, 34, 35, 36, 37, 38] rfl rfl
set_option maxRecDepth 100000 in
theorem gX2_isOfKind_X5_ofAddress : GoodIn wsX2_isOfKind (wsV RX2 90 RX5 yX5_ofAddress wsX5_ofAddress) := goodIn_app (goodIn_r _ [24, 25, 26, 5] rfl rfl) ggX2_isOfKind_X5_ofAddress
theorem dX2_isOfKind_0 : decode cX2_isOfKind 0 = .ok (.iload_n 2, 1) := by decide +kernel
theorem dX2_isOfKind_1 : decode cX2_isOfKind 1 = .ok (.tableswitch 112 5 7 #[27, 55, 83], 27) := by decide +kernel
theorem dX2_isOfKind_28 : decode cX2_isOfKind 28 = .ok (.aload_n 0, 1) := by decide +kernel
theorem dX2_isOfKind_29 : decode cX2_isOfKind 29 = .ok (.getfield 9, 3) := by decide +kernel
theorem dX2_isOfKind_32 : decode cX2_isOfKind 32 = .ok (.iload_n 1, 1) := by decide +kernel
theorem dX2_isOfKind_33 : decode cX2_isOfKind 33 = .ok (.invokevirtual 80, 3) := by decide +kernel
theorem dX2_isOfKind_36 : decode cX2_isOfKind 36 = .ok (.ifCond .eq 18, 3) := by decide +kernel
theorem dX2_isOfKind_39 : decode cX2_isOfKind 39 = .ok (.aload_n 0, 1) := by decide +kernel
theorem dX2_isOfKind_40 : decode cX2_isOfKind 40 = .ok (.getfield 9, 3) := by decide +kernel
theorem dX2_isOfKind_43 : decode cX2_isOfKind 43 = .ok (.iload_n 1, 1) := by decide +kernel
theorem dX2_isOfKind_44 : decode cX2_isOfKind 44 = .ok (.invokevirtual 84, 3) := by decide +kernel
theorem dX2_isOfKind_47 : decode cX2_isOfKind 47 = .ok (.ifCond .eq 7, 3) := by decide +kernel
theorem dX2_isOfKind_50 : decode cX2_isOfKind 50 = .ok (.iconst 1, 1) := by decide +kernel
theorem dX2_isOfKind_51 : decode cX2_isOfKind 51 = .ok (.goto 4, 3) := by decide +kernel
theorem dX2_isOfKind_54 : decode cX2_isOfKind 54 = .ok (.iconst 0, 1) := by decide +kernel
theorem dX2_isOfKind_55 : decode cX2_isOfKind 55 = .ok (.ireturn, 1) := by decide +kernel
theorem dX2_isOfKind_56 : decode cX2_isOfKind 56 = .ok (.aload_n 0, 1) := by decide +kernel
theorem dX2_isOfKind_57 : decode cX2_isOfKind 57 = .ok (.getfield 9, 3) := by decide +kernel
theorem dX2_isOfKind_60 : decode cX2_isOfKind 60 = .ok (.iload_n 1, 1) := by decide +kernel
theorem dX2_isOfKind_61 : decode cX2_isOfKind 61 = .ok (.invokevirtual 80, 3) := by decide +kernel
theorem dX2_isOfKind_64 : decode cX2_isOfKind 64 = .ok (.ifCond .eq 18, 3) := by decide +kernel
theorem dX2_isOfKind_67 : decode cX2_isOfKind 67 = .ok (.aload_n 0, 1) := by decide +kernel
theorem dX2_isOfKind_68 : decode cX2_isOfKind 68 = .ok (.getfield 9, 3) := by decide +kernel
theorem dX2_isOfKind_71 : decode cX2_isOfKind 71 = .ok (.iload_n 1, 1) := by decide +kernel
theorem dX2_isOfKind_72 : decode cX2_isOfKind 72 = .ok (.invokevirtual 87, 3) := by decide +kernel
theorem dX2_isOfKind_75 : decode cX2_isOfKind 75 = .ok (.ifCond .eq 7, 3) := by decide +kernel
theorem dX2_isOfKind_78 : decode cX2_isOfKind 78 = .ok (.iconst 1, 1) := by decide +kernel
theorem dX2_isOfKind_79 : decode cX2_isOfKind 79 = .ok (.goto 4, 3) := by decide +kernel
theorem dX2_isOfKind_82 : decode cX2_isOfKind 82 = .ok (.iconst 0, 1) := by decide +kernel
theorem dX2_isOfKind_83 : decode cX2_isOfKind 83 = .ok (.ireturn, 1) := by decide +kernel
theorem dX2_isOfKind_84 : decode cX2_isOfKind 84 = .ok (.aload_n 0, 1) := by decide +kernel
theorem dX2_isOfKind_85 : decode cX2_isOfKind 85 = .ok (.getfield 9, 3) := by decide +kernel
theorem dX2_isOfKind_88 : decode cX2_isOfKind 88 = .ok (.iload_n 1, 1) := by decide +kernel
theorem dX2_isOfKind_89 : decode cX2_isOfKind 89 = .ok (.invokevirtual 80, 3) := by decide +kernel
theorem dX2_isOfKind_92 : decode cX2_isOfKind 92 = .ok (.ifCond .eq 19, 3) := by decide +kernel
theorem dX2_isOfKind_95 : decode cX2_isOfKind 95 = .ok (.aload_n 0, 1) := by decide +kernel
theorem dX2_isOfKind_96 : decode cX2_isOfKind 96 = .ok (.getfield 9, 3) := by decide +kernel
theorem dX2_isOfKind_99 : decode cX2_isOfKind 99 = .ok (.iload_n 1, 1) := by decide +kernel
theorem dX2_isOfKind_100 : decode cX2_isOfKind 100 = .ok (.iconst 2, 1) := by decide +kernel
theorem dX2_isOfKind_101 : decode cX2_isOfKind 101 = .ok (.invokevirtual 90, 3) := by decide +kernel
theorem dX2_isOfKind_104 : decode cX2_isOfKind 104 = .ok (.ifCond .ne 7, 3) := by decide +kernel
theorem dX2_isOfKind_107 : decode cX2_isOfKind 107 = .ok (.iconst 1, 1) := by decide +kernel
theorem dX2_isOfKind_108 : decode cX2_isOfKind 108 = .ok (.goto 4, 3) := by decide +kernel
theorem dX2_isOfKind_111 : decode cX2_isOfKind 111 = .ok (.iconst 0, 1) := by decide +kernel
theorem dX2_isOfKind_112 : decode cX2_isOfKind 112 = .ok (.ireturn, 1) := by decide +kernel
theorem dX2_isOfKind_113 : decode cX2_isOfKind 113 = .ok (.aload_n 0, 1) := by decide +kernel
theorem dX2_isOfKind_114 : decode cX2_isOfKind 114 = .ok (.getfield 9, 3) := by decide +kernel
theorem dX2_isOfKind_117 : decode cX2_isOfKind 117 = .ok (.iload_n 1, 1) := by decide +kernel
theorem dX2_isOfKind_118 : decode cX2_isOfKind 118 = .ok (.iconst 1, 1) := by decide +kernel
theorem dX2_isOfKind_119 : decode cX2_isOfKind 119 = .ok (.invokevirtual 90, 3) := by decide +kernel
theorem dX2_isOfKind_122 : decode cX2_isOfKind 122 = .ok (.iload_n 2, 1) := by decide +kernel
theorem dX2_isOfKind_123 : decode cX2_isOfKind 123 = .ok (.if_icmp .ne 7, 3) := by decide +kernel
theorem dX2_isOfKind_126 : decode cX2_isOfKind 126 = .ok (.iconst 1, 1) := by decide +kernel
theorem dX2_isOfKind_127 : decode cX2_isOfKind 127 = .ok (.goto 4, 3) := by decide +kernel
theorem dX2_isOfKind_130 : decode cX2_isOfKind 130 = .ok (.iconst 0, 1) := by decide +kernel
theorem dX2_isOfKind_131 : decode cX2_isOfKind 131 = .ok (.ireturn, 1) := by decide +kernel
set_option maxRecDepth 100000 in
theorem ggX2_addressesWith_X5_addressCount : GoodIn wsX2_addressesWith wsX5_addressCount := goodIn_r _ [6, 7, 21, 22, 23, 24, 25, 26, 27, 28] rfl rfl
set_option maxRecDepth 100000 in
theorem gX2_addressesWith_X5_addressCount : GoodIn wsX2_addressesWith (wsV RX2 15 RX5 yX5_addressCount wsX5_addressCount) := goodIn_app (goodIn_r _ [2, 3, 4, 5] rfl rfl) ggX2_addressesWith_X5_addressCount
set_option maxRecDepth 100000 in
theorem ggX2_addressesWith_X5_ofAddress : GoodIn wsX2_addressesWith wsX5_ofAddress := goodIn_r _ [11, 12, 13, 14, 15, 16, 17, 18, 19, 21, 22, 23, 24, 25, 26, 27, 28, 29, 30] rfl rfl
set_option maxRecDepth 100000 in
theorem gX2_addressesWith_X5_ofAddress : GoodIn wsX2_addressesWith (wsV RX2 90 RX5 yX5_ofAddress wsX5_ofAddress) := goodIn_app (goodIn_r _ [8, 9, 10, 5] rfl rfl) ggX2_addressesWith_X5_ofAddress
theorem dX2_addressesWith_0 : decode cX2_addressesWith 0 = .ok (.iconst 0, 1) := by decide +kernel
theorem dX2_addressesWith_1 : decode cX2_addressesWith 1 = .ok (.istore_n 2, 1) := by decide +kernel
theorem dX2_addressesWith_2 : decode cX2_addressesWith 2 = .ok (.iconst 0, 1) := by decide +kernel
theorem dX2_addressesWith_3 : decode cX2_addressesWith 3 = .ok (.istore_n 3, 1) := by decide +kernel
theorem dX2_addressesWith_4 : decode cX2_addressesWith 4 = .ok (.iload_n 3, 1) := by decide +kernel
theorem dX2_addressesWith_5 : decode cX2_addressesWith 5 = .ok (.aload_n 0, 1) := by decide +kernel
theorem dX2_addressesWith_6 : decode cX2_addressesWith 6 = .ok (.getfield 9, 3) := by decide +kernel
theorem dX2_addressesWith_9 : decode cX2_addressesWith 9 = .ok (.invokevirtual 15, 3) := by decide +kernel
theorem dX2_addressesWith_12 : decode cX2_addressesWith 12 = .ok (.if_icmp .ge 25, 3) := by decide +kernel
theorem dX2_addressesWith_15 : decode cX2_addressesWith 15 = .ok (.aload_n 0, 1) := by decide +kernel
theorem dX2_addressesWith_16 : decode cX2_addressesWith 16 = .ok (.getfield 9, 3) := by decide +kernel
theorem dX2_addressesWith_19 : decode cX2_addressesWith 19 = .ok (.iload_n 3, 1) := by decide +kernel
theorem dX2_addressesWith_20 : decode cX2_addressesWith 20 = .ok (.iconst 1, 1) := by decide +kernel
theorem dX2_addressesWith_21 : decode cX2_addressesWith 21 = .ok (.invokevirtual 90, 3) := by decide +kernel
theorem dX2_addressesWith_24 : decode cX2_addressesWith 24 = .ok (.iload_n 1, 1) := by decide +kernel
theorem dX2_addressesWith_25 : decode cX2_addressesWith 25 = .ok (.if_icmp .ne 6, 3) := by decide +kernel
theorem dX2_addressesWith_28 : decode cX2_addressesWith 28 = .ok (.iinc 2 1, 3) := by decide +kernel
theorem dX2_addressesWith_31 : decode cX2_addressesWith 31 = .ok (.iinc 3 1, 3) := by decide +kernel
theorem dX2_addressesWith_34 : decode cX2_addressesWith 34 = .ok (.goto (-30), 3) := by decide +kernel
theorem dX2_addressesWith_37 : decode cX2_addressesWith 37 = .ok (.iload_n 2, 1) := by decide +kernel
theorem dX2_addressesWith_38 : decode cX2_addressesWith 38 = .ok (.ireturn, 1) := by decide +kernel
set_option maxRecDepth 100000 in
theorem ggX2_sumOfAddresses_X5_addressCount : GoodIn wsX2_sumOfAddresses wsX5_addressCount := goodIn_r _ [6, 7, 21, 22, 23, 24, 25, 26, 27, 28] rfl rfl
set_option maxRecDepth 100000 in
theorem gX2_sumOfAddresses_X5_addressCount : GoodIn wsX2_sumOfAddresses (wsV RX2 15 RX5 yX5_addressCount wsX5_addressCount) := goodIn_app (goodIn_r _ [2, 3, 4, 5] rfl rfl) ggX2_sumOfAddresses_X5_addressCount
set_option maxRecDepth 100000 in
theorem ggX2_sumOfAddresses_X5_ofAddress : GoodIn wsX2_sumOfAddresses wsX5_ofAddress := goodIn_r _ [11, 12, 13, 14, 15, 16, 17, 18, 19, 21, 22, 23, 24, 25, 26, 27, 28, 29, 30] rfl rfl
set_option maxRecDepth 100000 in
theorem gX2_sumOfAddresses_X5_ofAddress : GoodIn wsX2_sumOfAddresses (wsV RX2 90 RX5 yX5_ofAddress wsX5_ofAddress) := goodIn_app (goodIn_r _ [8, 9, 10, 5] rfl rfl) ggX2_sumOfAddresses_X5_ofAddress
theorem dX2_sumOfAddresses_0 : decode cX2_sumOfAddresses 0 = .ok (.iconst 0, 1) := by decide +kernel
theorem dX2_sumOfAddresses_1 : decode cX2_sumOfAddresses 1 = .ok (.istore_n 2, 1) := by decide +kernel
theorem dX2_sumOfAddresses_2 : decode cX2_sumOfAddresses 2 = .ok (.iconst 0, 1) := by decide +kernel
theorem dX2_sumOfAddresses_3 : decode cX2_sumOfAddresses 3 = .ok (.istore_n 3, 1) := by decide +kernel
theorem dX2_sumOfAddresses_4 : decode cX2_sumOfAddresses 4 = .ok (.iload_n 3, 1) := by decide +kernel
theorem dX2_sumOfAddresses_5 : decode cX2_sumOfAddresses 5 = .ok (.aload_n 0, 1) := by decide +kernel
theorem dX2_sumOfAddresses_6 : decode cX2_sumOfAddresses 6 = .ok (.getfield 9, 3) := by decide +kernel
theorem dX2_sumOfAddresses_9 : decode cX2_sumOfAddresses 9 = .ok (.invokevirtual 15, 3) := by decide +kernel
theorem dX2_sumOfAddresses_12 : decode cX2_sumOfAddresses 12 = .ok (.if_icmp .ge 21, 3) := by decide +kernel
theorem dX2_sumOfAddresses_15 : decode cX2_sumOfAddresses 15 = .ok (.iload_n 2, 1) := by decide +kernel
theorem dX2_sumOfAddresses_16 : decode cX2_sumOfAddresses 16 = .ok (.aload_n 0, 1) := by decide +kernel
theorem dX2_sumOfAddresses_17 : decode cX2_sumOfAddresses 17 = .ok (.getfield 9, 3) := by decide +kernel
theorem dX2_sumOfAddresses_20 : decode cX2_sumOfAddresses 20 = .ok (.iload_n 3, 1) := by decide +kernel
theorem dX2_sumOfAddresses_21 : decode cX2_sumOfAddresses 21 = .ok (.iload_n 1, 1) := by decide +kernel
theorem dX2_sumOfAddresses_22 : decode cX2_sumOfAddresses 22 = .ok (.invokevirtual 90, 3) := by decide +kernel
theorem dX2_sumOfAddresses_25 : decode cX2_sumOfAddresses 25 = .ok (.iadd, 1) := by decide +kernel
theorem dX2_sumOfAddresses_26 : decode cX2_sumOfAddresses 26 = .ok (.istore_n 2, 1) := by decide +kernel
theorem dX2_sumOfAddresses_27 : decode cX2_sumOfAddresses 27 = .ok (.iinc 3 1, 3) := by decide +kernel
theorem dX2_sumOfAddresses_30 : decode cX2_sumOfAddresses 30 = .ok (.goto (-26), 3) := by decide +kernel
theorem dX2_sumOfAddresses_33 : decode cX2_sumOfAddresses 33 = .ok (.iload_n 2, 1) := by decide +kernel
theorem dX2_sumOfAddresses_34 : decode cX2_sumOfAddresses 34 = .ok (.ireturn, 1) := by decide +kernel
set_option maxRecDepth 100000 in
theorem ggX2_sumOfInterviewers_X5_interviewerCount : GoodIn wsX2_sumOfInterviewers wsX5_interviewerCount := goodIn_r _ [6, 7, 21, 22, 23, 24, 25, 26, 27, 28] rfl rfl
set_option maxRecDepth 100000 in
theorem gX2_sumOfInterviewers_X5_interviewerCount : GoodIn wsX2_sumOfInterviewers (wsV RX2 25 RX5 yX5_interviewerCount wsX5_interviewerCount) := goodIn_app (goodIn_r _ [2, 3, 4, 5] rfl rfl) ggX2_sumOfInterviewers_X5_interviewerCount
set_option maxRecDepth 100000 in
theorem ggX2_sumOfInterviewers_X5_ofInterviewer : GoodIn wsX2_sumOfInterviewers wsX5_ofInterviewer := goodIn_r _ [11, 12, 13, 14, 15, 16, 17, 18, 19, 21, 22, 23, 24, 25, 26, 27, 28, 29, 30] rfl rfl
set_option maxRecDepth 100000 in
theorem gX2_sumOfInterviewers_X5_ofInterviewer : GoodIn wsX2_sumOfInterviewers (wsV RX2 93 RX5 yX5_ofInterviewer wsX5_ofInterviewer) := goodIn_app (goodIn_r _ [8, 9, 10, 5] rfl rfl) ggX2_sumOfInterviewers_X5_ofInterviewer
theorem dX2_sumOfInterviewers_0 : decode cX2_sumOfInterviewers 0 = .ok (.iconst 0, 1) := by decide +kernel
theorem dX2_sumOfInterviewers_1 : decode cX2_sumOfInterviewers 1 = .ok (.istore_n 2, 1) := by decide +kernel
theorem dX2_sumOfInterviewers_2 : decode cX2_sumOfInterviewers 2 = .ok (.iconst 0, 1) := by decide +kernel
theorem dX2_sumOfInterviewers_3 : decode cX2_sumOfInterviewers 3 = .ok (.istore_n 3, 1) := by decide +kernel
theorem dX2_sumOfInterviewers_4 : decode cX2_sumOfInterviewers 4 = .ok (.iload_n 3, 1) := by decide +kernel
theorem dX2_sumOfInterviewers_5 : decode cX2_sumOfInterviewers 5 = .ok (.aload_n 0, 1) := by decide +kernel
theorem dX2_sumOfInterviewers_6 : decode cX2_sumOfInterviewers 6 = .ok (.getfield 9, 3) := by decide +kernel
theorem dX2_sumOfInterviewers_9 : decode cX2_sumOfInterviewers 9 = .ok (.invokevirtual 25, 3) := by decide +kernel
theorem dX2_sumOfInterviewers_12 : decode cX2_sumOfInterviewers 12 = .ok (.if_icmp .ge 21, 3) := by decide +kernel
theorem dX2_sumOfInterviewers_15 : decode cX2_sumOfInterviewers 15 = .ok (.iload_n 2, 1) := by decide +kernel
theorem dX2_sumOfInterviewers_16 : decode cX2_sumOfInterviewers 16 = .ok (.aload_n 0, 1) := by decide +kernel
theorem dX2_sumOfInterviewers_17 : decode cX2_sumOfInterviewers 17 = .ok (.getfield 9, 3) := by decide +kernel
theorem dX2_sumOfInterviewers_20 : decode cX2_sumOfInterviewers 20 = .ok (.iload_n 3, 1) := by decide +kernel
theorem dX2_sumOfInterviewers_21 : decode cX2_sumOfInterviewers 21 = .ok (.iload_n 1, 1) := by decide +kernel
theorem dX2_sumOfInterviewers_22 : decode cX2_sumOfInterviewers 22 = .ok (.invokevirtual 93, 3) := by decide +kernel
theorem dX2_sumOfInterviewers_25 : decode cX2_sumOfInterviewers 25 = .ok (.iadd, 1) := by decide +kernel
theorem dX2_sumOfInterviewers_26 : decode cX2_sumOfInterviewers 26 = .ok (.istore_n 2, 1) := by decide +kernel
theorem dX2_sumOfInterviewers_27 : decode cX2_sumOfInterviewers 27 = .ok (.iinc 3 1, 3) := by decide +kernel
theorem dX2_sumOfInterviewers_30 : decode cX2_sumOfInterviewers 30 = .ok (.goto (-26), 3) := by decide +kernel
theorem dX2_sumOfInterviewers_33 : decode cX2_sumOfInterviewers 33 = .ok (.iload_n 2, 1) := by decide +kernel
theorem dX2_sumOfInterviewers_34 : decode cX2_sumOfInterviewers 34 = .ok (.ireturn, 1) := by decide +kernel
set_option maxRecDepth 100000 in
theorem ggX2_wantedInAll_X2_wantedInArea : GoodIn wsX2_wantedInAll wsX2_wantedInArea := goodIn_r _ [5, 6, 7, 8, 9, 10, 11, 12, 13, 14, 15, 16, 17, 18, 19, 20, 21, 22, 23, 24, 25, 26, 27, 28, 29, 30] rfl rfl
set_option maxRecDepth 100000 in
theorem gX2_wantedInAll_X2_wantedInArea : GoodIn wsX2_wantedInAll (wsV RX2 96 RX2 yX2_wantedInArea wsX2_wantedInArea) := goodIn_app (goodIn_r _ [1, 2, 3, 4] rfl rfl) ggX2_wantedInAll_X2_wantedInArea
theorem dX2_wantedInAll_0 : decode cX2_wantedInAll 0 = .ok (.iconst 0, 1) := by decide +kernel
theorem dX2_wantedInAll_1 : decode cX2_wantedInAll 1 = .ok (.istore_n 1, 1) := by decide +kernel
theorem dX2_wantedInAll_2 : decode cX2_wantedInAll 2 = .ok (.iconst 0, 1) := by decide +kernel
theorem dX2_wantedInAll_3 : decode cX2_wantedInAll 3 = .ok (.istore_n 2, 1) := by decide +kernel
theorem dX2_wantedInAll_4 : decode cX2_wantedInAll 4 = .ok (.iload_n 2, 1) := by decide +kernel
theorem dX2_wantedInAll_5 : decode cX2_wantedInAll 5 = .ok (.iconst 4, 1) := by decide +kernel
theorem dX2_wantedInAll_6 : decode cX2_wantedInAll 6 = .ok (.if_icmp .ge 17, 3) := by decide +kernel
theorem dX2_wantedInAll_9 : decode cX2_wantedInAll 9 = .ok (.iload_n 1, 1) := by decide +kernel
theorem dX2_wantedInAll_10 : decode cX2_wantedInAll 10 = .ok (.aload_n 0, 1) := by decide +kernel
theorem dX2_wantedInAll_11 : decode cX2_wantedInAll 11 = .ok (.iload_n 2, 1) := by decide +kernel
theorem dX2_wantedInAll_12 : decode cX2_wantedInAll 12 = .ok (.invokevirtual 96, 3) := by decide +kernel
theorem dX2_wantedInAll_15 : decode cX2_wantedInAll 15 = .ok (.iadd, 1) := by decide +kernel
theorem dX2_wantedInAll_16 : decode cX2_wantedInAll 16 = .ok (.istore_n 1, 1) := by decide +kernel
theorem dX2_wantedInAll_17 : decode cX2_wantedInAll 17 = .ok (.iinc 2 1, 3) := by decide +kernel
theorem dX2_wantedInAll_20 : decode cX2_wantedInAll 20 = .ok (.goto (-16), 3) := by decide +kernel
theorem dX2_wantedInAll_23 : decode cX2_wantedInAll 23 = .ok (.iload_n 1, 1) := by decide +kernel
theorem dX2_wantedInAll_24 : decode cX2_wantedInAll 24 = .ok (.ireturn, 1) := by decide +kernel
set_option maxRecDepth 100000 in
theorem ggX2_wantedInArea_X5_wantedIn : GoodIn wsX2_wantedInArea wsX5_wantedIn := goodIn_r _ [6, 7, 8, 9, 10, 11, 12, 13, 14, 16, 17, 18, 19, 20, 21, 22, 23, 24, 25] rfl rfl
set_option maxRecDepth 100000 in
theorem gX2_wantedInArea_X5_wantedIn : GoodIn wsX2_wantedInArea (wsV RX2 99 RX5 yX5_wantedIn wsX5_wantedIn) := goodIn_app (goodIn_r _ [2, 3, 4, 5] rfl rfl) ggX2_wantedInArea_X5_wantedIn
theorem dX2_wantedInArea_0 : decode cX2_wantedInArea 0 = .ok (.iconst 0, 1) := by decide +kernel
theorem dX2_wantedInArea_1 : decode cX2_wantedInArea 1 = .ok (.istore_n 2, 1) := by decide +kernel
theorem dX2_wantedInArea_2 : decode cX2_wantedInArea 2 = .ok (.iconst 0, 1) := by decide +kernel
theorem dX2_wantedInArea_3 : decode cX2_wantedInArea 3 = .ok (.istore_n 3, 1) := by decide +kernel
theorem dX2_wantedInArea_4 : decode cX2_wantedInArea 4 = .ok (.iload_n 3, 1) := by decide +kernel
theorem dX2_wantedInArea_5 : decode cX2_wantedInArea 5 = .ok (.iconst 3, 1) := by decide +kernel
theorem dX2_wantedInArea_6 : decode cX2_wantedInArea 6 = .ok (.if_icmp .ge 21, 3) := by decide +kernel
theorem dX2_wantedInArea_9 : decode cX2_wantedInArea 9 = .ok (.iload_n 2, 1) := by decide +kernel
theorem dX2_wantedInArea_10 : decode cX2_wantedInArea 10 = .ok (.aload_n 0, 1) := by decide +kernel
theorem dX2_wantedInArea_11 : decode cX2_wantedInArea 11 = .ok (.getfield 9, 3) := by decide +kernel
theorem dX2_wantedInArea_14 : decode cX2_wantedInArea 14 = .ok (.iload_n 1, 1) := by decide +kernel
theorem dX2_wantedInArea_15 : decode cX2_wantedInArea 15 = .ok (.iload_n 3, 1) := by decide +kernel
theorem dX2_wantedInArea_16 : decode cX2_wantedInArea 16 = .ok (.invokevirtual 99, 3) := by decide +kernel
theorem dX2_wantedInArea_19 : decode cX2_wantedInArea 19 = .ok (.iadd, 1) := by decide +kernel
theorem dX2_wantedInArea_20 : decode cX2_wantedInArea 20 = .ok (.istore_n 2, 1) := by decide +kernel
theorem dX2_wantedInArea_21 : decode cX2_wantedInArea 21 = .ok (.iinc 3 1, 3) := by decide +kernel
theorem dX2_wantedInArea_24 : decode cX2_wantedInArea 24 = .ok (.goto (-20), 3) := by decide +kernel
theorem dX2_wantedInArea_27 : decode cX2_wantedInArea 27 = .ok (.iload_n 2, 1) := by decide +kernel
theorem dX2_wantedInArea_28 : decode cX2_wantedInArea 28 = .ok (.ireturn, 1) := by decide +kernel
set_option maxRecDepth 100000 in
theorem ggX2_callsNeeded_X5_addressCount : GoodIn wsX2_callsNeeded wsX5_addressCount := goodIn_r _ [10, 11, 34, 35, 36, 37, 38, 39, 40, 41] rfl rfl
set_option maxRecDepth 100000 in
theorem gX2_callsNeeded_X5_addressCount : GoodIn wsX2_callsNeeded (wsV RX2 15 RX5 yX5_addressCount wsX5_addressCount) := goodIn_app (goodIn_r _ [6, 7, 8, 9] rfl rfl) ggX2_callsNeeded_X5_addressCount
set_option maxRecDepth 100000 in
theorem ggX2_callsNeeded_X5_isOpen : GoodIn wsX2_callsNeeded wsX5_isOpen := goodIn_r _ [15, 16, 17, 18, 19, 20, 21, 22, 23, 34, 35, 36, 37, 38, 39, 40, 41, 42, 43] rfl rfl
set_option maxRecDepth 100000 in
theorem gX2_callsNeeded_X5_isOpen : GoodIn wsX2_callsNeeded (wsV RX2 80 RX5 yX5_isOpen wsX5_isOpen) := goodIn_app (goodIn_r _ [12, 13, 14, 9] rfl rfl) ggX2_callsNeeded_X5_isOpen
set_option maxRecDepth 100000 in
theorem ggX2_callsNeeded_X5_vainLimit : GoodIn wsX2_callsNeeded wsX5_vainLimit := goodIn_r _ [27, 28, 34, 35, 36, 37, 38, 39, 40, 41] rfl rfl
set_option maxRecDepth 100000 in
theorem gX2_callsNeeded_X5_vainLimit : GoodIn wsX2_callsNeeded (wsV RX2 44 RX5 yX5_vainLimit wsX5_vainLimit) := goodIn_app (goodIn_r _ [24, 25, 26, 9] rfl rfl) ggX2_callsNeeded_X5_vainLimit
set_option maxRecDepth 100000 in
theorem ggX2_callsNeeded_X5_ofAddress : GoodIn wsX2_callsNeeded wsX5_ofAddress := goodIn_r _ [32, 16, 17, 18, 19, 20, 21, 22, 23, 34, 35, 36, 37, 38, 39, 40, 41, 42, 43] rfl rfl
set_option maxRecDepth 100000 in
theorem gX2_callsNeeded_X5_ofAddress : GoodIn wsX2_callsNeeded (wsV RX2 90 RX5 yX5_ofAddress wsX5_ofAddress) := goodIn_app (goodIn_r _ [29, 30, 31, 9] rfl rfl) ggX2_callsNeeded_X5_ofAddress
theorem dX2_callsNeeded_0 : decode cX2_callsNeeded 0 = .ok (.iconst 0, 1) := by decide +kernel
theorem dX2_callsNeeded_1 : decode cX2_callsNeeded 1 = .ok (.istore_n 1, 1) := by decide +kernel
theorem dX2_callsNeeded_2 : decode cX2_callsNeeded 2 = .ok (.iconst 0, 1) := by decide +kernel
theorem dX2_callsNeeded_3 : decode cX2_callsNeeded 3 = .ok (.istore_n 2, 1) := by decide +kernel
theorem dX2_callsNeeded_4 : decode cX2_callsNeeded 4 = .ok (.iload_n 2, 1) := by decide +kernel
theorem dX2_callsNeeded_5 : decode cX2_callsNeeded 5 = .ok (.aload_n 0, 1) := by decide +kernel
theorem dX2_callsNeeded_6 : decode cX2_callsNeeded 6 = .ok (.getfield 9, 3) := by decide +kernel
theorem dX2_callsNeeded_9 : decode cX2_callsNeeded 9 = .ok (.invokevirtual 15, 3) := by decide +kernel
theorem dX2_callsNeeded_12 : decode cX2_callsNeeded 12 = .ok (.if_icmp .ge 44, 3) := by decide +kernel
theorem dX2_callsNeeded_15 : decode cX2_callsNeeded 15 = .ok (.aload_n 0, 1) := by decide +kernel
theorem dX2_callsNeeded_16 : decode cX2_callsNeeded 16 = .ok (.getfield 9, 3) := by decide +kernel
theorem dX2_callsNeeded_19 : decode cX2_callsNeeded 19 = .ok (.iload_n 2, 1) := by decide +kernel
theorem dX2_callsNeeded_20 : decode cX2_callsNeeded 20 = .ok (.invokevirtual 80, 3) := by decide +kernel
theorem dX2_callsNeeded_23 : decode cX2_callsNeeded 23 = .ok (.ifCond .eq 27, 3) := by decide +kernel
theorem dX2_callsNeeded_26 : decode cX2_callsNeeded 26 = .ok (.iload_n 1, 1) := by decide +kernel
theorem dX2_callsNeeded_27 : decode cX2_callsNeeded 27 = .ok (.iconst 1, 1) := by decide +kernel
theorem dX2_callsNeeded_28 : decode cX2_callsNeeded 28 = .ok (.aload_n 0, 1) := by decide +kernel
theorem dX2_callsNeeded_29 : decode cX2_callsNeeded 29 = .ok (.getfield 9, 3) := by decide +kernel
theorem dX2_callsNeeded_32 : decode cX2_callsNeeded 32 = .ok (.invokevirtual 44, 3) := by decide +kernel
theorem dX2_callsNeeded_35 : decode cX2_callsNeeded 35 = .ok (.aload_n 0, 1) := by decide +kernel
theorem dX2_callsNeeded_36 : decode cX2_callsNeeded 36 = .ok (.getfield 9, 3) := by decide +kernel
theorem dX2_callsNeeded_39 : decode cX2_callsNeeded 39 = .ok (.iload_n 2, 1) := by decide +kernel
theorem dX2_callsNeeded_40 : decode cX2_callsNeeded 40 = .ok (.iconst 3, 1) := by decide +kernel
theorem dX2_callsNeeded_41 : decode cX2_callsNeeded 41 = .ok (.invokevirtual 90, 3) := by decide +kernel
theorem dX2_callsNeeded_44 : decode cX2_callsNeeded 44 = .ok (.isub, 1) := by decide +kernel
theorem dX2_callsNeeded_45 : decode cX2_callsNeeded 45 = .ok (.invokestatic 102, 3) := by decide +kernel
theorem dX2_callsNeeded_48 : decode cX2_callsNeeded 48 = .ok (.iadd, 1) := by decide +kernel
theorem dX2_callsNeeded_49 : decode cX2_callsNeeded 49 = .ok (.istore_n 1, 1) := by decide +kernel
theorem dX2_callsNeeded_50 : decode cX2_callsNeeded 50 = .ok (.iinc 2 1, 3) := by decide +kernel
theorem dX2_callsNeeded_53 : decode cX2_callsNeeded 53 = .ok (.goto (-49), 3) := by decide +kernel
theorem dX2_callsNeeded_56 : decode cX2_callsNeeded 56 = .ok (.iload_n 1, 1) := by decide +kernel
theorem dX2_callsNeeded_57 : decode cX2_callsNeeded 57 = .ok (.ireturn, 1) := by decide +kernel
set_option maxRecDepth 100000 in
theorem ggX2_rankOf_X5_ofAddress : GoodIn wsX2_rankOf wsX5_ofAddress := goodIn_r _ [12, 13, 14, 15, 16, 17, 18, 19, 20, 46, 47, 48, 49, 50, 51, 52, 53, 54, 55] rfl rfl
set_option maxRecDepth 100000 in
theorem gX2_rankOf_X5_ofAddress : GoodIn wsX2_rankOf (wsV RX2 90 RX5 yX5_ofAddress wsX5_ofAddress) := goodIn_app (goodIn_r _ [8, 9, 10, 11] rfl rfl) ggX2_rankOf_X5_ofAddress
set_option maxRecDepth 100000 in
theorem ggX2_rankOf_X5_hasMeeting : GoodIn wsX2_rankOf wsX5_hasMeeting := goodIn_r _ [24, 13, 14, 15, 16, 17, 18, 19, 20, 46, 47, 48, 49, 50, 51, 52, 53, 54, 55] rfl rfl
set_option maxRecDepth 100000 in
theorem gX2_rankOf_X5_hasMeeting : GoodIn wsX2_rankOf (wsV RX2 84 RX5 yX5_hasMeeting wsX5_hasMeeting) := goodIn_app (goodIn_r _ [21, 22, 23, 11] rfl rfl) ggX2_rankOf_X5_hasMeeting
set_option maxRecDepth 100000 in
theorem ggX2_rankOf_X5_isMeetingOver : GoodIn wsX2_rankOf wsX5_isMeetingOver := goodIn_r _ [28, 13, 29, 14, 15, 16, 17, 18, 19, 20, 46, 47, 48, 49, 50, 51, 52, 53, 54, 55] rfl rfl
set_option maxRecDepth 100000 in
theorem gX2_rankOf_X5_isMeetingOver : GoodIn wsX2_rankOf (wsV RX2 87 RX5 yX5_isMeetingOver wsX5_isMeetingOver) := goodIn_app (goodIn_r _ [25, 26, 27, 11] rfl rfl) ggX2_rankOf_X5_isMeetingOver
set_option maxRecDepth 100000 in
theorem ggX2_rankOf_X5_ofInterviewer : GoodIn wsX2_rankOf wsX5_ofInterviewer := goodIn_r _ [33, 34, 14, 15, 16, 17, 18, 19, 20, 46, 47, 48, 49, 50, 51, 52, 53, 54, 55] rfl rfl
set_option maxRecDepth 100000 in
theorem gX2_rankOf_X5_ofInterviewer : GoodIn wsX2_rankOf (wsV RX2 93 RX5 yX5_ofInterviewer wsX5_ofInterviewer) := goodIn_app (goodIn_r _ [30, 31, 32, 11] rfl rfl) ggX2_rankOf_X5_ofInterviewer
set_option maxRecDepth 100000 in
theorem ggX2_rankOf_X2_wantedInArea : GoodIn wsX2_rankOf wsX2_wantedInArea := goodIn_r _ [39, 1, 40, 41, 42, 11, 43, 44, 14, 15, 16, 17, 18, 19, 20, 45, 46, 47, 48, 49, 50, 51, 52, 53, 54, 55] rfl rfl
set_option maxRecDepth 100000 in
theorem gX2_rankOf_X2_wantedInArea : GoodIn wsX2_rankOf (wsV RX2 96 RX2 yX2_wantedInArea wsX2_wantedInArea) := goodIn_app (goodIn_r _ [35, 36, 37, 38] rfl rfl) ggX2_rankOf_X2_wantedInArea
theorem dX2_rankOf_0 : decode cX2_rankOf 0 = .ok (.aload_n 0, 1) := by decide +kernel
theorem dX2_rankOf_1 : decode cX2_rankOf 1 = .ok (.getfield 9, 3) := by decide +kernel
theorem dX2_rankOf_4 : decode cX2_rankOf 4 = .ok (.iload_n 2, 1) := by decide +kernel
theorem dX2_rankOf_5 : decode cX2_rankOf 5 = .ok (.iconst 0, 1) := by decide +kernel
theorem dX2_rankOf_6 : decode cX2_rankOf 6 = .ok (.invokevirtual 90, 3) := by decide +kernel
theorem dX2_rankOf_9 : decode cX2_rankOf 9 = .ok (.istore_n 3, 1) := by decide +kernel
theorem dX2_rankOf_10 : decode cX2_rankOf 10 = .ok (.iconst 2, 1) := by decide +kernel
theorem dX2_rankOf_11 : decode cX2_rankOf 11 = .ok (.istore 4, 2) := by decide +kernel
theorem dX2_rankOf_13 : decode cX2_rankOf 13 = .ok (.aload_n 0, 1) := by decide +kernel
theorem dX2_rankOf_14 : decode cX2_rankOf 14 = .ok (.getfield 9, 3) := by decide +kernel
theorem dX2_rankOf_17 : decode cX2_rankOf 17 = .ok (.iload_n 2, 1) := by decide +kernel
theorem dX2_rankOf_18 : decode cX2_rankOf 18 = .ok (.invokevirtual 84, 3) := by decide +kernel
theorem dX2_rankOf_21 : decode cX2_rankOf 21 = .ok (.ifCond .eq 21, 3) := by decide +kernel
theorem dX2_rankOf_24 : decode cX2_rankOf 24 = .ok (.aload_n 0, 1) := by decide +kernel
theorem dX2_rankOf_25 : decode cX2_rankOf 25 = .ok (.getfield 9, 3) := by decide +kernel
theorem dX2_rankOf_28 : decode cX2_rankOf 28 = .ok (.iload_n 2, 1) := by decide +kernel
theorem dX2_rankOf_29 : decode cX2_rankOf 29 = .ok (.invokevirtual 87, 3) := by decide +kernel
theorem dX2_rankOf_32 : decode cX2_rankOf 32 = .ok (.ifCond .eq 7, 3) := by decide +kernel
theorem dX2_rankOf_35 : decode cX2_rankOf 35 = .ok (.iconst 1, 1) := by decide +kernel
theorem dX2_rankOf_36 : decode cX2_rankOf 36 = .ok (.goto 4, 3) := by decide +kernel
theorem dX2_rankOf_39 : decode cX2_rankOf 39 = .ok (.iconst 0, 1) := by decide +kernel
theorem dX2_rankOf_40 : decode cX2_rankOf 40 = .ok (.istore 4, 2) := by decide +kernel
theorem dX2_rankOf_42 : decode cX2_rankOf 42 = .ok (.aload_n 0, 1) := by decide +kernel
theorem dX2_rankOf_43 : decode cX2_rankOf 43 = .ok (.getfield 9, 3) := by decide +kernel
theorem dX2_rankOf_46 : decode cX2_rankOf 46 = .ok (.iload_n 1, 1) := by decide +kernel
theorem dX2_rankOf_47 : decode cX2_rankOf 47 = .ok (.iconst 0, 1) := by decide +kernel
theorem dX2_rankOf_48 : decode cX2_rankOf 48 = .ok (.invokevirtual 93, 3) := by decide +kernel
theorem dX2_rankOf_51 : decode cX2_rankOf 51 = .ok (.iload_n 3, 1) := by decide +kernel
theorem dX2_rankOf_52 : decode cX2_rankOf 52 = .ok (.if_icmp .ne 7, 3) := by decide +kernel
theorem dX2_rankOf_55 : decode cX2_rankOf 55 = .ok (.iconst 1, 1) := by decide +kernel
theorem dX2_rankOf_56 : decode cX2_rankOf 56 = .ok (.goto 4, 3) := by decide +kernel
theorem dX2_rankOf_59 : decode cX2_rankOf 59 = .ok (.iconst 0, 1) := by decide +kernel
theorem dX2_rankOf_60 : decode cX2_rankOf 60 = .ok (.istore 5, 2) := by decide +kernel
theorem dX2_rankOf_62 : decode cX2_rankOf 62 = .ok (.iload 4, 2) := by decide +kernel
theorem dX2_rankOf_64 : decode cX2_rankOf 64 = .ok (.iconst 2, 1) := by decide +kernel
theorem dX2_rankOf_65 : decode cX2_rankOf 65 = .ok (.imul, 1) := by decide +kernel
theorem dX2_rankOf_66 : decode cX2_rankOf 66 = .ok (.iload 5, 2) := by decide +kernel
theorem dX2_rankOf_68 : decode cX2_rankOf 68 = .ok (.ifCond .eq 7, 3) := by decide +kernel
theorem dX2_rankOf_71 : decode cX2_rankOf 71 = .ok (.iconst 0, 1) := by decide +kernel
theorem dX2_rankOf_72 : decode cX2_rankOf 72 = .ok (.goto 4, 3) := by decide +kernel
theorem dX2_rankOf_75 : decode cX2_rankOf 75 = .ok (.iconst 1, 1) := by decide +kernel
theorem dX2_rankOf_76 : decode cX2_rankOf 76 = .ok (.iadd, 1) := by decide +kernel
theorem dX2_rankOf_77 : decode cX2_rankOf 77 = .ok (.istore 4, 2) := by decide +kernel
theorem dX2_rankOf_79 : decode cX2_rankOf 79 = .ok (.iload 4, 2) := by decide +kernel
theorem dX2_rankOf_81 : decode cX2_rankOf 81 = .ok (.iconst 2, 1) := by decide +kernel
theorem dX2_rankOf_82 : decode cX2_rankOf 82 = .ok (.imul, 1) := by decide +kernel
theorem dX2_rankOf_83 : decode cX2_rankOf 83 = .ok (.aload_n 0, 1) := by decide +kernel
theorem dX2_rankOf_84 : decode cX2_rankOf 84 = .ok (.iload_n 3, 1) := by decide +kernel
theorem dX2_rankOf_85 : decode cX2_rankOf 85 = .ok (.invokevirtual 96, 3) := by decide +kernel
theorem dX2_rankOf_88 : decode cX2_rankOf 88 = .ok (.ifCond .le 7, 3) := by decide +kernel
theorem dX2_rankOf_91 : decode cX2_rankOf 91 = .ok (.iconst 0, 1) := by decide +kernel
theorem dX2_rankOf_92 : decode cX2_rankOf 92 = .ok (.goto 4, 3) := by decide +kernel
theorem dX2_rankOf_95 : decode cX2_rankOf 95 = .ok (.iconst 1, 1) := by decide +kernel
theorem dX2_rankOf_96 : decode cX2_rankOf 96 = .ok (.iadd, 1) := by decide +kernel
theorem dX2_rankOf_97 : decode cX2_rankOf 97 = .ok (.istore 4, 2) := by decide +kernel
theorem dX2_rankOf_99 : decode cX2_rankOf 99 = .ok (.aload_n 0, 1) := by decide +kernel
theorem dX2_rankOf_100 : decode cX2_rankOf 100 = .ok (.getfield 9, 3) := by decide +kernel
theorem dX2_rankOf_103 : decode cX2_rankOf 103 = .ok (.iload_n 2, 1) := by decide +kernel
theorem dX2_rankOf_104 : decode cX2_rankOf 104 = .ok (.iconst 2, 1) := by decide +kernel
theorem dX2_rankOf_105 : decode cX2_rankOf 105 = .ok (.invokevirtual 90, 3) := by decide +kernel
theorem dX2_rankOf_108 : decode cX2_rankOf 108 = .ok (.istore 6, 2) := by decide +kernel
theorem dX2_rankOf_110 : decode cX2_rankOf 110 = .ok (.iload 4, 2) := by decide +kernel
theorem dX2_rankOf_112 : decode cX2_rankOf 112 = .ok (.ldc 107, 2) := by decide +kernel
theorem dX2_rankOf_114 : decode cX2_rankOf 114 = .ok (.imul, 1) := by decide +kernel
theorem dX2_rankOf_115 : decode cX2_rankOf 115 = .ok (.iload 6, 2) := by decide +kernel
theorem dX2_rankOf_117 : decode cX2_rankOf 117 = .ok (.ldc 108, 2) := by decide +kernel
theorem dX2_rankOf_119 : decode cX2_rankOf 119 = .ok (.invokestatic 109, 3) := by decide +kernel
theorem dX2_rankOf_122 : decode cX2_rankOf 122 = .ok (.iadd, 1) := by decide +kernel
theorem dX2_rankOf_123 : decode cX2_rankOf 123 = .ok (.ireturn, 1) := by decide +kernel
set_option maxRecDepth 100000 in
theorem ggX2_weightOf_X5_ofCell : GoodIn wsX2_weightOf wsX5_ofCell := goodIn_r _ [6, 7, 8, 9, 10, 11, 12, 13, 14, 16, 17, 18, 19, 20, 21, 22, 23, 24, 25] rfl rfl
set_option maxRecDepth 100000 in
theorem gX2_weightOf_X5_ofCell : GoodIn wsX2_weightOf (wsV RX2 68 RX5 yX5_ofCell wsX5_ofCell) := goodIn_app (goodIn_r _ [2, 3, 4, 5] rfl rfl) ggX2_weightOf_X5_ofCell
theorem dX2_weightOf_0 : decode cX2_weightOf 0 = .ok (.aload_n 0, 1) := by decide +kernel
theorem dX2_weightOf_1 : decode cX2_weightOf 1 = .ok (.getfield 9, 3) := by decide +kernel
theorem dX2_weightOf_4 : decode cX2_weightOf 4 = .ok (.iload_n 1, 1) := by decide +kernel
theorem dX2_weightOf_5 : decode cX2_weightOf 5 = .ok (.iload_n 2, 1) := by decide +kernel
theorem dX2_weightOf_6 : decode cX2_weightOf 6 = .ok (.iconst 1, 1) := by decide +kernel
theorem dX2_weightOf_7 : decode cX2_weightOf 7 = .ok (.invokevirtual 68, 3) := by decide +kernel
theorem dX2_weightOf_10 : decode cX2_weightOf 10 = .ok (.istore_n 3, 1) := by decide +kernel
theorem dX2_weightOf_11 : decode cX2_weightOf 11 = .ok (.iload_n 3, 1) := by decide +kernel
theorem dX2_weightOf_12 : decode cX2_weightOf 12 = .ok (.ifCond .gt 5, 3) := by decide +kernel
theorem dX2_weightOf_15 : decode cX2_weightOf 15 = .ok (.fconst 0, 1) := by decide +kernel
theorem dX2_weightOf_16 : decode cX2_weightOf 16 = .ok (.freturn, 1) := by decide +kernel
theorem dX2_weightOf_17 : decode cX2_weightOf 17 = .ok (.aload_n 0, 1) := by decide +kernel
theorem dX2_weightOf_18 : decode cX2_weightOf 18 = .ok (.getfield 9, 3) := by decide +kernel
theorem dX2_weightOf_21 : decode cX2_weightOf 21 = .ok (.iload_n 1, 1) := by decide +kernel
theorem dX2_weightOf_22 : decode cX2_weightOf 22 = .ok (.iload_n 2, 1) := by decide +kernel
theorem dX2_weightOf_23 : decode cX2_weightOf 23 = .ok (.iconst 2, 1) := by decide +kernel
theorem dX2_weightOf_24 : decode cX2_weightOf 24 = .ok (.invokevirtual 68, 3) := by decide +kernel
theorem dX2_weightOf_27 : decode cX2_weightOf 27 = .ok (.i2f, 1) := by decide +kernel
theorem dX2_weightOf_28 : decode cX2_weightOf 28 = .ok (.iload_n 3, 1) := by decide +kernel
theorem dX2_weightOf_29 : decode cX2_weightOf 29 = .ok (.i2f, 1) := by decide +kernel
theorem dX2_weightOf_30 : decode cX2_weightOf 30 = .ok (.fdiv, 1) := by decide +kernel
theorem dX2_weightOf_31 : decode cX2_weightOf 31 = .ok (.freturn, 1) := by decide +kernel
set_option maxRecDepth 100000 in
theorem ggX2_addWeights_X5_ofCell : GoodIn wsX2_addWeights wsX5_ofCell := goodIn_r _ [6, 7, 8, 9, 10, 11, 12, 13, 14, 21, 22, 23, 24, 25, 26, 27, 28, 29, 30] rfl rfl
set_option maxRecDepth 100000 in
theorem gX2_addWeights_X5_ofCell : GoodIn wsX2_addWeights (wsV RX2 68 RX5 yX5_ofCell wsX5_ofCell) := goodIn_app (goodIn_r _ [2, 3, 4, 5] rfl rfl) ggX2_addWeights_X5_ofCell
set_option maxRecDepth 100000 in
theorem ggX2_addWeights_X2_weightOf : GoodIn wsX2_addWeights wsX2_weightOf := goodIn_r _ [19, 1, 2, 3, 4, 5, 6, 7, 8, 9, 10, 11, 12, 13, 14, 20, 21, 22, 23, 24, 25, 26, 27, 28, 29, 30] rfl rfl
set_option maxRecDepth 100000 in
theorem gX2_addWeights_X2_weightOf : GoodIn wsX2_addWeights (wsV RX2 72 RX2 yX2_weightOf wsX2_weightOf) := goodIn_app (goodIn_r _ [15, 16, 17, 18] rfl rfl) ggX2_addWeights_X2_weightOf
theorem dX2_addWeights_0 : decode cX2_addWeights 0 = .ok (.fload_n 1, 1) := by decide +kernel
theorem dX2_addWeights_1 : decode cX2_addWeights 1 = .ok (.fstore_n 3, 1) := by decide +kernel
theorem dX2_addWeights_2 : decode cX2_addWeights 2 = .ok (.iconst 0, 1) := by decide +kernel
theorem dX2_addWeights_3 : decode cX2_addWeights 3 = .ok (.istore 4, 2) := by decide +kernel
theorem dX2_addWeights_5 : decode cX2_addWeights 5 = .ok (.iload 4, 2) := by decide +kernel
theorem dX2_addWeights_7 : decode cX2_addWeights 7 = .ok (.iconst 4, 1) := by decide +kernel
theorem dX2_addWeights_8 : decode cX2_addWeights 8 = .ok (.if_icmp .ge 36, 3) := by decide +kernel
theorem dX2_addWeights_11 : decode cX2_addWeights 11 = .ok (.aload_n 0, 1) := by decide +kernel
theorem dX2_addWeights_12 : decode cX2_addWeights 12 = .ok (.getfield 9, 3) := by decide +kernel
theorem dX2_addWeights_15 : decode cX2_addWeights 15 = .ok (.iload 4, 2) := by decide +kernel
theorem dX2_addWeights_17 : decode cX2_addWeights 17 = .ok (.iload_n 2, 1) := by decide +kernel
theorem dX2_addWeights_18 : decode cX2_addWeights 18 = .ok (.iconst 1, 1) := by decide +kernel
theorem dX2_addWeights_19 : decode cX2_addWeights 19 = .ok (.invokevirtual 68, 3) := by decide +kernel
theorem dX2_addWeights_22 : decode cX2_addWeights 22 = .ok (.i2f, 1) := by decide +kernel
theorem dX2_addWeights_23 : decode cX2_addWeights 23 = .ok (.fstore 5, 2) := by decide +kernel
theorem dX2_addWeights_25 : decode cX2_addWeights 25 = .ok (.fload_n 3, 1) := by decide +kernel
theorem dX2_addWeights_26 : decode cX2_addWeights 26 = .ok (.aload_n 0, 1) := by decide +kernel
theorem dX2_addWeights_27 : decode cX2_addWeights 27 = .ok (.iload 4, 2) := by decide +kernel
theorem dX2_addWeights_29 : decode cX2_addWeights 29 = .ok (.iload_n 2, 1) := by decide +kernel
theorem dX2_addWeights_30 : decode cX2_addWeights 30 = .ok (.invokevirtual 72, 3) := by decide +kernel
theorem dX2_addWeights_33 : decode cX2_addWeights 33 = .ok (.fload 5, 2) := by decide +kernel
theorem dX2_addWeights_35 : decode cX2_addWeights 35 = .ok (.fmul, 1) := by decide +kernel
theorem dX2_addWeights_36 : decode cX2_addWeights 36 = .ok (.fadd, 1) := by decide +kernel
theorem dX2_addWeights_37 : decode cX2_addWeights 37 = .ok (.fstore_n 3, 1) := by decide +kernel
theorem dX2_addWeights_38 : decode cX2_addWeights 38 = .ok (.iinc 4 1, 3) := by decide +kernel
theorem dX2_addWeights_41 : decode cX2_addWeights 41 = .ok (.goto (-36), 3) := by decide +kernel
theorem dX2_addWeights_44 : decode cX2_addWeights 44 = .ok (.fload_n 3, 1) := by decide +kernel
theorem dX2_addWeights_45 : decode cX2_addWeights 45 = .ok (.freturn, 1) := by decide +kernel
theorem dX2_bitsOf_0 : decode cX2_bitsOf 0 = .ok (.fload_n 0, 1) := by decide +kernel
theorem dX2_bitsOf_1 : decode cX2_bitsOf 1 = .ok (.fconst 0, 1) := by decide +kernel
theorem dX2_bitsOf_2 : decode cX2_bitsOf 2 = .ok (.fcmp .l, 1) := by decide +kernel
theorem dX2_bitsOf_3 : decode cX2_bitsOf 3 = .ok (.ifCond .gt 5, 3) := by decide +kernel
theorem dX2_bitsOf_6 : decode cX2_bitsOf 6 = .ok (.iconst 0, 1) := by decide +kernel
theorem dX2_bitsOf_7 : decode cX2_bitsOf 7 = .ok (.ireturn, 1) := by decide +kernel
theorem dX2_bitsOf_8 : decode cX2_bitsOf 8 = .ok (.fload_n 0, 1) := by decide +kernel
theorem dX2_bitsOf_9 : decode cX2_bitsOf 9 = .ok (.fstore_n 1, 1) := by decide +kernel
theorem dX2_bitsOf_10 : decode cX2_bitsOf 10 = .ok (.bipush 127, 2) := by decide +kernel
theorem dX2_bitsOf_12 : decode cX2_bitsOf 12 = .ok (.istore_n 2, 1) := by decide +kernel
theorem dX2_bitsOf_13 : decode cX2_bitsOf 13 = .ok (.iconst 0, 1) := by decide +kernel
theorem dX2_bitsOf_14 : decode cX2_bitsOf 14 = .ok (.istore_n 3, 1) := by decide +kernel
theorem dX2_bitsOf_15 : decode cX2_bitsOf 15 = .ok (.iload_n 3, 1) := by decide +kernel
theorem dX2_bitsOf_16 : decode cX2_bitsOf 16 = .ok (.sipush 128, 3) := by decide +kernel
theorem dX2_bitsOf_19 : decode cX2_bitsOf 19 = .ok (.if_icmp .ge 22, 3) := by decide +kernel
theorem dX2_bitsOf_22 : decode cX2_bitsOf 22 = .ok (.fload_n 1, 1) := by decide +kernel
theorem dX2_bitsOf_23 : decode cX2_bitsOf 23 = .ok (.fconst 2, 1) := by decide +kernel
theorem dX2_bitsOf_24 : decode cX2_bitsOf 24 = .ok (.fcmp .l, 1) := by decide +kernel
theorem dX2_bitsOf_25 : decode cX2_bitsOf 25 = .ok (.ifCond .lt 16, 3) := by decide +kernel
theorem dX2_bitsOf_28 : decode cX2_bitsOf 28 = .ok (.fload_n 1, 1) := by decide +kernel
theorem dX2_bitsOf_29 : decode cX2_bitsOf 29 = .ok (.fconst 2, 1) := by decide +kernel
theorem dX2_bitsOf_30 : decode cX2_bitsOf 30 = .ok (.fdiv, 1) := by decide +kernel
theorem dX2_bitsOf_31 : decode cX2_bitsOf 31 = .ok (.fstore_n 1, 1) := by decide +kernel
theorem dX2_bitsOf_32 : decode cX2_bitsOf 32 = .ok (.iinc 2 1, 3) := by decide +kernel
theorem dX2_bitsOf_35 : decode cX2_bitsOf 35 = .ok (.iinc 3 1, 3) := by decide +kernel
theorem dX2_bitsOf_38 : decode cX2_bitsOf 38 = .ok (.goto (-23), 3) := by decide +kernel
theorem dX2_bitsOf_41 : decode cX2_bitsOf 41 = .ok (.iconst 0, 1) := by decide +kernel
theorem dX2_bitsOf_42 : decode cX2_bitsOf 42 = .ok (.istore_n 3, 1) := by decide +kernel
theorem dX2_bitsOf_43 : decode cX2_bitsOf 43 = .ok (.iload_n 3, 1) := by decide +kernel
theorem dX2_bitsOf_44 : decode cX2_bitsOf 44 = .ok (.sipush 128, 3) := by decide +kernel
theorem dX2_bitsOf_47 : decode cX2_bitsOf 47 = .ok (.if_icmp .ge 22, 3) := by decide +kernel
theorem dX2_bitsOf_50 : decode cX2_bitsOf 50 = .ok (.fload_n 1, 1) := by decide +kernel
theorem dX2_bitsOf_51 : decode cX2_bitsOf 51 = .ok (.fconst 1, 1) := by decide +kernel
theorem dX2_bitsOf_52 : decode cX2_bitsOf 52 = .ok (.fcmp .g, 1) := by decide +kernel
theorem dX2_bitsOf_53 : decode cX2_bitsOf 53 = .ok (.ifCond .ge 16, 3) := by decide +kernel
theorem dX2_bitsOf_56 : decode cX2_bitsOf 56 = .ok (.fload_n 1, 1) := by decide +kernel
theorem dX2_bitsOf_57 : decode cX2_bitsOf 57 = .ok (.fconst 2, 1) := by decide +kernel
theorem dX2_bitsOf_58 : decode cX2_bitsOf 58 = .ok (.fmul, 1) := by decide +kernel
theorem dX2_bitsOf_59 : decode cX2_bitsOf 59 = .ok (.fstore_n 1, 1) := by decide +kernel
theorem dX2_bitsOf_60 : decode cX2_bitsOf 60 = .ok (.iinc 2 (-1), 3) := by decide +kernel
theorem dX2_bitsOf_63 : decode cX2_bitsOf 63 = .ok (.iinc 3 1, 3) := by decide +kernel
theorem dX2_bitsOf_66 : decode cX2_bitsOf 66 = .ok (.goto (-23), 3) := by decide +kernel
theorem dX2_bitsOf_69 : decode cX2_bitsOf 69 = .ok (.iload_n 2, 1) := by decide +kernel
theorem dX2_bitsOf_70 : decode cX2_bitsOf 70 = .ok (.bipush 23, 2) := by decide +kernel
theorem dX2_bitsOf_72 : decode cX2_bitsOf 72 = .ok (.ishl, 1) := by decide +kernel
theorem dX2_bitsOf_73 : decode cX2_bitsOf 73 = .ok (.fload_n 1, 1) := by decide +kernel
theorem dX2_bitsOf_74 : decode cX2_bitsOf 74 = .ok (.ldc 112, 2) := by decide +kernel
theorem dX2_bitsOf_76 : decode cX2_bitsOf 76 = .ok (.fmul, 1) := by decide +kernel
theorem dX2_bitsOf_77 : decode cX2_bitsOf 77 = .ok (.f2i, 1) := by decide +kernel
theorem dX2_bitsOf_78 : decode cX2_bitsOf 78 = .ok (.ldc 113, 2) := by decide +kernel
theorem dX2_bitsOf_80 : decode cX2_bitsOf 80 = .ok (.isub, 1) := by decide +kernel
theorem dX2_bitsOf_81 : decode cX2_bitsOf 81 = .ok (.iadd, 1) := by decide +kernel
theorem dX2_bitsOf_82 : decode cX2_bitsOf 82 = .ok (.ireturn, 1) := by decide +kernel
