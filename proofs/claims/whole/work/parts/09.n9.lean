theorem dX9_init_0 : decode cX9_init 0 = .ok (.aload_n 0, 1) := by decide +kernel
theorem dX9_init_1 : decode cX9_init 1 = .ok (.invokespecial 1, 3) := by decide +kernel
theorem dX9_init_4 : decode cX9_init 4 = .ok (.aload_n 0, 1) := by decide +kernel
theorem dX9_init_5 : decode cX9_init 5 = .ok (.sipush 314, 3) := by decide +kernel
theorem dX9_init_8 : decode cX9_init 8 = .ok (.newarray .int, 2) := by decide +kernel
theorem dX9_init_10 : decode cX9_init 10 = .ok (.putfield 7, 3) := by decide +kernel
theorem dX9_init_13 : decode cX9_init 13 = .ok (.aload_n 0, 1) := by decide +kernel
theorem dX9_init_14 : decode cX9_init 14 = .ok (.sipush 314, 3) := by decide +kernel
theorem dX9_init_17 : decode cX9_init 17 = .ok (.newarray .int, 2) := by decide +kernel
theorem dX9_init_19 : decode cX9_init 19 = .ok (.putfield 13, 3) := by decide +kernel
theorem dX9_init_22 : decode cX9_init 22 = .ok (.aload_n 0, 1) := by decide +kernel
theorem dX9_init_23 : decode cX9_init 23 = .ok (.sipush 1256, 3) := by decide +kernel
theorem dX9_init_26 : decode cX9_init 26 = .ok (.newarray .int, 2) := by decide +kernel
theorem dX9_init_28 : decode cX9_init 28 = .ok (.putfield 16, 3) := by decide +kernel
theorem dX9_init_31 : decode cX9_init 31 = .ok (.aload_n 0, 1) := by decide +kernel
theorem dX9_init_32 : decode cX9_init 32 = .ok (.bipush 80, 2) := by decide +kernel
theorem dX9_init_34 : decode cX9_init 34 = .ok (.newarray .int, 2) := by decide +kernel
theorem dX9_init_36 : decode cX9_init 36 = .ok (.putfield 19, 3) := by decide +kernel
theorem dX9_init_39 : decode cX9_init 39 = .ok (.aload_n 0, 1) := by decide +kernel
theorem dX9_init_40 : decode cX9_init 40 = .ok (.iconst 5, 1) := by decide +kernel
theorem dX9_init_41 : decode cX9_init 41 = .ok (.newarray .int, 2) := by decide +kernel
theorem dX9_init_43 : decode cX9_init 43 = .ok (.putfield 22, 3) := by decide +kernel
theorem dX9_init_46 : decode cX9_init 46 = .ok (.aload_n 0, 1) := by decide +kernel
theorem dX9_init_47 : decode cX9_init 47 = .ok (.getfield 7, 3) := by decide +kernel
theorem dX9_init_50 : decode cX9_init 50 = .ok (.bipush 6, 2) := by decide +kernel
theorem dX9_init_52 : decode cX9_init 52 = .ok (.iconst 4, 1) := by decide +kernel
theorem dX9_init_53 : decode cX9_init 53 = .ok (.iastore, 1) := by decide +kernel
theorem dX9_init_54 : decode cX9_init 54 = .ok (.aload_n 0, 1) := by decide +kernel
theorem dX9_init_55 : decode cX9_init 55 = .ok (.getfield 7, 3) := by decide +kernel
theorem dX9_init_58 : decode cX9_init 58 = .ok (.bipush 7, 2) := by decide +kernel
theorem dX9_init_60 : decode cX9_init 60 = .ok (.iconst 1, 1) := by decide +kernel
theorem dX9_init_61 : decode cX9_init 61 = .ok (.iastore, 1) := by decide +kernel
theorem dX9_init_62 : decode cX9_init 62 = .ok (.iconst 0, 1) := by decide +kernel
theorem dX9_init_63 : decode cX9_init 63 = .ok (.istore_n 1, 1) := by decide +kernel
theorem dX9_init_64 : decode cX9_init 64 = .ok (.iload_n 1, 1) := by decide +kernel
theorem dX9_init_65 : decode cX9_init 65 = .ok (.bipush 12, 2) := by decide +kernel
theorem dX9_init_67 : decode cX9_init 67 = .ok (.if_icmp .ge 38, 3) := by decide +kernel
theorem dX9_init_70 : decode cX9_init 70 = .ok (.aload_n 0, 1) := by decide +kernel
theorem dX9_init_71 : decode cX9_init 71 = .ok (.getfield 7, 3) := by decide +kernel
theorem dX9_init_74 : decode cX9_init 74 = .ok (.bipush 8, 2) := by decide +kernel
theorem dX9_init_76 : decode cX9_init 76 = .ok (.iconst 3, 1) := by decide +kernel
theorem dX9_init_77 : decode cX9_init 77 = .ok (.iload_n 1, 1) := by decide +kernel
theorem dX9_init_78 : decode cX9_init 78 = .ok (.imul, 1) := by decide +kernel
theorem dX9_init_79 : decode cX9_init 79 = .ok (.iadd, 1) := by decide +kernel
theorem dX9_init_80 : decode cX9_init 80 = .ok (.iconst 0, 1) := by decide +kernel
theorem dX9_init_81 : decode cX9_init 81 = .ok (.iadd, 1) := by decide +kernel
theorem dX9_init_82 : decode cX9_init 82 = .ok (.iconst 2, 1) := by decide +kernel
theorem dX9_init_83 : decode cX9_init 83 = .ok (.iastore, 1) := by decide +kernel
theorem dX9_init_84 : decode cX9_init 84 = .ok (.aload_n 0, 1) := by decide +kernel
theorem dX9_init_85 : decode cX9_init 85 = .ok (.getfield 7, 3) := by decide +kernel
theorem dX9_init_88 : decode cX9_init 88 = .ok (.bipush 8, 2) := by decide +kernel
theorem dX9_init_90 : decode cX9_init 90 = .ok (.iconst 3, 1) := by decide +kernel
theorem dX9_init_91 : decode cX9_init 91 = .ok (.iload_n 1, 1) := by decide +kernel
theorem dX9_init_92 : decode cX9_init 92 = .ok (.imul, 1) := by decide +kernel
theorem dX9_init_93 : decode cX9_init 93 = .ok (.iadd, 1) := by decide +kernel
theorem dX9_init_94 : decode cX9_init 94 = .ok (.iconst 2, 1) := by decide +kernel
theorem dX9_init_95 : decode cX9_init 95 = .ok (.iadd, 1) := by decide +kernel
theorem dX9_init_96 : decode cX9_init 96 = .ok (.bipush 100, 2) := by decide +kernel
theorem dX9_init_98 : decode cX9_init 98 = .ok (.iastore, 1) := by decide +kernel
theorem dX9_init_99 : decode cX9_init 99 = .ok (.iinc 1 1, 3) := by decide +kernel
theorem dX9_init_102 : decode cX9_init 102 = .ok (.goto (-38), 3) := by decide +kernel
theorem dX9_init_105 : decode cX9_init 105 = .ok (.return_, 1) := by decide +kernel
theorem dX9_in_0 : decode cX9_in 0 = .ok (.iload_n 0, 1) := by decide +kernel
theorem dX9_in_1 : decode cX9_in 1 = .ok (.iload_n 1, 1) := by decide +kernel
theorem dX9_in_2 : decode cX9_in 2 = .ok (.if_icmp .lt 12, 3) := by decide +kernel
theorem dX9_in_5 : decode cX9_in 5 = .ok (.iload_n 0, 1) := by decide +kernel
theorem dX9_in_6 : decode cX9_in 6 = .ok (.iload_n 2, 1) := by decide +kernel
theorem dX9_in_7 : decode cX9_in 7 = .ok (.if_icmp .gt 7, 3) := by decide +kernel
theorem dX9_in_10 : decode cX9_in 10 = .ok (.iconst 1, 1) := by decide +kernel
theorem dX9_in_11 : decode cX9_in 11 = .ok (.goto 4, 3) := by decide +kernel
theorem dX9_in_14 : decode cX9_in 14 = .ok (.iconst 0, 1) := by decide +kernel
theorem dX9_in_15 : decode cX9_in 15 = .ok (.ireturn, 1) := by decide +kernel
theorem dX9_begins_0 : decode cX9_begins 0 = .ok (.iconst 0, 1) := by decide +kernel
theorem dX9_begins_1 : decode cX9_begins 1 = .ok (.istore_n 1, 1) := by decide +kernel
theorem dX9_begins_2 : decode cX9_begins 2 = .ok (.iload_n 1, 1) := by decide +kernel
theorem dX9_begins_3 : decode cX9_begins 3 = .ok (.sipush 314, 3) := by decide +kernel
theorem dX9_begins_6 : decode cX9_begins 6 = .ok (.if_icmp .ge 21, 3) := by decide +kernel
theorem dX9_begins_9 : decode cX9_begins 9 = .ok (.aload_n 0, 1) := by decide +kernel
theorem dX9_begins_10 : decode cX9_begins 10 = .ok (.getfield 13, 3) := by decide +kernel
theorem dX9_begins_13 : decode cX9_begins 13 = .ok (.iload_n 1, 1) := by decide +kernel
theorem dX9_begins_14 : decode cX9_begins 14 = .ok (.aload_n 0, 1) := by decide +kernel
theorem dX9_begins_15 : decode cX9_begins 15 = .ok (.getfield 7, 3) := by decide +kernel
theorem dX9_begins_18 : decode cX9_begins 18 = .ok (.iload_n 1, 1) := by decide +kernel
theorem dX9_begins_19 : decode cX9_begins 19 = .ok (.iaload, 1) := by decide +kernel
theorem dX9_begins_20 : decode cX9_begins 20 = .ok (.iastore, 1) := by decide +kernel
theorem dX9_begins_21 : decode cX9_begins 21 = .ok (.iinc 1 1, 3) := by decide +kernel
theorem dX9_begins_24 : decode cX9_begins 24 = .ok (.goto (-22), 3) := by decide +kernel
theorem dX9_begins_27 : decode cX9_begins 27 = .ok (.return_, 1) := by decide +kernel
theorem dX9_returns_0 : decode cX9_returns 0 = .ok (.iconst 0, 1) := by decide +kernel
theorem dX9_returns_1 : decode cX9_returns 1 = .ok (.istore_n 1, 1) := by decide +kernel
theorem dX9_returns_2 : decode cX9_returns 2 = .ok (.iload_n 1, 1) := by decide +kernel
theorem dX9_returns_3 : decode cX9_returns 3 = .ok (.sipush 314, 3) := by decide +kernel
theorem dX9_returns_6 : decode cX9_returns 6 = .ok (.if_icmp .ge 21, 3) := by decide +kernel
theorem dX9_returns_9 : decode cX9_returns 9 = .ok (.aload_n 0, 1) := by decide +kernel
theorem dX9_returns_10 : decode cX9_returns 10 = .ok (.getfield 7, 3) := by decide +kernel
theorem dX9_returns_13 : decode cX9_returns 13 = .ok (.iload_n 1, 1) := by decide +kernel
theorem dX9_returns_14 : decode cX9_returns 14 = .ok (.aload_n 0, 1) := by decide +kernel
theorem dX9_returns_15 : decode cX9_returns 15 = .ok (.getfield 13, 3) := by decide +kernel
theorem dX9_returns_18 : decode cX9_returns 18 = .ok (.iload_n 1, 1) := by decide +kernel
theorem dX9_returns_19 : decode cX9_returns 19 = .ok (.iaload, 1) := by decide +kernel
theorem dX9_returns_20 : decode cX9_returns 20 = .ok (.iastore, 1) := by decide +kernel
theorem dX9_returns_21 : decode cX9_returns 21 = .ok (.iinc 1 1, 3) := by decide +kernel
theorem dX9_returns_24 : decode cX9_returns 24 = .ok (.goto (-22), 3) := by decide +kernel
theorem dX9_returns_27 : decode cX9_returns 27 = .ok (.return_, 1) := by decide +kernel
theorem dX9_acted_0 : decode cX9_acted 0 = .ok (.iload_n 1, 1) := by decide +kernel
theorem dX9_acted_1 : decode cX9_acted 1 = .ok (.ifCond .ge 5, 3) := by decide +kernel
theorem dX9_acted_4 : decode cX9_acted 4 = .ok (.iload_n 1, 1) := by decide +kernel
theorem dX9_acted_5 : decode cX9_acted 5 = .ok (.ireturn, 1) := by decide +kernel
theorem dX9_acted_6 : decode cX9_acted 6 = .ok (.aload_n 0, 1) := by decide +kernel
theorem dX9_acted_7 : decode cX9_acted 7 = .ok (.getfield 25, 3) := by decide +kernel
theorem dX9_acted_10 : decode cX9_acted 10 = .ok (.iconst 4, 1) := by decide +kernel
theorem dX9_acted_11 : decode cX9_acted 11 = .ok (.if_icmp .ne 44, 3) := by decide +kernel
theorem dX9_acted_14 : decode cX9_acted 14 = .ok (.iconst 0, 1) := by decide +kernel
theorem dX9_acted_15 : decode cX9_acted 15 = .ok (.istore_n 2, 1) := by decide +kernel
theorem dX9_acted_16 : decode cX9_acted 16 = .ok (.iload_n 2, 1) := by decide +kernel
theorem dX9_acted_17 : decode cX9_acted 17 = .ok (.sipush 942, 3) := by decide +kernel
theorem dX9_acted_20 : decode cX9_acted 20 = .ok (.if_icmp .ge 25, 3) := by decide +kernel
theorem dX9_acted_23 : decode cX9_acted 23 = .ok (.aload_n 0, 1) := by decide +kernel
theorem dX9_acted_24 : decode cX9_acted 24 = .ok (.getfield 16, 3) := by decide +kernel
theorem dX9_acted_27 : decode cX9_acted 27 = .ok (.iload_n 2, 1) := by decide +kernel
theorem dX9_acted_28 : decode cX9_acted 28 = .ok (.aload_n 0, 1) := by decide +kernel
theorem dX9_acted_29 : decode cX9_acted 29 = .ok (.getfield 16, 3) := by decide +kernel
theorem dX9_acted_32 : decode cX9_acted 32 = .ok (.iload_n 2, 1) := by decide +kernel
theorem dX9_acted_33 : decode cX9_acted 33 = .ok (.sipush 314, 3) := by decide +kernel
theorem dX9_acted_36 : decode cX9_acted 36 = .ok (.iadd, 1) := by decide +kernel
theorem dX9_acted_37 : decode cX9_acted 37 = .ok (.iaload, 1) := by decide +kernel
theorem dX9_acted_38 : decode cX9_acted 38 = .ok (.iastore, 1) := by decide +kernel
theorem dX9_acted_39 : decode cX9_acted 39 = .ok (.iinc 2 1, 3) := by decide +kernel
theorem dX9_acted_42 : decode cX9_acted 42 = .ok (.goto (-26), 3) := by decide +kernel
theorem dX9_acted_45 : decode cX9_acted 45 = .ok (.aload_n 0, 1) := by decide +kernel
theorem dX9_acted_46 : decode cX9_acted 46 = .ok (.dup, 1) := by decide +kernel
theorem dX9_acted_47 : decode cX9_acted 47 = .ok (.getfield 25, 3) := by decide +kernel
theorem dX9_acted_50 : decode cX9_acted 50 = .ok (.iconst 1, 1) := by decide +kernel
theorem dX9_acted_51 : decode cX9_acted 51 = .ok (.isub, 1) := by decide +kernel
theorem dX9_acted_52 : decode cX9_acted 52 = .ok (.putfield 25, 3) := by decide +kernel
theorem dX9_acted_55 : decode cX9_acted 55 = .ok (.iconst 0, 1) := by decide +kernel
theorem dX9_acted_56 : decode cX9_acted 56 = .ok (.istore_n 2, 1) := by decide +kernel
theorem dX9_acted_57 : decode cX9_acted 57 = .ok (.iload_n 2, 1) := by decide +kernel
theorem dX9_acted_58 : decode cX9_acted 58 = .ok (.sipush 314, 3) := by decide +kernel
theorem dX9_acted_61 : decode cX9_acted 61 = .ok (.if_icmp .ge 30, 3) := by decide +kernel
theorem dX9_acted_64 : decode cX9_acted 64 = .ok (.aload_n 0, 1) := by decide +kernel
theorem dX9_acted_65 : decode cX9_acted 65 = .ok (.getfield 16, 3) := by decide +kernel
theorem dX9_acted_68 : decode cX9_acted 68 = .ok (.sipush 314, 3) := by decide +kernel
theorem dX9_acted_71 : decode cX9_acted 71 = .ok (.aload_n 0, 1) := by decide +kernel
theorem dX9_acted_72 : decode cX9_acted 72 = .ok (.getfield 25, 3) := by decide +kernel
theorem dX9_acted_75 : decode cX9_acted 75 = .ok (.imul, 1) := by decide +kernel
theorem dX9_acted_76 : decode cX9_acted 76 = .ok (.iload_n 2, 1) := by decide +kernel
theorem dX9_acted_77 : decode cX9_acted 77 = .ok (.iadd, 1) := by decide +kernel
theorem dX9_acted_78 : decode cX9_acted 78 = .ok (.aload_n 0, 1) := by decide +kernel
theorem dX9_acted_79 : decode cX9_acted 79 = .ok (.getfield 13, 3) := by decide +kernel
theorem dX9_acted_82 : decode cX9_acted 82 = .ok (.iload_n 2, 1) := by decide +kernel
theorem dX9_acted_83 : decode cX9_acted 83 = .ok (.iaload, 1) := by decide +kernel
theorem dX9_acted_84 : decode cX9_acted 84 = .ok (.iastore, 1) := by decide +kernel
theorem dX9_acted_85 : decode cX9_acted 85 = .ok (.iinc 2 1, 3) := by decide +kernel
theorem dX9_acted_88 : decode cX9_acted 88 = .ok (.goto (-31), 3) := by decide +kernel
theorem dX9_acted_91 : decode cX9_acted 91 = .ok (.aload_n 0, 1) := by decide +kernel
theorem dX9_acted_92 : decode cX9_acted 92 = .ok (.dup, 1) := by decide +kernel
theorem dX9_acted_93 : decode cX9_acted 93 = .ok (.getfield 25, 3) := by decide +kernel
theorem dX9_acted_96 : decode cX9_acted 96 = .ok (.iconst 1, 1) := by decide +kernel
theorem dX9_acted_97 : decode cX9_acted 97 = .ok (.iadd, 1) := by decide +kernel
theorem dX9_acted_98 : decode cX9_acted 98 = .ok (.putfield 25, 3) := by decide +kernel
theorem dX9_acted_101 : decode cX9_acted 101 = .ok (.iload_n 1, 1) := by decide +kernel
theorem dX9_acted_102 : decode cX9_acted 102 = .ok (.ireturn, 1) := by decide +kernel
set_option maxRecDepth 100000 in
theorem ggX9_isAddress_X9_in : GoodIn wsX9_isAddress wsX9_in := goodIn_r _ [5] rfl rfl
set_option maxRecDepth 100000 in
theorem gX9_isAddress_X9_in : GoodIn wsX9_isAddress (va_wsS RX9 29 yX9_in wsX9_in) := goodIn_app (goodIn_r _ [2, 3, 4] rfl rfl) ggX9_isAddress_X9_in
theorem dX9_isAddress_0 : decode cX9_isAddress 0 = .ok (.iload_n 1, 1) := by decide +kernel
theorem dX9_isAddress_1 : decode cX9_isAddress 1 = .ok (.iconst 0, 1) := by decide +kernel
theorem dX9_isAddress_2 : decode cX9_isAddress 2 = .ok (.aload_n 0, 1) := by decide +kernel
theorem dX9_isAddress_3 : decode cX9_isAddress 3 = .ok (.getfield 7, 3) := by decide +kernel
theorem dX9_isAddress_6 : decode cX9_isAddress 6 = .ok (.iconst 0, 1) := by decide +kernel
theorem dX9_isAddress_7 : decode cX9_isAddress 7 = .ok (.iaload, 1) := by decide +kernel
theorem dX9_isAddress_8 : decode cX9_isAddress 8 = .ok (.iconst 1, 1) := by decide +kernel
theorem dX9_isAddress_9 : decode cX9_isAddress 9 = .ok (.isub, 1) := by decide +kernel
theorem dX9_isAddress_10 : decode cX9_isAddress 10 = .ok (.invokestatic 29, 3) := by decide +kernel
theorem dX9_isAddress_13 : decode cX9_isAddress 13 = .ok (.ireturn, 1) := by decide +kernel
set_option maxRecDepth 100000 in
theorem ggX9_isStaff_X9_in : GoodIn wsX9_isStaff wsX9_in := goodIn_r _ [5] rfl rfl
set_option maxRecDepth 100000 in
theorem gX9_isStaff_X9_in : GoodIn wsX9_isStaff (va_wsS RX9 29 yX9_in wsX9_in) := goodIn_app (goodIn_r _ [2, 3, 4] rfl rfl) ggX9_isStaff_X9_in
theorem dX9_isStaff_0 : decode cX9_isStaff 0 = .ok (.iload_n 1, 1) := by decide +kernel
theorem dX9_isStaff_1 : decode cX9_isStaff 1 = .ok (.iconst 0, 1) := by decide +kernel
theorem dX9_isStaff_2 : decode cX9_isStaff 2 = .ok (.aload_n 0, 1) := by decide +kernel
theorem dX9_isStaff_3 : decode cX9_isStaff 3 = .ok (.getfield 7, 3) := by decide +kernel
theorem dX9_isStaff_6 : decode cX9_isStaff 6 = .ok (.iconst 1, 1) := by decide +kernel
theorem dX9_isStaff_7 : decode cX9_isStaff 7 = .ok (.iaload, 1) := by decide +kernel
theorem dX9_isStaff_8 : decode cX9_isStaff 8 = .ok (.iconst 1, 1) := by decide +kernel
theorem dX9_isStaff_9 : decode cX9_isStaff 9 = .ok (.isub, 1) := by decide +kernel
theorem dX9_isStaff_10 : decode cX9_isStaff 10 = .ok (.invokestatic 29, 3) := by decide +kernel
theorem dX9_isStaff_13 : decode cX9_isStaff 13 = .ok (.ireturn, 1) := by decide +kernel
set_option maxRecDepth 100000 in
theorem ggX9_isCell_X9_in : GoodIn wsX9_isCell wsX9_in := goodIn_r _ [4] rfl rfl
set_option maxRecDepth 100000 in
theorem gX9_isCell_X9_in : GoodIn wsX9_isCell (va_wsS RX9 29 yX9_in wsX9_in) := goodIn_app (goodIn_r _ [1, 2, 3] rfl rfl) ggX9_isCell_X9_in
theorem dX9_isCell_0 : decode cX9_isCell 0 = .ok (.iload_n 0, 1) := by decide +kernel
theorem dX9_isCell_1 : decode cX9_isCell 1 = .ok (.iconst 0, 1) := by decide +kernel
theorem dX9_isCell_2 : decode cX9_isCell 2 = .ok (.iconst 3, 1) := by decide +kernel
theorem dX9_isCell_3 : decode cX9_isCell 3 = .ok (.invokestatic 29, 3) := by decide +kernel
theorem dX9_isCell_6 : decode cX9_isCell 6 = .ok (.ifCond .eq 16, 3) := by decide +kernel
theorem dX9_isCell_9 : decode cX9_isCell 9 = .ok (.iload_n 1, 1) := by decide +kernel
theorem dX9_isCell_10 : decode cX9_isCell 10 = .ok (.iconst 0, 1) := by decide +kernel
theorem dX9_isCell_11 : decode cX9_isCell 11 = .ok (.iconst 2, 1) := by decide +kernel
theorem dX9_isCell_12 : decode cX9_isCell 12 = .ok (.invokestatic 29, 3) := by decide +kernel
theorem dX9_isCell_15 : decode cX9_isCell 15 = .ok (.ifCond .eq 7, 3) := by decide +kernel
theorem dX9_isCell_18 : decode cX9_isCell 18 = .ok (.iconst 1, 1) := by decide +kernel
theorem dX9_isCell_19 : decode cX9_isCell 19 = .ok (.goto 4, 3) := by decide +kernel
theorem dX9_isCell_22 : decode cX9_isCell 22 = .ok (.iconst 0, 1) := by decide +kernel
theorem dX9_isCell_23 : decode cX9_isCell 23 = .ok (.ireturn, 1) := by decide +kernel
theorem dX9_of_0 : decode cX9_of 0 = .ok (.aload_n 0, 1) := by decide +kernel
theorem dX9_of_1 : decode cX9_of 1 = .ok (.getfield 7, 3) := by decide +kernel
theorem dX9_of_4 : decode cX9_of 4 = .ok (.bipush 74, 2) := by decide +kernel
theorem dX9_of_6 : decode cX9_of 6 = .ok (.bipush 10, 2) := by decide +kernel
theorem dX9_of_8 : decode cX9_of 8 = .ok (.iload_n 1, 1) := by decide +kernel
theorem dX9_of_9 : decode cX9_of 9 = .ok (.imul, 1) := by decide +kernel
theorem dX9_of_10 : decode cX9_of 10 = .ok (.iadd, 1) := by decide +kernel
theorem dX9_of_11 : decode cX9_of 11 = .ok (.iload_n 2, 1) := by decide +kernel
theorem dX9_of_12 : decode cX9_of 12 = .ok (.iadd, 1) := by decide +kernel
theorem dX9_of_13 : decode cX9_of 13 = .ok (.iaload, 1) := by decide +kernel
theorem dX9_of_14 : decode cX9_of 14 = .ok (.ireturn, 1) := by decide +kernel
theorem dX9_ofWho_0 : decode cX9_ofWho 0 = .ok (.aload_n 0, 1) := by decide +kernel
theorem dX9_ofWho_1 : decode cX9_ofWho 1 = .ok (.getfield 7, 3) := by decide +kernel
theorem dX9_ofWho_4 : decode cX9_ofWho 4 = .ok (.bipush 44, 2) := by decide +kernel
theorem dX9_ofWho_6 : decode cX9_ofWho 6 = .ok (.bipush 6, 2) := by decide +kernel
theorem dX9_ofWho_8 : decode cX9_ofWho 8 = .ok (.iload_n 1, 1) := by decide +kernel
theorem dX9_ofWho_9 : decode cX9_ofWho 9 = .ok (.imul, 1) := by decide +kernel
theorem dX9_ofWho_10 : decode cX9_ofWho 10 = .ok (.iadd, 1) := by decide +kernel
theorem dX9_ofWho_11 : decode cX9_ofWho 11 = .ok (.iload_n 2, 1) := by decide +kernel
theorem dX9_ofWho_12 : decode cX9_ofWho 12 = .ok (.iadd, 1) := by decide +kernel
theorem dX9_ofWho_13 : decode cX9_ofWho 13 = .ok (.iaload, 1) := by decide +kernel
theorem dX9_ofWho_14 : decode cX9_ofWho 14 = .ok (.ireturn, 1) := by decide +kernel
theorem dX9_ofCell_0 : decode cX9_ofCell 0 = .ok (.aload_n 0, 1) := by decide +kernel
theorem dX9_ofCell_1 : decode cX9_ofCell 1 = .ok (.getfield 7, 3) := by decide +kernel
theorem dX9_ofCell_4 : decode cX9_ofCell 4 = .ok (.bipush 8, 2) := by decide +kernel
theorem dX9_ofCell_6 : decode cX9_ofCell 6 = .ok (.iconst 3, 1) := by decide +kernel
theorem dX9_ofCell_7 : decode cX9_ofCell 7 = .ok (.iconst 3, 1) := by decide +kernel
theorem dX9_ofCell_8 : decode cX9_ofCell 8 = .ok (.iload_n 1, 1) := by decide +kernel
theorem dX9_ofCell_9 : decode cX9_ofCell 9 = .ok (.imul, 1) := by decide +kernel
theorem dX9_ofCell_10 : decode cX9_ofCell 10 = .ok (.iload_n 2, 1) := by decide +kernel
theorem dX9_ofCell_11 : decode cX9_ofCell 11 = .ok (.iadd, 1) := by decide +kernel
theorem dX9_ofCell_12 : decode cX9_ofCell 12 = .ok (.imul, 1) := by decide +kernel
theorem dX9_ofCell_13 : decode cX9_ofCell 13 = .ok (.iadd, 1) := by decide +kernel
theorem dX9_ofCell_14 : decode cX9_ofCell 14 = .ok (.iload_n 3, 1) := by decide +kernel
theorem dX9_ofCell_15 : decode cX9_ofCell 15 = .ok (.iadd, 1) := by decide +kernel
theorem dX9_ofCell_16 : decode cX9_ofCell 16 = .ok (.iaload, 1) := by decide +kernel
theorem dX9_ofCell_17 : decode cX9_ofCell 17 = .ok (.ireturn, 1) := by decide +kernel
set_option maxRecDepth 100000 in
theorem ggX9_isOpen_X9_of : GoodIn wsX9_isOpen wsX9_of := goodIn_r _ [5, 6, 7, 8, 9, 10, 11, 12, 13, 14, 15, 16] rfl rfl
set_option maxRecDepth 100000 in
theorem gX9_isOpen_X9_of : GoodIn wsX9_isOpen (wsV RX9 33 RX9 yX9_of wsX9_of) := goodIn_app (goodIn_r _ [1, 2, 3, 4] rfl rfl) ggX9_isOpen_X9_of
theorem dX9_isOpen_0 : decode cX9_isOpen 0 = .ok (.aload_n 0, 1) := by decide +kernel
theorem dX9_isOpen_1 : decode cX9_isOpen 1 = .ok (.iload_n 1, 1) := by decide +kernel
theorem dX9_isOpen_2 : decode cX9_isOpen 2 = .ok (.iconst 1, 1) := by decide +kernel
theorem dX9_isOpen_3 : decode cX9_isOpen 3 = .ok (.invokevirtual 33, 3) := by decide +kernel
theorem dX9_isOpen_6 : decode cX9_isOpen 6 = .ok (.ifCond .ne 7, 3) := by decide +kernel
theorem dX9_isOpen_9 : decode cX9_isOpen 9 = .ok (.iconst 1, 1) := by decide +kernel
theorem dX9_isOpen_10 : decode cX9_isOpen 10 = .ok (.goto 4, 3) := by decide +kernel
theorem dX9_isOpen_13 : decode cX9_isOpen 13 = .ok (.iconst 0, 1) := by decide +kernel
theorem dX9_isOpen_14 : decode cX9_isOpen 14 = .ok (.ireturn, 1) := by decide +kernel
set_option maxRecDepth 100000 in
theorem ggX9_isFixed_X9_isOpen : GoodIn wsX9_isFixed wsX9_isOpen := goodIn_r _ [5, 6, 7, 8, 4, 9, 10, 11, 12, 13, 14, 15, 16, 17, 18, 19, 20] rfl rfl
set_option maxRecDepth 100000 in
theorem gX9_isFixed_X9_isOpen : GoodIn wsX9_isFixed (wsV RX9 37 RX9 yX9_isOpen wsX9_isOpen) := goodIn_app (goodIn_r _ [1, 2, 3, 4] rfl rfl) ggX9_isFixed_X9_isOpen
set_option maxRecDepth 100000 in
theorem ggX9_isFixed_X9_of : GoodIn wsX9_isFixed wsX9_of := goodIn_r _ [9, 10, 11, 12, 13, 14, 15, 16, 17, 18, 19, 20] rfl rfl
set_option maxRecDepth 100000 in
theorem gX9_isFixed_X9_of : GoodIn wsX9_isFixed (wsV RX9 33 RX9 yX9_of wsX9_of) := goodIn_app (goodIn_r _ [6, 7, 8, 4] rfl rfl) ggX9_isFixed_X9_of
theorem dX9_isFixed_0 : decode cX9_isFixed 0 = .ok (.aload_n 0, 1) := by decide +kernel
theorem dX9_isFixed_1 : decode cX9_isFixed 1 = .ok (.iload_n 1, 1) := by decide +kernel
theorem dX9_isFixed_2 : decode cX9_isFixed 2 = .ok (.invokevirtual 37, 3) := by decide +kernel
theorem dX9_isFixed_5 : decode cX9_isFixed 5 = .ok (.ifCond .eq 17, 3) := by decide +kernel
theorem dX9_isFixed_8 : decode cX9_isFixed 8 = .ok (.aload_n 0, 1) := by decide +kernel
theorem dX9_isFixed_9 : decode cX9_isFixed 9 = .ok (.iload_n 1, 1) := by decide +kernel
theorem dX9_isFixed_10 : decode cX9_isFixed 10 = .ok (.bipush 6, 2) := by decide +kernel
theorem dX9_isFixed_12 : decode cX9_isFixed 12 = .ok (.invokevirtual 33, 3) := by decide +kernel
theorem dX9_isFixed_15 : decode cX9_isFixed 15 = .ok (.ifCond .le 7, 3) := by decide +kernel
theorem dX9_isFixed_18 : decode cX9_isFixed 18 = .ok (.iconst 1, 1) := by decide +kernel
theorem dX9_isFixed_19 : decode cX9_isFixed 19 = .ok (.goto 4, 3) := by decide +kernel
theorem dX9_isFixed_22 : decode cX9_isFixed 22 = .ok (.iconst 0, 1) := by decide +kernel
theorem dX9_isFixed_23 : decode cX9_isFixed 23 = .ok (.ireturn, 1) := by decide +kernel
set_option maxRecDepth 100000 in
theorem ggX9_isOver_X9_isFixed : GoodIn wsX9_isOver wsX9_isFixed := goodIn_r _ [6, 7, 8, 9, 5, 10, 11, 12, 13, 14, 1, 15, 16, 17, 18, 19, 20, 21, 22, 23, 24] rfl rfl
set_option maxRecDepth 100000 in
theorem gX9_isOver_X9_isFixed : GoodIn wsX9_isOver (wsV RX9 41 RX9 yX9_isFixed wsX9_isFixed) := goodIn_app (goodIn_r _ [2, 3, 4, 5] rfl rfl) ggX9_isOver_X9_isFixed
set_option maxRecDepth 100000 in
theorem ggX9_isOver_X9_of : GoodIn wsX9_isOver wsX9_of := goodIn_r _ [14, 1, 15, 16, 17, 18, 19, 20, 21, 22, 23, 24] rfl rfl
set_option maxRecDepth 100000 in
theorem gX9_isOver_X9_of : GoodIn wsX9_isOver (wsV RX9 33 RX9 yX9_of wsX9_of) := goodIn_app (goodIn_r _ [11, 12, 13, 5] rfl rfl) ggX9_isOver_X9_of
theorem dX9_isOver_0 : decode cX9_isOver 0 = .ok (.aload_n 0, 1) := by decide +kernel
theorem dX9_isOver_1 : decode cX9_isOver 1 = .ok (.iload_n 1, 1) := by decide +kernel
theorem dX9_isOver_2 : decode cX9_isOver 2 = .ok (.invokevirtual 41, 3) := by decide +kernel
theorem dX9_isOver_5 : decode cX9_isOver 5 = .ok (.ifCond .eq 25, 3) := by decide +kernel
theorem dX9_isOver_8 : decode cX9_isOver 8 = .ok (.aload_n 0, 1) := by decide +kernel
theorem dX9_isOver_9 : decode cX9_isOver 9 = .ok (.iload_n 1, 1) := by decide +kernel
theorem dX9_isOver_10 : decode cX9_isOver 10 = .ok (.bipush 6, 2) := by decide +kernel
theorem dX9_isOver_12 : decode cX9_isOver 12 = .ok (.invokevirtual 33, 3) := by decide +kernel
theorem dX9_isOver_15 : decode cX9_isOver 15 = .ok (.iconst 1, 1) := by decide +kernel
theorem dX9_isOver_16 : decode cX9_isOver 16 = .ok (.isub, 1) := by decide +kernel
theorem dX9_isOver_17 : decode cX9_isOver 17 = .ok (.aload_n 0, 1) := by decide +kernel
theorem dX9_isOver_18 : decode cX9_isOver 18 = .ok (.getfield 7, 3) := by decide +kernel
theorem dX9_isOver_21 : decode cX9_isOver 21 = .ok (.iconst 2, 1) := by decide +kernel
theorem dX9_isOver_22 : decode cX9_isOver 22 = .ok (.iaload, 1) := by decide +kernel
theorem dX9_isOver_23 : decode cX9_isOver 23 = .ok (.if_icmp .ge 7, 3) := by decide +kernel
theorem dX9_isOver_26 : decode cX9_isOver 26 = .ok (.iconst 1, 1) := by decide +kernel
theorem dX9_isOver_27 : decode cX9_isOver 27 = .ok (.goto 4, 3) := by decide +kernel
theorem dX9_isOver_30 : decode cX9_isOver 30 = .ok (.iconst 0, 1) := by decide +kernel
theorem dX9_isOver_31 : decode cX9_isOver 31 = .ok (.ireturn, 1) := by decide +kernel
set_option maxRecDepth 100000 in
theorem ggX9_wanted_X9_ofCell : GoodIn wsX9_wanted wsX9_ofCell := goodIn_r _ [5, 6, 7, 8, 9, 10, 11, 12, 13, 14, 15, 16] rfl rfl
set_option maxRecDepth 100000 in
theorem gX9_wanted_X9_ofCell : GoodIn wsX9_wanted (wsV RX9 44 RX9 yX9_ofCell wsX9_ofCell) := goodIn_app (goodIn_r _ [1, 2, 3, 4] rfl rfl) ggX9_wanted_X9_ofCell
theorem dX9_wanted_0 : decode cX9_wanted 0 = .ok (.aload_n 0, 1) := by decide +kernel
theorem dX9_wanted_1 : decode cX9_wanted 1 = .ok (.iload_n 1, 1) := by decide +kernel
theorem dX9_wanted_2 : decode cX9_wanted 2 = .ok (.iload_n 2, 1) := by decide +kernel
theorem dX9_wanted_3 : decode cX9_wanted 3 = .ok (.iconst 0, 1) := by decide +kernel
theorem dX9_wanted_4 : decode cX9_wanted 4 = .ok (.invokevirtual 44, 3) := by decide +kernel
theorem dX9_wanted_7 : decode cX9_wanted 7 = .ok (.aload_n 0, 1) := by decide +kernel
theorem dX9_wanted_8 : decode cX9_wanted 8 = .ok (.iload_n 1, 1) := by decide +kernel
theorem dX9_wanted_9 : decode cX9_wanted 9 = .ok (.iload_n 2, 1) := by decide +kernel
theorem dX9_wanted_10 : decode cX9_wanted 10 = .ok (.iconst 1, 1) := by decide +kernel
theorem dX9_wanted_11 : decode cX9_wanted 11 = .ok (.invokevirtual 44, 3) := by decide +kernel
theorem dX9_wanted_14 : decode cX9_wanted 14 = .ok (.isub, 1) := by decide +kernel
theorem dX9_wanted_15 : decode cX9_wanted 15 = .ok (.istore_n 3, 1) := by decide +kernel
theorem dX9_wanted_16 : decode cX9_wanted 16 = .ok (.iload_n 3, 1) := by decide +kernel
theorem dX9_wanted_17 : decode cX9_wanted 17 = .ok (.ifCond .ge 7, 3) := by decide +kernel
theorem dX9_wanted_20 : decode cX9_wanted 20 = .ok (.iconst 0, 1) := by decide +kernel
theorem dX9_wanted_21 : decode cX9_wanted 21 = .ok (.goto 4, 3) := by decide +kernel
theorem dX9_wanted_24 : decode cX9_wanted 24 = .ok (.iload_n 3, 1) := by decide +kernel
theorem dX9_wanted_25 : decode cX9_wanted 25 = .ok (.ireturn, 1) := by decide +kernel
set_option maxRecDepth 100000 in
theorem ggX9_adds_X9_in : GoodIn wsX9_adds wsX9_in := goodIn_r _ [5] rfl rfl
set_option maxRecDepth 100000 in
theorem gX9_adds_X9_in : GoodIn wsX9_adds (va_wsS RX9 29 yX9_in wsX9_in) := goodIn_app (goodIn_r _ [2, 3, 4] rfl rfl) ggX9_adds_X9_in
theorem dX9_adds_0 : decode cX9_adds 0 = .ok (.iload_n 1, 1) := by decide +kernel
theorem dX9_adds_1 : decode cX9_adds 1 = .ok (.iconst 0, 1) := by decide +kernel
theorem dX9_adds_2 : decode cX9_adds 2 = .ok (.iconst 3, 1) := by decide +kernel
theorem dX9_adds_3 : decode cX9_adds 3 = .ok (.invokestatic 29, 3) := by decide +kernel
theorem dX9_adds_6 : decode cX9_adds 6 = .ok (.ifCond .ne 5, 3) := by decide +kernel
theorem dX9_adds_9 : decode cX9_adds 9 = .ok (.iconst (-1), 1) := by decide +kernel
theorem dX9_adds_10 : decode cX9_adds 10 = .ok (.ireturn, 1) := by decide +kernel
theorem dX9_adds_11 : decode cX9_adds 11 = .ok (.aload_n 0, 1) := by decide +kernel
theorem dX9_adds_12 : decode cX9_adds 12 = .ok (.getfield 7, 3) := by decide +kernel
theorem dX9_adds_15 : decode cX9_adds 15 = .ok (.iconst 0, 1) := by decide +kernel
theorem dX9_adds_16 : decode cX9_adds 16 = .ok (.iaload, 1) := by decide +kernel
theorem dX9_adds_17 : decode cX9_adds 17 = .ok (.bipush 24, 2) := by decide +kernel
theorem dX9_adds_19 : decode cX9_adds 19 = .ok (.if_icmp .ne 6, 3) := by decide +kernel
theorem dX9_adds_22 : decode cX9_adds 22 = .ok (.bipush (-3), 2) := by decide +kernel
theorem dX9_adds_24 : decode cX9_adds 24 = .ok (.ireturn, 1) := by decide +kernel
theorem dX9_adds_25 : decode cX9_adds 25 = .ok (.aload_n 0, 1) := by decide +kernel
theorem dX9_adds_26 : decode cX9_adds 26 = .ok (.getfield 7, 3) := by decide +kernel
theorem dX9_adds_29 : decode cX9_adds 29 = .ok (.bipush 74, 2) := by decide +kernel
theorem dX9_adds_31 : decode cX9_adds 31 = .ok (.bipush 10, 2) := by decide +kernel
theorem dX9_adds_33 : decode cX9_adds 33 = .ok (.aload_n 0, 1) := by decide +kernel
theorem dX9_adds_34 : decode cX9_adds 34 = .ok (.getfield 7, 3) := by decide +kernel
theorem dX9_adds_37 : decode cX9_adds 37 = .ok (.iconst 0, 1) := by decide +kernel
theorem dX9_adds_38 : decode cX9_adds 38 = .ok (.iaload, 1) := by decide +kernel
theorem dX9_adds_39 : decode cX9_adds 39 = .ok (.imul, 1) := by decide +kernel
theorem dX9_adds_40 : decode cX9_adds 40 = .ok (.iadd, 1) := by decide +kernel
theorem dX9_adds_41 : decode cX9_adds 41 = .ok (.iconst 0, 1) := by decide +kernel
theorem dX9_adds_42 : decode cX9_adds 42 = .ok (.iadd, 1) := by decide +kernel
theorem dX9_adds_43 : decode cX9_adds 43 = .ok (.iload_n 1, 1) := by decide +kernel
theorem dX9_adds_44 : decode cX9_adds 44 = .ok (.iastore, 1) := by decide +kernel
theorem dX9_adds_45 : decode cX9_adds 45 = .ok (.aload_n 0, 1) := by decide +kernel
theorem dX9_adds_46 : decode cX9_adds 46 = .ok (.getfield 7, 3) := by decide +kernel
theorem dX9_adds_49 : decode cX9_adds 49 = .ok (.iconst 0, 1) := by decide +kernel
theorem dX9_adds_50 : decode cX9_adds 50 = .ok (.dup2, 1) := by decide +kernel
theorem dX9_adds_51 : decode cX9_adds 51 = .ok (.iaload, 1) := by decide +kernel
theorem dX9_adds_52 : decode cX9_adds 52 = .ok (.iconst 1, 1) := by decide +kernel
theorem dX9_adds_53 : decode cX9_adds 53 = .ok (.iadd, 1) := by decide +kernel
theorem dX9_adds_54 : decode cX9_adds 54 = .ok (.iastore, 1) := by decide +kernel
theorem dX9_adds_55 : decode cX9_adds 55 = .ok (.aload_n 0, 1) := by decide +kernel
theorem dX9_adds_56 : decode cX9_adds 56 = .ok (.getfield 7, 3) := by decide +kernel
theorem dX9_adds_59 : decode cX9_adds 59 = .ok (.iconst 0, 1) := by decide +kernel
theorem dX9_adds_60 : decode cX9_adds 60 = .ok (.iaload, 1) := by decide +kernel
theorem dX9_adds_61 : decode cX9_adds 61 = .ok (.iconst 1, 1) := by decide +kernel
theorem dX9_adds_62 : decode cX9_adds 62 = .ok (.isub, 1) := by decide +kernel
theorem dX9_adds_63 : decode cX9_adds 63 = .ok (.ireturn, 1) := by decide +kernel
set_option maxRecDepth 100000 in
theorem ggX9_comes_X9_in : GoodIn wsX9_comes wsX9_in := goodIn_r _ [5] rfl rfl
set_option maxRecDepth 100000 in
theorem gX9_comes_X9_in : GoodIn wsX9_comes (va_wsS RX9 29 yX9_in wsX9_in) := goodIn_app (goodIn_r _ [2, 3, 4] rfl rfl) ggX9_comes_X9_in
theorem dX9_comes_0 : decode cX9_comes 0 = .ok (.iload_n 1, 1) := by decide +kernel
theorem dX9_comes_1 : decode cX9_comes 1 = .ok (.iconst 0, 1) := by decide +kernel
theorem dX9_comes_2 : decode cX9_comes 2 = .ok (.iconst 3, 1) := by decide +kernel
theorem dX9_comes_3 : decode cX9_comes 3 = .ok (.invokestatic 29, 3) := by decide +kernel
theorem dX9_comes_6 : decode cX9_comes 6 = .ok (.ifCond .eq 13, 3) := by decide +kernel
theorem dX9_comes_9 : decode cX9_comes 9 = .ok (.iload_n 2, 1) := by decide +kernel
theorem dX9_comes_10 : decode cX9_comes 10 = .ok (.iconst 1, 1) := by decide +kernel
theorem dX9_comes_11 : decode cX9_comes 11 = .ok (.bipush 9, 2) := by decide +kernel
theorem dX9_comes_13 : decode cX9_comes 13 = .ok (.invokestatic 29, 3) := by decide +kernel
theorem dX9_comes_16 : decode cX9_comes 16 = .ok (.ifCond .ne 5, 3) := by decide +kernel
theorem dX9_comes_19 : decode cX9_comes 19 = .ok (.iconst (-1), 1) := by decide +kernel
theorem dX9_comes_20 : decode cX9_comes 20 = .ok (.ireturn, 1) := by decide +kernel
theorem dX9_comes_21 : decode cX9_comes 21 = .ok (.aload_n 0, 1) := by decide +kernel
theorem dX9_comes_22 : decode cX9_comes 22 = .ok (.getfield 7, 3) := by decide +kernel
theorem dX9_comes_25 : decode cX9_comes 25 = .ok (.iconst 1, 1) := by decide +kernel
theorem dX9_comes_26 : decode cX9_comes 26 = .ok (.iaload, 1) := by decide +kernel
theorem dX9_comes_27 : decode cX9_comes 27 = .ok (.iconst 5, 1) := by decide +kernel
theorem dX9_comes_28 : decode cX9_comes 28 = .ok (.if_icmp .ne 6, 3) := by decide +kernel
theorem dX9_comes_31 : decode cX9_comes 31 = .ok (.bipush (-3), 2) := by decide +kernel
theorem dX9_comes_33 : decode cX9_comes 33 = .ok (.ireturn, 1) := by decide +kernel
theorem dX9_comes_34 : decode cX9_comes 34 = .ok (.aload_n 0, 1) := by decide +kernel
theorem dX9_comes_35 : decode cX9_comes 35 = .ok (.getfield 7, 3) := by decide +kernel
theorem dX9_comes_38 : decode cX9_comes 38 = .ok (.bipush 44, 2) := by decide +kernel
theorem dX9_comes_40 : decode cX9_comes 40 = .ok (.bipush 6, 2) := by decide +kernel
theorem dX9_comes_42 : decode cX9_comes 42 = .ok (.aload_n 0, 1) := by decide +kernel
theorem dX9_comes_43 : decode cX9_comes 43 = .ok (.getfield 7, 3) := by decide +kernel
theorem dX9_comes_46 : decode cX9_comes 46 = .ok (.iconst 1, 1) := by decide +kernel
theorem dX9_comes_47 : decode cX9_comes 47 = .ok (.iaload, 1) := by decide +kernel
theorem dX9_comes_48 : decode cX9_comes 48 = .ok (.imul, 1) := by decide +kernel
theorem dX9_comes_49 : decode cX9_comes 49 = .ok (.iadd, 1) := by decide +kernel
theorem dX9_comes_50 : decode cX9_comes 50 = .ok (.iconst 0, 1) := by decide +kernel
theorem dX9_comes_51 : decode cX9_comes 51 = .ok (.iadd, 1) := by decide +kernel
theorem dX9_comes_52 : decode cX9_comes 52 = .ok (.iload_n 1, 1) := by decide +kernel
theorem dX9_comes_53 : decode cX9_comes 53 = .ok (.iastore, 1) := by decide +kernel
theorem dX9_comes_54 : decode cX9_comes 54 = .ok (.aload_n 0, 1) := by decide +kernel
theorem dX9_comes_55 : decode cX9_comes 55 = .ok (.getfield 7, 3) := by decide +kernel
theorem dX9_comes_58 : decode cX9_comes 58 = .ok (.bipush 44, 2) := by decide +kernel
theorem dX9_comes_60 : decode cX9_comes 60 = .ok (.bipush 6, 2) := by decide +kernel
theorem dX9_comes_62 : decode cX9_comes 62 = .ok (.aload_n 0, 1) := by decide +kernel
theorem dX9_comes_63 : decode cX9_comes 63 = .ok (.getfield 7, 3) := by decide +kernel
theorem dX9_comes_66 : decode cX9_comes 66 = .ok (.iconst 1, 1) := by decide +kernel
theorem dX9_comes_67 : decode cX9_comes 67 = .ok (.iaload, 1) := by decide +kernel
theorem dX9_comes_68 : decode cX9_comes 68 = .ok (.imul, 1) := by decide +kernel
theorem dX9_comes_69 : decode cX9_comes 69 = .ok (.iadd, 1) := by decide +kernel
theorem dX9_comes_70 : decode cX9_comes 70 = .ok (.iconst 1, 1) := by decide +kernel
theorem dX9_comes_71 : decode cX9_comes 71 = .ok (.iadd, 1) := by decide +kernel
theorem dX9_comes_72 : decode cX9_comes 72 = .ok (.iload_n 2, 1) := by decide +kernel
theorem dX9_comes_73 : decode cX9_comes 73 = .ok (.iastore, 1) := by decide +kernel
theorem dX9_comes_74 : decode cX9_comes 74 = .ok (.aload_n 0, 1) := by decide +kernel
theorem dX9_comes_75 : decode cX9_comes 75 = .ok (.getfield 7, 3) := by decide +kernel
theorem dX9_comes_78 : decode cX9_comes 78 = .ok (.iconst 1, 1) := by decide +kernel
theorem dX9_comes_79 : decode cX9_comes 79 = .ok (.dup2, 1) := by decide +kernel
theorem dX9_comes_80 : decode cX9_comes 80 = .ok (.iaload, 1) := by decide +kernel
theorem dX9_comes_81 : decode cX9_comes 81 = .ok (.iconst 1, 1) := by decide +kernel
theorem dX9_comes_82 : decode cX9_comes 82 = .ok (.iadd, 1) := by decide +kernel
theorem dX9_comes_83 : decode cX9_comes 83 = .ok (.iastore, 1) := by decide +kernel
theorem dX9_comes_84 : decode cX9_comes 84 = .ok (.aload_n 0, 1) := by decide +kernel
theorem dX9_comes_85 : decode cX9_comes 85 = .ok (.getfield 7, 3) := by decide +kernel
theorem dX9_comes_88 : decode cX9_comes 88 = .ok (.iconst 1, 1) := by decide +kernel
theorem dX9_comes_89 : decode cX9_comes 89 = .ok (.iaload, 1) := by decide +kernel
theorem dX9_comes_90 : decode cX9_comes 90 = .ok (.iconst 1, 1) := by decide +kernel
theorem dX9_comes_91 : decode cX9_comes 91 = .ok (.isub, 1) := by decide +kernel
theorem dX9_comes_92 : decode cX9_comes 92 = .ok (.ireturn, 1) := by decide +kernel
theorem dX9_puts_0 : decode cX9_puts 0 = .ok (.bipush 8, 2) := by decide +kernel
theorem dX9_puts_2 : decode cX9_puts 2 = .ok (.iconst 3, 1) := by decide +kernel
theorem dX9_puts_3 : decode cX9_puts 3 = .ok (.iconst 3, 1) := by decide +kernel
theorem dX9_puts_4 : decode cX9_puts 4 = .ok (.iload_n 1, 1) := by decide +kernel
theorem dX9_puts_5 : decode cX9_puts 5 = .ok (.imul, 1) := by decide +kernel
theorem dX9_puts_6 : decode cX9_puts 6 = .ok (.iload_n 2, 1) := by decide +kernel
theorem dX9_puts_7 : decode cX9_puts 7 = .ok (.iadd, 1) := by decide +kernel
theorem dX9_puts_8 : decode cX9_puts 8 = .ok (.imul, 1) := by decide +kernel
theorem dX9_puts_9 : decode cX9_puts 9 = .ok (.iadd, 1) := by decide +kernel
theorem dX9_puts_10 : decode cX9_puts 10 = .ok (.iload_n 3, 1) := by decide +kernel
theorem dX9_puts_11 : decode cX9_puts 11 = .ok (.iadd, 1) := by decide +kernel
theorem dX9_puts_12 : decode cX9_puts 12 = .ok (.istore 5, 2) := by decide +kernel
theorem dX9_puts_14 : decode cX9_puts 14 = .ok (.aload_n 0, 1) := by decide +kernel
theorem dX9_puts_15 : decode cX9_puts 15 = .ok (.getfield 7, 3) := by decide +kernel
theorem dX9_puts_18 : decode cX9_puts 18 = .ok (.iload 5, 2) := by decide +kernel
theorem dX9_puts_20 : decode cX9_puts 20 = .ok (.iaload, 1) := by decide +kernel
theorem dX9_puts_21 : decode cX9_puts 21 = .ok (.istore 6, 2) := by decide +kernel
theorem dX9_puts_23 : decode cX9_puts 23 = .ok (.aload_n 0, 1) := by decide +kernel
theorem dX9_puts_24 : decode cX9_puts 24 = .ok (.getfield 7, 3) := by decide +kernel
theorem dX9_puts_27 : decode cX9_puts 27 = .ok (.iload 5, 2) := by decide +kernel
theorem dX9_puts_29 : decode cX9_puts 29 = .ok (.iload 4, 2) := by decide +kernel
theorem dX9_puts_31 : decode cX9_puts 31 = .ok (.iastore, 1) := by decide +kernel
theorem dX9_puts_32 : decode cX9_puts 32 = .ok (.iload 6, 2) := by decide +kernel
theorem dX9_puts_34 : decode cX9_puts 34 = .ok (.ireturn, 1) := by decide +kernel
set_option maxRecDepth 100000 in
theorem ggX9_limits_X9_isCell : GoodIn wsX9_limits wsX9_isCell := goodIn_r _ [4, 5, 6, 3, 7] rfl rfl
set_option maxRecDepth 100000 in
theorem gX9_limits_X9_isCell : GoodIn wsX9_limits (va_wsS RX9 48 yX9_isCell wsX9_isCell) := goodIn_app (goodIn_r _ [1, 2, 3] rfl rfl) ggX9_limits_X9_isCell
set_option maxRecDepth 100000 in
theorem ggX9_limits_X9_in : GoodIn wsX9_limits wsX9_in := goodIn_r _ [7] rfl rfl
set_option maxRecDepth 100000 in
theorem gX9_limits_X9_in : GoodIn wsX9_limits (va_wsS RX9 29 yX9_in wsX9_in) := goodIn_app (goodIn_r _ [5, 6, 3] rfl rfl) ggX9_limits_X9_in
set_option maxRecDepth 100000 in
theorem ggX9_limits_X9_puts : GoodIn wsX9_limits wsX9_puts := goodIn_r _ [11, 12, 13, 14, 15, 16, 17, 18, 19, 20, 21, 22] rfl rfl
set_option maxRecDepth 100000 in
theorem gX9_limits_X9_puts : GoodIn wsX9_limits (wsV RX9 52 RX9 yX9_puts wsX9_puts) := goodIn_app (goodIn_r _ [8, 9, 10, 3] rfl rfl) ggX9_limits_X9_puts
theorem dX9_limits_0 : decode cX9_limits 0 = .ok (.iload_n 1, 1) := by decide +kernel
theorem dX9_limits_1 : decode cX9_limits 1 = .ok (.iload_n 2, 1) := by decide +kernel
theorem dX9_limits_2 : decode cX9_limits 2 = .ok (.invokestatic 48, 3) := by decide +kernel
theorem dX9_limits_5 : decode cX9_limits 5 = .ok (.ifCond .eq 24, 3) := by decide +kernel
theorem dX9_limits_8 : decode cX9_limits 8 = .ok (.iload_n 3, 1) := by decide +kernel
theorem dX9_limits_9 : decode cX9_limits 9 = .ok (.iconst 0, 1) := by decide +kernel
theorem dX9_limits_10 : decode cX9_limits 10 = .ok (.bipush 20, 2) := by decide +kernel
theorem dX9_limits_12 : decode cX9_limits 12 = .ok (.invokestatic 29, 3) := by decide +kernel
theorem dX9_limits_15 : decode cX9_limits 15 = .ok (.ifCond .eq 14, 3) := by decide +kernel
theorem dX9_limits_18 : decode cX9_limits 18 = .ok (.aload_n 0, 1) := by decide +kernel
theorem dX9_limits_19 : decode cX9_limits 19 = .ok (.iload_n 1, 1) := by decide +kernel
theorem dX9_limits_20 : decode cX9_limits 20 = .ok (.iload_n 2, 1) := by decide +kernel
theorem dX9_limits_21 : decode cX9_limits 21 = .ok (.iconst 0, 1) := by decide +kernel
theorem dX9_limits_22 : decode cX9_limits 22 = .ok (.iload_n 3, 1) := by decide +kernel
theorem dX9_limits_23 : decode cX9_limits 23 = .ok (.invokevirtual 52, 3) := by decide +kernel
theorem dX9_limits_26 : decode cX9_limits 26 = .ok (.goto 4, 3) := by decide +kernel
theorem dX9_limits_29 : decode cX9_limits 29 = .ok (.iconst (-1), 1) := by decide +kernel
theorem dX9_limits_30 : decode cX9_limits 30 = .ok (.ireturn, 1) := by decide +kernel
set_option maxRecDepth 100000 in
theorem ggX9_mayCall_X9_isOpen : GoodIn wsX9_mayCall wsX9_isOpen := goodIn_r _ [6, 7, 8, 9, 5, 10, 1, 23, 24, 25, 26, 27, 28, 29, 30, 31, 32] rfl rfl
set_option maxRecDepth 100000 in
theorem gX9_mayCall_X9_isOpen : GoodIn wsX9_mayCall (wsV RX9 37 RX9 yX9_isOpen wsX9_isOpen) := goodIn_app (goodIn_r _ [2, 3, 4, 5] rfl rfl) ggX9_mayCall_X9_isOpen
set_option maxRecDepth 100000 in
theorem ggX9_mayCall_X9_ofWho : GoodIn wsX9_mayCall wsX9_ofWho := goodIn_r _ [14, 1, 23, 24, 25, 26, 27, 28, 29, 30, 31, 32] rfl rfl
set_option maxRecDepth 100000 in
theorem gX9_mayCall_X9_ofWho : GoodIn wsX9_mayCall (wsV RX9 56 RX9 yX9_ofWho wsX9_ofWho) := goodIn_app (goodIn_r _ [11, 12, 13, 5] rfl rfl) ggX9_mayCall_X9_ofWho
set_option maxRecDepth 100000 in
theorem ggX9_mayCall_X9_isFixed : GoodIn wsX9_mayCall wsX9_isFixed := goodIn_r _ [18, 2, 3, 4, 5, 6, 7, 8, 9, 10, 1, 23, 24, 25, 26, 27, 28, 29, 30, 31, 32] rfl rfl
set_option maxRecDepth 100000 in
theorem gX9_mayCall_X9_isFixed : GoodIn wsX9_mayCall (wsV RX9 41 RX9 yX9_isFixed wsX9_isFixed) := goodIn_app (goodIn_r _ [15, 16, 17, 5] rfl rfl) ggX9_mayCall_X9_isFixed
set_option maxRecDepth 100000 in
theorem ggX9_mayCall_X9_isOver : GoodIn wsX9_mayCall wsX9_isOver := goodIn_r _ [22, 1, 15, 16, 17, 5, 18, 2, 3, 4, 6, 7, 8, 9, 10, 23, 24, 25, 26, 27, 28, 29, 30, 31, 32] rfl rfl
set_option maxRecDepth 100000 in
theorem gX9_mayCall_X9_isOver : GoodIn wsX9_mayCall (wsV RX9 59 RX9 yX9_isOver wsX9_isOver) := goodIn_app (goodIn_r _ [19, 20, 21, 5] rfl rfl) ggX9_mayCall_X9_isOver
set_option maxRecDepth 100000 in
theorem ggX9_mayCall_X9_of : GoodIn wsX9_mayCall wsX9_of := goodIn_r _ [10, 1, 23, 24, 25, 26, 27, 28, 29, 30, 31, 32] rfl rfl
set_option maxRecDepth 100000 in
theorem gX9_mayCall_X9_of : GoodIn wsX9_mayCall (wsV RX9 33 RX9 yX9_of wsX9_of) := goodIn_app (goodIn_r _ [7, 8, 9, 5] rfl rfl) ggX9_mayCall_X9_of
theorem dX9_mayCall_0 : decode cX9_mayCall 0 = .ok (.aload_n 0, 1) := by decide +kernel
theorem dX9_mayCall_1 : decode cX9_mayCall 1 = .ok (.iload_n 2, 1) := by decide +kernel
theorem dX9_mayCall_2 : decode cX9_mayCall 2 = .ok (.invokevirtual 37, 3) := by decide +kernel
theorem dX9_mayCall_5 : decode cX9_mayCall 5 = .ok (.ifCond .eq 18, 3) := by decide +kernel
theorem dX9_mayCall_8 : decode cX9_mayCall 8 = .ok (.aload_n 0, 1) := by decide +kernel
theorem dX9_mayCall_9 : decode cX9_mayCall 9 = .ok (.iload_n 1, 1) := by decide +kernel
theorem dX9_mayCall_10 : decode cX9_mayCall 10 = .ok (.iconst 2, 1) := by decide +kernel
theorem dX9_mayCall_11 : decode cX9_mayCall 11 = .ok (.invokevirtual 56, 3) := by decide +kernel
theorem dX9_mayCall_14 : decode cX9_mayCall 14 = .ok (.aload_n 0, 1) := by decide +kernel
theorem dX9_mayCall_15 : decode cX9_mayCall 15 = .ok (.iload_n 1, 1) := by decide +kernel
theorem dX9_mayCall_16 : decode cX9_mayCall 16 = .ok (.iconst 1, 1) := by decide +kernel
theorem dX9_mayCall_17 : decode cX9_mayCall 17 = .ok (.invokevirtual 56, 3) := by decide +kernel
theorem dX9_mayCall_20 : decode cX9_mayCall 20 = .ok (.if_icmp .lt 5, 3) := by decide +kernel
theorem dX9_mayCall_23 : decode cX9_mayCall 23 = .ok (.iconst 0, 1) := by decide +kernel
theorem dX9_mayCall_24 : decode cX9_mayCall 24 = .ok (.ireturn, 1) := by decide +kernel
theorem dX9_mayCall_25 : decode cX9_mayCall 25 = .ok (.aload_n 0, 1) := by decide +kernel
theorem dX9_mayCall_26 : decode cX9_mayCall 26 = .ok (.iload_n 2, 1) := by decide +kernel
theorem dX9_mayCall_27 : decode cX9_mayCall 27 = .ok (.invokevirtual 41, 3) := by decide +kernel
theorem dX9_mayCall_30 : decode cX9_mayCall 30 = .ok (.ifCond .eq 46, 3) := by decide +kernel
theorem dX9_mayCall_33 : decode cX9_mayCall 33 = .ok (.aload_n 0, 1) := by decide +kernel
theorem dX9_mayCall_34 : decode cX9_mayCall 34 = .ok (.iload_n 2, 1) := by decide +kernel
theorem dX9_mayCall_35 : decode cX9_mayCall 35 = .ok (.invokevirtual 59, 3) := by decide +kernel
theorem dX9_mayCall_38 : decode cX9_mayCall 38 = .ok (.ifCond .ne 32, 3) := by decide +kernel
theorem dX9_mayCall_41 : decode cX9_mayCall 41 = .ok (.aload_n 0, 1) := by decide +kernel
theorem dX9_mayCall_42 : decode cX9_mayCall 42 = .ok (.iload_n 2, 1) := by decide +kernel
theorem dX9_mayCall_43 : decode cX9_mayCall 43 = .ok (.bipush 6, 2) := by decide +kernel
theorem dX9_mayCall_45 : decode cX9_mayCall 45 = .ok (.invokevirtual 33, 3) := by decide +kernel
theorem dX9_mayCall_48 : decode cX9_mayCall 48 = .ok (.iconst 1, 1) := by decide +kernel
theorem dX9_mayCall_49 : decode cX9_mayCall 49 = .ok (.isub, 1) := by decide +kernel
theorem dX9_mayCall_50 : decode cX9_mayCall 50 = .ok (.aload_n 0, 1) := by decide +kernel
theorem dX9_mayCall_51 : decode cX9_mayCall 51 = .ok (.getfield 7, 3) := by decide +kernel
theorem dX9_mayCall_54 : decode cX9_mayCall 54 = .ok (.iconst 2, 1) := by decide +kernel
theorem dX9_mayCall_55 : decode cX9_mayCall 55 = .ok (.iaload, 1) := by decide +kernel
theorem dX9_mayCall_56 : decode cX9_mayCall 56 = .ok (.if_icmp .ne 18, 3) := by decide +kernel
theorem dX9_mayCall_59 : decode cX9_mayCall 59 = .ok (.aload_n 0, 1) := by decide +kernel
theorem dX9_mayCall_60 : decode cX9_mayCall 60 = .ok (.iload_n 2, 1) := by decide +kernel
theorem dX9_mayCall_61 : decode cX9_mayCall 61 = .ok (.bipush 7, 2) := by decide +kernel
theorem dX9_mayCall_63 : decode cX9_mayCall 63 = .ok (.invokevirtual 33, 3) := by decide +kernel
theorem dX9_mayCall_66 : decode cX9_mayCall 66 = .ok (.iload_n 3, 1) := by decide +kernel
theorem dX9_mayCall_67 : decode cX9_mayCall 67 = .ok (.if_icmp .ne 7, 3) := by decide +kernel
theorem dX9_mayCall_70 : decode cX9_mayCall 70 = .ok (.iconst 1, 1) := by decide +kernel
theorem dX9_mayCall_71 : decode cX9_mayCall 71 = .ok (.goto 4, 3) := by decide +kernel
theorem dX9_mayCall_74 : decode cX9_mayCall 74 = .ok (.iconst 0, 1) := by decide +kernel
theorem dX9_mayCall_75 : decode cX9_mayCall 75 = .ok (.ireturn, 1) := by decide +kernel
theorem dX9_mayCall_76 : decode cX9_mayCall 76 = .ok (.aload_n 0, 1) := by decide +kernel
theorem dX9_mayCall_77 : decode cX9_mayCall 77 = .ok (.iload_n 2, 1) := by decide +kernel
theorem dX9_mayCall_78 : decode cX9_mayCall 78 = .ok (.iconst 2, 1) := by decide +kernel
theorem dX9_mayCall_79 : decode cX9_mayCall 79 = .ok (.invokevirtual 33, 3) := by decide +kernel
theorem dX9_mayCall_82 : decode cX9_mayCall 82 = .ok (.ifCond .eq 36, 3) := by decide +kernel
theorem dX9_mayCall_85 : decode cX9_mayCall 85 = .ok (.aload_n 0, 1) := by decide +kernel
theorem dX9_mayCall_86 : decode cX9_mayCall 86 = .ok (.iload_n 2, 1) := by decide +kernel
theorem dX9_mayCall_87 : decode cX9_mayCall 87 = .ok (.iconst 5, 1) := by decide +kernel
theorem dX9_mayCall_88 : decode cX9_mayCall 88 = .ok (.invokevirtual 33, 3) := by decide +kernel
theorem dX9_mayCall_91 : decode cX9_mayCall 91 = .ok (.iload_n 3, 1) := by decide +kernel
theorem dX9_mayCall_92 : decode cX9_mayCall 92 = .ok (.if_icmp .eq 30, 3) := by decide +kernel
theorem dX9_mayCall_95 : decode cX9_mayCall 95 = .ok (.aload_n 0, 1) := by decide +kernel
theorem dX9_mayCall_96 : decode cX9_mayCall 96 = .ok (.getfield 7, 3) := by decide +kernel
theorem dX9_mayCall_99 : decode cX9_mayCall 99 = .ok (.iconst 2, 1) := by decide +kernel
theorem dX9_mayCall_100 : decode cX9_mayCall 100 = .ok (.iaload, 1) := by decide +kernel
theorem dX9_mayCall_101 : decode cX9_mayCall 101 = .ok (.aload_n 0, 1) := by decide +kernel
theorem dX9_mayCall_102 : decode cX9_mayCall 102 = .ok (.iload_n 2, 1) := by decide +kernel
theorem dX9_mayCall_103 : decode cX9_mayCall 103 = .ok (.iconst 4, 1) := by decide +kernel
theorem dX9_mayCall_104 : decode cX9_mayCall 104 = .ok (.invokevirtual 33, 3) := by decide +kernel
theorem dX9_mayCall_107 : decode cX9_mayCall 107 = .ok (.isub, 1) := by decide +kernel
theorem dX9_mayCall_108 : decode cX9_mayCall 108 = .ok (.aload_n 0, 1) := by decide +kernel
theorem dX9_mayCall_109 : decode cX9_mayCall 109 = .ok (.getfield 7, 3) := by decide +kernel
theorem dX9_mayCall_112 : decode cX9_mayCall 112 = .ok (.bipush 7, 2) := by decide +kernel
theorem dX9_mayCall_114 : decode cX9_mayCall 114 = .ok (.iaload, 1) := by decide +kernel
theorem dX9_mayCall_115 : decode cX9_mayCall 115 = .ok (.if_icmp .lt 7, 3) := by decide +kernel
theorem dX9_mayCall_118 : decode cX9_mayCall 118 = .ok (.iconst 1, 1) := by decide +kernel
theorem dX9_mayCall_119 : decode cX9_mayCall 119 = .ok (.goto 4, 3) := by decide +kernel
theorem dX9_mayCall_122 : decode cX9_mayCall 122 = .ok (.iconst 0, 1) := by decide +kernel
theorem dX9_mayCall_123 : decode cX9_mayCall 123 = .ok (.ireturn, 1) := by decide +kernel
set_option maxRecDepth 100000 in
theorem ggX9_counts_X9_ofWho : GoodIn wsX9_counts wsX9_ofWho := goodIn_r _ [6, 1, 11, 12, 13, 14, 15, 16, 17, 18, 19, 20] rfl rfl
set_option maxRecDepth 100000 in
theorem gX9_counts_X9_ofWho : GoodIn wsX9_counts (wsV RX9 56 RX9 yX9_ofWho wsX9_ofWho) := goodIn_app (goodIn_r _ [2, 3, 4, 5] rfl rfl) ggX9_counts_X9_ofWho
set_option maxRecDepth 100000 in
theorem ggX9_counts_X9_of : GoodIn wsX9_counts wsX9_of := goodIn_r _ [10, 1, 11, 12, 13, 14, 15, 16, 17, 18, 19, 20] rfl rfl
set_option maxRecDepth 100000 in
theorem gX9_counts_X9_of : GoodIn wsX9_counts (wsV RX9 33 RX9 yX9_of wsX9_of) := goodIn_app (goodIn_r _ [7, 8, 9, 5] rfl rfl) ggX9_counts_X9_of
theorem dX9_counts_0 : decode cX9_counts 0 = .ok (.bipush 74, 2) := by decide +kernel
theorem dX9_counts_2 : decode cX9_counts 2 = .ok (.bipush 10, 2) := by decide +kernel
theorem dX9_counts_4 : decode cX9_counts 4 = .ok (.iload_n 2, 1) := by decide +kernel
theorem dX9_counts_5 : decode cX9_counts 5 = .ok (.imul, 1) := by decide +kernel
theorem dX9_counts_6 : decode cX9_counts 6 = .ok (.iadd, 1) := by decide +kernel
theorem dX9_counts_7 : decode cX9_counts 7 = .ok (.istore 4, 2) := by decide +kernel
theorem dX9_counts_9 : decode cX9_counts 9 = .ok (.bipush 44, 2) := by decide +kernel
theorem dX9_counts_11 : decode cX9_counts 11 = .ok (.bipush 6, 2) := by decide +kernel
theorem dX9_counts_13 : decode cX9_counts 13 = .ok (.iload_n 1, 1) := by decide +kernel
theorem dX9_counts_14 : decode cX9_counts 14 = .ok (.imul, 1) := by decide +kernel
theorem dX9_counts_15 : decode cX9_counts 15 = .ok (.iadd, 1) := by decide +kernel
theorem dX9_counts_16 : decode cX9_counts 16 = .ok (.istore 5, 2) := by decide +kernel
theorem dX9_counts_18 : decode cX9_counts 18 = .ok (.aload_n 0, 1) := by decide +kernel
theorem dX9_counts_19 : decode cX9_counts 19 = .ok (.getfield 7, 3) := by decide +kernel
theorem dX9_counts_22 : decode cX9_counts 22 = .ok (.iload 4, 2) := by decide +kernel
theorem dX9_counts_24 : decode cX9_counts 24 = .ok (.iconst 2, 1) := by decide +kernel
theorem dX9_counts_25 : decode cX9_counts 25 = .ok (.iadd, 1) := by decide +kernel
theorem dX9_counts_26 : decode cX9_counts 26 = .ok (.dup2, 1) := by decide +kernel
theorem dX9_counts_27 : decode cX9_counts 27 = .ok (.iaload, 1) := by decide +kernel
theorem dX9_counts_28 : decode cX9_counts 28 = .ok (.iconst 1, 1) := by decide +kernel
theorem dX9_counts_29 : decode cX9_counts 29 = .ok (.iadd, 1) := by decide +kernel
theorem dX9_counts_30 : decode cX9_counts 30 = .ok (.iastore, 1) := by decide +kernel
theorem dX9_counts_31 : decode cX9_counts 31 = .ok (.aload_n 0, 1) := by decide +kernel
theorem dX9_counts_32 : decode cX9_counts 32 = .ok (.getfield 7, 3) := by decide +kernel
theorem dX9_counts_35 : decode cX9_counts 35 = .ok (.iload 4, 2) := by decide +kernel
theorem dX9_counts_37 : decode cX9_counts 37 = .ok (.iconst 4, 1) := by decide +kernel
theorem dX9_counts_38 : decode cX9_counts 38 = .ok (.iadd, 1) := by decide +kernel
theorem dX9_counts_39 : decode cX9_counts 39 = .ok (.aload_n 0, 1) := by decide +kernel
theorem dX9_counts_40 : decode cX9_counts 40 = .ok (.getfield 7, 3) := by decide +kernel
theorem dX9_counts_43 : decode cX9_counts 43 = .ok (.iconst 2, 1) := by decide +kernel
theorem dX9_counts_44 : decode cX9_counts 44 = .ok (.iaload, 1) := by decide +kernel
theorem dX9_counts_45 : decode cX9_counts 45 = .ok (.iastore, 1) := by decide +kernel
theorem dX9_counts_46 : decode cX9_counts 46 = .ok (.aload_n 0, 1) := by decide +kernel
theorem dX9_counts_47 : decode cX9_counts 47 = .ok (.getfield 7, 3) := by decide +kernel
theorem dX9_counts_50 : decode cX9_counts 50 = .ok (.iload 4, 2) := by decide +kernel
theorem dX9_counts_52 : decode cX9_counts 52 = .ok (.iconst 5, 1) := by decide +kernel
theorem dX9_counts_53 : decode cX9_counts 53 = .ok (.iadd, 1) := by decide +kernel
theorem dX9_counts_54 : decode cX9_counts 54 = .ok (.iload_n 3, 1) := by decide +kernel
theorem dX9_counts_55 : decode cX9_counts 55 = .ok (.iastore, 1) := by decide +kernel
theorem dX9_counts_56 : decode cX9_counts 56 = .ok (.aload_n 0, 1) := by decide +kernel
theorem dX9_counts_57 : decode cX9_counts 57 = .ok (.getfield 7, 3) := by decide +kernel
theorem dX9_counts_60 : decode cX9_counts 60 = .ok (.iload 4, 2) := by decide +kernel
theorem dX9_counts_62 : decode cX9_counts 62 = .ok (.bipush 6, 2) := by decide +kernel
theorem dX9_counts_64 : decode cX9_counts 64 = .ok (.iadd, 1) := by decide +kernel
theorem dX9_counts_65 : decode cX9_counts 65 = .ok (.iconst 0, 1) := by decide +kernel
theorem dX9_counts_66 : decode cX9_counts 66 = .ok (.iastore, 1) := by decide +kernel
theorem dX9_counts_67 : decode cX9_counts 67 = .ok (.aload_n 0, 1) := by decide +kernel
theorem dX9_counts_68 : decode cX9_counts 68 = .ok (.getfield 7, 3) := by decide +kernel
theorem dX9_counts_71 : decode cX9_counts 71 = .ok (.iload 4, 2) := by decide +kernel
theorem dX9_counts_73 : decode cX9_counts 73 = .ok (.bipush 9, 2) := by decide +kernel
theorem dX9_counts_75 : decode cX9_counts 75 = .ok (.iadd, 1) := by decide +kernel
theorem dX9_counts_76 : decode cX9_counts 76 = .ok (.iload_n 1, 1) := by decide +kernel
theorem dX9_counts_77 : decode cX9_counts 77 = .ok (.iastore, 1) := by decide +kernel
theorem dX9_counts_78 : decode cX9_counts 78 = .ok (.aload_n 0, 1) := by decide +kernel
theorem dX9_counts_79 : decode cX9_counts 79 = .ok (.getfield 7, 3) := by decide +kernel
theorem dX9_counts_82 : decode cX9_counts 82 = .ok (.iload 5, 2) := by decide +kernel
theorem dX9_counts_84 : decode cX9_counts 84 = .ok (.iconst 2, 1) := by decide +kernel
theorem dX9_counts_85 : decode cX9_counts 85 = .ok (.iadd, 1) := by decide +kernel
theorem dX9_counts_86 : decode cX9_counts 86 = .ok (.dup2, 1) := by decide +kernel
theorem dX9_counts_87 : decode cX9_counts 87 = .ok (.iaload, 1) := by decide +kernel
theorem dX9_counts_88 : decode cX9_counts 88 = .ok (.iconst 1, 1) := by decide +kernel
theorem dX9_counts_89 : decode cX9_counts 89 = .ok (.iadd, 1) := by decide +kernel
theorem dX9_counts_90 : decode cX9_counts 90 = .ok (.iastore, 1) := by decide +kernel
theorem dX9_counts_91 : decode cX9_counts 91 = .ok (.aload_n 0, 1) := by decide +kernel
theorem dX9_counts_92 : decode cX9_counts 92 = .ok (.getfield 7, 3) := by decide +kernel
theorem dX9_counts_95 : decode cX9_counts 95 = .ok (.iload 5, 2) := by decide +kernel
theorem dX9_counts_97 : decode cX9_counts 97 = .ok (.iconst 3, 1) := by decide +kernel
theorem dX9_counts_98 : decode cX9_counts 98 = .ok (.iadd, 1) := by decide +kernel
theorem dX9_counts_99 : decode cX9_counts 99 = .ok (.dup2, 1) := by decide +kernel
theorem dX9_counts_100 : decode cX9_counts 100 = .ok (.iaload, 1) := by decide +kernel
theorem dX9_counts_101 : decode cX9_counts 101 = .ok (.iconst 1, 1) := by decide +kernel
theorem dX9_counts_102 : decode cX9_counts 102 = .ok (.iadd, 1) := by decide +kernel
theorem dX9_counts_103 : decode cX9_counts 103 = .ok (.iastore, 1) := by decide +kernel
theorem dX9_counts_104 : decode cX9_counts 104 = .ok (.aload_n 0, 1) := by decide +kernel
theorem dX9_counts_105 : decode cX9_counts 105 = .ok (.getfield 7, 3) := by decide +kernel
theorem dX9_counts_108 : decode cX9_counts 108 = .ok (.iload 5, 2) := by decide +kernel
theorem dX9_counts_110 : decode cX9_counts 110 = .ok (.iconst 5, 1) := by decide +kernel
theorem dX9_counts_111 : decode cX9_counts 111 = .ok (.iadd, 1) := by decide +kernel
theorem dX9_counts_112 : decode cX9_counts 112 = .ok (.dup2, 1) := by decide +kernel
theorem dX9_counts_113 : decode cX9_counts 113 = .ok (.iaload, 1) := by decide +kernel
theorem dX9_counts_114 : decode cX9_counts 114 = .ok (.aload_n 0, 1) := by decide +kernel
theorem dX9_counts_115 : decode cX9_counts 115 = .ok (.iload_n 1, 1) := by decide +kernel
theorem dX9_counts_116 : decode cX9_counts 116 = .ok (.iconst 0, 1) := by decide +kernel
theorem dX9_counts_117 : decode cX9_counts 117 = .ok (.invokevirtual 56, 3) := by decide +kernel
theorem dX9_counts_120 : decode cX9_counts 120 = .ok (.aload_n 0, 1) := by decide +kernel
theorem dX9_counts_121 : decode cX9_counts 121 = .ok (.iload_n 2, 1) := by decide +kernel
theorem dX9_counts_122 : decode cX9_counts 122 = .ok (.iconst 0, 1) := by decide +kernel
theorem dX9_counts_123 : decode cX9_counts 123 = .ok (.invokevirtual 33, 3) := by decide +kernel
theorem dX9_counts_126 : decode cX9_counts 126 = .ok (.if_icmp .ne 7, 3) := by decide +kernel
theorem dX9_counts_129 : decode cX9_counts 129 = .ok (.iconst 0, 1) := by decide +kernel
theorem dX9_counts_130 : decode cX9_counts 130 = .ok (.goto 4, 3) := by decide +kernel
theorem dX9_counts_133 : decode cX9_counts 133 = .ok (.iconst 1, 1) := by decide +kernel
theorem dX9_counts_134 : decode cX9_counts 134 = .ok (.iadd, 1) := by decide +kernel
theorem dX9_counts_135 : decode cX9_counts 135 = .ok (.iastore, 1) := by decide +kernel
theorem dX9_counts_136 : decode cX9_counts 136 = .ok (.aload_n 0, 1) := by decide +kernel
theorem dX9_counts_137 : decode cX9_counts 137 = .ok (.getfield 7, 3) := by decide +kernel
theorem dX9_counts_140 : decode cX9_counts 140 = .ok (.iconst 3, 1) := by decide +kernel
theorem dX9_counts_141 : decode cX9_counts 141 = .ok (.dup2, 1) := by decide +kernel
theorem dX9_counts_142 : decode cX9_counts 142 = .ok (.iaload, 1) := by decide +kernel
theorem dX9_counts_143 : decode cX9_counts 143 = .ok (.iconst 1, 1) := by decide +kernel
theorem dX9_counts_144 : decode cX9_counts 144 = .ok (.iadd, 1) := by decide +kernel
theorem dX9_counts_145 : decode cX9_counts 145 = .ok (.iastore, 1) := by decide +kernel
theorem dX9_counts_146 : decode cX9_counts 146 = .ok (.return_, 1) := by decide +kernel
set_option maxRecDepth 100000 in
theorem ggX9_interviews_X9_of : GoodIn wsX9_interviews wsX9_of := goodIn_r _ [6, 1, 15, 16, 17, 18, 19, 20, 21, 22, 23, 24] rfl rfl
set_option maxRecDepth 100000 in
theorem gX9_interviews_X9_of : GoodIn wsX9_interviews (wsV RX9 33 RX9 yX9_of wsX9_of) := goodIn_app (goodIn_r _ [2, 3, 4, 5] rfl rfl) ggX9_interviews_X9_of
set_option maxRecDepth 100000 in
theorem ggX9_interviews_X9_wanted : GoodIn wsX9_interviews wsX9_wanted := goodIn_r _ [10, 11, 12, 13, 5, 14, 1, 15, 16, 17, 18, 19, 20, 21, 22, 23, 24] rfl rfl
set_option maxRecDepth 100000 in
theorem gX9_interviews_X9_wanted : GoodIn wsX9_interviews (wsV RX9 62 RX9 yX9_wanted wsX9_wanted) := goodIn_app (goodIn_r _ [7, 8, 9, 5] rfl rfl) ggX9_interviews_X9_wanted
theorem dX9_interviews_0 : decode cX9_interviews 0 = .ok (.bipush 74, 2) := by decide +kernel
theorem dX9_interviews_2 : decode cX9_interviews 2 = .ok (.bipush 10, 2) := by decide +kernel
theorem dX9_interviews_4 : decode cX9_interviews 4 = .ok (.iload_n 2, 1) := by decide +kernel
theorem dX9_interviews_5 : decode cX9_interviews 5 = .ok (.imul, 1) := by decide +kernel
theorem dX9_interviews_6 : decode cX9_interviews 6 = .ok (.iadd, 1) := by decide +kernel
theorem dX9_interviews_7 : decode cX9_interviews 7 = .ok (.istore 4, 2) := by decide +kernel
theorem dX9_interviews_9 : decode cX9_interviews 9 = .ok (.aload_n 0, 1) := by decide +kernel
theorem dX9_interviews_10 : decode cX9_interviews 10 = .ok (.iload_n 2, 1) := by decide +kernel
theorem dX9_interviews_11 : decode cX9_interviews 11 = .ok (.iconst 0, 1) := by decide +kernel
theorem dX9_interviews_12 : decode cX9_interviews 12 = .ok (.invokevirtual 33, 3) := by decide +kernel
theorem dX9_interviews_15 : decode cX9_interviews 15 = .ok (.istore 5, 2) := by decide +kernel
theorem dX9_interviews_17 : decode cX9_interviews 17 = .ok (.aload_n 0, 1) := by decide +kernel
theorem dX9_interviews_18 : decode cX9_interviews 18 = .ok (.iload 5, 2) := by decide +kernel
theorem dX9_interviews_20 : decode cX9_interviews 20 = .ok (.iload_n 3, 1) := by decide +kernel
theorem dX9_interviews_21 : decode cX9_interviews 21 = .ok (.invokevirtual 62, 3) := by decide +kernel
theorem dX9_interviews_24 : decode cX9_interviews 24 = .ok (.ifCond .le 7, 3) := by decide +kernel
theorem dX9_interviews_27 : decode cX9_interviews 27 = .ok (.iconst 1, 1) := by decide +kernel
theorem dX9_interviews_28 : decode cX9_interviews 28 = .ok (.goto 4, 3) := by decide +kernel
theorem dX9_interviews_31 : decode cX9_interviews 31 = .ok (.iconst 0, 1) := by decide +kernel
theorem dX9_interviews_32 : decode cX9_interviews 32 = .ok (.istore 6, 2) := by decide +kernel
theorem dX9_interviews_34 : decode cX9_interviews 34 = .ok (.aload_n 0, 1) := by decide +kernel
theorem dX9_interviews_35 : decode cX9_interviews 35 = .ok (.getfield 7, 3) := by decide +kernel
theorem dX9_interviews_38 : decode cX9_interviews 38 = .ok (.iload 4, 2) := by decide +kernel
theorem dX9_interviews_40 : decode cX9_interviews 40 = .ok (.iconst 1, 1) := by decide +kernel
theorem dX9_interviews_41 : decode cX9_interviews 41 = .ok (.iadd, 1) := by decide +kernel
theorem dX9_interviews_42 : decode cX9_interviews 42 = .ok (.iload 6, 2) := by decide +kernel
theorem dX9_interviews_44 : decode cX9_interviews 44 = .ok (.ifCond .eq 7, 3) := by decide +kernel
theorem dX9_interviews_47 : decode cX9_interviews 47 = .ok (.iconst 1, 1) := by decide +kernel
theorem dX9_interviews_48 : decode cX9_interviews 48 = .ok (.goto 4, 3) := by decide +kernel
theorem dX9_interviews_51 : decode cX9_interviews 51 = .ok (.iconst 4, 1) := by decide +kernel
theorem dX9_interviews_52 : decode cX9_interviews 52 = .ok (.iastore, 1) := by decide +kernel
theorem dX9_interviews_53 : decode cX9_interviews 53 = .ok (.aload_n 0, 1) := by decide +kernel
theorem dX9_interviews_54 : decode cX9_interviews 54 = .ok (.getfield 7, 3) := by decide +kernel
theorem dX9_interviews_57 : decode cX9_interviews 57 = .ok (.iload 4, 2) := by decide +kernel
theorem dX9_interviews_59 : decode cX9_interviews 59 = .ok (.bipush 8, 2) := by decide +kernel
theorem dX9_interviews_61 : decode cX9_interviews 61 = .ok (.iadd, 1) := by decide +kernel
theorem dX9_interviews_62 : decode cX9_interviews 62 = .ok (.iload 6, 2) := by decide +kernel
theorem dX9_interviews_64 : decode cX9_interviews 64 = .ok (.ifCond .eq 7, 3) := by decide +kernel
theorem dX9_interviews_67 : decode cX9_interviews 67 = .ok (.iload_n 3, 1) := by decide +kernel
theorem dX9_interviews_68 : decode cX9_interviews 68 = .ok (.goto 4, 3) := by decide +kernel
theorem dX9_interviews_71 : decode cX9_interviews 71 = .ok (.iconst 0, 1) := by decide +kernel
theorem dX9_interviews_72 : decode cX9_interviews 72 = .ok (.iastore, 1) := by decide +kernel
theorem dX9_interviews_73 : decode cX9_interviews 73 = .ok (.iload 6, 2) := by decide +kernel
theorem dX9_interviews_75 : decode cX9_interviews 75 = .ok (.ifCond .eq 53, 3) := by decide +kernel
theorem dX9_interviews_78 : decode cX9_interviews 78 = .ok (.aload_n 0, 1) := by decide +kernel
theorem dX9_interviews_79 : decode cX9_interviews 79 = .ok (.getfield 7, 3) := by decide +kernel
theorem dX9_interviews_82 : decode cX9_interviews 82 = .ok (.bipush 8, 2) := by decide +kernel
theorem dX9_interviews_84 : decode cX9_interviews 84 = .ok (.iconst 3, 1) := by decide +kernel
theorem dX9_interviews_85 : decode cX9_interviews 85 = .ok (.iconst 3, 1) := by decide +kernel
theorem dX9_interviews_86 : decode cX9_interviews 86 = .ok (.iload 5, 2) := by decide +kernel
theorem dX9_interviews_88 : decode cX9_interviews 88 = .ok (.imul, 1) := by decide +kernel
theorem dX9_interviews_89 : decode cX9_interviews 89 = .ok (.iload_n 3, 1) := by decide +kernel
theorem dX9_interviews_90 : decode cX9_interviews 90 = .ok (.iadd, 1) := by decide +kernel
theorem dX9_interviews_91 : decode cX9_interviews 91 = .ok (.imul, 1) := by decide +kernel
theorem dX9_interviews_92 : decode cX9_interviews 92 = .ok (.iadd, 1) := by decide +kernel
theorem dX9_interviews_93 : decode cX9_interviews 93 = .ok (.iconst 1, 1) := by decide +kernel
theorem dX9_interviews_94 : decode cX9_interviews 94 = .ok (.iadd, 1) := by decide +kernel
theorem dX9_interviews_95 : decode cX9_interviews 95 = .ok (.dup2, 1) := by decide +kernel
theorem dX9_interviews_96 : decode cX9_interviews 96 = .ok (.iaload, 1) := by decide +kernel
theorem dX9_interviews_97 : decode cX9_interviews 97 = .ok (.iconst 1, 1) := by decide +kernel
theorem dX9_interviews_98 : decode cX9_interviews 98 = .ok (.iadd, 1) := by decide +kernel
theorem dX9_interviews_99 : decode cX9_interviews 99 = .ok (.iastore, 1) := by decide +kernel
theorem dX9_interviews_100 : decode cX9_interviews 100 = .ok (.aload_n 0, 1) := by decide +kernel
theorem dX9_interviews_101 : decode cX9_interviews 101 = .ok (.getfield 7, 3) := by decide +kernel
theorem dX9_interviews_104 : decode cX9_interviews 104 = .ok (.bipush 44, 2) := by decide +kernel
theorem dX9_interviews_106 : decode cX9_interviews 106 = .ok (.bipush 6, 2) := by decide +kernel
theorem dX9_interviews_108 : decode cX9_interviews 108 = .ok (.iload_n 1, 1) := by decide +kernel
theorem dX9_interviews_109 : decode cX9_interviews 109 = .ok (.imul, 1) := by decide +kernel
theorem dX9_interviews_110 : decode cX9_interviews 110 = .ok (.iadd, 1) := by decide +kernel
theorem dX9_interviews_111 : decode cX9_interviews 111 = .ok (.iconst 4, 1) := by decide +kernel
theorem dX9_interviews_112 : decode cX9_interviews 112 = .ok (.iadd, 1) := by decide +kernel
theorem dX9_interviews_113 : decode cX9_interviews 113 = .ok (.dup2, 1) := by decide +kernel
theorem dX9_interviews_114 : decode cX9_interviews 114 = .ok (.iaload, 1) := by decide +kernel
theorem dX9_interviews_115 : decode cX9_interviews 115 = .ok (.iconst 1, 1) := by decide +kernel
theorem dX9_interviews_116 : decode cX9_interviews 116 = .ok (.iadd, 1) := by decide +kernel
theorem dX9_interviews_117 : decode cX9_interviews 117 = .ok (.iastore, 1) := by decide +kernel
theorem dX9_interviews_118 : decode cX9_interviews 118 = .ok (.aload_n 0, 1) := by decide +kernel
theorem dX9_interviews_119 : decode cX9_interviews 119 = .ok (.getfield 7, 3) := by decide +kernel
theorem dX9_interviews_122 : decode cX9_interviews 122 = .ok (.iconst 5, 1) := by decide +kernel
theorem dX9_interviews_123 : decode cX9_interviews 123 = .ok (.dup2, 1) := by decide +kernel
theorem dX9_interviews_124 : decode cX9_interviews 124 = .ok (.iaload, 1) := by decide +kernel
theorem dX9_interviews_125 : decode cX9_interviews 125 = .ok (.iconst 1, 1) := by decide +kernel
theorem dX9_interviews_126 : decode cX9_interviews 126 = .ok (.iadd, 1) := by decide +kernel
theorem dX9_interviews_127 : decode cX9_interviews 127 = .ok (.iastore, 1) := by decide +kernel
theorem dX9_interviews_128 : decode cX9_interviews 128 = .ok (.return_, 1) := by decide +kernel
set_option maxRecDepth 100000 in
theorem ggX9_isAsked_X9_isStaff : GoodIn wsX9_isAsked wsX9_isStaff := goodIn_r _ [5, 6, 7, 8, 4, 9, 14, 15, 16, 17, 18, 19, 20, 21, 22, 23] rfl rfl
set_option maxRecDepth 100000 in
theorem gX9_isAsked_X9_isStaff : GoodIn wsX9_isAsked (wsV RX9 65 RX9 yX9_isStaff wsX9_isStaff) := goodIn_app (goodIn_r _ [1, 2, 3, 4] rfl rfl) ggX9_isAsked_X9_isStaff
set_option maxRecDepth 100000 in
theorem ggX9_isAsked_X9_isAddress : GoodIn wsX9_isAsked wsX9_isAddress := goodIn_r _ [13, 6, 7, 8, 4, 9, 14, 15, 16, 17, 18, 19, 20, 21, 22, 23] rfl rfl
set_option maxRecDepth 100000 in
theorem gX9_isAsked_X9_isAddress : GoodIn wsX9_isAsked (wsV RX9 68 RX9 yX9_isAddress wsX9_isAddress) := goodIn_app (goodIn_r _ [10, 11, 12, 4] rfl rfl) ggX9_isAsked_X9_isAddress
set_option maxRecDepth 100000 in
theorem ggX9_isAsked_X9_in : GoodIn wsX9_isAsked wsX9_in := goodIn_r _ [9] rfl rfl
set_option maxRecDepth 100000 in
theorem gX9_isAsked_X9_in : GoodIn wsX9_isAsked (va_wsS RX9 29 yX9_in wsX9_in) := goodIn_app (goodIn_r _ [7, 8, 4] rfl rfl) ggX9_isAsked_X9_in
theorem dX9_isAsked_0 : decode cX9_isAsked 0 = .ok (.aload_n 0, 1) := by decide +kernel
theorem dX9_isAsked_1 : decode cX9_isAsked 1 = .ok (.iload_n 1, 1) := by decide +kernel
theorem dX9_isAsked_2 : decode cX9_isAsked 2 = .ok (.invokevirtual 65, 3) := by decide +kernel
theorem dX9_isAsked_5 : decode cX9_isAsked 5 = .ok (.ifCond .eq 24, 3) := by decide +kernel
theorem dX9_isAsked_8 : decode cX9_isAsked 8 = .ok (.aload_n 0, 1) := by decide +kernel
theorem dX9_isAsked_9 : decode cX9_isAsked 9 = .ok (.iload_n 2, 1) := by decide +kernel
theorem dX9_isAsked_10 : decode cX9_isAsked 10 = .ok (.invokevirtual 68, 3) := by decide +kernel
theorem dX9_isAsked_13 : decode cX9_isAsked 13 = .ok (.ifCond .eq 16, 3) := by decide +kernel
theorem dX9_isAsked_16 : decode cX9_isAsked 16 = .ok (.iload_n 3, 1) := by decide +kernel
theorem dX9_isAsked_17 : decode cX9_isAsked 17 = .ok (.iconst 0, 1) := by decide +kernel
theorem dX9_isAsked_18 : decode cX9_isAsked 18 = .ok (.iconst 2, 1) := by decide +kernel
theorem dX9_isAsked_19 : decode cX9_isAsked 19 = .ok (.invokestatic 29, 3) := by decide +kernel
theorem dX9_isAsked_22 : decode cX9_isAsked 22 = .ok (.ifCond .eq 7, 3) := by decide +kernel
theorem dX9_isAsked_25 : decode cX9_isAsked 25 = .ok (.iconst 1, 1) := by decide +kernel
theorem dX9_isAsked_26 : decode cX9_isAsked 26 = .ok (.goto 4, 3) := by decide +kernel
theorem dX9_isAsked_29 : decode cX9_isAsked 29 = .ok (.iconst 0, 1) := by decide +kernel
theorem dX9_isAsked_30 : decode cX9_isAsked 30 = .ok (.ireturn, 1) := by decide +kernel
set_option maxRecDepth 100000 in
theorem ggX9_calls_X9_isAsked : GoodIn wsX9_calls wsX9_isAsked := goodIn_r _ [6, 7, 8, 9, 5, 10, 1, 11, 12, 13, 14, 15, 16, 17, 58, 59, 60, 61, 62, 63, 64, 65, 66, 67] rfl rfl
set_option maxRecDepth 100000 in
theorem gX9_calls_X9_isAsked : GoodIn wsX9_calls (wsV RX9 71 RX9 yX9_isAsked wsX9_isAsked) := goodIn_app (goodIn_r _ [2, 3, 4, 5] rfl rfl) ggX9_calls_X9_isAsked
set_option maxRecDepth 100000 in
theorem ggX9_calls_X9_in : GoodIn wsX9_calls wsX9_in := goodIn_r _ [13] rfl rfl
set_option maxRecDepth 100000 in
theorem gX9_calls_X9_in : GoodIn wsX9_calls (va_wsS RX9 29 yX9_in wsX9_in) := goodIn_app (goodIn_r _ [11, 12, 5] rfl rfl) ggX9_calls_X9_in
set_option maxRecDepth 100000 in
theorem ggX9_calls_X9_mayCall : GoodIn wsX9_calls wsX9_mayCall := goodIn_r _ [21, 1, 22, 23, 24, 5, 25, 26, 27, 28, 29, 30, 31, 32, 33, 34, 35, 36, 37, 38, 39, 40, 41, 58, 59, 60, 61, 62, 63, 64, 65, 66, 67] rfl rfl
set_option maxRecDepth 100000 in
theorem gX9_calls_X9_mayCall : GoodIn wsX9_calls (wsV RX9 74 RX9 yX9_mayCall wsX9_mayCall) := goodIn_app (goodIn_r _ [18, 19, 20, 5] rfl rfl) ggX9_calls_X9_mayCall
set_option maxRecDepth 100000 in
theorem ggX9_calls_X9_counts : GoodIn wsX9_calls wsX9_counts := goodIn_r _ [45, 1, 30, 31, 32, 5, 33, 26, 27, 28, 29, 58, 59, 60, 61, 62, 63, 64, 65, 66, 67] rfl rfl
set_option maxRecDepth 100000 in
theorem gX9_calls_X9_counts : GoodIn wsX9_calls (wsV RX9 77 RX9 yX9_counts wsX9_counts) := goodIn_app (goodIn_r _ [42, 43, 44, 5] rfl rfl) ggX9_calls_X9_counts
set_option maxRecDepth 100000 in
theorem ggX9_calls_X9_interviews : GoodIn wsX9_calls wsX9_interviews := goodIn_r _ [49, 1, 26, 27, 28, 5, 29, 50, 51, 52, 53, 54, 55, 56, 57, 58, 59, 60, 61, 62, 63, 64, 65, 66, 67] rfl rfl
set_option maxRecDepth 100000 in
theorem gX9_calls_X9_interviews : GoodIn wsX9_calls (wsV RX9 81 RX9 yX9_interviews wsX9_interviews) := goodIn_app (goodIn_r _ [46, 47, 48, 5] rfl rfl) ggX9_calls_X9_interviews
theorem dX9_calls_0 : decode cX9_calls 0 = .ok (.aload_n 0, 1) := by decide +kernel
theorem dX9_calls_1 : decode cX9_calls 1 = .ok (.iload_n 1, 1) := by decide +kernel
theorem dX9_calls_2 : decode cX9_calls 2 = .ok (.iload_n 2, 1) := by decide +kernel
theorem dX9_calls_3 : decode cX9_calls 3 = .ok (.iload_n 3, 1) := by decide +kernel
theorem dX9_calls_4 : decode cX9_calls 4 = .ok (.invokevirtual 71, 3) := by decide +kernel
theorem dX9_calls_7 : decode cX9_calls 7 = .ok (.ifCond .eq 13, 3) := by decide +kernel
theorem dX9_calls_10 : decode cX9_calls 10 = .ok (.iload 4, 2) := by decide +kernel
theorem dX9_calls_12 : decode cX9_calls 12 = .ok (.iconst 0, 1) := by decide +kernel
theorem dX9_calls_13 : decode cX9_calls 13 = .ok (.iconst 4, 1) := by decide +kernel
theorem dX9_calls_14 : decode cX9_calls 14 = .ok (.invokestatic 29, 3) := by decide +kernel
theorem dX9_calls_17 : decode cX9_calls 17 = .ok (.ifCond .ne 5, 3) := by decide +kernel
theorem dX9_calls_20 : decode cX9_calls 20 = .ok (.iconst (-1), 1) := by decide +kernel
theorem dX9_calls_21 : decode cX9_calls 21 = .ok (.ireturn, 1) := by decide +kernel
theorem dX9_calls_22 : decode cX9_calls 22 = .ok (.aload_n 0, 1) := by decide +kernel
theorem dX9_calls_23 : decode cX9_calls 23 = .ok (.iload_n 1, 1) := by decide +kernel
theorem dX9_calls_24 : decode cX9_calls 24 = .ok (.iload_n 2, 1) := by decide +kernel
theorem dX9_calls_25 : decode cX9_calls 25 = .ok (.iload_n 3, 1) := by decide +kernel
theorem dX9_calls_26 : decode cX9_calls 26 = .ok (.invokevirtual 74, 3) := by decide +kernel
theorem dX9_calls_29 : decode cX9_calls 29 = .ok (.ifCond .ne 6, 3) := by decide +kernel
theorem dX9_calls_32 : decode cX9_calls 32 = .ok (.bipush (-2), 2) := by decide +kernel
theorem dX9_calls_34 : decode cX9_calls 34 = .ok (.ireturn, 1) := by decide +kernel
theorem dX9_calls_35 : decode cX9_calls 35 = .ok (.bipush 74, 2) := by decide +kernel
theorem dX9_calls_37 : decode cX9_calls 37 = .ok (.bipush 10, 2) := by decide +kernel
theorem dX9_calls_39 : decode cX9_calls 39 = .ok (.iload_n 2, 1) := by decide +kernel
theorem dX9_calls_40 : decode cX9_calls 40 = .ok (.imul, 1) := by decide +kernel
theorem dX9_calls_41 : decode cX9_calls 41 = .ok (.iadd, 1) := by decide +kernel
theorem dX9_calls_42 : decode cX9_calls 42 = .ok (.istore 5, 2) := by decide +kernel
theorem dX9_calls_44 : decode cX9_calls 44 = .ok (.aload_n 0, 1) := by decide +kernel
theorem dX9_calls_45 : decode cX9_calls 45 = .ok (.iload_n 1, 1) := by decide +kernel
theorem dX9_calls_46 : decode cX9_calls 46 = .ok (.iload_n 2, 1) := by decide +kernel
theorem dX9_calls_47 : decode cX9_calls 47 = .ok (.iload_n 3, 1) := by decide +kernel
theorem dX9_calls_48 : decode cX9_calls 48 = .ok (.invokevirtual 77, 3) := by decide +kernel
theorem dX9_calls_51 : decode cX9_calls 51 = .ok (.iload 4, 2) := by decide +kernel
theorem dX9_calls_53 : decode cX9_calls 53 = .ok (.ifCond .ne 62, 3) := by decide +kernel
theorem dX9_calls_56 : decode cX9_calls 56 = .ok (.aload_n 0, 1) := by decide +kernel
theorem dX9_calls_57 : decode cX9_calls 57 = .ok (.getfield 7, 3) := by decide +kernel
theorem dX9_calls_60 : decode cX9_calls 60 = .ok (.iload 5, 2) := by decide +kernel
theorem dX9_calls_62 : decode cX9_calls 62 = .ok (.iconst 3, 1) := by decide +kernel
theorem dX9_calls_63 : decode cX9_calls 63 = .ok (.iadd, 1) := by decide +kernel
theorem dX9_calls_64 : decode cX9_calls 64 = .ok (.dup2, 1) := by decide +kernel
theorem dX9_calls_65 : decode cX9_calls 65 = .ok (.iaload, 1) := by decide +kernel
theorem dX9_calls_66 : decode cX9_calls 66 = .ok (.iconst 1, 1) := by decide +kernel
theorem dX9_calls_67 : decode cX9_calls 67 = .ok (.iadd, 1) := by decide +kernel
theorem dX9_calls_68 : decode cX9_calls 68 = .ok (.iastore, 1) := by decide +kernel
theorem dX9_calls_69 : decode cX9_calls 69 = .ok (.aload_n 0, 1) := by decide +kernel
theorem dX9_calls_70 : decode cX9_calls 70 = .ok (.getfield 7, 3) := by decide +kernel
theorem dX9_calls_73 : decode cX9_calls 73 = .ok (.iconst 4, 1) := by decide +kernel
theorem dX9_calls_74 : decode cX9_calls 74 = .ok (.dup2, 1) := by decide +kernel
theorem dX9_calls_75 : decode cX9_calls 75 = .ok (.iaload, 1) := by decide +kernel
theorem dX9_calls_76 : decode cX9_calls 76 = .ok (.iconst 1, 1) := by decide +kernel
theorem dX9_calls_77 : decode cX9_calls 77 = .ok (.iadd, 1) := by decide +kernel
theorem dX9_calls_78 : decode cX9_calls 78 = .ok (.iastore, 1) := by decide +kernel
theorem dX9_calls_79 : decode cX9_calls 79 = .ok (.aload_n 0, 1) := by decide +kernel
theorem dX9_calls_80 : decode cX9_calls 80 = .ok (.getfield 7, 3) := by decide +kernel
theorem dX9_calls_83 : decode cX9_calls 83 = .ok (.iload 5, 2) := by decide +kernel
theorem dX9_calls_85 : decode cX9_calls 85 = .ok (.iconst 1, 1) := by decide +kernel
theorem dX9_calls_86 : decode cX9_calls 86 = .ok (.iadd, 1) := by decide +kernel
theorem dX9_calls_87 : decode cX9_calls 87 = .ok (.aload_n 0, 1) := by decide +kernel
theorem dX9_calls_88 : decode cX9_calls 88 = .ok (.getfield 7, 3) := by decide +kernel
theorem dX9_calls_91 : decode cX9_calls 91 = .ok (.iload 5, 2) := by decide +kernel
theorem dX9_calls_93 : decode cX9_calls 93 = .ok (.iconst 3, 1) := by decide +kernel
theorem dX9_calls_94 : decode cX9_calls 94 = .ok (.iadd, 1) := by decide +kernel
theorem dX9_calls_95 : decode cX9_calls 95 = .ok (.iaload, 1) := by decide +kernel
theorem dX9_calls_96 : decode cX9_calls 96 = .ok (.aload_n 0, 1) := by decide +kernel
theorem dX9_calls_97 : decode cX9_calls 97 = .ok (.getfield 7, 3) := by decide +kernel
theorem dX9_calls_100 : decode cX9_calls 100 = .ok (.bipush 6, 2) := by decide +kernel
theorem dX9_calls_102 : decode cX9_calls 102 = .ok (.iaload, 1) := by decide +kernel
theorem dX9_calls_103 : decode cX9_calls 103 = .ok (.if_icmp .lt 7, 3) := by decide +kernel
theorem dX9_calls_106 : decode cX9_calls 106 = .ok (.iconst 3, 1) := by decide +kernel
theorem dX9_calls_107 : decode cX9_calls 107 = .ok (.goto 4, 3) := by decide +kernel
theorem dX9_calls_110 : decode cX9_calls 110 = .ok (.iconst 0, 1) := by decide +kernel
theorem dX9_calls_111 : decode cX9_calls 111 = .ok (.iastore, 1) := by decide +kernel
theorem dX9_calls_112 : decode cX9_calls 112 = .ok (.goto 32, 3) := by decide +kernel
theorem dX9_calls_115 : decode cX9_calls 115 = .ok (.iload 4, 2) := by decide +kernel
theorem dX9_calls_117 : decode cX9_calls 117 = .ok (.iconst 1, 1) := by decide +kernel
theorem dX9_calls_118 : decode cX9_calls 118 = .ok (.if_icmp .ne 16, 3) := by decide +kernel
theorem dX9_calls_121 : decode cX9_calls 121 = .ok (.aload_n 0, 1) := by decide +kernel
theorem dX9_calls_122 : decode cX9_calls 122 = .ok (.getfield 7, 3) := by decide +kernel
theorem dX9_calls_125 : decode cX9_calls 125 = .ok (.iload 5, 2) := by decide +kernel
theorem dX9_calls_127 : decode cX9_calls 127 = .ok (.iconst 1, 1) := by decide +kernel
theorem dX9_calls_128 : decode cX9_calls 128 = .ok (.iadd, 1) := by decide +kernel
theorem dX9_calls_129 : decode cX9_calls 129 = .ok (.iconst 2, 1) := by decide +kernel
theorem dX9_calls_130 : decode cX9_calls 130 = .ok (.iastore, 1) := by decide +kernel
theorem dX9_calls_131 : decode cX9_calls 131 = .ok (.goto 13, 3) := by decide +kernel
theorem dX9_calls_134 : decode cX9_calls 134 = .ok (.aload_n 0, 1) := by decide +kernel
theorem dX9_calls_135 : decode cX9_calls 135 = .ok (.iload_n 1, 1) := by decide +kernel
theorem dX9_calls_136 : decode cX9_calls 136 = .ok (.iload_n 2, 1) := by decide +kernel
theorem dX9_calls_137 : decode cX9_calls 137 = .ok (.iload 4, 2) := by decide +kernel
theorem dX9_calls_139 : decode cX9_calls 139 = .ok (.iconst 2, 1) := by decide +kernel
theorem dX9_calls_140 : decode cX9_calls 140 = .ok (.isub, 1) := by decide +kernel
theorem dX9_calls_141 : decode cX9_calls 141 = .ok (.invokevirtual 81, 3) := by decide +kernel
theorem dX9_calls_144 : decode cX9_calls 144 = .ok (.aload_n 0, 1) := by decide +kernel
theorem dX9_calls_145 : decode cX9_calls 145 = .ok (.getfield 7, 3) := by decide +kernel
theorem dX9_calls_148 : decode cX9_calls 148 = .ok (.iload 5, 2) := by decide +kernel
theorem dX9_calls_150 : decode cX9_calls 150 = .ok (.iconst 1, 1) := by decide +kernel
theorem dX9_calls_151 : decode cX9_calls 151 = .ok (.iadd, 1) := by decide +kernel
theorem dX9_calls_152 : decode cX9_calls 152 = .ok (.iaload, 1) := by decide +kernel
theorem dX9_calls_153 : decode cX9_calls 153 = .ok (.ireturn, 1) := by decide +kernel
set_option maxRecDepth 100000 in
theorem ggX9_appointments_X9_isFixed : GoodIn wsX9_appointments wsX9_isFixed := goodIn_r _ [6, 7, 8, 9, 5, 10, 11, 12, 13, 14, 1, 15, 16, 17, 18, 19, 20, 21, 22, 23, 24] rfl rfl
set_option maxRecDepth 100000 in
theorem gX9_appointments_X9_isFixed : GoodIn wsX9_appointments (wsV RX9 41 RX9 yX9_isFixed wsX9_isFixed) := goodIn_app (goodIn_r _ [2, 3, 4, 5] rfl rfl) ggX9_appointments_X9_isFixed
theorem dX9_appointments_0 : decode cX9_appointments 0 = .ok (.iconst 0, 1) := by decide +kernel
theorem dX9_appointments_1 : decode cX9_appointments 1 = .ok (.istore_n 1, 1) := by decide +kernel
theorem dX9_appointments_2 : decode cX9_appointments 2 = .ok (.iconst 0, 1) := by decide +kernel
theorem dX9_appointments_3 : decode cX9_appointments 3 = .ok (.istore_n 2, 1) := by decide +kernel
theorem dX9_appointments_4 : decode cX9_appointments 4 = .ok (.iload_n 2, 1) := by decide +kernel
theorem dX9_appointments_5 : decode cX9_appointments 5 = .ok (.aload_n 0, 1) := by decide +kernel
theorem dX9_appointments_6 : decode cX9_appointments 6 = .ok (.getfield 7, 3) := by decide +kernel
theorem dX9_appointments_9 : decode cX9_appointments 9 = .ok (.iconst 0, 1) := by decide +kernel
theorem dX9_appointments_10 : decode cX9_appointments 10 = .ok (.iaload, 1) := by decide +kernel
theorem dX9_appointments_11 : decode cX9_appointments 11 = .ok (.if_icmp .ge 25, 3) := by decide +kernel
theorem dX9_appointments_14 : decode cX9_appointments 14 = .ok (.iload_n 1, 1) := by decide +kernel
theorem dX9_appointments_15 : decode cX9_appointments 15 = .ok (.aload_n 0, 1) := by decide +kernel
theorem dX9_appointments_16 : decode cX9_appointments 16 = .ok (.iload_n 2, 1) := by decide +kernel
theorem dX9_appointments_17 : decode cX9_appointments 17 = .ok (.invokevirtual 41, 3) := by decide +kernel
theorem dX9_appointments_20 : decode cX9_appointments 20 = .ok (.ifCond .eq 7, 3) := by decide +kernel
theorem dX9_appointments_23 : decode cX9_appointments 23 = .ok (.iconst 1, 1) := by decide +kernel
theorem dX9_appointments_24 : decode cX9_appointments 24 = .ok (.goto 4, 3) := by decide +kernel
theorem dX9_appointments_27 : decode cX9_appointments 27 = .ok (.iconst 0, 1) := by decide +kernel
theorem dX9_appointments_28 : decode cX9_appointments 28 = .ok (.iadd, 1) := by decide +kernel
theorem dX9_appointments_29 : decode cX9_appointments 29 = .ok (.istore_n 1, 1) := by decide +kernel
theorem dX9_appointments_30 : decode cX9_appointments 30 = .ok (.iinc 2 1, 3) := by decide +kernel
theorem dX9_appointments_33 : decode cX9_appointments 33 = .ok (.goto (-29), 3) := by decide +kernel
theorem dX9_appointments_36 : decode cX9_appointments 36 = .ok (.iload_n 1, 1) := by decide +kernel
theorem dX9_appointments_37 : decode cX9_appointments 37 = .ok (.ireturn, 1) := by decide +kernel
set_option maxRecDepth 100000 in
theorem ggX9_fixes_X9_isAsked : GoodIn wsX9_fixes wsX9_isAsked := goodIn_r _ [6, 7, 8, 9, 5, 10, 1, 11, 12, 13, 14, 15, 16, 17, 50, 51, 52, 53, 54, 55, 56, 57, 58, 59] rfl rfl
set_option maxRecDepth 100000 in
theorem gX9_fixes_X9_isAsked : GoodIn wsX9_fixes (wsV RX9 71 RX9 yX9_isAsked wsX9_isAsked) := goodIn_app (goodIn_r _ [2, 3, 4, 5] rfl rfl) ggX9_fixes_X9_isAsked
set_option maxRecDepth 100000 in
theorem ggX9_fixes_X9_in : GoodIn wsX9_fixes wsX9_in := goodIn_r _ [13] rfl rfl
set_option maxRecDepth 100000 in
theorem gX9_fixes_X9_in : GoodIn wsX9_fixes (va_wsS RX9 29 yX9_in wsX9_in) := goodIn_app (goodIn_r _ [11, 12, 5] rfl rfl) ggX9_fixes_X9_in
set_option maxRecDepth 100000 in
theorem ggX9_fixes_X9_mayCall : GoodIn wsX9_fixes wsX9_mayCall := goodIn_r _ [21, 1, 22, 23, 24, 5, 25, 26, 27, 28, 29, 30, 31, 32, 33, 34, 35, 36, 37, 38, 39, 40, 41, 50, 51, 52, 53, 54, 55, 56, 57, 58, 59] rfl rfl
set_option maxRecDepth 100000 in
theorem gX9_fixes_X9_mayCall : GoodIn wsX9_fixes (wsV RX9 74 RX9 yX9_mayCall wsX9_mayCall) := goodIn_app (goodIn_r _ [18, 19, 20, 5] rfl rfl) ggX9_fixes_X9_mayCall
set_option maxRecDepth 100000 in
theorem ggX9_fixes_X9_counts : GoodIn wsX9_fixes wsX9_counts := goodIn_r _ [45, 1, 30, 31, 32, 5, 33, 26, 27, 28, 29, 50, 51, 52, 53, 54, 55, 56, 57, 58, 59] rfl rfl
set_option maxRecDepth 100000 in
theorem gX9_fixes_X9_counts : GoodIn wsX9_fixes (wsV RX9 77 RX9 yX9_counts wsX9_counts) := goodIn_app (goodIn_r _ [42, 43, 44, 5] rfl rfl) ggX9_fixes_X9_counts
set_option maxRecDepth 100000 in
theorem ggX9_fixes_X9_appointments : GoodIn wsX9_fixes wsX9_appointments := goodIn_r _ [49, 1, 34, 35, 36, 5, 37, 22, 23, 24, 25, 26, 27, 28, 29, 50, 51, 52, 53, 54, 55, 56, 57, 58, 59] rfl rfl
set_option maxRecDepth 100000 in
theorem gX9_fixes_X9_appointments : GoodIn wsX9_fixes (wsV RX9 84 RX9 yX9_appointments wsX9_appointments) := goodIn_app (goodIn_r _ [46, 47, 48, 5] rfl rfl) ggX9_fixes_X9_appointments
theorem dX9_fixes_0 : decode cX9_fixes 0 = .ok (.aload_n 0, 1) := by decide +kernel
theorem dX9_fixes_1 : decode cX9_fixes 1 = .ok (.iload_n 1, 1) := by decide +kernel
theorem dX9_fixes_2 : decode cX9_fixes 2 = .ok (.iload_n 2, 1) := by decide +kernel
theorem dX9_fixes_3 : decode cX9_fixes 3 = .ok (.iload_n 3, 1) := by decide +kernel
theorem dX9_fixes_4 : decode cX9_fixes 4 = .ok (.invokevirtual 71, 3) := by decide +kernel
theorem dX9_fixes_7 : decode cX9_fixes 7 = .ok (.ifCond .eq 25, 3) := by decide +kernel
theorem dX9_fixes_10 : decode cX9_fixes 10 = .ok (.iload 4, 2) := by decide +kernel
theorem dX9_fixes_12 : decode cX9_fixes 12 = .ok (.iconst 0, 1) := by decide +kernel
theorem dX9_fixes_13 : decode cX9_fixes 13 = .ok (.sipush 999, 3) := by decide +kernel
theorem dX9_fixes_16 : decode cX9_fixes 16 = .ok (.invokestatic 29, 3) := by decide +kernel
theorem dX9_fixes_19 : decode cX9_fixes 19 = .ok (.ifCond .eq 13, 3) := by decide +kernel
theorem dX9_fixes_22 : decode cX9_fixes 22 = .ok (.iload 5, 2) := by decide +kernel
theorem dX9_fixes_24 : decode cX9_fixes 24 = .ok (.iconst 0, 1) := by decide +kernel
theorem dX9_fixes_25 : decode cX9_fixes 25 = .ok (.iconst 2, 1) := by decide +kernel
theorem dX9_fixes_26 : decode cX9_fixes 26 = .ok (.invokestatic 29, 3) := by decide +kernel
theorem dX9_fixes_29 : decode cX9_fixes 29 = .ok (.ifCond .ne 5, 3) := by decide +kernel
theorem dX9_fixes_32 : decode cX9_fixes 32 = .ok (.iconst (-1), 1) := by decide +kernel
theorem dX9_fixes_33 : decode cX9_fixes 33 = .ok (.ireturn, 1) := by decide +kernel
theorem dX9_fixes_34 : decode cX9_fixes 34 = .ok (.aload_n 0, 1) := by decide +kernel
theorem dX9_fixes_35 : decode cX9_fixes 35 = .ok (.iload_n 1, 1) := by decide +kernel
theorem dX9_fixes_36 : decode cX9_fixes 36 = .ok (.iload_n 2, 1) := by decide +kernel
theorem dX9_fixes_37 : decode cX9_fixes 37 = .ok (.iload_n 3, 1) := by decide +kernel
theorem dX9_fixes_38 : decode cX9_fixes 38 = .ok (.invokevirtual 74, 3) := by decide +kernel
theorem dX9_fixes_41 : decode cX9_fixes 41 = .ok (.ifCond .eq 14, 3) := by decide +kernel
theorem dX9_fixes_44 : decode cX9_fixes 44 = .ok (.iload 4, 2) := by decide +kernel
theorem dX9_fixes_46 : decode cX9_fixes 46 = .ok (.aload_n 0, 1) := by decide +kernel
theorem dX9_fixes_47 : decode cX9_fixes 47 = .ok (.getfield 7, 3) := by decide +kernel
theorem dX9_fixes_50 : decode cX9_fixes 50 = .ok (.iconst 2, 1) := by decide +kernel
theorem dX9_fixes_51 : decode cX9_fixes 51 = .ok (.iaload, 1) := by decide +kernel
theorem dX9_fixes_52 : decode cX9_fixes 52 = .ok (.if_icmp .gt 6, 3) := by decide +kernel
theorem dX9_fixes_55 : decode cX9_fixes 55 = .ok (.bipush (-2), 2) := by decide +kernel
theorem dX9_fixes_57 : decode cX9_fixes 57 = .ok (.ireturn, 1) := by decide +kernel
theorem dX9_fixes_58 : decode cX9_fixes 58 = .ok (.aload_n 0, 1) := by decide +kernel
theorem dX9_fixes_59 : decode cX9_fixes 59 = .ok (.iload_n 1, 1) := by decide +kernel
theorem dX9_fixes_60 : decode cX9_fixes 60 = .ok (.iload_n 2, 1) := by decide +kernel
theorem dX9_fixes_61 : decode cX9_fixes 61 = .ok (.iload_n 3, 1) := by decide +kernel
theorem dX9_fixes_62 : decode cX9_fixes 62 = .ok (.invokevirtual 77, 3) := by decide +kernel
theorem dX9_fixes_65 : decode cX9_fixes 65 = .ok (.aload_n 0, 1) := by decide +kernel
theorem dX9_fixes_66 : decode cX9_fixes 66 = .ok (.getfield 7, 3) := by decide +kernel
theorem dX9_fixes_69 : decode cX9_fixes 69 = .ok (.bipush 74, 2) := by decide +kernel
theorem dX9_fixes_71 : decode cX9_fixes 71 = .ok (.bipush 10, 2) := by decide +kernel
theorem dX9_fixes_73 : decode cX9_fixes 73 = .ok (.iload_n 2, 1) := by decide +kernel
theorem dX9_fixes_74 : decode cX9_fixes 74 = .ok (.imul, 1) := by decide +kernel
theorem dX9_fixes_75 : decode cX9_fixes 75 = .ok (.iadd, 1) := by decide +kernel
theorem dX9_fixes_76 : decode cX9_fixes 76 = .ok (.bipush 6, 2) := by decide +kernel
theorem dX9_fixes_78 : decode cX9_fixes 78 = .ok (.iadd, 1) := by decide +kernel
theorem dX9_fixes_79 : decode cX9_fixes 79 = .ok (.iload 4, 2) := by decide +kernel
theorem dX9_fixes_81 : decode cX9_fixes 81 = .ok (.iconst 1, 1) := by decide +kernel
theorem dX9_fixes_82 : decode cX9_fixes 82 = .ok (.iadd, 1) := by decide +kernel
theorem dX9_fixes_83 : decode cX9_fixes 83 = .ok (.iastore, 1) := by decide +kernel
theorem dX9_fixes_84 : decode cX9_fixes 84 = .ok (.aload_n 0, 1) := by decide +kernel
theorem dX9_fixes_85 : decode cX9_fixes 85 = .ok (.getfield 7, 3) := by decide +kernel
theorem dX9_fixes_88 : decode cX9_fixes 88 = .ok (.bipush 74, 2) := by decide +kernel
theorem dX9_fixes_90 : decode cX9_fixes 90 = .ok (.bipush 10, 2) := by decide +kernel
theorem dX9_fixes_92 : decode cX9_fixes 92 = .ok (.iload_n 2, 1) := by decide +kernel
theorem dX9_fixes_93 : decode cX9_fixes 93 = .ok (.imul, 1) := by decide +kernel
theorem dX9_fixes_94 : decode cX9_fixes 94 = .ok (.iadd, 1) := by decide +kernel
theorem dX9_fixes_95 : decode cX9_fixes 95 = .ok (.bipush 7, 2) := by decide +kernel
theorem dX9_fixes_97 : decode cX9_fixes 97 = .ok (.iadd, 1) := by decide +kernel
theorem dX9_fixes_98 : decode cX9_fixes 98 = .ok (.iload 5, 2) := by decide +kernel
theorem dX9_fixes_100 : decode cX9_fixes 100 = .ok (.iastore, 1) := by decide +kernel
theorem dX9_fixes_101 : decode cX9_fixes 101 = .ok (.aload_n 0, 1) := by decide +kernel
theorem dX9_fixes_102 : decode cX9_fixes 102 = .ok (.invokevirtual 84, 3) := by decide +kernel
theorem dX9_fixes_105 : decode cX9_fixes 105 = .ok (.ireturn, 1) := by decide +kernel
set_option maxRecDepth 100000 in
theorem ggX9_passes_X9_in : GoodIn wsX9_passes wsX9_in := goodIn_r _ [5] rfl rfl
set_option maxRecDepth 100000 in
theorem gX9_passes_X9_in : GoodIn wsX9_passes (va_wsS RX9 29 yX9_in wsX9_in) := goodIn_app (goodIn_r _ [2, 3, 4] rfl rfl) ggX9_passes_X9_in
theorem dX9_passes_0 : decode cX9_passes 0 = .ok (.iload_n 1, 1) := by decide +kernel
theorem dX9_passes_1 : decode cX9_passes 1 = .ok (.iconst 1, 1) := by decide +kernel
theorem dX9_passes_2 : decode cX9_passes 2 = .ok (.bipush 99, 2) := by decide +kernel
theorem dX9_passes_4 : decode cX9_passes 4 = .ok (.invokestatic 29, 3) := by decide +kernel
theorem dX9_passes_7 : decode cX9_passes 7 = .ok (.ifCond .ne 5, 3) := by decide +kernel
theorem dX9_passes_10 : decode cX9_passes 10 = .ok (.iconst (-1), 1) := by decide +kernel
theorem dX9_passes_11 : decode cX9_passes 11 = .ok (.ireturn, 1) := by decide +kernel
theorem dX9_passes_12 : decode cX9_passes 12 = .ok (.aload_n 0, 1) := by decide +kernel
theorem dX9_passes_13 : decode cX9_passes 13 = .ok (.getfield 7, 3) := by decide +kernel
theorem dX9_passes_16 : decode cX9_passes 16 = .ok (.iconst 2, 1) := by decide +kernel
theorem dX9_passes_17 : decode cX9_passes 17 = .ok (.iaload, 1) := by decide +kernel
theorem dX9_passes_18 : decode cX9_passes 18 = .ok (.iload_n 1, 1) := by decide +kernel
theorem dX9_passes_19 : decode cX9_passes 19 = .ok (.iadd, 1) := by decide +kernel
theorem dX9_passes_20 : decode cX9_passes 20 = .ok (.sipush 999, 3) := by decide +kernel
theorem dX9_passes_23 : decode cX9_passes 23 = .ok (.if_icmp .le 6, 3) := by decide +kernel
theorem dX9_passes_26 : decode cX9_passes 26 = .ok (.bipush (-3), 2) := by decide +kernel
theorem dX9_passes_28 : decode cX9_passes 28 = .ok (.ireturn, 1) := by decide +kernel
theorem dX9_passes_29 : decode cX9_passes 29 = .ok (.aload_n 0, 1) := by decide +kernel
theorem dX9_passes_30 : decode cX9_passes 30 = .ok (.getfield 7, 3) := by decide +kernel
theorem dX9_passes_33 : decode cX9_passes 33 = .ok (.iconst 2, 1) := by decide +kernel
theorem dX9_passes_34 : decode cX9_passes 34 = .ok (.dup2, 1) := by decide +kernel
theorem dX9_passes_35 : decode cX9_passes 35 = .ok (.iaload, 1) := by decide +kernel
theorem dX9_passes_36 : decode cX9_passes 36 = .ok (.iload_n 1, 1) := by decide +kernel
theorem dX9_passes_37 : decode cX9_passes 37 = .ok (.iadd, 1) := by decide +kernel
theorem dX9_passes_38 : decode cX9_passes 38 = .ok (.iastore, 1) := by decide +kernel
theorem dX9_passes_39 : decode cX9_passes 39 = .ok (.iconst 0, 1) := by decide +kernel
theorem dX9_passes_40 : decode cX9_passes 40 = .ok (.istore_n 2, 1) := by decide +kernel
theorem dX9_passes_41 : decode cX9_passes 41 = .ok (.iload_n 2, 1) := by decide +kernel
theorem dX9_passes_42 : decode cX9_passes 42 = .ok (.aload_n 0, 1) := by decide +kernel
theorem dX9_passes_43 : decode cX9_passes 43 = .ok (.getfield 7, 3) := by decide +kernel
theorem dX9_passes_46 : decode cX9_passes 46 = .ok (.iconst 1, 1) := by decide +kernel
theorem dX9_passes_47 : decode cX9_passes 47 = .ok (.iaload, 1) := by decide +kernel
theorem dX9_passes_48 : decode cX9_passes 48 = .ok (.if_icmp .ge 24, 3) := by decide +kernel
theorem dX9_passes_51 : decode cX9_passes 51 = .ok (.aload_n 0, 1) := by decide +kernel
theorem dX9_passes_52 : decode cX9_passes 52 = .ok (.getfield 7, 3) := by decide +kernel
theorem dX9_passes_55 : decode cX9_passes 55 = .ok (.bipush 44, 2) := by decide +kernel
theorem dX9_passes_57 : decode cX9_passes 57 = .ok (.bipush 6, 2) := by decide +kernel
theorem dX9_passes_59 : decode cX9_passes 59 = .ok (.iload_n 2, 1) := by decide +kernel
theorem dX9_passes_60 : decode cX9_passes 60 = .ok (.imul, 1) := by decide +kernel
theorem dX9_passes_61 : decode cX9_passes 61 = .ok (.iadd, 1) := by decide +kernel
theorem dX9_passes_62 : decode cX9_passes 62 = .ok (.iconst 2, 1) := by decide +kernel
theorem dX9_passes_63 : decode cX9_passes 63 = .ok (.iadd, 1) := by decide +kernel
theorem dX9_passes_64 : decode cX9_passes 64 = .ok (.iconst 0, 1) := by decide +kernel
theorem dX9_passes_65 : decode cX9_passes 65 = .ok (.iastore, 1) := by decide +kernel
theorem dX9_passes_66 : decode cX9_passes 66 = .ok (.iinc 2 1, 3) := by decide +kernel
theorem dX9_passes_69 : decode cX9_passes 69 = .ok (.goto (-28), 3) := by decide +kernel
theorem dX9_passes_72 : decode cX9_passes 72 = .ok (.aload_n 0, 1) := by decide +kernel
theorem dX9_passes_73 : decode cX9_passes 73 = .ok (.getfield 7, 3) := by decide +kernel
theorem dX9_passes_76 : decode cX9_passes 76 = .ok (.iconst 2, 1) := by decide +kernel
theorem dX9_passes_77 : decode cX9_passes 77 = .ok (.iaload, 1) := by decide +kernel
theorem dX9_passes_78 : decode cX9_passes 78 = .ok (.ireturn, 1) := by decide +kernel
set_option maxRecDepth 100000 in
theorem ggX9_sets_X9_in : GoodIn wsX9_sets wsX9_in := goodIn_r _ [5] rfl rfl
set_option maxRecDepth 100000 in
theorem gX9_sets_X9_in : GoodIn wsX9_sets (va_wsS RX9 29 yX9_in wsX9_in) := goodIn_app (goodIn_r _ [2, 3, 4] rfl rfl) ggX9_sets_X9_in
theorem dX9_sets_0 : decode cX9_sets 0 = .ok (.iload_n 1, 1) := by decide +kernel
theorem dX9_sets_1 : decode cX9_sets 1 = .ok (.iconst 0, 1) := by decide +kernel
theorem dX9_sets_2 : decode cX9_sets 2 = .ok (.iconst 1, 1) := by decide +kernel
theorem dX9_sets_3 : decode cX9_sets 3 = .ok (.invokestatic 29, 3) := by decide +kernel
theorem dX9_sets_6 : decode cX9_sets 6 = .ok (.ifCond .eq 21, 3) := by decide +kernel
theorem dX9_sets_9 : decode cX9_sets 9 = .ok (.iload_n 2, 1) := by decide +kernel
theorem dX9_sets_10 : decode cX9_sets 10 = .ok (.iload_n 1, 1) := by decide +kernel
theorem dX9_sets_11 : decode cX9_sets 11 = .ok (.ifCond .ne 7, 3) := by decide +kernel
theorem dX9_sets_14 : decode cX9_sets 14 = .ok (.iconst 1, 1) := by decide +kernel
theorem dX9_sets_15 : decode cX9_sets 15 = .ok (.goto 4, 3) := by decide +kernel
theorem dX9_sets_18 : decode cX9_sets 18 = .ok (.iconst 0, 1) := by decide +kernel
theorem dX9_sets_19 : decode cX9_sets 19 = .ok (.bipush 9, 2) := by decide +kernel
theorem dX9_sets_21 : decode cX9_sets 21 = .ok (.invokestatic 29, 3) := by decide +kernel
theorem dX9_sets_24 : decode cX9_sets 24 = .ok (.ifCond .ne 5, 3) := by decide +kernel
theorem dX9_sets_27 : decode cX9_sets 27 = .ok (.iconst (-1), 1) := by decide +kernel
theorem dX9_sets_28 : decode cX9_sets 28 = .ok (.ireturn, 1) := by decide +kernel
theorem dX9_sets_29 : decode cX9_sets 29 = .ok (.aload_n 0, 1) := by decide +kernel
theorem dX9_sets_30 : decode cX9_sets 30 = .ok (.getfield 7, 3) := by decide +kernel
theorem dX9_sets_33 : decode cX9_sets 33 = .ok (.bipush 6, 2) := by decide +kernel
theorem dX9_sets_35 : decode cX9_sets 35 = .ok (.iload_n 1, 1) := by decide +kernel
theorem dX9_sets_36 : decode cX9_sets 36 = .ok (.iadd, 1) := by decide +kernel
theorem dX9_sets_37 : decode cX9_sets 37 = .ok (.iaload, 1) := by decide +kernel
theorem dX9_sets_38 : decode cX9_sets 38 = .ok (.istore_n 3, 1) := by decide +kernel
theorem dX9_sets_39 : decode cX9_sets 39 = .ok (.aload_n 0, 1) := by decide +kernel
theorem dX9_sets_40 : decode cX9_sets 40 = .ok (.getfield 7, 3) := by decide +kernel
theorem dX9_sets_43 : decode cX9_sets 43 = .ok (.bipush 6, 2) := by decide +kernel
theorem dX9_sets_45 : decode cX9_sets 45 = .ok (.iload_n 1, 1) := by decide +kernel
theorem dX9_sets_46 : decode cX9_sets 46 = .ok (.iadd, 1) := by decide +kernel
theorem dX9_sets_47 : decode cX9_sets 47 = .ok (.iload_n 2, 1) := by decide +kernel
theorem dX9_sets_48 : decode cX9_sets 48 = .ok (.iastore, 1) := by decide +kernel
theorem dX9_sets_49 : decode cX9_sets 49 = .ok (.iload_n 3, 1) := by decide +kernel
theorem dX9_sets_50 : decode cX9_sets 50 = .ok (.ireturn, 1) := by decide +kernel
set_option maxRecDepth 100000 in
theorem ggX9_address_X9_begins : GoodIn wsX9_address wsX9_begins := goodIn_r _ [5, 6, 7, 21, 22, 23, 24, 25, 26, 27, 28, 29, 30] rfl rfl
set_option maxRecDepth 100000 in
theorem gX9_address_X9_begins : GoodIn wsX9_address (wsV RX9 88 RX9 yX9_begins wsX9_begins) := goodIn_app (goodIn_r _ [1, 2, 3, 4] rfl rfl) ggX9_address_X9_begins
set_option maxRecDepth 100000 in
theorem ggX9_address_X9_adds : GoodIn wsX9_address wsX9_adds := goodIn_r _ [11, 7, 12, 13, 4, 14, 21, 22, 23, 24, 25, 26, 27, 28, 29, 30] rfl rfl
set_option maxRecDepth 100000 in
theorem gX9_address_X9_adds : GoodIn wsX9_address (wsV RX9 91 RX9 yX9_adds wsX9_adds) := goodIn_app (goodIn_r _ [8, 9, 10, 4] rfl rfl) ggX9_address_X9_adds
set_option maxRecDepth 100000 in
theorem ggX9_address_X9_acted : GoodIn wsX9_address wsX9_acted := goodIn_r _ [18, 19, 20, 6, 21, 22, 23, 24, 25, 26, 27, 28, 29, 30] rfl rfl
set_option maxRecDepth 100000 in
theorem gX9_address_X9_acted : GoodIn wsX9_address (wsV RX9 95 RX9 yX9_acted wsX9_acted) := goodIn_app (goodIn_r _ [15, 16, 17, 4] rfl rfl) ggX9_address_X9_acted
theorem dX9_address_0 : decode cX9_address 0 = .ok (.aload_n 0, 1) := by decide +kernel
theorem dX9_address_1 : decode cX9_address 1 = .ok (.invokevirtual 88, 3) := by decide +kernel
theorem dX9_address_4 : decode cX9_address 4 = .ok (.aload_n 0, 1) := by decide +kernel
theorem dX9_address_5 : decode cX9_address 5 = .ok (.aload_n 0, 1) := by decide +kernel
theorem dX9_address_6 : decode cX9_address 6 = .ok (.iload_n 1, 1) := by decide +kernel
theorem dX9_address_7 : decode cX9_address 7 = .ok (.invokevirtual 91, 3) := by decide +kernel
theorem dX9_address_10 : decode cX9_address 10 = .ok (.invokevirtual 95, 3) := by decide +kernel
theorem dX9_address_13 : decode cX9_address 13 = .ok (.ireturn, 1) := by decide +kernel
set_option maxRecDepth 100000 in
theorem ggX9_interviewer_X9_begins : GoodIn wsX9_interviewer wsX9_begins := goodIn_r _ [5, 6, 7, 21, 22, 23, 24, 25, 26, 27, 28, 29, 30] rfl rfl
set_option maxRecDepth 100000 in
theorem gX9_interviewer_X9_begins : GoodIn wsX9_interviewer (wsV RX9 88 RX9 yX9_begins wsX9_begins) := goodIn_app (goodIn_r _ [1, 2, 3, 4] rfl rfl) ggX9_interviewer_X9_begins
set_option maxRecDepth 100000 in
theorem ggX9_interviewer_X9_comes : GoodIn wsX9_interviewer wsX9_comes := goodIn_r _ [11, 7, 12, 13, 4, 14, 21, 22, 23, 24, 25, 26, 27, 28, 29, 30] rfl rfl
set_option maxRecDepth 100000 in
theorem gX9_interviewer_X9_comes : GoodIn wsX9_interviewer (wsV RX9 98 RX9 yX9_comes wsX9_comes) := goodIn_app (goodIn_r _ [8, 9, 10, 4] rfl rfl) ggX9_interviewer_X9_comes
set_option maxRecDepth 100000 in
theorem ggX9_interviewer_X9_acted : GoodIn wsX9_interviewer wsX9_acted := goodIn_r _ [18, 19, 20, 6, 21, 22, 23, 24, 25, 26, 27, 28, 29, 30] rfl rfl
set_option maxRecDepth 100000 in
theorem gX9_interviewer_X9_acted : GoodIn wsX9_interviewer (wsV RX9 95 RX9 yX9_acted wsX9_acted) := goodIn_app (goodIn_r _ [15, 16, 17, 4] rfl rfl) ggX9_interviewer_X9_acted
theorem dX9_interviewer_0 : decode cX9_interviewer 0 = .ok (.aload_n 0, 1) := by decide +kernel
theorem dX9_interviewer_1 : decode cX9_interviewer 1 = .ok (.invokevirtual 88, 3) := by decide +kernel
theorem dX9_interviewer_4 : decode cX9_interviewer 4 = .ok (.aload_n 0, 1) := by decide +kernel
theorem dX9_interviewer_5 : decode cX9_interviewer 5 = .ok (.aload_n 0, 1) := by decide +kernel
theorem dX9_interviewer_6 : decode cX9_interviewer 6 = .ok (.iload_n 1, 1) := by decide +kernel
theorem dX9_interviewer_7 : decode cX9_interviewer 7 = .ok (.iload_n 2, 1) := by decide +kernel
theorem dX9_interviewer_8 : decode cX9_interviewer 8 = .ok (.invokevirtual 98, 3) := by decide +kernel
theorem dX9_interviewer_11 : decode cX9_interviewer 11 = .ok (.invokevirtual 95, 3) := by decide +kernel
theorem dX9_interviewer_14 : decode cX9_interviewer 14 = .ok (.ireturn, 1) := by decide +kernel
set_option maxRecDepth 100000 in
theorem ggX9_quota_X9_begins : GoodIn wsX9_quota wsX9_begins := goodIn_r _ [5, 6, 7, 28, 29, 30, 31, 32, 33, 34, 35, 36, 37] rfl rfl
set_option maxRecDepth 100000 in
theorem gX9_quota_X9_begins : GoodIn wsX9_quota (wsV RX9 88 RX9 yX9_begins wsX9_begins) := goodIn_app (goodIn_r _ [1, 2, 3, 4] rfl rfl) ggX9_quota_X9_begins
set_option maxRecDepth 100000 in
theorem ggX9_quota_X9_limits : GoodIn wsX9_quota wsX9_limits := goodIn_r _ [11, 12, 13, 4, 14, 15, 16, 17, 18, 19, 20, 21, 7, 28, 29, 30, 31, 32, 33, 34, 35, 36, 37] rfl rfl
set_option maxRecDepth 100000 in
theorem gX9_quota_X9_limits : GoodIn wsX9_quota (wsV RX9 101 RX9 yX9_limits wsX9_limits) := goodIn_app (goodIn_r _ [8, 9, 10, 4] rfl rfl) ggX9_quota_X9_limits
set_option maxRecDepth 100000 in
theorem ggX9_quota_X9_acted : GoodIn wsX9_quota wsX9_acted := goodIn_r _ [25, 26, 27, 6, 28, 29, 30, 31, 32, 33, 34, 35, 36, 37] rfl rfl
set_option maxRecDepth 100000 in
theorem gX9_quota_X9_acted : GoodIn wsX9_quota (wsV RX9 95 RX9 yX9_acted wsX9_acted) := goodIn_app (goodIn_r _ [22, 23, 24, 4] rfl rfl) ggX9_quota_X9_acted
theorem dX9_quota_0 : decode cX9_quota 0 = .ok (.aload_n 0, 1) := by decide +kernel
theorem dX9_quota_1 : decode cX9_quota 1 = .ok (.invokevirtual 88, 3) := by decide +kernel
theorem dX9_quota_4 : decode cX9_quota 4 = .ok (.aload_n 0, 1) := by decide +kernel
theorem dX9_quota_5 : decode cX9_quota 5 = .ok (.aload_n 0, 1) := by decide +kernel
theorem dX9_quota_6 : decode cX9_quota 6 = .ok (.iload_n 1, 1) := by decide +kernel
theorem dX9_quota_7 : decode cX9_quota 7 = .ok (.iload_n 2, 1) := by decide +kernel
theorem dX9_quota_8 : decode cX9_quota 8 = .ok (.iload_n 3, 1) := by decide +kernel
theorem dX9_quota_9 : decode cX9_quota 9 = .ok (.invokevirtual 101, 3) := by decide +kernel
theorem dX9_quota_12 : decode cX9_quota 12 = .ok (.invokevirtual 95, 3) := by decide +kernel
theorem dX9_quota_15 : decode cX9_quota 15 = .ok (.ireturn, 1) := by decide +kernel
set_option maxRecDepth 100000 in
theorem ggX9_population_X9_begins : GoodIn wsX9_population wsX9_begins := goodIn_r _ [5, 6, 7, 24, 25, 26, 27, 28, 29, 30, 31, 32, 33] rfl rfl
set_option maxRecDepth 100000 in
theorem gX9_population_X9_begins : GoodIn wsX9_population (wsV RX9 88 RX9 yX9_begins wsX9_begins) := goodIn_app (goodIn_r _ [1, 2, 3, 4] rfl rfl) ggX9_population_X9_begins
set_option maxRecDepth 100000 in
theorem ggX9_population_X9_isCell : GoodIn wsX9_population wsX9_isCell := goodIn_r _ [10, 11, 12, 4, 13] rfl rfl
set_option maxRecDepth 100000 in
theorem gX9_population_X9_isCell : GoodIn wsX9_population (va_wsS RX9 48 yX9_isCell wsX9_isCell) := goodIn_app (goodIn_r _ [8, 9, 4] rfl rfl) ggX9_population_X9_isCell
set_option maxRecDepth 100000 in
theorem ggX9_population_X9_in : GoodIn wsX9_population wsX9_in := goodIn_r _ [13] rfl rfl
set_option maxRecDepth 100000 in
theorem gX9_population_X9_in : GoodIn wsX9_population (va_wsS RX9 29 yX9_in wsX9_in) := goodIn_app (goodIn_r _ [11, 12, 4] rfl rfl) ggX9_population_X9_in
set_option maxRecDepth 100000 in
theorem ggX9_population_X9_puts : GoodIn wsX9_population wsX9_puts := goodIn_r _ [17, 7, 24, 25, 26, 27, 28, 29, 30, 31, 32, 33] rfl rfl
set_option maxRecDepth 100000 in
theorem gX9_population_X9_puts : GoodIn wsX9_population (wsV RX9 52 RX9 yX9_puts wsX9_puts) := goodIn_app (goodIn_r _ [14, 15, 16, 4] rfl rfl) ggX9_population_X9_puts
set_option maxRecDepth 100000 in
theorem ggX9_population_X9_acted : GoodIn wsX9_population wsX9_acted := goodIn_r _ [21, 22, 23, 6, 24, 25, 26, 27, 28, 29, 30, 31, 32, 33] rfl rfl
set_option maxRecDepth 100000 in
theorem gX9_population_X9_acted : GoodIn wsX9_population (wsV RX9 95 RX9 yX9_acted wsX9_acted) := goodIn_app (goodIn_r _ [18, 19, 20, 4] rfl rfl) ggX9_population_X9_acted
theorem dX9_population_0 : decode cX9_population 0 = .ok (.aload_n 0, 1) := by decide +kernel
theorem dX9_population_1 : decode cX9_population 1 = .ok (.invokevirtual 88, 3) := by decide +kernel
theorem dX9_population_4 : decode cX9_population 4 = .ok (.aload_n 0, 1) := by decide +kernel
theorem dX9_population_5 : decode cX9_population 5 = .ok (.iload_n 1, 1) := by decide +kernel
theorem dX9_population_6 : decode cX9_population 6 = .ok (.iload_n 2, 1) := by decide +kernel
theorem dX9_population_7 : decode cX9_population 7 = .ok (.invokestatic 48, 3) := by decide +kernel
theorem dX9_population_10 : decode cX9_population 10 = .ok (.ifCond .eq 25, 3) := by decide +kernel
theorem dX9_population_13 : decode cX9_population 13 = .ok (.iload_n 3, 1) := by decide +kernel
theorem dX9_population_14 : decode cX9_population 14 = .ok (.iconst 0, 1) := by decide +kernel
theorem dX9_population_15 : decode cX9_population 15 = .ok (.sipush 9999, 3) := by decide +kernel
theorem dX9_population_18 : decode cX9_population 18 = .ok (.invokestatic 29, 3) := by decide +kernel
theorem dX9_population_21 : decode cX9_population 21 = .ok (.ifCond .eq 14, 3) := by decide +kernel
theorem dX9_population_24 : decode cX9_population 24 = .ok (.aload_n 0, 1) := by decide +kernel
theorem dX9_population_25 : decode cX9_population 25 = .ok (.iload_n 1, 1) := by decide +kernel
theorem dX9_population_26 : decode cX9_population 26 = .ok (.iload_n 2, 1) := by decide +kernel
theorem dX9_population_27 : decode cX9_population 27 = .ok (.iconst 2, 1) := by decide +kernel
theorem dX9_population_28 : decode cX9_population 28 = .ok (.iload_n 3, 1) := by decide +kernel
theorem dX9_population_29 : decode cX9_population 29 = .ok (.invokevirtual 52, 3) := by decide +kernel
theorem dX9_population_32 : decode cX9_population 32 = .ok (.goto 4, 3) := by decide +kernel
theorem dX9_population_35 : decode cX9_population 35 = .ok (.iconst (-1), 1) := by decide +kernel
theorem dX9_population_36 : decode cX9_population 36 = .ok (.invokevirtual 95, 3) := by decide +kernel
theorem dX9_population_39 : decode cX9_population 39 = .ok (.ireturn, 1) := by decide +kernel
set_option maxRecDepth 100000 in
theorem ggX9_call_X9_begins : GoodIn wsX9_call wsX9_begins := goodIn_r _ [5, 6, 7, 73, 74, 75, 76, 77, 78, 79, 80, 81, 82] rfl rfl
set_option maxRecDepth 100000 in
theorem gX9_call_X9_begins : GoodIn wsX9_call (wsV RX9 88 RX9 yX9_begins wsX9_begins) := goodIn_app (goodIn_r _ [1, 2, 3, 4] rfl rfl) ggX9_call_X9_begins
set_option maxRecDepth 100000 in
theorem ggX9_call_X9_calls : GoodIn wsX9_call wsX9_calls := goodIn_r _ [11, 7, 12, 13, 14, 4, 15, 16, 17, 18, 19, 20, 21, 22, 23, 24, 25, 26, 27, 28, 29, 30, 31, 32, 33, 34, 35, 36, 37, 38, 39, 40, 41, 42, 43, 44, 45, 46, 47, 48, 49, 50, 51, 52, 53, 54, 55, 56, 57, 58, 59, 60, 61, 62, 63, 64, 65, 66, 73, 74, 75, 76, 77, 78, 79, 80, 81, 82] rfl rfl
set_option maxRecDepth 100000 in
theorem gX9_call_X9_calls : GoodIn wsX9_call (wsV RX9 104 RX9 yX9_calls wsX9_calls) := goodIn_app (goodIn_r _ [8, 9, 10, 4] rfl rfl) ggX9_call_X9_calls
set_option maxRecDepth 100000 in
theorem ggX9_call_X9_acted : GoodIn wsX9_call wsX9_acted := goodIn_r _ [70, 71, 72, 6, 73, 74, 75, 76, 77, 78, 79, 80, 81, 82] rfl rfl
set_option maxRecDepth 100000 in
theorem gX9_call_X9_acted : GoodIn wsX9_call (wsV RX9 95 RX9 yX9_acted wsX9_acted) := goodIn_app (goodIn_r _ [67, 68, 69, 4] rfl rfl) ggX9_call_X9_acted
theorem dX9_call_0 : decode cX9_call 0 = .ok (.aload_n 0, 1) := by decide +kernel
theorem dX9_call_1 : decode cX9_call 1 = .ok (.invokevirtual 88, 3) := by decide +kernel
theorem dX9_call_4 : decode cX9_call 4 = .ok (.aload_n 0, 1) := by decide +kernel
theorem dX9_call_5 : decode cX9_call 5 = .ok (.aload_n 0, 1) := by decide +kernel
theorem dX9_call_6 : decode cX9_call 6 = .ok (.iload_n 1, 1) := by decide +kernel
theorem dX9_call_7 : decode cX9_call 7 = .ok (.iload_n 2, 1) := by decide +kernel
theorem dX9_call_8 : decode cX9_call 8 = .ok (.iload_n 3, 1) := by decide +kernel
theorem dX9_call_9 : decode cX9_call 9 = .ok (.iload 4, 2) := by decide +kernel
theorem dX9_call_11 : decode cX9_call 11 = .ok (.invokevirtual 104, 3) := by decide +kernel
theorem dX9_call_14 : decode cX9_call 14 = .ok (.invokevirtual 95, 3) := by decide +kernel
theorem dX9_call_17 : decode cX9_call 17 = .ok (.ireturn, 1) := by decide +kernel
set_option maxRecDepth 100000 in
theorem ggX9_later_X9_begins : GoodIn wsX9_later wsX9_begins := goodIn_r _ [5, 6, 7, 65, 66, 67, 68, 69, 70, 71, 72, 73, 74] rfl rfl
set_option maxRecDepth 100000 in
theorem gX9_later_X9_begins : GoodIn wsX9_later (wsV RX9 88 RX9 yX9_begins wsX9_begins) := goodIn_app (goodIn_r _ [1, 2, 3, 4] rfl rfl) ggX9_later_X9_begins
set_option maxRecDepth 100000 in
theorem ggX9_later_X9_fixes : GoodIn wsX9_later wsX9_fixes := goodIn_r _ [11, 7, 12, 13, 14, 4, 15, 16, 17, 18, 19, 20, 21, 22, 23, 24, 25, 26, 27, 28, 29, 30, 31, 32, 33, 34, 35, 36, 37, 38, 39, 40, 41, 42, 43, 44, 45, 46, 47, 48, 49, 50, 51, 52, 53, 54, 55, 56, 57, 58, 65, 66, 67, 68, 69, 70, 71, 72, 73, 74] rfl rfl
set_option maxRecDepth 100000 in
theorem gX9_later_X9_fixes : GoodIn wsX9_later (wsV RX9 107 RX9 yX9_fixes wsX9_fixes) := goodIn_app (goodIn_r _ [8, 9, 10, 4] rfl rfl) ggX9_later_X9_fixes
set_option maxRecDepth 100000 in
theorem ggX9_later_X9_acted : GoodIn wsX9_later wsX9_acted := goodIn_r _ [62, 63, 64, 6, 65, 66, 67, 68, 69, 70, 71, 72, 73, 74] rfl rfl
set_option maxRecDepth 100000 in
theorem gX9_later_X9_acted : GoodIn wsX9_later (wsV RX9 95 RX9 yX9_acted wsX9_acted) := goodIn_app (goodIn_r _ [59, 60, 61, 4] rfl rfl) ggX9_later_X9_acted
theorem dX9_later_0 : decode cX9_later 0 = .ok (.aload_n 0, 1) := by decide +kernel
theorem dX9_later_1 : decode cX9_later 1 = .ok (.invokevirtual 88, 3) := by decide +kernel
theorem dX9_later_4 : decode cX9_later 4 = .ok (.aload_n 0, 1) := by decide +kernel
theorem dX9_later_5 : decode cX9_later 5 = .ok (.aload_n 0, 1) := by decide +kernel
theorem dX9_later_6 : decode cX9_later 6 = .ok (.iload_n 1, 1) := by decide +kernel
theorem dX9_later_7 : decode cX9_later 7 = .ok (.iload_n 2, 1) := by decide +kernel
theorem dX9_later_8 : decode cX9_later 8 = .ok (.iload_n 3, 1) := by decide +kernel
theorem dX9_later_9 : decode cX9_later 9 = .ok (.iload 4, 2) := by decide +kernel
theorem dX9_later_11 : decode cX9_later 11 = .ok (.iload 5, 2) := by decide +kernel
theorem dX9_later_13 : decode cX9_later 13 = .ok (.invokevirtual 107, 3) := by decide +kernel
theorem dX9_later_16 : decode cX9_later 16 = .ok (.invokevirtual 95, 3) := by decide +kernel
theorem dX9_later_19 : decode cX9_later 19 = .ok (.ireturn, 1) := by decide +kernel
set_option maxRecDepth 100000 in
theorem ggX9_pass_X9_begins : GoodIn wsX9_pass wsX9_begins := goodIn_r _ [5, 6, 7, 21, 22, 23, 24, 25, 26, 27, 28, 29, 30] rfl rfl
set_option maxRecDepth 100000 in
theorem gX9_pass_X9_begins : GoodIn wsX9_pass (wsV RX9 88 RX9 yX9_begins wsX9_begins) := goodIn_app (goodIn_r _ [1, 2, 3, 4] rfl rfl) ggX9_pass_X9_begins
set_option maxRecDepth 100000 in
theorem ggX9_pass_X9_passes : GoodIn wsX9_pass wsX9_passes := goodIn_r _ [11, 7, 12, 13, 4, 14, 21, 22, 23, 24, 25, 26, 27, 28, 29, 30] rfl rfl
set_option maxRecDepth 100000 in
theorem gX9_pass_X9_passes : GoodIn wsX9_pass (wsV RX9 111 RX9 yX9_passes wsX9_passes) := goodIn_app (goodIn_r _ [8, 9, 10, 4] rfl rfl) ggX9_pass_X9_passes
set_option maxRecDepth 100000 in
theorem ggX9_pass_X9_acted : GoodIn wsX9_pass wsX9_acted := goodIn_r _ [18, 19, 20, 6, 21, 22, 23, 24, 25, 26, 27, 28, 29, 30] rfl rfl
set_option maxRecDepth 100000 in
theorem gX9_pass_X9_acted : GoodIn wsX9_pass (wsV RX9 95 RX9 yX9_acted wsX9_acted) := goodIn_app (goodIn_r _ [15, 16, 17, 4] rfl rfl) ggX9_pass_X9_acted
theorem dX9_pass_0 : decode cX9_pass 0 = .ok (.aload_n 0, 1) := by decide +kernel
theorem dX9_pass_1 : decode cX9_pass 1 = .ok (.invokevirtual 88, 3) := by decide +kernel
theorem dX9_pass_4 : decode cX9_pass 4 = .ok (.aload_n 0, 1) := by decide +kernel
theorem dX9_pass_5 : decode cX9_pass 5 = .ok (.aload_n 0, 1) := by decide +kernel
theorem dX9_pass_6 : decode cX9_pass 6 = .ok (.iload_n 1, 1) := by decide +kernel
theorem dX9_pass_7 : decode cX9_pass 7 = .ok (.invokevirtual 111, 3) := by decide +kernel
theorem dX9_pass_10 : decode cX9_pass 10 = .ok (.invokevirtual 95, 3) := by decide +kernel
theorem dX9_pass_13 : decode cX9_pass 13 = .ok (.ireturn, 1) := by decide +kernel
set_option maxRecDepth 100000 in
theorem ggX9_set_X9_begins : GoodIn wsX9_set wsX9_begins := goodIn_r _ [5, 6, 7, 21, 22, 23, 24, 25, 26, 27, 28, 29, 30] rfl rfl
set_option maxRecDepth 100000 in
theorem gX9_set_X9_begins : GoodIn wsX9_set (wsV RX9 88 RX9 yX9_begins wsX9_begins) := goodIn_app (goodIn_r _ [1, 2, 3, 4] rfl rfl) ggX9_set_X9_begins
set_option maxRecDepth 100000 in
theorem ggX9_set_X9_sets : GoodIn wsX9_set wsX9_sets := goodIn_r _ [11, 7, 12, 13, 4, 14, 21, 22, 23, 24, 25, 26, 27, 28, 29, 30] rfl rfl
set_option maxRecDepth 100000 in
theorem gX9_set_X9_sets : GoodIn wsX9_set (wsV RX9 114 RX9 yX9_sets wsX9_sets) := goodIn_app (goodIn_r _ [8, 9, 10, 4] rfl rfl) ggX9_set_X9_sets
set_option maxRecDepth 100000 in
theorem ggX9_set_X9_acted : GoodIn wsX9_set wsX9_acted := goodIn_r _ [18, 19, 20, 6, 21, 22, 23, 24, 25, 26, 27, 28, 29, 30] rfl rfl
set_option maxRecDepth 100000 in
theorem gX9_set_X9_acted : GoodIn wsX9_set (wsV RX9 95 RX9 yX9_acted wsX9_acted) := goodIn_app (goodIn_r _ [15, 16, 17, 4] rfl rfl) ggX9_set_X9_acted
theorem dX9_set_0 : decode cX9_set 0 = .ok (.aload_n 0, 1) := by decide +kernel
theorem dX9_set_1 : decode cX9_set 1 = .ok (.invokevirtual 88, 3) := by decide +kernel
theorem dX9_set_4 : decode cX9_set 4 = .ok (.aload_n 0, 1) := by decide +kernel
theorem dX9_set_5 : decode cX9_set 5 = .ok (.aload_n 0, 1) := by decide +kernel
theorem dX9_set_6 : decode cX9_set 6 = .ok (.iload_n 1, 1) := by decide +kernel
theorem dX9_set_7 : decode cX9_set 7 = .ok (.iload_n 2, 1) := by decide +kernel
theorem dX9_set_8 : decode cX9_set 8 = .ok (.invokevirtual 114, 3) := by decide +kernel
theorem dX9_set_11 : decode cX9_set 11 = .ok (.invokevirtual 95, 3) := by decide +kernel
theorem dX9_set_14 : decode cX9_set 14 = .ok (.ireturn, 1) := by decide +kernel
set_option maxRecDepth 100000 in
theorem ggX9_addressOf_X9_isAddress : GoodIn wsX9_addressOf wsX9_isAddress := goodIn_r _ [5, 6, 7, 8, 4, 9, 22, 23, 24, 25, 26, 27, 28, 29, 30, 31] rfl rfl
set_option maxRecDepth 100000 in
theorem gX9_addressOf_X9_isAddress : GoodIn wsX9_addressOf (wsV RX9 68 RX9 yX9_isAddress wsX9_isAddress) := goodIn_app (goodIn_r _ [1, 2, 3, 4] rfl rfl) ggX9_addressOf_X9_isAddress
set_option maxRecDepth 100000 in
theorem ggX9_addressOf_X9_in : GoodIn wsX9_addressOf wsX9_in := goodIn_r _ [9] rfl rfl
set_option maxRecDepth 100000 in
theorem gX9_addressOf_X9_in : GoodIn wsX9_addressOf (va_wsS RX9 29 yX9_in wsX9_in) := goodIn_app (goodIn_r _ [7, 8, 4] rfl rfl) ggX9_addressOf_X9_in
set_option maxRecDepth 100000 in
theorem ggX9_addressOf_X9_of : GoodIn wsX9_addressOf wsX9_of := goodIn_r _ [13, 6, 22, 23, 24, 25, 26, 27, 28, 29, 30, 31] rfl rfl
set_option maxRecDepth 100000 in
theorem gX9_addressOf_X9_of : GoodIn wsX9_addressOf (wsV RX9 33 RX9 yX9_of wsX9_of) := goodIn_app (goodIn_r _ [10, 11, 12, 4] rfl rfl) ggX9_addressOf_X9_of
set_option maxRecDepth 100000 in
theorem ggX9_addressOf_X9_isFixed : GoodIn wsX9_addressOf wsX9_isFixed := goodIn_r _ [17, 18, 19, 20, 4, 21, 10, 11, 12, 13, 6, 22, 23, 24, 25, 26, 27, 28, 29, 30, 31] rfl rfl
set_option maxRecDepth 100000 in
theorem gX9_addressOf_X9_isFixed : GoodIn wsX9_addressOf (wsV RX9 41 RX9 yX9_isFixed wsX9_isFixed) := goodIn_app (goodIn_r _ [14, 15, 16, 4] rfl rfl) ggX9_addressOf_X9_isFixed
theorem dX9_addressOf_0 : decode cX9_addressOf 0 = .ok (.aload_n 0, 1) := by decide +kernel
theorem dX9_addressOf_1 : decode cX9_addressOf 1 = .ok (.iload_n 1, 1) := by decide +kernel
theorem dX9_addressOf_2 : decode cX9_addressOf 2 = .ok (.invokevirtual 68, 3) := by decide +kernel
theorem dX9_addressOf_5 : decode cX9_addressOf 5 = .ok (.ifCond .eq 13, 3) := by decide +kernel
theorem dX9_addressOf_8 : decode cX9_addressOf 8 = .ok (.iload_n 2, 1) := by decide +kernel
theorem dX9_addressOf_9 : decode cX9_addressOf 9 = .ok (.iconst 0, 1) := by decide +kernel
theorem dX9_addressOf_10 : decode cX9_addressOf 10 = .ok (.bipush 9, 2) := by decide +kernel
theorem dX9_addressOf_12 : decode cX9_addressOf 12 = .ok (.invokestatic 29, 3) := by decide +kernel
theorem dX9_addressOf_15 : decode cX9_addressOf 15 = .ok (.ifCond .ne 5, 3) := by decide +kernel
theorem dX9_addressOf_18 : decode cX9_addressOf 18 = .ok (.iconst (-1), 1) := by decide +kernel
theorem dX9_addressOf_19 : decode cX9_addressOf 19 = .ok (.ireturn, 1) := by decide +kernel
theorem dX9_addressOf_20 : decode cX9_addressOf 20 = .ok (.iload_n 2, 1) := by decide +kernel
theorem dX9_addressOf_21 : decode cX9_addressOf 21 = .ok (.iconst 4, 1) := by decide +kernel
theorem dX9_addressOf_22 : decode cX9_addressOf 22 = .ok (.if_icmp .lt 64, 3) := by decide +kernel
theorem dX9_addressOf_25 : decode cX9_addressOf 25 = .ok (.iload_n 2, 1) := by decide +kernel
theorem dX9_addressOf_26 : decode cX9_addressOf 26 = .ok (.iconst 4, 1) := by decide +kernel
theorem dX9_addressOf_27 : decode cX9_addressOf 27 = .ok (.if_icmp .eq 14, 3) := by decide +kernel
theorem dX9_addressOf_30 : decode cX9_addressOf 30 = .ok (.iload_n 2, 1) := by decide +kernel
theorem dX9_addressOf_31 : decode cX9_addressOf 31 = .ok (.iconst 5, 1) := by decide +kernel
theorem dX9_addressOf_32 : decode cX9_addressOf 32 = .ok (.if_icmp .eq 9, 3) := by decide +kernel
theorem dX9_addressOf_35 : decode cX9_addressOf 35 = .ok (.iload_n 2, 1) := by decide +kernel
theorem dX9_addressOf_36 : decode cX9_addressOf 36 = .ok (.bipush 9, 2) := by decide +kernel
theorem dX9_addressOf_38 : decode cX9_addressOf 38 = .ok (.if_icmp .ne 12, 3) := by decide +kernel
theorem dX9_addressOf_41 : decode cX9_addressOf 41 = .ok (.aload_n 0, 1) := by decide +kernel
theorem dX9_addressOf_42 : decode cX9_addressOf 42 = .ok (.iload_n 1, 1) := by decide +kernel
theorem dX9_addressOf_43 : decode cX9_addressOf 43 = .ok (.iconst 2, 1) := by decide +kernel
theorem dX9_addressOf_44 : decode cX9_addressOf 44 = .ok (.invokevirtual 33, 3) := by decide +kernel
theorem dX9_addressOf_47 : decode cX9_addressOf 47 = .ok (.ifCond .gt 39, 3) := by decide +kernel
theorem dX9_addressOf_50 : decode cX9_addressOf 50 = .ok (.iload_n 2, 1) := by decide +kernel
theorem dX9_addressOf_51 : decode cX9_addressOf 51 = .ok (.bipush 6, 2) := by decide +kernel
theorem dX9_addressOf_53 : decode cX9_addressOf 53 = .ok (.if_icmp .eq 9, 3) := by decide +kernel
theorem dX9_addressOf_56 : decode cX9_addressOf 56 = .ok (.iload_n 2, 1) := by decide +kernel
theorem dX9_addressOf_57 : decode cX9_addressOf 57 = .ok (.bipush 7, 2) := by decide +kernel
theorem dX9_addressOf_59 : decode cX9_addressOf 59 = .ok (.if_icmp .ne 11, 3) := by decide +kernel
theorem dX9_addressOf_62 : decode cX9_addressOf 62 = .ok (.aload_n 0, 1) := by decide +kernel
theorem dX9_addressOf_63 : decode cX9_addressOf 63 = .ok (.iload_n 1, 1) := by decide +kernel
theorem dX9_addressOf_64 : decode cX9_addressOf 64 = .ok (.invokevirtual 41, 3) := by decide +kernel
theorem dX9_addressOf_67 : decode cX9_addressOf 67 = .ok (.ifCond .ne 19, 3) := by decide +kernel
theorem dX9_addressOf_70 : decode cX9_addressOf 70 = .ok (.iload_n 2, 1) := by decide +kernel
theorem dX9_addressOf_71 : decode cX9_addressOf 71 = .ok (.bipush 8, 2) := by decide +kernel
theorem dX9_addressOf_73 : decode cX9_addressOf 73 = .ok (.if_icmp .ne 17, 3) := by decide +kernel
theorem dX9_addressOf_76 : decode cX9_addressOf 76 = .ok (.aload_n 0, 1) := by decide +kernel
theorem dX9_addressOf_77 : decode cX9_addressOf 77 = .ok (.iload_n 1, 1) := by decide +kernel
theorem dX9_addressOf_78 : decode cX9_addressOf 78 = .ok (.iconst 1, 1) := by decide +kernel
theorem dX9_addressOf_79 : decode cX9_addressOf 79 = .ok (.invokevirtual 33, 3) := by decide +kernel
theorem dX9_addressOf_82 : decode cX9_addressOf 82 = .ok (.iconst 1, 1) := by decide +kernel
theorem dX9_addressOf_83 : decode cX9_addressOf 83 = .ok (.if_icmp .ne 7, 3) := by decide +kernel
theorem dX9_addressOf_86 : decode cX9_addressOf 86 = .ok (.iconst 1, 1) := by decide +kernel
theorem dX9_addressOf_87 : decode cX9_addressOf 87 = .ok (.goto 4, 3) := by decide +kernel
theorem dX9_addressOf_90 : decode cX9_addressOf 90 = .ok (.iconst 0, 1) := by decide +kernel
theorem dX9_addressOf_91 : decode cX9_addressOf 91 = .ok (.istore_n 3, 1) := by decide +kernel
theorem dX9_addressOf_92 : decode cX9_addressOf 92 = .ok (.iload_n 3, 1) := by decide +kernel
theorem dX9_addressOf_93 : decode cX9_addressOf 93 = .ok (.ifCond .ne 8, 3) := by decide +kernel
theorem dX9_addressOf_96 : decode cX9_addressOf 96 = .ok (.bipush (-4), 2) := by decide +kernel
theorem dX9_addressOf_98 : decode cX9_addressOf 98 = .ok (.goto 21, 3) := by decide +kernel
theorem dX9_addressOf_101 : decode cX9_addressOf 101 = .ok (.aload_n 0, 1) := by decide +kernel
theorem dX9_addressOf_102 : decode cX9_addressOf 102 = .ok (.iload_n 1, 1) := by decide +kernel
theorem dX9_addressOf_103 : decode cX9_addressOf 103 = .ok (.iload_n 2, 1) := by decide +kernel
theorem dX9_addressOf_104 : decode cX9_addressOf 104 = .ok (.invokevirtual 33, 3) := by decide +kernel
theorem dX9_addressOf_107 : decode cX9_addressOf 107 = .ok (.iload_n 2, 1) := by decide +kernel
theorem dX9_addressOf_108 : decode cX9_addressOf 108 = .ok (.bipush 6, 2) := by decide +kernel
theorem dX9_addressOf_110 : decode cX9_addressOf 110 = .ok (.if_icmp .ne 7, 3) := by decide +kernel
theorem dX9_addressOf_113 : decode cX9_addressOf 113 = .ok (.iconst 1, 1) := by decide +kernel
theorem dX9_addressOf_114 : decode cX9_addressOf 114 = .ok (.goto 4, 3) := by decide +kernel
theorem dX9_addressOf_117 : decode cX9_addressOf 117 = .ok (.iconst 0, 1) := by decide +kernel
theorem dX9_addressOf_118 : decode cX9_addressOf 118 = .ok (.isub, 1) := by decide +kernel
theorem dX9_addressOf_119 : decode cX9_addressOf 119 = .ok (.ireturn, 1) := by decide +kernel
set_option maxRecDepth 100000 in
theorem ggX9_interviewerOf_X9_isStaff : GoodIn wsX9_interviewerOf wsX9_isStaff := goodIn_r _ [5, 6, 7, 8, 4, 9, 14, 15, 16, 17, 18, 19, 20, 21, 22, 23] rfl rfl
set_option maxRecDepth 100000 in
theorem gX9_interviewerOf_X9_isStaff : GoodIn wsX9_interviewerOf (wsV RX9 65 RX9 yX9_isStaff wsX9_isStaff) := goodIn_app (goodIn_r _ [1, 2, 3, 4] rfl rfl) ggX9_interviewerOf_X9_isStaff
set_option maxRecDepth 100000 in
theorem ggX9_interviewerOf_X9_in : GoodIn wsX9_interviewerOf wsX9_in := goodIn_r _ [9] rfl rfl
set_option maxRecDepth 100000 in
theorem gX9_interviewerOf_X9_in : GoodIn wsX9_interviewerOf (va_wsS RX9 29 yX9_in wsX9_in) := goodIn_app (goodIn_r _ [7, 8, 4] rfl rfl) ggX9_interviewerOf_X9_in
set_option maxRecDepth 100000 in
theorem ggX9_interviewerOf_X9_ofWho : GoodIn wsX9_interviewerOf wsX9_ofWho := goodIn_r _ [13, 6, 14, 15, 16, 17, 18, 19, 20, 21, 22, 23] rfl rfl
set_option maxRecDepth 100000 in
theorem gX9_interviewerOf_X9_ofWho : GoodIn wsX9_interviewerOf (wsV RX9 56 RX9 yX9_ofWho wsX9_ofWho) := goodIn_app (goodIn_r _ [10, 11, 12, 4] rfl rfl) ggX9_interviewerOf_X9_ofWho
theorem dX9_interviewerOf_0 : decode cX9_interviewerOf 0 = .ok (.aload_n 0, 1) := by decide +kernel
theorem dX9_interviewerOf_1 : decode cX9_interviewerOf 1 = .ok (.iload_n 1, 1) := by decide +kernel
theorem dX9_interviewerOf_2 : decode cX9_interviewerOf 2 = .ok (.invokevirtual 65, 3) := by decide +kernel
theorem dX9_interviewerOf_5 : decode cX9_interviewerOf 5 = .ok (.ifCond .eq 21, 3) := by decide +kernel
theorem dX9_interviewerOf_8 : decode cX9_interviewerOf 8 = .ok (.iload_n 2, 1) := by decide +kernel
theorem dX9_interviewerOf_9 : decode cX9_interviewerOf 9 = .ok (.iconst 0, 1) := by decide +kernel
theorem dX9_interviewerOf_10 : decode cX9_interviewerOf 10 = .ok (.iconst 5, 1) := by decide +kernel
theorem dX9_interviewerOf_11 : decode cX9_interviewerOf 11 = .ok (.invokestatic 29, 3) := by decide +kernel
theorem dX9_interviewerOf_14 : decode cX9_interviewerOf 14 = .ok (.ifCond .eq 12, 3) := by decide +kernel
theorem dX9_interviewerOf_17 : decode cX9_interviewerOf 17 = .ok (.aload_n 0, 1) := by decide +kernel
theorem dX9_interviewerOf_18 : decode cX9_interviewerOf 18 = .ok (.iload_n 1, 1) := by decide +kernel
theorem dX9_interviewerOf_19 : decode cX9_interviewerOf 19 = .ok (.iload_n 2, 1) := by decide +kernel
theorem dX9_interviewerOf_20 : decode cX9_interviewerOf 20 = .ok (.invokevirtual 56, 3) := by decide +kernel
theorem dX9_interviewerOf_23 : decode cX9_interviewerOf 23 = .ok (.goto 4, 3) := by decide +kernel
theorem dX9_interviewerOf_26 : decode cX9_interviewerOf 26 = .ok (.iconst (-1), 1) := by decide +kernel
theorem dX9_interviewerOf_27 : decode cX9_interviewerOf 27 = .ok (.ireturn, 1) := by decide +kernel
set_option maxRecDepth 100000 in
theorem ggX9_weight_X9_ofCell : GoodIn wsX9_weight wsX9_ofCell := goodIn_r _ [5, 6, 7, 8, 9, 10, 11, 12, 13, 14, 15, 16] rfl rfl
set_option maxRecDepth 100000 in
theorem gX9_weight_X9_ofCell : GoodIn wsX9_weight (wsV RX9 44 RX9 yX9_ofCell wsX9_ofCell) := goodIn_app (goodIn_r _ [1, 2, 3, 4] rfl rfl) ggX9_weight_X9_ofCell
theorem dX9_weight_0 : decode cX9_weight 0 = .ok (.aload_n 0, 1) := by decide +kernel
theorem dX9_weight_1 : decode cX9_weight 1 = .ok (.iload_n 1, 1) := by decide +kernel
theorem dX9_weight_2 : decode cX9_weight 2 = .ok (.iload_n 2, 1) := by decide +kernel
theorem dX9_weight_3 : decode cX9_weight 3 = .ok (.iconst 2, 1) := by decide +kernel
theorem dX9_weight_4 : decode cX9_weight 4 = .ok (.invokevirtual 44, 3) := by decide +kernel
theorem dX9_weight_7 : decode cX9_weight 7 = .ok (.i2f, 1) := by decide +kernel
theorem dX9_weight_8 : decode cX9_weight 8 = .ok (.fstore_n 3, 1) := by decide +kernel
theorem dX9_weight_9 : decode cX9_weight 9 = .ok (.aload_n 0, 1) := by decide +kernel
theorem dX9_weight_10 : decode cX9_weight 10 = .ok (.iload_n 1, 1) := by decide +kernel
theorem dX9_weight_11 : decode cX9_weight 11 = .ok (.iload_n 2, 1) := by decide +kernel
theorem dX9_weight_12 : decode cX9_weight 12 = .ok (.iconst 1, 1) := by decide +kernel
theorem dX9_weight_13 : decode cX9_weight 13 = .ok (.invokevirtual 44, 3) := by decide +kernel
theorem dX9_weight_16 : decode cX9_weight 16 = .ok (.i2f, 1) := by decide +kernel
theorem dX9_weight_17 : decode cX9_weight 17 = .ok (.fstore 4, 2) := by decide +kernel
theorem dX9_weight_19 : decode cX9_weight 19 = .ok (.fload_n 3, 1) := by decide +kernel
theorem dX9_weight_20 : decode cX9_weight 20 = .ok (.fload 4, 2) := by decide +kernel
theorem dX9_weight_22 : decode cX9_weight 22 = .ok (.fdiv, 1) := by decide +kernel
theorem dX9_weight_23 : decode cX9_weight 23 = .ok (.freturn, 1) := by decide +kernel
set_option maxRecDepth 100000 in
theorem ggX9_cellOf_X9_isCell : GoodIn wsX9_cellOf wsX9_isCell := goodIn_r _ [4, 5, 6, 3, 7] rfl rfl
set_option maxRecDepth 100000 in
theorem gX9_cellOf_X9_isCell : GoodIn wsX9_cellOf (va_wsS RX9 48 yX9_isCell wsX9_isCell) := goodIn_app (goodIn_r _ [1, 2, 3] rfl rfl) ggX9_cellOf_X9_isCell
set_option maxRecDepth 100000 in
theorem ggX9_cellOf_X9_in : GoodIn wsX9_cellOf wsX9_in := goodIn_r _ [7] rfl rfl
set_option maxRecDepth 100000 in
theorem gX9_cellOf_X9_in : GoodIn wsX9_cellOf (va_wsS RX9 29 yX9_in wsX9_in) := goodIn_app (goodIn_r _ [5, 6, 3] rfl rfl) ggX9_cellOf_X9_in
set_option maxRecDepth 100000 in
theorem ggX9_cellOf_X9_ofCell : GoodIn wsX9_cellOf wsX9_ofCell := goodIn_r _ [11, 12, 33, 34, 35, 36, 37, 38, 39, 40, 41, 42] rfl rfl
set_option maxRecDepth 100000 in
theorem gX9_cellOf_X9_ofCell : GoodIn wsX9_cellOf (wsV RX9 44 RX9 yX9_ofCell wsX9_ofCell) := goodIn_app (goodIn_r _ [8, 9, 10, 3] rfl rfl) ggX9_cellOf_X9_ofCell
set_option maxRecDepth 100000 in
theorem ggX9_cellOf_X9_wanted : GoodIn wsX9_cellOf wsX9_wanted := goodIn_r _ [16, 8, 9, 10, 3, 11, 12, 33, 34, 35, 36, 37, 38, 39, 40, 41, 42] rfl rfl
set_option maxRecDepth 100000 in
theorem gX9_cellOf_X9_wanted : GoodIn wsX9_cellOf (wsV RX9 62 RX9 yX9_wanted wsX9_wanted) := goodIn_app (goodIn_r _ [13, 14, 15, 3] rfl rfl) ggX9_cellOf_X9_wanted
set_option maxRecDepth 100000 in
theorem ggX9_cellOf_X9_weight : GoodIn wsX9_cellOf wsX9_weight := goodIn_r _ [20, 8, 9, 10, 3, 11, 12, 33, 34, 35, 36, 37, 38, 39, 40, 41, 42] rfl rfl
set_option maxRecDepth 100000 in
theorem gX9_cellOf_X9_weight : GoodIn wsX9_cellOf (wsV RX9 117 RX9 yX9_weight wsX9_weight) := goodIn_app (goodIn_r _ [17, 18, 19, 3] rfl rfl) ggX9_cellOf_X9_weight
set_option maxRecDepth 100000 in
theorem ggX9_cellOf_Jxf58ca_floatToIntBits_5c35a : GoodIn wsX9_cellOf wsJxf58ca_floatToIntBits_5c35a := goodIn_r _ [24, 25, 26, 27, 28, 29, 30, 31, 23, 32] rfl rfl
set_option maxRecDepth 100000 in
theorem gX9_cellOf_Jxf58ca_floatToIntBits_5c35a : GoodIn wsX9_cellOf (va_wsS RX9 121 yJxf58ca_floatToIntBits_5c35a wsJxf58ca_floatToIntBits_5c35a) := goodIn_app (goodIn_r _ [21, 22, 23] rfl rfl) ggX9_cellOf_Jxf58ca_floatToIntBits_5c35a
theorem dX9_cellOf_0 : decode cX9_cellOf 0 = .ok (.iload_n 1, 1) := by decide +kernel
theorem dX9_cellOf_1 : decode cX9_cellOf 1 = .ok (.iload_n 2, 1) := by decide +kernel
theorem dX9_cellOf_2 : decode cX9_cellOf 2 = .ok (.invokestatic 48, 3) := by decide +kernel
theorem dX9_cellOf_5 : decode cX9_cellOf 5 = .ok (.ifCond .eq 12, 3) := by decide +kernel
theorem dX9_cellOf_8 : decode cX9_cellOf 8 = .ok (.iload_n 3, 1) := by decide +kernel
theorem dX9_cellOf_9 : decode cX9_cellOf 9 = .ok (.iconst 0, 1) := by decide +kernel
theorem dX9_cellOf_10 : decode cX9_cellOf 10 = .ok (.iconst 4, 1) := by decide +kernel
theorem dX9_cellOf_11 : decode cX9_cellOf 11 = .ok (.invokestatic 29, 3) := by decide +kernel
theorem dX9_cellOf_14 : decode cX9_cellOf 14 = .ok (.ifCond .ne 5, 3) := by decide +kernel
theorem dX9_cellOf_17 : decode cX9_cellOf 17 = .ok (.iconst (-1), 1) := by decide +kernel
theorem dX9_cellOf_18 : decode cX9_cellOf 18 = .ok (.ireturn, 1) := by decide +kernel
theorem dX9_cellOf_19 : decode cX9_cellOf 19 = .ok (.iload_n 3, 1) := by decide +kernel
theorem dX9_cellOf_20 : decode cX9_cellOf 20 = .ok (.tableswitch 63 0 3 #[32, 40, 48, 55], 32) := by decide +kernel
theorem dX9_cellOf_52 : decode cX9_cellOf 52 = .ok (.aload_n 0, 1) := by decide +kernel
theorem dX9_cellOf_53 : decode cX9_cellOf 53 = .ok (.iload_n 1, 1) := by decide +kernel
theorem dX9_cellOf_54 : decode cX9_cellOf 54 = .ok (.iload_n 2, 1) := by decide +kernel
theorem dX9_cellOf_55 : decode cX9_cellOf 55 = .ok (.iconst 0, 1) := by decide +kernel
theorem dX9_cellOf_56 : decode cX9_cellOf 56 = .ok (.invokevirtual 44, 3) := by decide +kernel
theorem dX9_cellOf_59 : decode cX9_cellOf 59 = .ok (.ireturn, 1) := by decide +kernel
theorem dX9_cellOf_60 : decode cX9_cellOf 60 = .ok (.aload_n 0, 1) := by decide +kernel
theorem dX9_cellOf_61 : decode cX9_cellOf 61 = .ok (.iload_n 1, 1) := by decide +kernel
theorem dX9_cellOf_62 : decode cX9_cellOf 62 = .ok (.iload_n 2, 1) := by decide +kernel
theorem dX9_cellOf_63 : decode cX9_cellOf 63 = .ok (.iconst 1, 1) := by decide +kernel
theorem dX9_cellOf_64 : decode cX9_cellOf 64 = .ok (.invokevirtual 44, 3) := by decide +kernel
theorem dX9_cellOf_67 : decode cX9_cellOf 67 = .ok (.ireturn, 1) := by decide +kernel
theorem dX9_cellOf_68 : decode cX9_cellOf 68 = .ok (.aload_n 0, 1) := by decide +kernel
theorem dX9_cellOf_69 : decode cX9_cellOf 69 = .ok (.iload_n 1, 1) := by decide +kernel
theorem dX9_cellOf_70 : decode cX9_cellOf 70 = .ok (.iload_n 2, 1) := by decide +kernel
theorem dX9_cellOf_71 : decode cX9_cellOf 71 = .ok (.invokevirtual 62, 3) := by decide +kernel
theorem dX9_cellOf_74 : decode cX9_cellOf 74 = .ok (.ireturn, 1) := by decide +kernel
theorem dX9_cellOf_75 : decode cX9_cellOf 75 = .ok (.aload_n 0, 1) := by decide +kernel
theorem dX9_cellOf_76 : decode cX9_cellOf 76 = .ok (.iload_n 1, 1) := by decide +kernel
theorem dX9_cellOf_77 : decode cX9_cellOf 77 = .ok (.iload_n 2, 1) := by decide +kernel
theorem dX9_cellOf_78 : decode cX9_cellOf 78 = .ok (.iconst 2, 1) := by decide +kernel
theorem dX9_cellOf_79 : decode cX9_cellOf 79 = .ok (.invokevirtual 44, 3) := by decide +kernel
theorem dX9_cellOf_82 : decode cX9_cellOf 82 = .ok (.ireturn, 1) := by decide +kernel
theorem dX9_cellOf_83 : decode cX9_cellOf 83 = .ok (.aload_n 0, 1) := by decide +kernel
theorem dX9_cellOf_84 : decode cX9_cellOf 84 = .ok (.iload_n 1, 1) := by decide +kernel
theorem dX9_cellOf_85 : decode cX9_cellOf 85 = .ok (.iload_n 2, 1) := by decide +kernel
theorem dX9_cellOf_86 : decode cX9_cellOf 86 = .ok (.iconst 1, 1) := by decide +kernel
theorem dX9_cellOf_87 : decode cX9_cellOf 87 = .ok (.invokevirtual 44, 3) := by decide +kernel
theorem dX9_cellOf_90 : decode cX9_cellOf 90 = .ok (.ifCond .ne 8, 3) := by decide +kernel
theorem dX9_cellOf_93 : decode cX9_cellOf 93 = .ok (.bipush (-4), 2) := by decide +kernel
theorem dX9_cellOf_95 : decode cX9_cellOf 95 = .ok (.goto 12, 3) := by decide +kernel
theorem dX9_cellOf_98 : decode cX9_cellOf 98 = .ok (.aload_n 0, 1) := by decide +kernel
theorem dX9_cellOf_99 : decode cX9_cellOf 99 = .ok (.iload_n 1, 1) := by decide +kernel
theorem dX9_cellOf_100 : decode cX9_cellOf 100 = .ok (.iload_n 2, 1) := by decide +kernel
theorem dX9_cellOf_101 : decode cX9_cellOf 101 = .ok (.invokevirtual 117, 3) := by decide +kernel
theorem dX9_cellOf_104 : decode cX9_cellOf 104 = .ok (.invokestatic 121, 3) := by decide +kernel
theorem dX9_cellOf_107 : decode cX9_cellOf 107 = .ok (.ireturn, 1) := by decide +kernel
set_option maxRecDepth 100000 in
theorem ggX9_isOf_X9_isOpen : GoodIn wsX9_isOf wsX9_isOpen := goodIn_r _ [5, 6, 7, 8, 4, 9, 10, 19, 20, 21, 22, 23, 24, 25, 26, 27, 28] rfl rfl
set_option maxRecDepth 100000 in
theorem gX9_isOf_X9_isOpen : GoodIn wsX9_isOf (wsV RX9 37 RX9 yX9_isOpen wsX9_isOpen) := goodIn_app (goodIn_r _ [1, 2, 3, 4] rfl rfl) ggX9_isOf_X9_isOpen
set_option maxRecDepth 100000 in
theorem ggX9_isOf_X9_isFixed : GoodIn wsX9_isOf wsX9_isFixed := goodIn_r _ [14, 1, 2, 3, 4, 5, 6, 7, 8, 9, 10, 19, 20, 21, 22, 23, 24, 25, 26, 27, 28] rfl rfl
set_option maxRecDepth 100000 in
theorem gX9_isOf_X9_isFixed : GoodIn wsX9_isOf (wsV RX9 41 RX9 yX9_isFixed wsX9_isFixed) := goodIn_app (goodIn_r _ [11, 12, 13, 4] rfl rfl) ggX9_isOf_X9_isFixed
set_option maxRecDepth 100000 in
theorem ggX9_isOf_X9_isOver : GoodIn wsX9_isOf wsX9_isOver := goodIn_r _ [18, 10, 11, 12, 13, 4, 14, 1, 2, 3, 5, 6, 7, 8, 9, 19, 20, 21, 22, 23, 24, 25, 26, 27, 28] rfl rfl
set_option maxRecDepth 100000 in
theorem gX9_isOf_X9_isOver : GoodIn wsX9_isOf (wsV RX9 59 RX9 yX9_isOver wsX9_isOver) := goodIn_app (goodIn_r _ [15, 16, 17, 4] rfl rfl) ggX9_isOf_X9_isOver
set_option maxRecDepth 100000 in
theorem ggX9_isOf_X9_of : GoodIn wsX9_isOf wsX9_of := goodIn_r _ [9, 10, 19, 20, 21, 22, 23, 24, 25, 26, 27, 28] rfl rfl
set_option maxRecDepth 100000 in
theorem gX9_isOf_X9_of : GoodIn wsX9_isOf (wsV RX9 33 RX9 yX9_of wsX9_of) := goodIn_app (goodIn_r _ [6, 7, 8, 4] rfl rfl) ggX9_isOf_X9_of
theorem dX9_isOf_0 : decode cX9_isOf 0 = .ok (.iload_n 2, 1) := by decide +kernel
theorem dX9_isOf_1 : decode cX9_isOf 1 = .ok (.tableswitch 88 0 7 #[47, 88, 88, 88, 88, 53, 59, 65], 47) := by decide +kernel
theorem dX9_isOf_48 : decode cX9_isOf 48 = .ok (.aload_n 0, 1) := by decide +kernel
theorem dX9_isOf_49 : decode cX9_isOf 49 = .ok (.iload_n 1, 1) := by decide +kernel
theorem dX9_isOf_50 : decode cX9_isOf 50 = .ok (.invokevirtual 37, 3) := by decide +kernel
theorem dX9_isOf_53 : decode cX9_isOf 53 = .ok (.ireturn, 1) := by decide +kernel
theorem dX9_isOf_54 : decode cX9_isOf 54 = .ok (.aload_n 0, 1) := by decide +kernel
theorem dX9_isOf_55 : decode cX9_isOf 55 = .ok (.iload_n 1, 1) := by decide +kernel
theorem dX9_isOf_56 : decode cX9_isOf 56 = .ok (.invokevirtual 41, 3) := by decide +kernel
theorem dX9_isOf_59 : decode cX9_isOf 59 = .ok (.ireturn, 1) := by decide +kernel
theorem dX9_isOf_60 : decode cX9_isOf 60 = .ok (.aload_n 0, 1) := by decide +kernel
theorem dX9_isOf_61 : decode cX9_isOf 61 = .ok (.iload_n 1, 1) := by decide +kernel
theorem dX9_isOf_62 : decode cX9_isOf 62 = .ok (.invokevirtual 59, 3) := by decide +kernel
theorem dX9_isOf_65 : decode cX9_isOf 65 = .ok (.ireturn, 1) := by decide +kernel
theorem dX9_isOf_66 : decode cX9_isOf 66 = .ok (.aload_n 0, 1) := by decide +kernel
theorem dX9_isOf_67 : decode cX9_isOf 67 = .ok (.iload_n 1, 1) := by decide +kernel
theorem dX9_isOf_68 : decode cX9_isOf 68 = .ok (.invokevirtual 37, 3) := by decide +kernel
theorem dX9_isOf_71 : decode cX9_isOf 71 = .ok (.ifCond .eq 16, 3) := by decide +kernel
theorem dX9_isOf_74 : decode cX9_isOf 74 = .ok (.aload_n 0, 1) := by decide +kernel
theorem dX9_isOf_75 : decode cX9_isOf 75 = .ok (.iload_n 1, 1) := by decide +kernel
theorem dX9_isOf_76 : decode cX9_isOf 76 = .ok (.iconst 2, 1) := by decide +kernel
theorem dX9_isOf_77 : decode cX9_isOf 77 = .ok (.invokevirtual 33, 3) := by decide +kernel
theorem dX9_isOf_80 : decode cX9_isOf 80 = .ok (.ifCond .ne 7, 3) := by decide +kernel
theorem dX9_isOf_83 : decode cX9_isOf 83 = .ok (.iconst 1, 1) := by decide +kernel
theorem dX9_isOf_84 : decode cX9_isOf 84 = .ok (.goto 4, 3) := by decide +kernel
theorem dX9_isOf_87 : decode cX9_isOf 87 = .ok (.iconst 0, 1) := by decide +kernel
theorem dX9_isOf_88 : decode cX9_isOf 88 = .ok (.ireturn, 1) := by decide +kernel
theorem dX9_isOf_89 : decode cX9_isOf 89 = .ok (.aload_n 0, 1) := by decide +kernel
theorem dX9_isOf_90 : decode cX9_isOf 90 = .ok (.iload_n 1, 1) := by decide +kernel
theorem dX9_isOf_91 : decode cX9_isOf 91 = .ok (.iconst 1, 1) := by decide +kernel
theorem dX9_isOf_92 : decode cX9_isOf 92 = .ok (.invokevirtual 33, 3) := by decide +kernel
theorem dX9_isOf_95 : decode cX9_isOf 95 = .ok (.iload_n 2, 1) := by decide +kernel
theorem dX9_isOf_96 : decode cX9_isOf 96 = .ok (.if_icmp .ne 7, 3) := by decide +kernel
theorem dX9_isOf_99 : decode cX9_isOf 99 = .ok (.iconst 1, 1) := by decide +kernel
theorem dX9_isOf_100 : decode cX9_isOf 100 = .ok (.goto 4, 3) := by decide +kernel
theorem dX9_isOf_103 : decode cX9_isOf 103 = .ok (.iconst 0, 1) := by decide +kernel
theorem dX9_isOf_104 : decode cX9_isOf 104 = .ok (.ireturn, 1) := by decide +kernel
set_option maxRecDepth 100000 in
theorem ggX9_addresses_X9_in : GoodIn wsX9_addresses wsX9_in := goodIn_r _ [5] rfl rfl
set_option maxRecDepth 100000 in
theorem gX9_addresses_X9_in : GoodIn wsX9_addresses (va_wsS RX9 29 yX9_in wsX9_in) := goodIn_app (goodIn_r _ [2, 3, 4] rfl rfl) ggX9_addresses_X9_in
set_option maxRecDepth 100000 in
theorem ggX9_addresses_X9_isOf : GoodIn wsX9_addresses wsX9_isOf := goodIn_r _ [9, 10, 11, 12, 4, 13, 14, 15, 16, 17, 1, 18, 19, 20, 21, 22, 23, 24, 25, 26, 27, 28, 29, 30, 31, 32, 33, 34, 35] rfl rfl
set_option maxRecDepth 100000 in
theorem gX9_addresses_X9_isOf : GoodIn wsX9_addresses (wsV RX9 127 RX9 yX9_isOf wsX9_isOf) := goodIn_app (goodIn_r _ [6, 7, 8, 4] rfl rfl) ggX9_addresses_X9_isOf
theorem dX9_addresses_0 : decode cX9_addresses 0 = .ok (.iload_n 1, 1) := by decide +kernel
theorem dX9_addresses_1 : decode cX9_addresses 1 = .ok (.iconst 0, 1) := by decide +kernel
theorem dX9_addresses_2 : decode cX9_addresses 2 = .ok (.bipush 7, 2) := by decide +kernel
theorem dX9_addresses_4 : decode cX9_addresses 4 = .ok (.invokestatic 29, 3) := by decide +kernel
theorem dX9_addresses_7 : decode cX9_addresses 7 = .ok (.ifCond .ne 5, 3) := by decide +kernel
theorem dX9_addresses_10 : decode cX9_addresses 10 = .ok (.iconst (-1), 1) := by decide +kernel
theorem dX9_addresses_11 : decode cX9_addresses 11 = .ok (.ireturn, 1) := by decide +kernel
theorem dX9_addresses_12 : decode cX9_addresses 12 = .ok (.iconst 0, 1) := by decide +kernel
theorem dX9_addresses_13 : decode cX9_addresses 13 = .ok (.istore_n 2, 1) := by decide +kernel
theorem dX9_addresses_14 : decode cX9_addresses 14 = .ok (.iconst 0, 1) := by decide +kernel
theorem dX9_addresses_15 : decode cX9_addresses 15 = .ok (.istore_n 3, 1) := by decide +kernel
theorem dX9_addresses_16 : decode cX9_addresses 16 = .ok (.iload_n 3, 1) := by decide +kernel
theorem dX9_addresses_17 : decode cX9_addresses 17 = .ok (.aload_n 0, 1) := by decide +kernel
theorem dX9_addresses_18 : decode cX9_addresses 18 = .ok (.getfield 7, 3) := by decide +kernel
theorem dX9_addresses_21 : decode cX9_addresses 21 = .ok (.iconst 0, 1) := by decide +kernel
theorem dX9_addresses_22 : decode cX9_addresses 22 = .ok (.iaload, 1) := by decide +kernel
theorem dX9_addresses_23 : decode cX9_addresses 23 = .ok (.if_icmp .ge 28, 3) := by decide +kernel
theorem dX9_addresses_26 : decode cX9_addresses 26 = .ok (.iload_n 2, 1) := by decide +kernel
theorem dX9_addresses_27 : decode cX9_addresses 27 = .ok (.aload_n 0, 1) := by decide +kernel
theorem dX9_addresses_28 : decode cX9_addresses 28 = .ok (.iload_n 3, 1) := by decide +kernel
theorem dX9_addresses_29 : decode cX9_addresses 29 = .ok (.iload_n 1, 1) := by decide +kernel
theorem dX9_addresses_30 : decode cX9_addresses 30 = .ok (.invokevirtual 127, 3) := by decide +kernel
theorem dX9_addresses_33 : decode cX9_addresses 33 = .ok (.ifCond .eq 9, 3) := by decide +kernel
theorem dX9_addresses_36 : decode cX9_addresses 36 = .ok (.iconst 1, 1) := by decide +kernel
theorem dX9_addresses_37 : decode cX9_addresses 37 = .ok (.iload_n 3, 1) := by decide +kernel
theorem dX9_addresses_38 : decode cX9_addresses 38 = .ok (.ishl, 1) := by decide +kernel
theorem dX9_addresses_39 : decode cX9_addresses 39 = .ok (.goto 4, 3) := by decide +kernel
theorem dX9_addresses_42 : decode cX9_addresses 42 = .ok (.iconst 0, 1) := by decide +kernel
theorem dX9_addresses_43 : decode cX9_addresses 43 = .ok (.ior, 1) := by decide +kernel
theorem dX9_addresses_44 : decode cX9_addresses 44 = .ok (.istore_n 2, 1) := by decide +kernel
theorem dX9_addresses_45 : decode cX9_addresses 45 = .ok (.iinc 3 1, 3) := by decide +kernel
theorem dX9_addresses_48 : decode cX9_addresses 48 = .ok (.goto (-32), 3) := by decide +kernel
theorem dX9_addresses_51 : decode cX9_addresses 51 = .ok (.iload_n 2, 1) := by decide +kernel
theorem dX9_addresses_52 : decode cX9_addresses 52 = .ok (.ireturn, 1) := by decide +kernel
set_option maxRecDepth 100000 in
theorem ggX9_wantedIn_X9_wanted : GoodIn wsX9_wantedIn wsX9_wanted := goodIn_r _ [5, 6, 7, 8, 4, 9, 10, 11, 12, 13, 14, 15, 16, 17, 18, 19, 20] rfl rfl
set_option maxRecDepth 100000 in
theorem gX9_wantedIn_X9_wanted : GoodIn wsX9_wantedIn (wsV RX9 62 RX9 yX9_wanted wsX9_wanted) := goodIn_app (goodIn_r _ [1, 2, 3, 4] rfl rfl) ggX9_wantedIn_X9_wanted
theorem dX9_wantedIn_0 : decode cX9_wantedIn 0 = .ok (.aload_n 0, 1) := by decide +kernel
theorem dX9_wantedIn_1 : decode cX9_wantedIn 1 = .ok (.iload_n 1, 1) := by decide +kernel
theorem dX9_wantedIn_2 : decode cX9_wantedIn 2 = .ok (.iconst 0, 1) := by decide +kernel
theorem dX9_wantedIn_3 : decode cX9_wantedIn 3 = .ok (.invokevirtual 62, 3) := by decide +kernel
theorem dX9_wantedIn_6 : decode cX9_wantedIn 6 = .ok (.aload_n 0, 1) := by decide +kernel
theorem dX9_wantedIn_7 : decode cX9_wantedIn 7 = .ok (.iload_n 1, 1) := by decide +kernel
theorem dX9_wantedIn_8 : decode cX9_wantedIn 8 = .ok (.iconst 1, 1) := by decide +kernel
theorem dX9_wantedIn_9 : decode cX9_wantedIn 9 = .ok (.invokevirtual 62, 3) := by decide +kernel
theorem dX9_wantedIn_12 : decode cX9_wantedIn 12 = .ok (.iadd, 1) := by decide +kernel
theorem dX9_wantedIn_13 : decode cX9_wantedIn 13 = .ok (.aload_n 0, 1) := by decide +kernel
theorem dX9_wantedIn_14 : decode cX9_wantedIn 14 = .ok (.iload_n 1, 1) := by decide +kernel
theorem dX9_wantedIn_15 : decode cX9_wantedIn 15 = .ok (.iconst 2, 1) := by decide +kernel
theorem dX9_wantedIn_16 : decode cX9_wantedIn 16 = .ok (.invokevirtual 62, 3) := by decide +kernel
theorem dX9_wantedIn_19 : decode cX9_wantedIn 19 = .ok (.iadd, 1) := by decide +kernel
theorem dX9_wantedIn_20 : decode cX9_wantedIn 20 = .ok (.ireturn, 1) := by decide +kernel
set_option maxRecDepth 100000 in
theorem ggX9_count_X9_wantedIn : GoodIn wsX9_count wsX9_wantedIn := goodIn_r _ [8, 9, 10, 11, 7, 12, 13, 14, 15, 16, 1, 33, 34, 35, 36, 37, 38, 39, 40, 41, 42] rfl rfl
set_option maxRecDepth 100000 in
theorem gX9_count_X9_wantedIn : GoodIn wsX9_count (wsV RX9 130 RX9 yX9_wantedIn wsX9_wantedIn) := goodIn_app (goodIn_r _ [4, 5, 6, 7] rfl rfl) ggX9_count_X9_wantedIn
set_option maxRecDepth 100000 in
theorem ggX9_count_X9_appointments : GoodIn wsX9_count wsX9_appointments := goodIn_r _ [20, 1, 21, 22, 23, 7, 24, 25, 26, 27, 28, 29, 30, 31, 32, 33, 34, 35, 36, 37, 38, 39, 40, 41, 42] rfl rfl
set_option maxRecDepth 100000 in
theorem gX9_count_X9_appointments : GoodIn wsX9_count (wsV RX9 84 RX9 yX9_appointments wsX9_appointments) := goodIn_app (goodIn_r _ [17, 18, 19, 7] rfl rfl) ggX9_count_X9_appointments
theorem dX9_count_0 : decode cX9_count 0 = .ok (.iload_n 1, 1) := by decide +kernel
theorem dX9_count_1 : decode cX9_count 1 = .ok (.tableswitch 122 0 11 #[63, 63, 63, 63, 63, 63, 70, 94, 99, 104, 109, 109], 63) := by decide +kernel
theorem dX9_count_64 : decode cX9_count 64 = .ok (.aload_n 0, 1) := by decide +kernel
theorem dX9_count_65 : decode cX9_count 65 = .ok (.getfield 7, 3) := by decide +kernel
theorem dX9_count_68 : decode cX9_count 68 = .ok (.iload_n 1, 1) := by decide +kernel
theorem dX9_count_69 : decode cX9_count 69 = .ok (.iaload, 1) := by decide +kernel
theorem dX9_count_70 : decode cX9_count 70 = .ok (.ireturn, 1) := by decide +kernel
theorem dX9_count_71 : decode cX9_count 71 = .ok (.aload_n 0, 1) := by decide +kernel
theorem dX9_count_72 : decode cX9_count 72 = .ok (.iconst 0, 1) := by decide +kernel
theorem dX9_count_73 : decode cX9_count 73 = .ok (.invokevirtual 130, 3) := by decide +kernel
theorem dX9_count_76 : decode cX9_count 76 = .ok (.aload_n 0, 1) := by decide +kernel
theorem dX9_count_77 : decode cX9_count 77 = .ok (.iconst 1, 1) := by decide +kernel
theorem dX9_count_78 : decode cX9_count 78 = .ok (.invokevirtual 130, 3) := by decide +kernel
theorem dX9_count_81 : decode cX9_count 81 = .ok (.iadd, 1) := by decide +kernel
theorem dX9_count_82 : decode cX9_count 82 = .ok (.aload_n 0, 1) := by decide +kernel
theorem dX9_count_83 : decode cX9_count 83 = .ok (.iconst 2, 1) := by decide +kernel
theorem dX9_count_84 : decode cX9_count 84 = .ok (.invokevirtual 130, 3) := by decide +kernel
theorem dX9_count_87 : decode cX9_count 87 = .ok (.iadd, 1) := by decide +kernel
theorem dX9_count_88 : decode cX9_count 88 = .ok (.aload_n 0, 1) := by decide +kernel
theorem dX9_count_89 : decode cX9_count 89 = .ok (.iconst 3, 1) := by decide +kernel
theorem dX9_count_90 : decode cX9_count 90 = .ok (.invokevirtual 130, 3) := by decide +kernel
theorem dX9_count_93 : decode cX9_count 93 = .ok (.iadd, 1) := by decide +kernel
theorem dX9_count_94 : decode cX9_count 94 = .ok (.ireturn, 1) := by decide +kernel
theorem dX9_count_95 : decode cX9_count 95 = .ok (.aload_n 0, 1) := by decide +kernel
theorem dX9_count_96 : decode cX9_count 96 = .ok (.invokevirtual 84, 3) := by decide +kernel
theorem dX9_count_99 : decode cX9_count 99 = .ok (.ireturn, 1) := by decide +kernel
theorem dX9_count_100 : decode cX9_count 100 = .ok (.aload_n 0, 1) := by decide +kernel
theorem dX9_count_101 : decode cX9_count 101 = .ok (.getfield 25, 3) := by decide +kernel
theorem dX9_count_104 : decode cX9_count 104 = .ok (.ireturn, 1) := by decide +kernel
theorem dX9_count_105 : decode cX9_count 105 = .ok (.aload_n 0, 1) := by decide +kernel
theorem dX9_count_106 : decode cX9_count 106 = .ok (.getfield 133, 3) := by decide +kernel
theorem dX9_count_109 : decode cX9_count 109 = .ok (.ireturn, 1) := by decide +kernel
theorem dX9_count_110 : decode cX9_count 110 = .ok (.aload_n 0, 1) := by decide +kernel
theorem dX9_count_111 : decode cX9_count 111 = .ok (.getfield 7, 3) := by decide +kernel
theorem dX9_count_114 : decode cX9_count 114 = .ok (.bipush 6, 2) := by decide +kernel
theorem dX9_count_116 : decode cX9_count 116 = .ok (.iload_n 1, 1) := by decide +kernel
theorem dX9_count_117 : decode cX9_count 117 = .ok (.iadd, 1) := by decide +kernel
theorem dX9_count_118 : decode cX9_count 118 = .ok (.bipush 10, 2) := by decide +kernel
theorem dX9_count_120 : decode cX9_count 120 = .ok (.isub, 1) := by decide +kernel
theorem dX9_count_121 : decode cX9_count 121 = .ok (.iaload, 1) := by decide +kernel
theorem dX9_count_122 : decode cX9_count 122 = .ok (.ireturn, 1) := by decide +kernel
theorem dX9_count_123 : decode cX9_count 123 = .ok (.iconst (-1), 1) := by decide +kernel
theorem dX9_count_124 : decode cX9_count 124 = .ok (.ireturn, 1) := by decide +kernel
set_option maxRecDepth 100000 in
theorem ggX9_isAhead_X9_rank : GoodIn wsX9_isAhead wsX9_rank := goodIn_r _ [5, 6, 7, 8, 4, 9, 10, 11, 12, 13, 14, 15, 16, 17, 18, 19, 20, 21, 22, 23, 24, 25, 26, 27, 28, 29, 30, 31, 32, 33, 34, 35, 36, 37, 38, 39, 40, 41, 42, 43, 44, 45, 46, 47, 48] rfl rfl
set_option maxRecDepth 100000 in
theorem gX9_isAhead_X9_rank : GoodIn wsX9_isAhead (wsV RX9 136 RX9 yX9_rank wsX9_rank) := goodIn_app (goodIn_r _ [1, 2, 3, 4] rfl rfl) ggX9_isAhead_X9_rank
set_option maxRecDepth 100000 in
theorem ggX9_isAhead_X9_of : GoodIn wsX9_isAhead wsX9_of := goodIn_r _ [17, 18, 39, 40, 41, 42, 43, 44, 45, 46, 47, 48] rfl rfl
set_option maxRecDepth 100000 in
theorem gX9_isAhead_X9_of : GoodIn wsX9_isAhead (wsV RX9 33 RX9 yX9_of wsX9_of) := goodIn_app (goodIn_r _ [14, 15, 16, 4] rfl rfl) ggX9_isAhead_X9_of
theorem dX9_isAhead_0 : decode cX9_isAhead 0 = .ok (.aload_n 0, 1) := by decide +kernel
theorem dX9_isAhead_1 : decode cX9_isAhead 1 = .ok (.iload_n 1, 1) := by decide +kernel
theorem dX9_isAhead_2 : decode cX9_isAhead 2 = .ok (.iload_n 3, 1) := by decide +kernel
theorem dX9_isAhead_3 : decode cX9_isAhead 3 = .ok (.invokevirtual 136, 3) := by decide +kernel
theorem dX9_isAhead_6 : decode cX9_isAhead 6 = .ok (.istore 4, 2) := by decide +kernel
theorem dX9_isAhead_8 : decode cX9_isAhead 8 = .ok (.aload_n 0, 1) := by decide +kernel
theorem dX9_isAhead_9 : decode cX9_isAhead 9 = .ok (.iload_n 2, 1) := by decide +kernel
theorem dX9_isAhead_10 : decode cX9_isAhead 10 = .ok (.iload_n 3, 1) := by decide +kernel
theorem dX9_isAhead_11 : decode cX9_isAhead 11 = .ok (.invokevirtual 136, 3) := by decide +kernel
theorem dX9_isAhead_14 : decode cX9_isAhead 14 = .ok (.istore 5, 2) := by decide +kernel
theorem dX9_isAhead_16 : decode cX9_isAhead 16 = .ok (.aload_n 0, 1) := by decide +kernel
theorem dX9_isAhead_17 : decode cX9_isAhead 17 = .ok (.iload_n 1, 1) := by decide +kernel
theorem dX9_isAhead_18 : decode cX9_isAhead 18 = .ok (.iconst 2, 1) := by decide +kernel
theorem dX9_isAhead_19 : decode cX9_isAhead 19 = .ok (.invokevirtual 33, 3) := by decide +kernel
theorem dX9_isAhead_22 : decode cX9_isAhead 22 = .ok (.aload_n 0, 1) := by decide +kernel
theorem dX9_isAhead_23 : decode cX9_isAhead 23 = .ok (.iload_n 2, 1) := by decide +kernel
theorem dX9_isAhead_24 : decode cX9_isAhead 24 = .ok (.iconst 2, 1) := by decide +kernel
theorem dX9_isAhead_25 : decode cX9_isAhead 25 = .ok (.invokevirtual 33, 3) := by decide +kernel
theorem dX9_isAhead_28 : decode cX9_isAhead 28 = .ok (.isub, 1) := by decide +kernel
theorem dX9_isAhead_29 : decode cX9_isAhead 29 = .ok (.istore 6, 2) := by decide +kernel
theorem dX9_isAhead_31 : decode cX9_isAhead 31 = .ok (.iload 4, 2) := by decide +kernel
theorem dX9_isAhead_33 : decode cX9_isAhead 33 = .ok (.iload 5, 2) := by decide +kernel
theorem dX9_isAhead_35 : decode cX9_isAhead 35 = .ok (.if_icmp .lt 25, 3) := by decide +kernel
theorem dX9_isAhead_38 : decode cX9_isAhead 38 = .ok (.iload 4, 2) := by decide +kernel
theorem dX9_isAhead_40 : decode cX9_isAhead 40 = .ok (.iload 5, 2) := by decide +kernel
theorem dX9_isAhead_42 : decode cX9_isAhead 42 = .ok (.if_icmp .ne 22, 3) := by decide +kernel
theorem dX9_isAhead_45 : decode cX9_isAhead 45 = .ok (.iload 6, 2) := by decide +kernel
theorem dX9_isAhead_47 : decode cX9_isAhead 47 = .ok (.ifCond .lt 13, 3) := by decide +kernel
theorem dX9_isAhead_50 : decode cX9_isAhead 50 = .ok (.iload 6, 2) := by decide +kernel
theorem dX9_isAhead_52 : decode cX9_isAhead 52 = .ok (.ifCond .ne 12, 3) := by decide +kernel
theorem dX9_isAhead_55 : decode cX9_isAhead 55 = .ok (.iload_n 1, 1) := by decide +kernel
theorem dX9_isAhead_56 : decode cX9_isAhead 56 = .ok (.iload_n 2, 1) := by decide +kernel
theorem dX9_isAhead_57 : decode cX9_isAhead 57 = .ok (.if_icmp .ge 7, 3) := by decide +kernel
theorem dX9_isAhead_60 : decode cX9_isAhead 60 = .ok (.iconst 1, 1) := by decide +kernel
theorem dX9_isAhead_61 : decode cX9_isAhead 61 = .ok (.goto 4, 3) := by decide +kernel
theorem dX9_isAhead_64 : decode cX9_isAhead 64 = .ok (.iconst 0, 1) := by decide +kernel
theorem dX9_isAhead_65 : decode cX9_isAhead 65 = .ok (.ireturn, 1) := by decide +kernel
set_option maxRecDepth 100000 in
theorem ggX9_rank_X9_isFixed : GoodIn wsX9_rank wsX9_isFixed := goodIn_r _ [5, 6, 7, 8, 4, 9, 10, 11, 12, 13, 14, 35, 36, 37, 38, 39, 40, 41, 42, 43, 44] rfl rfl
set_option maxRecDepth 100000 in
theorem gX9_rank_X9_isFixed : GoodIn wsX9_rank (wsV RX9 41 RX9 yX9_isFixed wsX9_isFixed) := goodIn_app (goodIn_r _ [1, 2, 3, 4] rfl rfl) ggX9_rank_X9_isFixed
set_option maxRecDepth 100000 in
theorem ggX9_rank_X9_isOver : GoodIn wsX9_rank wsX9_isOver := goodIn_r _ [18, 14, 1, 2, 3, 4, 5, 6, 7, 8, 9, 10, 11, 12, 13, 35, 36, 37, 38, 39, 40, 41, 42, 43, 44] rfl rfl
set_option maxRecDepth 100000 in
theorem gX9_rank_X9_isOver : GoodIn wsX9_rank (wsV RX9 59 RX9 yX9_isOver wsX9_isOver) := goodIn_app (goodIn_r _ [15, 16, 17, 4] rfl rfl) ggX9_rank_X9_isOver
set_option maxRecDepth 100000 in
theorem ggX9_rank_X9_of : GoodIn wsX9_rank wsX9_of := goodIn_r _ [13, 14, 35, 36, 37, 38, 39, 40, 41, 42, 43, 44] rfl rfl
set_option maxRecDepth 100000 in
theorem gX9_rank_X9_of : GoodIn wsX9_rank (wsV RX9 33 RX9 yX9_of wsX9_of) := goodIn_app (goodIn_r _ [10, 11, 12, 4] rfl rfl) ggX9_rank_X9_of
set_option maxRecDepth 100000 in
theorem ggX9_rank_X9_ofWho : GoodIn wsX9_rank wsX9_ofWho := goodIn_r _ [22, 14, 35, 36, 37, 38, 39, 40, 41, 42, 43, 44] rfl rfl
set_option maxRecDepth 100000 in
theorem gX9_rank_X9_ofWho : GoodIn wsX9_rank (wsV RX9 56 RX9 yX9_ofWho wsX9_ofWho) := goodIn_app (goodIn_r _ [19, 20, 21, 4] rfl rfl) ggX9_rank_X9_ofWho
set_option maxRecDepth 100000 in
theorem ggX9_rank_X9_wantedIn : GoodIn wsX9_rank wsX9_wantedIn := goodIn_r _ [26, 27, 28, 29, 4, 30, 31, 32, 33, 34, 14, 35, 36, 37, 38, 39, 40, 41, 42, 43, 44] rfl rfl
set_option maxRecDepth 100000 in
theorem gX9_rank_X9_wantedIn : GoodIn wsX9_rank (wsV RX9 130 RX9 yX9_wantedIn wsX9_wantedIn) := goodIn_app (goodIn_r _ [23, 24, 25, 4] rfl rfl) ggX9_rank_X9_wantedIn
theorem dX9_rank_0 : decode cX9_rank 0 = .ok (.aload_n 0, 1) := by decide +kernel
theorem dX9_rank_1 : decode cX9_rank 1 = .ok (.iload_n 1, 1) := by decide +kernel
theorem dX9_rank_2 : decode cX9_rank 2 = .ok (.invokevirtual 41, 3) := by decide +kernel
theorem dX9_rank_5 : decode cX9_rank 5 = .ok (.ifCond .ne 7, 3) := by decide +kernel
theorem dX9_rank_8 : decode cX9_rank 8 = .ok (.iconst 2, 1) := by decide +kernel
theorem dX9_rank_9 : decode cX9_rank 9 = .ok (.goto 16, 3) := by decide +kernel
theorem dX9_rank_12 : decode cX9_rank 12 = .ok (.aload_n 0, 1) := by decide +kernel
theorem dX9_rank_13 : decode cX9_rank 13 = .ok (.iload_n 1, 1) := by decide +kernel
theorem dX9_rank_14 : decode cX9_rank 14 = .ok (.invokevirtual 59, 3) := by decide +kernel
theorem dX9_rank_17 : decode cX9_rank 17 = .ok (.ifCond .eq 7, 3) := by decide +kernel
theorem dX9_rank_20 : decode cX9_rank 20 = .ok (.iconst 1, 1) := by decide +kernel
theorem dX9_rank_21 : decode cX9_rank 21 = .ok (.goto 4, 3) := by decide +kernel
theorem dX9_rank_24 : decode cX9_rank 24 = .ok (.iconst 0, 1) := by decide +kernel
theorem dX9_rank_25 : decode cX9_rank 25 = .ok (.istore_n 3, 1) := by decide +kernel
theorem dX9_rank_26 : decode cX9_rank 26 = .ok (.aload_n 0, 1) := by decide +kernel
theorem dX9_rank_27 : decode cX9_rank 27 = .ok (.iload_n 1, 1) := by decide +kernel
theorem dX9_rank_28 : decode cX9_rank 28 = .ok (.iconst 0, 1) := by decide +kernel
theorem dX9_rank_29 : decode cX9_rank 29 = .ok (.invokevirtual 33, 3) := by decide +kernel
theorem dX9_rank_32 : decode cX9_rank 32 = .ok (.aload_n 0, 1) := by decide +kernel
theorem dX9_rank_33 : decode cX9_rank 33 = .ok (.iload_n 2, 1) := by decide +kernel
theorem dX9_rank_34 : decode cX9_rank 34 = .ok (.iconst 0, 1) := by decide +kernel
theorem dX9_rank_35 : decode cX9_rank 35 = .ok (.invokevirtual 56, 3) := by decide +kernel
theorem dX9_rank_38 : decode cX9_rank 38 = .ok (.if_icmp .ne 7, 3) := by decide +kernel
theorem dX9_rank_41 : decode cX9_rank 41 = .ok (.iconst 0, 1) := by decide +kernel
theorem dX9_rank_42 : decode cX9_rank 42 = .ok (.goto 4, 3) := by decide +kernel
theorem dX9_rank_45 : decode cX9_rank 45 = .ok (.iconst 1, 1) := by decide +kernel
theorem dX9_rank_46 : decode cX9_rank 46 = .ok (.istore 4, 2) := by decide +kernel
theorem dX9_rank_48 : decode cX9_rank 48 = .ok (.aload_n 0, 1) := by decide +kernel
theorem dX9_rank_49 : decode cX9_rank 49 = .ok (.aload_n 0, 1) := by decide +kernel
theorem dX9_rank_50 : decode cX9_rank 50 = .ok (.iload_n 1, 1) := by decide +kernel
theorem dX9_rank_51 : decode cX9_rank 51 = .ok (.iconst 0, 1) := by decide +kernel
theorem dX9_rank_52 : decode cX9_rank 52 = .ok (.invokevirtual 33, 3) := by decide +kernel
theorem dX9_rank_55 : decode cX9_rank 55 = .ok (.invokevirtual 130, 3) := by decide +kernel
theorem dX9_rank_58 : decode cX9_rank 58 = .ok (.ifCond .le 7, 3) := by decide +kernel
theorem dX9_rank_61 : decode cX9_rank 61 = .ok (.iconst 0, 1) := by decide +kernel
theorem dX9_rank_62 : decode cX9_rank 62 = .ok (.goto 4, 3) := by decide +kernel
theorem dX9_rank_65 : decode cX9_rank 65 = .ok (.iconst 1, 1) := by decide +kernel
theorem dX9_rank_66 : decode cX9_rank 66 = .ok (.istore 5, 2) := by decide +kernel
theorem dX9_rank_68 : decode cX9_rank 68 = .ok (.iconst 4, 1) := by decide +kernel
theorem dX9_rank_69 : decode cX9_rank 69 = .ok (.iload_n 3, 1) := by decide +kernel
theorem dX9_rank_70 : decode cX9_rank 70 = .ok (.imul, 1) := by decide +kernel
theorem dX9_rank_71 : decode cX9_rank 71 = .ok (.iconst 2, 1) := by decide +kernel
theorem dX9_rank_72 : decode cX9_rank 72 = .ok (.iload 4, 2) := by decide +kernel
theorem dX9_rank_74 : decode cX9_rank 74 = .ok (.imul, 1) := by decide +kernel
theorem dX9_rank_75 : decode cX9_rank 75 = .ok (.iadd, 1) := by decide +kernel
theorem dX9_rank_76 : decode cX9_rank 76 = .ok (.iload 5, 2) := by decide +kernel
theorem dX9_rank_78 : decode cX9_rank 78 = .ok (.iadd, 1) := by decide +kernel
theorem dX9_rank_79 : decode cX9_rank 79 = .ok (.ireturn, 1) := by decide +kernel
set_option maxRecDepth 100000 in
theorem ggX9_next_X9_isStaff : GoodIn wsX9_next wsX9_isStaff := goodIn_r _ [6, 1, 7, 8, 5, 9, 54, 55, 56, 57, 58, 59, 60, 61, 62, 63] rfl rfl
set_option maxRecDepth 100000 in
theorem gX9_next_X9_isStaff : GoodIn wsX9_next (wsV RX9 65 RX9 yX9_isStaff wsX9_isStaff) := goodIn_app (goodIn_r _ [2, 3, 4, 5] rfl rfl) ggX9_next_X9_isStaff
set_option maxRecDepth 100000 in
theorem ggX9_next_X9_in : GoodIn wsX9_next wsX9_in := goodIn_r _ [9] rfl rfl
set_option maxRecDepth 100000 in
theorem gX9_next_X9_in : GoodIn wsX9_next (va_wsS RX9 29 yX9_in wsX9_in) := goodIn_app (goodIn_r _ [7, 8, 5] rfl rfl) ggX9_next_X9_in
set_option maxRecDepth 100000 in
theorem ggX9_next_X9_mayCall : GoodIn wsX9_next wsX9_mayCall := goodIn_r _ [13, 1, 14, 15, 16, 5, 17, 18, 19, 20, 21, 22, 23, 24, 25, 26, 27, 28, 29, 30, 31, 32, 33, 54, 55, 56, 57, 58, 59, 60, 61, 62, 63] rfl rfl
set_option maxRecDepth 100000 in
theorem gX9_next_X9_mayCall : GoodIn wsX9_next (wsV RX9 74 RX9 yX9_mayCall wsX9_mayCall) := goodIn_app (goodIn_r _ [10, 11, 12, 5] rfl rfl) ggX9_next_X9_mayCall
set_option maxRecDepth 100000 in
theorem ggX9_next_X9_isAhead : GoodIn wsX9_next wsX9_isAhead := goodIn_r _ [37, 38, 39, 40, 5, 41, 26, 27, 28, 29, 14, 15, 16, 17, 18, 19, 20, 21, 1, 30, 31, 32, 33, 22, 23, 24, 25, 42, 43, 44, 45, 46, 47, 48, 49, 50, 51, 52, 53, 54, 55, 56, 57, 58, 59, 60, 61, 62, 63] rfl rfl
set_option maxRecDepth 100000 in
theorem gX9_next_X9_isAhead : GoodIn wsX9_next (wsV RX9 139 RX9 yX9_isAhead wsX9_isAhead) := goodIn_app (goodIn_r _ [34, 35, 36, 5] rfl rfl) ggX9_next_X9_isAhead
theorem dX9_next_0 : decode cX9_next 0 = .ok (.aload_n 0, 1) := by decide +kernel
theorem dX9_next_1 : decode cX9_next 1 = .ok (.iload_n 1, 1) := by decide +kernel
theorem dX9_next_2 : decode cX9_next 2 = .ok (.invokevirtual 65, 3) := by decide +kernel
theorem dX9_next_5 : decode cX9_next 5 = .ok (.ifCond .eq 12, 3) := by decide +kernel
theorem dX9_next_8 : decode cX9_next 8 = .ok (.iload_n 2, 1) := by decide +kernel
theorem dX9_next_9 : decode cX9_next 9 = .ok (.iconst 0, 1) := by decide +kernel
theorem dX9_next_10 : decode cX9_next 10 = .ok (.iconst 2, 1) := by decide +kernel
theorem dX9_next_11 : decode cX9_next 11 = .ok (.invokestatic 29, 3) := by decide +kernel
theorem dX9_next_14 : decode cX9_next 14 = .ok (.ifCond .ne 5, 3) := by decide +kernel
theorem dX9_next_17 : decode cX9_next 17 = .ok (.iconst (-1), 1) := by decide +kernel
theorem dX9_next_18 : decode cX9_next 18 = .ok (.ireturn, 1) := by decide +kernel
theorem dX9_next_19 : decode cX9_next 19 = .ok (.iconst (-1), 1) := by decide +kernel
theorem dX9_next_20 : decode cX9_next 20 = .ok (.istore_n 3, 1) := by decide +kernel
theorem dX9_next_21 : decode cX9_next 21 = .ok (.iconst 0, 1) := by decide +kernel
theorem dX9_next_22 : decode cX9_next 22 = .ok (.istore 4, 2) := by decide +kernel
theorem dX9_next_24 : decode cX9_next 24 = .ok (.iload 4, 2) := by decide +kernel
theorem dX9_next_26 : decode cX9_next 26 = .ok (.aload_n 0, 1) := by decide +kernel
theorem dX9_next_27 : decode cX9_next 27 = .ok (.getfield 7, 3) := by decide +kernel
theorem dX9_next_30 : decode cX9_next 30 = .ok (.iconst 0, 1) := by decide +kernel
theorem dX9_next_31 : decode cX9_next 31 = .ok (.iaload, 1) := by decide +kernel
theorem dX9_next_32 : decode cX9_next 32 = .ok (.if_icmp .ge 42, 3) := by decide +kernel
theorem dX9_next_35 : decode cX9_next 35 = .ok (.aload_n 0, 1) := by decide +kernel
theorem dX9_next_36 : decode cX9_next 36 = .ok (.iload_n 1, 1) := by decide +kernel
theorem dX9_next_37 : decode cX9_next 37 = .ok (.iload 4, 2) := by decide +kernel
theorem dX9_next_39 : decode cX9_next 39 = .ok (.iload_n 2, 1) := by decide +kernel
theorem dX9_next_40 : decode cX9_next 40 = .ok (.invokevirtual 74, 3) := by decide +kernel
theorem dX9_next_43 : decode cX9_next 43 = .ok (.ifCond .eq 23, 3) := by decide +kernel
theorem dX9_next_46 : decode cX9_next 46 = .ok (.iload_n 3, 1) := by decide +kernel
theorem dX9_next_47 : decode cX9_next 47 = .ok (.ifCond .lt 14, 3) := by decide +kernel
theorem dX9_next_50 : decode cX9_next 50 = .ok (.aload_n 0, 1) := by decide +kernel
theorem dX9_next_51 : decode cX9_next 51 = .ok (.iload 4, 2) := by decide +kernel
theorem dX9_next_53 : decode cX9_next 53 = .ok (.iload_n 3, 1) := by decide +kernel
theorem dX9_next_54 : decode cX9_next 54 = .ok (.iload_n 1, 1) := by decide +kernel
theorem dX9_next_55 : decode cX9_next 55 = .ok (.invokevirtual 139, 3) := by decide +kernel
theorem dX9_next_58 : decode cX9_next 58 = .ok (.ifCond .eq 8, 3) := by decide +kernel
theorem dX9_next_61 : decode cX9_next 61 = .ok (.iload 4, 2) := by decide +kernel
theorem dX9_next_63 : decode cX9_next 63 = .ok (.goto 4, 3) := by decide +kernel
theorem dX9_next_66 : decode cX9_next 66 = .ok (.iload_n 3, 1) := by decide +kernel
theorem dX9_next_67 : decode cX9_next 67 = .ok (.istore_n 3, 1) := by decide +kernel
theorem dX9_next_68 : decode cX9_next 68 = .ok (.iinc 4 1, 3) := by decide +kernel
theorem dX9_next_71 : decode cX9_next 71 = .ok (.goto (-47), 3) := by decide +kernel
theorem dX9_next_74 : decode cX9_next 74 = .ok (.iload_n 3, 1) := by decide +kernel
theorem dX9_next_75 : decode cX9_next 75 = .ok (.ifCond .ge 8, 3) := by decide +kernel
theorem dX9_next_78 : decode cX9_next 78 = .ok (.bipush (-4), 2) := by decide +kernel
theorem dX9_next_80 : decode cX9_next 80 = .ok (.goto 4, 3) := by decide +kernel
theorem dX9_next_83 : decode cX9_next 83 = .ok (.iload_n 3, 1) := by decide +kernel
theorem dX9_next_84 : decode cX9_next 84 = .ok (.ireturn, 1) := by decide +kernel
set_option maxRecDepth 100000 in
theorem ggX9_possible_X9_isStaff : GoodIn wsX9_possible wsX9_isStaff := goodIn_r _ [6, 1, 7, 8, 5, 9, 34, 35, 36, 37, 38, 39, 40, 41, 42, 43] rfl rfl
set_option maxRecDepth 100000 in
theorem gX9_possible_X9_isStaff : GoodIn wsX9_possible (wsV RX9 65 RX9 yX9_isStaff wsX9_isStaff) := goodIn_app (goodIn_r _ [2, 3, 4, 5] rfl rfl) ggX9_possible_X9_isStaff
set_option maxRecDepth 100000 in
theorem ggX9_possible_X9_in : GoodIn wsX9_possible wsX9_in := goodIn_r _ [9] rfl rfl
set_option maxRecDepth 100000 in
theorem gX9_possible_X9_in : GoodIn wsX9_possible (va_wsS RX9 29 yX9_in wsX9_in) := goodIn_app (goodIn_r _ [7, 8, 5] rfl rfl) ggX9_possible_X9_in
set_option maxRecDepth 100000 in
theorem ggX9_possible_X9_mayCall : GoodIn wsX9_possible wsX9_mayCall := goodIn_r _ [13, 1, 14, 15, 16, 5, 17, 18, 19, 20, 21, 22, 23, 24, 25, 26, 27, 28, 29, 30, 31, 32, 33, 34, 35, 36, 37, 38, 39, 40, 41, 42, 43] rfl rfl
set_option maxRecDepth 100000 in
theorem gX9_possible_X9_mayCall : GoodIn wsX9_possible (wsV RX9 74 RX9 yX9_mayCall wsX9_mayCall) := goodIn_app (goodIn_r _ [10, 11, 12, 5] rfl rfl) ggX9_possible_X9_mayCall
theorem dX9_possible_0 : decode cX9_possible 0 = .ok (.aload_n 0, 1) := by decide +kernel
theorem dX9_possible_1 : decode cX9_possible 1 = .ok (.iload_n 1, 1) := by decide +kernel
theorem dX9_possible_2 : decode cX9_possible 2 = .ok (.invokevirtual 65, 3) := by decide +kernel
theorem dX9_possible_5 : decode cX9_possible 5 = .ok (.ifCond .eq 12, 3) := by decide +kernel
theorem dX9_possible_8 : decode cX9_possible 8 = .ok (.iload_n 2, 1) := by decide +kernel
theorem dX9_possible_9 : decode cX9_possible 9 = .ok (.iconst 0, 1) := by decide +kernel
theorem dX9_possible_10 : decode cX9_possible 10 = .ok (.iconst 2, 1) := by decide +kernel
theorem dX9_possible_11 : decode cX9_possible 11 = .ok (.invokestatic 29, 3) := by decide +kernel
theorem dX9_possible_14 : decode cX9_possible 14 = .ok (.ifCond .ne 5, 3) := by decide +kernel
theorem dX9_possible_17 : decode cX9_possible 17 = .ok (.iconst (-1), 1) := by decide +kernel
theorem dX9_possible_18 : decode cX9_possible 18 = .ok (.ireturn, 1) := by decide +kernel
theorem dX9_possible_19 : decode cX9_possible 19 = .ok (.iconst 0, 1) := by decide +kernel
theorem dX9_possible_20 : decode cX9_possible 20 = .ok (.istore_n 3, 1) := by decide +kernel
theorem dX9_possible_21 : decode cX9_possible 21 = .ok (.iconst 0, 1) := by decide +kernel
theorem dX9_possible_22 : decode cX9_possible 22 = .ok (.istore 4, 2) := by decide +kernel
theorem dX9_possible_24 : decode cX9_possible 24 = .ok (.iload 4, 2) := by decide +kernel
theorem dX9_possible_26 : decode cX9_possible 26 = .ok (.aload_n 0, 1) := by decide +kernel
theorem dX9_possible_27 : decode cX9_possible 27 = .ok (.getfield 7, 3) := by decide +kernel
theorem dX9_possible_30 : decode cX9_possible 30 = .ok (.iconst 0, 1) := by decide +kernel
theorem dX9_possible_31 : decode cX9_possible 31 = .ok (.iaload, 1) := by decide +kernel
theorem dX9_possible_32 : decode cX9_possible 32 = .ok (.if_icmp .ge 31, 3) := by decide +kernel
theorem dX9_possible_35 : decode cX9_possible 35 = .ok (.iload_n 3, 1) := by decide +kernel
theorem dX9_possible_36 : decode cX9_possible 36 = .ok (.aload_n 0, 1) := by decide +kernel
theorem dX9_possible_37 : decode cX9_possible 37 = .ok (.iload_n 1, 1) := by decide +kernel
theorem dX9_possible_38 : decode cX9_possible 38 = .ok (.iload 4, 2) := by decide +kernel
theorem dX9_possible_40 : decode cX9_possible 40 = .ok (.iload_n 2, 1) := by decide +kernel
theorem dX9_possible_41 : decode cX9_possible 41 = .ok (.invokevirtual 74, 3) := by decide +kernel
theorem dX9_possible_44 : decode cX9_possible 44 = .ok (.ifCond .eq 10, 3) := by decide +kernel
theorem dX9_possible_47 : decode cX9_possible 47 = .ok (.iconst 1, 1) := by decide +kernel
theorem dX9_possible_48 : decode cX9_possible 48 = .ok (.iload 4, 2) := by decide +kernel
theorem dX9_possible_50 : decode cX9_possible 50 = .ok (.ishl, 1) := by decide +kernel
theorem dX9_possible_51 : decode cX9_possible 51 = .ok (.goto 4, 3) := by decide +kernel
theorem dX9_possible_54 : decode cX9_possible 54 = .ok (.iconst 0, 1) := by decide +kernel
theorem dX9_possible_55 : decode cX9_possible 55 = .ok (.ior, 1) := by decide +kernel
theorem dX9_possible_56 : decode cX9_possible 56 = .ok (.istore_n 3, 1) := by decide +kernel
theorem dX9_possible_57 : decode cX9_possible 57 = .ok (.iinc 4 1, 3) := by decide +kernel
theorem dX9_possible_60 : decode cX9_possible 60 = .ok (.goto (-36), 3) := by decide +kernel
theorem dX9_possible_63 : decode cX9_possible 63 = .ok (.iload_n 3, 1) := by decide +kernel
theorem dX9_possible_64 : decode cX9_possible 64 = .ok (.ireturn, 1) := by decide +kernel
set_option maxRecDepth 100000 in
theorem ggX9_daysLeft_X9_of : GoodIn wsX9_daysLeft wsX9_of := goodIn_r _ [6, 1, 15, 16, 17, 18, 19, 20, 21, 22, 23, 24] rfl rfl
set_option maxRecDepth 100000 in
theorem gX9_daysLeft_X9_of : GoodIn wsX9_daysLeft (wsV RX9 33 RX9 yX9_of wsX9_of) := goodIn_app (goodIn_r _ [2, 3, 4, 5] rfl rfl) ggX9_daysLeft_X9_of
set_option maxRecDepth 100000 in
theorem ggX9_daysLeft_X9_isOpen : GoodIn wsX9_daysLeft wsX9_isOpen := goodIn_r _ [10, 2, 3, 4, 5, 6, 1, 15, 16, 17, 18, 19, 20, 21, 22, 23, 24] rfl rfl
set_option maxRecDepth 100000 in
theorem gX9_daysLeft_X9_isOpen : GoodIn wsX9_daysLeft (wsV RX9 37 RX9 yX9_isOpen wsX9_isOpen) := goodIn_app (goodIn_r _ [7, 8, 9, 5] rfl rfl) ggX9_daysLeft_X9_isOpen
set_option maxRecDepth 100000 in
theorem ggX9_daysLeft_X9_ofWho : GoodIn wsX9_daysLeft wsX9_ofWho := goodIn_r _ [14, 1, 15, 16, 17, 18, 19, 20, 21, 22, 23, 24] rfl rfl
set_option maxRecDepth 100000 in
theorem gX9_daysLeft_X9_ofWho : GoodIn wsX9_daysLeft (wsV RX9 56 RX9 yX9_ofWho wsX9_ofWho) := goodIn_app (goodIn_r _ [11, 12, 13, 5] rfl rfl) ggX9_daysLeft_X9_ofWho
theorem dX9_daysLeft_0 : decode cX9_daysLeft 0 = .ok (.iconst 0, 1) := by decide +kernel
theorem dX9_daysLeft_1 : decode cX9_daysLeft 1 = .ok (.istore_n 1, 1) := by decide +kernel
theorem dX9_daysLeft_2 : decode cX9_daysLeft 2 = .ok (.iconst 0, 1) := by decide +kernel
theorem dX9_daysLeft_3 : decode cX9_daysLeft 3 = .ok (.istore_n 2, 1) := by decide +kernel
theorem dX9_daysLeft_4 : decode cX9_daysLeft 4 = .ok (.iload_n 2, 1) := by decide +kernel
theorem dX9_daysLeft_5 : decode cX9_daysLeft 5 = .ok (.aload_n 0, 1) := by decide +kernel
theorem dX9_daysLeft_6 : decode cX9_daysLeft 6 = .ok (.getfield 7, 3) := by decide +kernel
theorem dX9_daysLeft_9 : decode cX9_daysLeft 9 = .ok (.iconst 0, 1) := by decide +kernel
theorem dX9_daysLeft_10 : decode cX9_daysLeft 10 = .ok (.iaload, 1) := by decide +kernel
theorem dX9_daysLeft_11 : decode cX9_daysLeft 11 = .ok (.if_icmp .ge 49, 3) := by decide +kernel
theorem dX9_daysLeft_14 : decode cX9_daysLeft 14 = .ok (.aload_n 0, 1) := by decide +kernel
theorem dX9_daysLeft_15 : decode cX9_daysLeft 15 = .ok (.getfield 7, 3) := by decide +kernel
theorem dX9_daysLeft_18 : decode cX9_daysLeft 18 = .ok (.bipush 6, 2) := by decide +kernel
theorem dX9_daysLeft_20 : decode cX9_daysLeft 20 = .ok (.iaload, 1) := by decide +kernel
theorem dX9_daysLeft_21 : decode cX9_daysLeft 21 = .ok (.aload_n 0, 1) := by decide +kernel
theorem dX9_daysLeft_22 : decode cX9_daysLeft 22 = .ok (.iload_n 2, 1) := by decide +kernel
theorem dX9_daysLeft_23 : decode cX9_daysLeft 23 = .ok (.iconst 3, 1) := by decide +kernel
theorem dX9_daysLeft_24 : decode cX9_daysLeft 24 = .ok (.invokevirtual 33, 3) := by decide +kernel
theorem dX9_daysLeft_27 : decode cX9_daysLeft 27 = .ok (.isub, 1) := by decide +kernel
theorem dX9_daysLeft_28 : decode cX9_daysLeft 28 = .ok (.istore_n 3, 1) := by decide +kernel
theorem dX9_daysLeft_29 : decode cX9_daysLeft 29 = .ok (.iload_n 1, 1) := by decide +kernel
theorem dX9_daysLeft_30 : decode cX9_daysLeft 30 = .ok (.aload_n 0, 1) := by decide +kernel
theorem dX9_daysLeft_31 : decode cX9_daysLeft 31 = .ok (.iload_n 2, 1) := by decide +kernel
theorem dX9_daysLeft_32 : decode cX9_daysLeft 32 = .ok (.invokevirtual 37, 3) := by decide +kernel
theorem dX9_daysLeft_35 : decode cX9_daysLeft 35 = .ok (.ifCond .eq 16, 3) := by decide +kernel
theorem dX9_daysLeft_38 : decode cX9_daysLeft 38 = .ok (.iload_n 3, 1) := by decide +kernel
theorem dX9_daysLeft_39 : decode cX9_daysLeft 39 = .ok (.iconst 1, 1) := by decide +kernel
theorem dX9_daysLeft_40 : decode cX9_daysLeft 40 = .ok (.if_icmp .ge 7, 3) := by decide +kernel
theorem dX9_daysLeft_43 : decode cX9_daysLeft 43 = .ok (.iconst 1, 1) := by decide +kernel
theorem dX9_daysLeft_44 : decode cX9_daysLeft 44 = .ok (.goto 8, 3) := by decide +kernel
theorem dX9_daysLeft_47 : decode cX9_daysLeft 47 = .ok (.iload_n 3, 1) := by decide +kernel
theorem dX9_daysLeft_48 : decode cX9_daysLeft 48 = .ok (.goto 4, 3) := by decide +kernel
theorem dX9_daysLeft_51 : decode cX9_daysLeft 51 = .ok (.iconst 0, 1) := by decide +kernel
theorem dX9_daysLeft_52 : decode cX9_daysLeft 52 = .ok (.iadd, 1) := by decide +kernel
theorem dX9_daysLeft_53 : decode cX9_daysLeft 53 = .ok (.istore_n 1, 1) := by decide +kernel
theorem dX9_daysLeft_54 : decode cX9_daysLeft 54 = .ok (.iinc 2 1, 3) := by decide +kernel
theorem dX9_daysLeft_57 : decode cX9_daysLeft 57 = .ok (.goto (-53), 3) := by decide +kernel
theorem dX9_daysLeft_60 : decode cX9_daysLeft 60 = .ok (.iconst 0, 1) := by decide +kernel
theorem dX9_daysLeft_61 : decode cX9_daysLeft 61 = .ok (.istore_n 2, 1) := by decide +kernel
theorem dX9_daysLeft_62 : decode cX9_daysLeft 62 = .ok (.iconst 0, 1) := by decide +kernel
theorem dX9_daysLeft_63 : decode cX9_daysLeft 63 = .ok (.istore_n 3, 1) := by decide +kernel
theorem dX9_daysLeft_64 : decode cX9_daysLeft 64 = .ok (.iconst 0, 1) := by decide +kernel
theorem dX9_daysLeft_65 : decode cX9_daysLeft 65 = .ok (.istore 4, 2) := by decide +kernel
theorem dX9_daysLeft_67 : decode cX9_daysLeft 67 = .ok (.iload 4, 2) := by decide +kernel
theorem dX9_daysLeft_69 : decode cX9_daysLeft 69 = .ok (.aload_n 0, 1) := by decide +kernel
theorem dX9_daysLeft_70 : decode cX9_daysLeft 70 = .ok (.getfield 7, 3) := by decide +kernel
theorem dX9_daysLeft_73 : decode cX9_daysLeft 73 = .ok (.iconst 1, 1) := by decide +kernel
theorem dX9_daysLeft_74 : decode cX9_daysLeft 74 = .ok (.iaload, 1) := by decide +kernel
theorem dX9_daysLeft_75 : decode cX9_daysLeft 75 = .ok (.if_icmp .ge 29, 3) := by decide +kernel
theorem dX9_daysLeft_78 : decode cX9_daysLeft 78 = .ok (.iload_n 2, 1) := by decide +kernel
theorem dX9_daysLeft_79 : decode cX9_daysLeft 79 = .ok (.aload_n 0, 1) := by decide +kernel
theorem dX9_daysLeft_80 : decode cX9_daysLeft 80 = .ok (.iload 4, 2) := by decide +kernel
theorem dX9_daysLeft_82 : decode cX9_daysLeft 82 = .ok (.iconst 1, 1) := by decide +kernel
theorem dX9_daysLeft_83 : decode cX9_daysLeft 83 = .ok (.invokevirtual 56, 3) := by decide +kernel
theorem dX9_daysLeft_86 : decode cX9_daysLeft 86 = .ok (.iadd, 1) := by decide +kernel
theorem dX9_daysLeft_87 : decode cX9_daysLeft 87 = .ok (.istore_n 2, 1) := by decide +kernel
theorem dX9_daysLeft_88 : decode cX9_daysLeft 88 = .ok (.iload_n 3, 1) := by decide +kernel
theorem dX9_daysLeft_89 : decode cX9_daysLeft 89 = .ok (.aload_n 0, 1) := by decide +kernel
theorem dX9_daysLeft_90 : decode cX9_daysLeft 90 = .ok (.iload 4, 2) := by decide +kernel
theorem dX9_daysLeft_92 : decode cX9_daysLeft 92 = .ok (.iconst 2, 1) := by decide +kernel
theorem dX9_daysLeft_93 : decode cX9_daysLeft 93 = .ok (.invokevirtual 56, 3) := by decide +kernel
theorem dX9_daysLeft_96 : decode cX9_daysLeft 96 = .ok (.iadd, 1) := by decide +kernel
theorem dX9_daysLeft_97 : decode cX9_daysLeft 97 = .ok (.istore_n 3, 1) := by decide +kernel
theorem dX9_daysLeft_98 : decode cX9_daysLeft 98 = .ok (.iinc 4 1, 3) := by decide +kernel
theorem dX9_daysLeft_101 : decode cX9_daysLeft 101 = .ok (.goto (-34), 3) := by decide +kernel
theorem dX9_daysLeft_104 : decode cX9_daysLeft 104 = .ok (.iload_n 1, 1) := by decide +kernel
theorem dX9_daysLeft_105 : decode cX9_daysLeft 105 = .ok (.ifCond .ne 5, 3) := by decide +kernel
theorem dX9_daysLeft_108 : decode cX9_daysLeft 108 = .ok (.iconst 0, 1) := by decide +kernel
theorem dX9_daysLeft_109 : decode cX9_daysLeft 109 = .ok (.ireturn, 1) := by decide +kernel
theorem dX9_daysLeft_110 : decode cX9_daysLeft 110 = .ok (.iload_n 2, 1) := by decide +kernel
theorem dX9_daysLeft_111 : decode cX9_daysLeft 111 = .ok (.ifCond .ne 6, 3) := by decide +kernel
theorem dX9_daysLeft_114 : decode cX9_daysLeft 114 = .ok (.bipush (-4), 2) := by decide +kernel
theorem dX9_daysLeft_116 : decode cX9_daysLeft 116 = .ok (.ireturn, 1) := by decide +kernel
theorem dX9_daysLeft_117 : decode cX9_daysLeft 117 = .ok (.iload_n 1, 1) := by decide +kernel
theorem dX9_daysLeft_118 : decode cX9_daysLeft 118 = .ok (.iload_n 3, 1) := by decide +kernel
theorem dX9_daysLeft_119 : decode cX9_daysLeft 119 = .ok (.iadd, 1) := by decide +kernel
theorem dX9_daysLeft_120 : decode cX9_daysLeft 120 = .ok (.iload_n 2, 1) := by decide +kernel
theorem dX9_daysLeft_121 : decode cX9_daysLeft 121 = .ok (.iadd, 1) := by decide +kernel
theorem dX9_daysLeft_122 : decode cX9_daysLeft 122 = .ok (.iconst 1, 1) := by decide +kernel
theorem dX9_daysLeft_123 : decode cX9_daysLeft 123 = .ok (.isub, 1) := by decide +kernel
theorem dX9_daysLeft_124 : decode cX9_daysLeft 124 = .ok (.iload_n 2, 1) := by decide +kernel
theorem dX9_daysLeft_125 : decode cX9_daysLeft 125 = .ok (.idiv, 1) := by decide +kernel
theorem dX9_daysLeft_126 : decode cX9_daysLeft 126 = .ok (.ireturn, 1) := by decide +kernel
set_option maxRecDepth 100000 in
theorem ggX9_rateBits_X9_isOpen : GoodIn wsX9_rateBits wsX9_isOpen := goodIn_r _ [6, 7, 8, 9, 5, 10, 1, 23, 24, 25, 26, 27, 28, 29, 30, 31, 32] rfl rfl
set_option maxRecDepth 100000 in
theorem gX9_rateBits_X9_isOpen : GoodIn wsX9_rateBits (wsV RX9 37 RX9 yX9_isOpen wsX9_isOpen) := goodIn_app (goodIn_r _ [2, 3, 4, 5] rfl rfl) ggX9_rateBits_X9_isOpen
set_option maxRecDepth 100000 in
theorem ggX9_rateBits_Jxf58ca_floatToIntBits_5c35a : GoodIn wsX9_rateBits wsJxf58ca_floatToIntBits_5c35a := goodIn_r _ [14, 15, 16, 17, 18, 19, 20, 21, 13, 22] rfl rfl
set_option maxRecDepth 100000 in
theorem gX9_rateBits_Jxf58ca_floatToIntBits_5c35a : GoodIn wsX9_rateBits (va_wsS RX9 121 yJxf58ca_floatToIntBits_5c35a wsJxf58ca_floatToIntBits_5c35a) := goodIn_app (goodIn_r _ [11, 12, 13] rfl rfl) ggX9_rateBits_Jxf58ca_floatToIntBits_5c35a
theorem dX9_rateBits_0 : decode cX9_rateBits 0 = .ok (.iconst 0, 1) := by decide +kernel
theorem dX9_rateBits_1 : decode cX9_rateBits 1 = .ok (.istore_n 1, 1) := by decide +kernel
theorem dX9_rateBits_2 : decode cX9_rateBits 2 = .ok (.iconst 0, 1) := by decide +kernel
theorem dX9_rateBits_3 : decode cX9_rateBits 3 = .ok (.istore_n 2, 1) := by decide +kernel
theorem dX9_rateBits_4 : decode cX9_rateBits 4 = .ok (.iload_n 2, 1) := by decide +kernel
theorem dX9_rateBits_5 : decode cX9_rateBits 5 = .ok (.aload_n 0, 1) := by decide +kernel
theorem dX9_rateBits_6 : decode cX9_rateBits 6 = .ok (.getfield 7, 3) := by decide +kernel
theorem dX9_rateBits_9 : decode cX9_rateBits 9 = .ok (.iconst 0, 1) := by decide +kernel
theorem dX9_rateBits_10 : decode cX9_rateBits 10 = .ok (.iaload, 1) := by decide +kernel
theorem dX9_rateBits_11 : decode cX9_rateBits 11 = .ok (.if_icmp .ge 25, 3) := by decide +kernel
theorem dX9_rateBits_14 : decode cX9_rateBits 14 = .ok (.iload_n 1, 1) := by decide +kernel
theorem dX9_rateBits_15 : decode cX9_rateBits 15 = .ok (.aload_n 0, 1) := by decide +kernel
theorem dX9_rateBits_16 : decode cX9_rateBits 16 = .ok (.iload_n 2, 1) := by decide +kernel
theorem dX9_rateBits_17 : decode cX9_rateBits 17 = .ok (.invokevirtual 37, 3) := by decide +kernel
theorem dX9_rateBits_20 : decode cX9_rateBits 20 = .ok (.ifCond .eq 7, 3) := by decide +kernel
theorem dX9_rateBits_23 : decode cX9_rateBits 23 = .ok (.iconst 0, 1) := by decide +kernel
theorem dX9_rateBits_24 : decode cX9_rateBits 24 = .ok (.goto 4, 3) := by decide +kernel
theorem dX9_rateBits_27 : decode cX9_rateBits 27 = .ok (.iconst 1, 1) := by decide +kernel
theorem dX9_rateBits_28 : decode cX9_rateBits 28 = .ok (.iadd, 1) := by decide +kernel
theorem dX9_rateBits_29 : decode cX9_rateBits 29 = .ok (.istore_n 1, 1) := by decide +kernel
theorem dX9_rateBits_30 : decode cX9_rateBits 30 = .ok (.iinc 2 1, 3) := by decide +kernel
theorem dX9_rateBits_33 : decode cX9_rateBits 33 = .ok (.goto (-29), 3) := by decide +kernel
theorem dX9_rateBits_36 : decode cX9_rateBits 36 = .ok (.aload_n 0, 1) := by decide +kernel
theorem dX9_rateBits_37 : decode cX9_rateBits 37 = .ok (.getfield 7, 3) := by decide +kernel
theorem dX9_rateBits_40 : decode cX9_rateBits 40 = .ok (.iconst 5, 1) := by decide +kernel
theorem dX9_rateBits_41 : decode cX9_rateBits 41 = .ok (.iaload, 1) := by decide +kernel
theorem dX9_rateBits_42 : decode cX9_rateBits 42 = .ok (.i2f, 1) := by decide +kernel
theorem dX9_rateBits_43 : decode cX9_rateBits 43 = .ok (.fstore_n 2, 1) := by decide +kernel
theorem dX9_rateBits_44 : decode cX9_rateBits 44 = .ok (.iload_n 1, 1) := by decide +kernel
theorem dX9_rateBits_45 : decode cX9_rateBits 45 = .ok (.i2f, 1) := by decide +kernel
theorem dX9_rateBits_46 : decode cX9_rateBits 46 = .ok (.fstore_n 3, 1) := by decide +kernel
theorem dX9_rateBits_47 : decode cX9_rateBits 47 = .ok (.iload_n 1, 1) := by decide +kernel
theorem dX9_rateBits_48 : decode cX9_rateBits 48 = .ok (.ifCond .ne 8, 3) := by decide +kernel
theorem dX9_rateBits_51 : decode cX9_rateBits 51 = .ok (.bipush (-4), 2) := by decide +kernel
theorem dX9_rateBits_53 : decode cX9_rateBits 53 = .ok (.goto 9, 3) := by decide +kernel
theorem dX9_rateBits_56 : decode cX9_rateBits 56 = .ok (.fload_n 2, 1) := by decide +kernel
theorem dX9_rateBits_57 : decode cX9_rateBits 57 = .ok (.fload_n 3, 1) := by decide +kernel
theorem dX9_rateBits_58 : decode cX9_rateBits 58 = .ok (.fdiv, 1) := by decide +kernel
theorem dX9_rateBits_59 : decode cX9_rateBits 59 = .ok (.invokestatic 121, 3) := by decide +kernel
theorem dX9_rateBits_62 : decode cX9_rateBits 62 = .ok (.ireturn, 1) := by decide +kernel
set_option maxRecDepth 100000 in
theorem ggX9_share_X9_ofCell : GoodIn wsX9_share wsX9_ofCell := goodIn_r _ [5, 6, 11, 12, 13, 14, 15, 16, 17, 18, 19, 20] rfl rfl
set_option maxRecDepth 100000 in
theorem gX9_share_X9_ofCell : GoodIn wsX9_share (wsV RX9 44 RX9 yX9_ofCell wsX9_ofCell) := goodIn_app (goodIn_r _ [1, 2, 3, 4] rfl rfl) ggX9_share_X9_ofCell
set_option maxRecDepth 100000 in
theorem ggX9_share_X9_weight : GoodIn wsX9_share wsX9_weight := goodIn_r _ [10, 1, 2, 3, 4, 5, 6, 11, 12, 13, 14, 15, 16, 17, 18, 19, 20] rfl rfl
set_option maxRecDepth 100000 in
theorem gX9_share_X9_weight : GoodIn wsX9_share (wsV RX9 117 RX9 yX9_weight wsX9_weight) := goodIn_app (goodIn_r _ [7, 8, 9, 4] rfl rfl) ggX9_share_X9_weight
theorem dX9_share_0 : decode cX9_share 0 = .ok (.aload_n 0, 1) := by decide +kernel
theorem dX9_share_1 : decode cX9_share 1 = .ok (.iload_n 1, 1) := by decide +kernel
theorem dX9_share_2 : decode cX9_share 2 = .ok (.iload_n 2, 1) := by decide +kernel
theorem dX9_share_3 : decode cX9_share 3 = .ok (.iconst 1, 1) := by decide +kernel
theorem dX9_share_4 : decode cX9_share 4 = .ok (.invokevirtual 44, 3) := by decide +kernel
theorem dX9_share_7 : decode cX9_share 7 = .ok (.i2f, 1) := by decide +kernel
theorem dX9_share_8 : decode cX9_share 8 = .ok (.fstore_n 3, 1) := by decide +kernel
theorem dX9_share_9 : decode cX9_share 9 = .ok (.aload_n 0, 1) := by decide +kernel
theorem dX9_share_10 : decode cX9_share 10 = .ok (.iload_n 1, 1) := by decide +kernel
theorem dX9_share_11 : decode cX9_share 11 = .ok (.iload_n 2, 1) := by decide +kernel
theorem dX9_share_12 : decode cX9_share 12 = .ok (.invokevirtual 117, 3) := by decide +kernel
theorem dX9_share_15 : decode cX9_share 15 = .ok (.fload_n 3, 1) := by decide +kernel
theorem dX9_share_16 : decode cX9_share 16 = .ok (.fmul, 1) := by decide +kernel
theorem dX9_share_17 : decode cX9_share 17 = .ok (.freturn, 1) := by decide +kernel
set_option maxRecDepth 100000 in
theorem ggX9_partBits_X9_in : GoodIn wsX9_partBits wsX9_in := goodIn_r _ [4] rfl rfl
set_option maxRecDepth 100000 in
theorem gX9_partBits_X9_in : GoodIn wsX9_partBits (va_wsS RX9 29 yX9_in wsX9_in) := goodIn_app (goodIn_r _ [1, 2, 3] rfl rfl) ggX9_partBits_X9_in
set_option maxRecDepth 100000 in
theorem ggX9_partBits_X9_ofCell : GoodIn wsX9_partBits wsX9_ofCell := goodIn_r _ [8, 9, 30, 31, 32, 33, 34, 35, 36, 37, 38, 39] rfl rfl
set_option maxRecDepth 100000 in
theorem gX9_partBits_X9_ofCell : GoodIn wsX9_partBits (wsV RX9 44 RX9 yX9_ofCell wsX9_ofCell) := goodIn_app (goodIn_r _ [5, 6, 7, 3] rfl rfl) ggX9_partBits_X9_ofCell
set_option maxRecDepth 100000 in
theorem ggX9_partBits_X9_share : GoodIn wsX9_partBits wsX9_share := goodIn_r _ [13, 5, 6, 7, 3, 8, 9, 14, 15, 16, 17, 30, 31, 32, 33, 34, 35, 36, 37, 38, 39] rfl rfl
set_option maxRecDepth 100000 in
theorem gX9_partBits_X9_share : GoodIn wsX9_partBits (wsV RX9 142 RX9 yX9_share wsX9_share) := goodIn_app (goodIn_r _ [10, 11, 12, 3] rfl rfl) ggX9_partBits_X9_share
set_option maxRecDepth 100000 in
theorem ggX9_partBits_Jxf58ca_floatToIntBits_5c35a : GoodIn wsX9_partBits wsJxf58ca_floatToIntBits_5c35a := goodIn_r _ [21, 22, 23, 24, 25, 26, 27, 28, 20, 29] rfl rfl
set_option maxRecDepth 100000 in
theorem gX9_partBits_Jxf58ca_floatToIntBits_5c35a : GoodIn wsX9_partBits (va_wsS RX9 121 yJxf58ca_floatToIntBits_5c35a wsJxf58ca_floatToIntBits_5c35a) := goodIn_app (goodIn_r _ [18, 19, 20] rfl rfl) ggX9_partBits_Jxf58ca_floatToIntBits_5c35a
theorem dX9_partBits_0 : decode cX9_partBits 0 = .ok (.iload_n 1, 1) := by decide +kernel
theorem dX9_partBits_1 : decode cX9_partBits 1 = .ok (.iconst 0, 1) := by decide +kernel
theorem dX9_partBits_2 : decode cX9_partBits 2 = .ok (.iconst 2, 1) := by decide +kernel
theorem dX9_partBits_3 : decode cX9_partBits 3 = .ok (.invokestatic 29, 3) := by decide +kernel
theorem dX9_partBits_6 : decode cX9_partBits 6 = .ok (.ifCond .ne 5, 3) := by decide +kernel
theorem dX9_partBits_9 : decode cX9_partBits 9 = .ok (.iconst (-1), 1) := by decide +kernel
theorem dX9_partBits_10 : decode cX9_partBits 10 = .ok (.ireturn, 1) := by decide +kernel
theorem dX9_partBits_11 : decode cX9_partBits 11 = .ok (.fconst 0, 1) := by decide +kernel
theorem dX9_partBits_12 : decode cX9_partBits 12 = .ok (.fstore_n 2, 1) := by decide +kernel
theorem dX9_partBits_13 : decode cX9_partBits 13 = .ok (.fconst 0, 1) := by decide +kernel
theorem dX9_partBits_14 : decode cX9_partBits 14 = .ok (.fstore_n 3, 1) := by decide +kernel
theorem dX9_partBits_15 : decode cX9_partBits 15 = .ok (.iconst 0, 1) := by decide +kernel
theorem dX9_partBits_16 : decode cX9_partBits 16 = .ok (.istore 4, 2) := by decide +kernel
theorem dX9_partBits_18 : decode cX9_partBits 18 = .ok (.iload 4, 2) := by decide +kernel
theorem dX9_partBits_20 : decode cX9_partBits 20 = .ok (.bipush 12, 2) := by decide +kernel
theorem dX9_partBits_22 : decode cX9_partBits 22 = .ok (.if_icmp .ge 67, 3) := by decide +kernel
theorem dX9_partBits_25 : decode cX9_partBits 25 = .ok (.aload_n 0, 1) := by decide +kernel
theorem dX9_partBits_26 : decode cX9_partBits 26 = .ok (.iload 4, 2) := by decide +kernel
theorem dX9_partBits_28 : decode cX9_partBits 28 = .ok (.iconst 4, 1) := by decide +kernel
theorem dX9_partBits_29 : decode cX9_partBits 29 = .ok (.irem, 1) := by decide +kernel
theorem dX9_partBits_30 : decode cX9_partBits 30 = .ok (.iload 4, 2) := by decide +kernel
theorem dX9_partBits_32 : decode cX9_partBits 32 = .ok (.iconst 4, 1) := by decide +kernel
theorem dX9_partBits_33 : decode cX9_partBits 33 = .ok (.idiv, 1) := by decide +kernel
theorem dX9_partBits_34 : decode cX9_partBits 34 = .ok (.iconst 1, 1) := by decide +kernel
theorem dX9_partBits_35 : decode cX9_partBits 35 = .ok (.invokevirtual 44, 3) := by decide +kernel
theorem dX9_partBits_38 : decode cX9_partBits 38 = .ok (.ifCond .le 45, 3) := by decide +kernel
theorem dX9_partBits_41 : decode cX9_partBits 41 = .ok (.fload_n 2, 1) := by decide +kernel
theorem dX9_partBits_42 : decode cX9_partBits 42 = .ok (.iload 4, 2) := by decide +kernel
theorem dX9_partBits_44 : decode cX9_partBits 44 = .ok (.iconst 4, 1) := by decide +kernel
theorem dX9_partBits_45 : decode cX9_partBits 45 = .ok (.idiv, 1) := by decide +kernel
theorem dX9_partBits_46 : decode cX9_partBits 46 = .ok (.iload_n 1, 1) := by decide +kernel
theorem dX9_partBits_47 : decode cX9_partBits 47 = .ok (.if_icmp .ne 18, 3) := by decide +kernel
theorem dX9_partBits_50 : decode cX9_partBits 50 = .ok (.aload_n 0, 1) := by decide +kernel
theorem dX9_partBits_51 : decode cX9_partBits 51 = .ok (.iload 4, 2) := by decide +kernel
theorem dX9_partBits_53 : decode cX9_partBits 53 = .ok (.iconst 4, 1) := by decide +kernel
theorem dX9_partBits_54 : decode cX9_partBits 54 = .ok (.irem, 1) := by decide +kernel
theorem dX9_partBits_55 : decode cX9_partBits 55 = .ok (.iload 4, 2) := by decide +kernel
theorem dX9_partBits_57 : decode cX9_partBits 57 = .ok (.iconst 4, 1) := by decide +kernel
theorem dX9_partBits_58 : decode cX9_partBits 58 = .ok (.idiv, 1) := by decide +kernel
theorem dX9_partBits_59 : decode cX9_partBits 59 = .ok (.invokevirtual 142, 3) := by decide +kernel
theorem dX9_partBits_62 : decode cX9_partBits 62 = .ok (.goto 4, 3) := by decide +kernel
theorem dX9_partBits_65 : decode cX9_partBits 65 = .ok (.fconst 0, 1) := by decide +kernel
theorem dX9_partBits_66 : decode cX9_partBits 66 = .ok (.fadd, 1) := by decide +kernel
theorem dX9_partBits_67 : decode cX9_partBits 67 = .ok (.fstore_n 2, 1) := by decide +kernel
theorem dX9_partBits_68 : decode cX9_partBits 68 = .ok (.fload_n 3, 1) := by decide +kernel
theorem dX9_partBits_69 : decode cX9_partBits 69 = .ok (.aload_n 0, 1) := by decide +kernel
theorem dX9_partBits_70 : decode cX9_partBits 70 = .ok (.iload 4, 2) := by decide +kernel
theorem dX9_partBits_72 : decode cX9_partBits 72 = .ok (.iconst 4, 1) := by decide +kernel
theorem dX9_partBits_73 : decode cX9_partBits 73 = .ok (.irem, 1) := by decide +kernel
theorem dX9_partBits_74 : decode cX9_partBits 74 = .ok (.iload 4, 2) := by decide +kernel
theorem dX9_partBits_76 : decode cX9_partBits 76 = .ok (.iconst 4, 1) := by decide +kernel
theorem dX9_partBits_77 : decode cX9_partBits 77 = .ok (.idiv, 1) := by decide +kernel
theorem dX9_partBits_78 : decode cX9_partBits 78 = .ok (.invokevirtual 142, 3) := by decide +kernel
theorem dX9_partBits_81 : decode cX9_partBits 81 = .ok (.fadd, 1) := by decide +kernel
theorem dX9_partBits_82 : decode cX9_partBits 82 = .ok (.fstore_n 3, 1) := by decide +kernel
theorem dX9_partBits_83 : decode cX9_partBits 83 = .ok (.iinc 4 1, 3) := by decide +kernel
theorem dX9_partBits_86 : decode cX9_partBits 86 = .ok (.goto (-68), 3) := by decide +kernel
theorem dX9_partBits_89 : decode cX9_partBits 89 = .ok (.fload_n 3, 1) := by decide +kernel
theorem dX9_partBits_90 : decode cX9_partBits 90 = .ok (.fconst 0, 1) := by decide +kernel
theorem dX9_partBits_91 : decode cX9_partBits 91 = .ok (.fcmp .l, 1) := by decide +kernel
theorem dX9_partBits_92 : decode cX9_partBits 92 = .ok (.ifCond .ne 8, 3) := by decide +kernel
theorem dX9_partBits_95 : decode cX9_partBits 95 = .ok (.bipush (-4), 2) := by decide +kernel
theorem dX9_partBits_97 : decode cX9_partBits 97 = .ok (.goto 9, 3) := by decide +kernel
theorem dX9_partBits_100 : decode cX9_partBits 100 = .ok (.fload_n 2, 1) := by decide +kernel
theorem dX9_partBits_101 : decode cX9_partBits 101 = .ok (.fload_n 3, 1) := by decide +kernel
theorem dX9_partBits_102 : decode cX9_partBits 102 = .ok (.fdiv, 1) := by decide +kernel
theorem dX9_partBits_103 : decode cX9_partBits 103 = .ok (.invokestatic 121, 3) := by decide +kernel
theorem dX9_partBits_106 : decode cX9_partBits 106 = .ok (.ireturn, 1) := by decide +kernel
theorem dX9_undo_0 : decode cX9_undo 0 = .ok (.aload_n 0, 1) := by decide +kernel
theorem dX9_undo_1 : decode cX9_undo 1 = .ok (.getfield 25, 3) := by decide +kernel
theorem dX9_undo_4 : decode cX9_undo 4 = .ok (.ifCond .ne 6, 3) := by decide +kernel
theorem dX9_undo_7 : decode cX9_undo 7 = .ok (.bipush (-2), 2) := by decide +kernel
theorem dX9_undo_9 : decode cX9_undo 9 = .ok (.ireturn, 1) := by decide +kernel
theorem dX9_undo_10 : decode cX9_undo 10 = .ok (.aload_n 0, 1) := by decide +kernel
theorem dX9_undo_11 : decode cX9_undo 11 = .ok (.dup, 1) := by decide +kernel
theorem dX9_undo_12 : decode cX9_undo 12 = .ok (.getfield 25, 3) := by decide +kernel
theorem dX9_undo_15 : decode cX9_undo 15 = .ok (.iconst 1, 1) := by decide +kernel
theorem dX9_undo_16 : decode cX9_undo 16 = .ok (.isub, 1) := by decide +kernel
theorem dX9_undo_17 : decode cX9_undo 17 = .ok (.putfield 25, 3) := by decide +kernel
theorem dX9_undo_20 : decode cX9_undo 20 = .ok (.iconst 0, 1) := by decide +kernel
theorem dX9_undo_21 : decode cX9_undo 21 = .ok (.istore_n 1, 1) := by decide +kernel
theorem dX9_undo_22 : decode cX9_undo 22 = .ok (.iload_n 1, 1) := by decide +kernel
theorem dX9_undo_23 : decode cX9_undo 23 = .ok (.sipush 314, 3) := by decide +kernel
theorem dX9_undo_26 : decode cX9_undo 26 = .ok (.if_icmp .ge 30, 3) := by decide +kernel
theorem dX9_undo_29 : decode cX9_undo 29 = .ok (.aload_n 0, 1) := by decide +kernel
theorem dX9_undo_30 : decode cX9_undo 30 = .ok (.getfield 7, 3) := by decide +kernel
theorem dX9_undo_33 : decode cX9_undo 33 = .ok (.iload_n 1, 1) := by decide +kernel
theorem dX9_undo_34 : decode cX9_undo 34 = .ok (.aload_n 0, 1) := by decide +kernel
theorem dX9_undo_35 : decode cX9_undo 35 = .ok (.getfield 16, 3) := by decide +kernel
theorem dX9_undo_38 : decode cX9_undo 38 = .ok (.sipush 314, 3) := by decide +kernel
theorem dX9_undo_41 : decode cX9_undo 41 = .ok (.aload_n 0, 1) := by decide +kernel
theorem dX9_undo_42 : decode cX9_undo 42 = .ok (.getfield 25, 3) := by decide +kernel
theorem dX9_undo_45 : decode cX9_undo 45 = .ok (.imul, 1) := by decide +kernel
theorem dX9_undo_46 : decode cX9_undo 46 = .ok (.iload_n 1, 1) := by decide +kernel
theorem dX9_undo_47 : decode cX9_undo 47 = .ok (.iadd, 1) := by decide +kernel
theorem dX9_undo_48 : decode cX9_undo 48 = .ok (.iaload, 1) := by decide +kernel
theorem dX9_undo_49 : decode cX9_undo 49 = .ok (.iastore, 1) := by decide +kernel
theorem dX9_undo_50 : decode cX9_undo 50 = .ok (.iinc 1 1, 3) := by decide +kernel
theorem dX9_undo_53 : decode cX9_undo 53 = .ok (.goto (-31), 3) := by decide +kernel
theorem dX9_undo_56 : decode cX9_undo 56 = .ok (.aload_n 0, 1) := by decide +kernel
theorem dX9_undo_57 : decode cX9_undo 57 = .ok (.getfield 25, 3) := by decide +kernel
theorem dX9_undo_60 : decode cX9_undo 60 = .ok (.ireturn, 1) := by decide +kernel
set_option maxRecDepth 100000 in
theorem ggX9_type_X9_in : GoodIn wsX9_type wsX9_in := goodIn_r _ [6] rfl rfl
set_option maxRecDepth 100000 in
theorem gX9_type_X9_in : GoodIn wsX9_type (va_wsS RX9 29 yX9_in wsX9_in) := goodIn_app (goodIn_r _ [3, 4, 5] rfl rfl) ggX9_type_X9_in
theorem dX9_type_0 : decode cX9_type 0 = .ok (.iload_n 1, 1) := by decide +kernel
theorem dX9_type_1 : decode cX9_type 1 = .ok (.bipush 32, 2) := by decide +kernel
theorem dX9_type_3 : decode cX9_type 3 = .ok (.bipush 126, 2) := by decide +kernel
theorem dX9_type_5 : decode cX9_type 5 = .ok (.invokestatic 29, 3) := by decide +kernel
theorem dX9_type_8 : decode cX9_type 8 = .ok (.ifCond .ne 5, 3) := by decide +kernel
theorem dX9_type_11 : decode cX9_type 11 = .ok (.iconst (-1), 1) := by decide +kernel
theorem dX9_type_12 : decode cX9_type 12 = .ok (.ireturn, 1) := by decide +kernel
theorem dX9_type_13 : decode cX9_type 13 = .ok (.aload_n 0, 1) := by decide +kernel
theorem dX9_type_14 : decode cX9_type 14 = .ok (.getfield 133, 3) := by decide +kernel
theorem dX9_type_17 : decode cX9_type 17 = .ok (.bipush 80, 2) := by decide +kernel
theorem dX9_type_19 : decode cX9_type 19 = .ok (.if_icmp .ne 6, 3) := by decide +kernel
theorem dX9_type_22 : decode cX9_type 22 = .ok (.bipush (-3), 2) := by decide +kernel
theorem dX9_type_24 : decode cX9_type 24 = .ok (.ireturn, 1) := by decide +kernel
theorem dX9_type_25 : decode cX9_type 25 = .ok (.aload_n 0, 1) := by decide +kernel
theorem dX9_type_26 : decode cX9_type 26 = .ok (.getfield 19, 3) := by decide +kernel
theorem dX9_type_29 : decode cX9_type 29 = .ok (.aload_n 0, 1) := by decide +kernel
theorem dX9_type_30 : decode cX9_type 30 = .ok (.getfield 133, 3) := by decide +kernel
theorem dX9_type_33 : decode cX9_type 33 = .ok (.iload_n 1, 1) := by decide +kernel
theorem dX9_type_34 : decode cX9_type 34 = .ok (.iastore, 1) := by decide +kernel
theorem dX9_type_35 : decode cX9_type 35 = .ok (.aload_n 0, 1) := by decide +kernel
theorem dX9_type_36 : decode cX9_type 36 = .ok (.dup, 1) := by decide +kernel
theorem dX9_type_37 : decode cX9_type 37 = .ok (.getfield 133, 3) := by decide +kernel
theorem dX9_type_40 : decode cX9_type 40 = .ok (.iconst 1, 1) := by decide +kernel
theorem dX9_type_41 : decode cX9_type 41 = .ok (.iadd, 1) := by decide +kernel
theorem dX9_type_42 : decode cX9_type 42 = .ok (.putfield 133, 3) := by decide +kernel
theorem dX9_type_45 : decode cX9_type 45 = .ok (.aload_n 0, 1) := by decide +kernel
theorem dX9_type_46 : decode cX9_type 46 = .ok (.getfield 133, 3) := by decide +kernel
theorem dX9_type_49 : decode cX9_type 49 = .ok (.ireturn, 1) := by decide +kernel
theorem dX9_clearText_0 : decode cX9_clearText 0 = .ok (.aload_n 0, 1) := by decide +kernel
theorem dX9_clearText_1 : decode cX9_clearText 1 = .ok (.getfield 133, 3) := by decide +kernel
theorem dX9_clearText_4 : decode cX9_clearText 4 = .ok (.istore_n 1, 1) := by decide +kernel
theorem dX9_clearText_5 : decode cX9_clearText 5 = .ok (.aload_n 0, 1) := by decide +kernel
theorem dX9_clearText_6 : decode cX9_clearText 6 = .ok (.iconst 0, 1) := by decide +kernel
theorem dX9_clearText_7 : decode cX9_clearText 7 = .ok (.putfield 133, 3) := by decide +kernel
theorem dX9_clearText_10 : decode cX9_clearText 10 = .ok (.iload_n 1, 1) := by decide +kernel
theorem dX9_clearText_11 : decode cX9_clearText 11 = .ok (.ireturn, 1) := by decide +kernel
theorem dX9_here_0 : decode cX9_here 0 = .ok (.aload_n 0, 1) := by decide +kernel
theorem dX9_here_1 : decode cX9_here 1 = .ok (.getfield 145, 3) := by decide +kernel
theorem dX9_here_4 : decode cX9_here 4 = .ok (.aload_n 0, 1) := by decide +kernel
theorem dX9_here_5 : decode cX9_here 5 = .ok (.getfield 133, 3) := by decide +kernel
theorem dX9_here_8 : decode cX9_here 8 = .ok (.if_icmp .ge 15, 3) := by decide +kernel
theorem dX9_here_11 : decode cX9_here 11 = .ok (.aload_n 0, 1) := by decide +kernel
theorem dX9_here_12 : decode cX9_here 12 = .ok (.getfield 19, 3) := by decide +kernel
theorem dX9_here_15 : decode cX9_here 15 = .ok (.aload_n 0, 1) := by decide +kernel
theorem dX9_here_16 : decode cX9_here 16 = .ok (.getfield 145, 3) := by decide +kernel
theorem dX9_here_19 : decode cX9_here 19 = .ok (.iaload, 1) := by decide +kernel
theorem dX9_here_20 : decode cX9_here 20 = .ok (.goto 4, 3) := by decide +kernel
theorem dX9_here_23 : decode cX9_here 23 = .ok (.iconst (-1), 1) := by decide +kernel
theorem dX9_here_24 : decode cX9_here 24 = .ok (.ireturn, 1) := by decide +kernel
set_option maxRecDepth 100000 in
theorem ggX9_must_X9_here : GoodIn wsX9_must wsX9_here := goodIn_r _ [7, 2, 8, 9, 10, 11, 12, 13, 14, 15, 16, 17, 18, 19] rfl rfl
set_option maxRecDepth 100000 in
theorem gX9_must_X9_here : GoodIn wsX9_must (wsV RX9 152 RX9 yX9_here wsX9_here) := goodIn_app (goodIn_r _ [3, 4, 5, 6] rfl rfl) ggX9_must_X9_here
theorem dX9_must_0 : decode cX9_must 0 = .ok (.aload_n 0, 1) := by decide +kernel
theorem dX9_must_1 : decode cX9_must 1 = .ok (.aload_n 0, 1) := by decide +kernel
theorem dX9_must_2 : decode cX9_must 2 = .ok (.getfield 148, 3) := by decide +kernel
theorem dX9_must_5 : decode cX9_must 5 = .ok (.ifCond .eq 15, 3) := by decide +kernel
theorem dX9_must_8 : decode cX9_must 8 = .ok (.aload_n 0, 1) := by decide +kernel
theorem dX9_must_9 : decode cX9_must 9 = .ok (.invokevirtual 152, 3) := by decide +kernel
theorem dX9_must_12 : decode cX9_must 12 = .ok (.iload_n 1, 1) := by decide +kernel
theorem dX9_must_13 : decode cX9_must 13 = .ok (.if_icmp .ne 7, 3) := by decide +kernel
theorem dX9_must_16 : decode cX9_must 16 = .ok (.iconst 1, 1) := by decide +kernel
theorem dX9_must_17 : decode cX9_must 17 = .ok (.goto 4, 3) := by decide +kernel
theorem dX9_must_20 : decode cX9_must 20 = .ok (.iconst 0, 1) := by decide +kernel
theorem dX9_must_21 : decode cX9_must 21 = .ok (.putfield 148, 3) := by decide +kernel
theorem dX9_must_24 : decode cX9_must 24 = .ok (.aload_n 0, 1) := by decide +kernel
theorem dX9_must_25 : decode cX9_must 25 = .ok (.dup, 1) := by decide +kernel
theorem dX9_must_26 : decode cX9_must 26 = .ok (.getfield 145, 3) := by decide +kernel
theorem dX9_must_29 : decode cX9_must 29 = .ok (.iconst 1, 1) := by decide +kernel
theorem dX9_must_30 : decode cX9_must 30 = .ok (.iadd, 1) := by decide +kernel
theorem dX9_must_31 : decode cX9_must 31 = .ok (.putfield 145, 3) := by decide +kernel
theorem dX9_must_34 : decode cX9_must 34 = .ok (.return_, 1) := by decide +kernel
set_option maxRecDepth 100000 in
theorem ggX9_readNumber_X9_must : GoodIn wsX9_readNumber wsX9_must := goodIn_r _ [7, 2, 1, 8, 9, 10, 6, 11, 12, 13, 17, 18, 19, 20, 21, 22, 23, 24, 25, 26] rfl rfl
set_option maxRecDepth 100000 in
theorem gX9_readNumber_X9_must : GoodIn wsX9_readNumber (wsV RX9 155 RX9 yX9_must wsX9_must) := goodIn_app (goodIn_r _ [3, 4, 5, 6] rfl rfl) ggX9_readNumber_X9_must
set_option maxRecDepth 100000 in
theorem ggX9_readNumber_X9_here : GoodIn wsX9_readNumber wsX9_here := goodIn_r _ [11, 1, 12, 13, 17, 18, 19, 20, 21, 22, 23, 24, 25, 26] rfl rfl
set_option maxRecDepth 100000 in
theorem gX9_readNumber_X9_here : GoodIn wsX9_readNumber (wsV RX9 152 RX9 yX9_here wsX9_here) := goodIn_app (goodIn_r _ [8, 9, 10, 6] rfl rfl) ggX9_readNumber_X9_here
set_option maxRecDepth 100000 in
theorem ggX9_readNumber_X9_in : GoodIn wsX9_readNumber wsX9_in := goodIn_r _ [16] rfl rfl
set_option maxRecDepth 100000 in
theorem gX9_readNumber_X9_in : GoodIn wsX9_readNumber (va_wsS RX9 29 yX9_in wsX9_in) := goodIn_app (goodIn_r _ [14, 15, 6] rfl rfl) ggX9_readNumber_X9_in
theorem dX9_readNumber_0 : decode cX9_readNumber 0 = .ok (.aload_n 0, 1) := by decide +kernel
theorem dX9_readNumber_1 : decode cX9_readNumber 1 = .ok (.bipush 32, 2) := by decide +kernel
theorem dX9_readNumber_3 : decode cX9_readNumber 3 = .ok (.invokevirtual 155, 3) := by decide +kernel
theorem dX9_readNumber_6 : decode cX9_readNumber 6 = .ok (.iconst 0, 1) := by decide +kernel
theorem dX9_readNumber_7 : decode cX9_readNumber 7 = .ok (.istore_n 1, 1) := by decide +kernel
theorem dX9_readNumber_8 : decode cX9_readNumber 8 = .ok (.iconst 0, 1) := by decide +kernel
theorem dX9_readNumber_9 : decode cX9_readNumber 9 = .ok (.istore_n 2, 1) := by decide +kernel
theorem dX9_readNumber_10 : decode cX9_readNumber 10 = .ok (.iload_n 2, 1) := by decide +kernel
theorem dX9_readNumber_11 : decode cX9_readNumber 11 = .ok (.iconst 3, 1) := by decide +kernel
theorem dX9_readNumber_12 : decode cX9_readNumber 12 = .ok (.if_icmp .ge 46, 3) := by decide +kernel
theorem dX9_readNumber_15 : decode cX9_readNumber 15 = .ok (.aload_n 0, 1) := by decide +kernel
theorem dX9_readNumber_16 : decode cX9_readNumber 16 = .ok (.invokevirtual 152, 3) := by decide +kernel
theorem dX9_readNumber_19 : decode cX9_readNumber 19 = .ok (.bipush 48, 2) := by decide +kernel
theorem dX9_readNumber_21 : decode cX9_readNumber 21 = .ok (.bipush 57, 2) := by decide +kernel
theorem dX9_readNumber_23 : decode cX9_readNumber 23 = .ok (.invokestatic 29, 3) := by decide +kernel
theorem dX9_readNumber_26 : decode cX9_readNumber 26 = .ok (.ifCond .eq 32, 3) := by decide +kernel
theorem dX9_readNumber_29 : decode cX9_readNumber 29 = .ok (.bipush 10, 2) := by decide +kernel
theorem dX9_readNumber_31 : decode cX9_readNumber 31 = .ok (.iload_n 1, 1) := by decide +kernel
theorem dX9_readNumber_32 : decode cX9_readNumber 32 = .ok (.imul, 1) := by decide +kernel
theorem dX9_readNumber_33 : decode cX9_readNumber 33 = .ok (.aload_n 0, 1) := by decide +kernel
theorem dX9_readNumber_34 : decode cX9_readNumber 34 = .ok (.invokevirtual 152, 3) := by decide +kernel
theorem dX9_readNumber_37 : decode cX9_readNumber 37 = .ok (.iadd, 1) := by decide +kernel
theorem dX9_readNumber_38 : decode cX9_readNumber 38 = .ok (.bipush 48, 2) := by decide +kernel
theorem dX9_readNumber_40 : decode cX9_readNumber 40 = .ok (.isub, 1) := by decide +kernel
theorem dX9_readNumber_41 : decode cX9_readNumber 41 = .ok (.istore_n 1, 1) := by decide +kernel
theorem dX9_readNumber_42 : decode cX9_readNumber 42 = .ok (.iinc 2 1, 3) := by decide +kernel
theorem dX9_readNumber_45 : decode cX9_readNumber 45 = .ok (.aload_n 0, 1) := by decide +kernel
theorem dX9_readNumber_46 : decode cX9_readNumber 46 = .ok (.dup, 1) := by decide +kernel
theorem dX9_readNumber_47 : decode cX9_readNumber 47 = .ok (.getfield 145, 3) := by decide +kernel
theorem dX9_readNumber_50 : decode cX9_readNumber 50 = .ok (.iconst 1, 1) := by decide +kernel
theorem dX9_readNumber_51 : decode cX9_readNumber 51 = .ok (.iadd, 1) := by decide +kernel
theorem dX9_readNumber_52 : decode cX9_readNumber 52 = .ok (.putfield 145, 3) := by decide +kernel
theorem dX9_readNumber_55 : decode cX9_readNumber 55 = .ok (.goto (-45), 3) := by decide +kernel
theorem dX9_readNumber_58 : decode cX9_readNumber 58 = .ok (.aload_n 0, 1) := by decide +kernel
theorem dX9_readNumber_59 : decode cX9_readNumber 59 = .ok (.aload_n 0, 1) := by decide +kernel
theorem dX9_readNumber_60 : decode cX9_readNumber 60 = .ok (.getfield 148, 3) := by decide +kernel
theorem dX9_readNumber_63 : decode cX9_readNumber 63 = .ok (.ifCond .eq 11, 3) := by decide +kernel
theorem dX9_readNumber_66 : decode cX9_readNumber 66 = .ok (.iload_n 2, 1) := by decide +kernel
theorem dX9_readNumber_67 : decode cX9_readNumber 67 = .ok (.ifCond .le 7, 3) := by decide +kernel
theorem dX9_readNumber_70 : decode cX9_readNumber 70 = .ok (.iconst 1, 1) := by decide +kernel
theorem dX9_readNumber_71 : decode cX9_readNumber 71 = .ok (.goto 4, 3) := by decide +kernel
theorem dX9_readNumber_74 : decode cX9_readNumber 74 = .ok (.iconst 0, 1) := by decide +kernel
theorem dX9_readNumber_75 : decode cX9_readNumber 75 = .ok (.putfield 148, 3) := by decide +kernel
theorem dX9_readNumber_78 : decode cX9_readNumber 78 = .ok (.iload_n 1, 1) := by decide +kernel
theorem dX9_readNumber_79 : decode cX9_readNumber 79 = .ok (.ireturn, 1) := by decide +kernel
theorem dX9_wordOf_0 : decode cX9_wordOf 0 = .ok (.iload_n 0, 1) := by decide +kernel
theorem dX9_wordOf_1 : decode cX9_wordOf 1 = .ok (.tableswitch 63 0 5 #[39, 43, 47, 51, 55, 59], 39) := by decide +kernel
theorem dX9_wordOf_40 : decode cX9_wordOf 40 = .ok (.ldc2_w 159, 3) := by decide +kernel
theorem dX9_wordOf_43 : decode cX9_wordOf 43 = .ok (.lreturn, 1) := by decide +kernel
theorem dX9_wordOf_44 : decode cX9_wordOf 44 = .ok (.ldc2_w 161, 3) := by decide +kernel
theorem dX9_wordOf_47 : decode cX9_wordOf 47 = .ok (.lreturn, 1) := by decide +kernel
theorem dX9_wordOf_48 : decode cX9_wordOf 48 = .ok (.ldc2_w 163, 3) := by decide +kernel
theorem dX9_wordOf_51 : decode cX9_wordOf 51 = .ok (.lreturn, 1) := by decide +kernel
theorem dX9_wordOf_52 : decode cX9_wordOf 52 = .ok (.ldc2_w 165, 3) := by decide +kernel
theorem dX9_wordOf_55 : decode cX9_wordOf 55 = .ok (.lreturn, 1) := by decide +kernel
theorem dX9_wordOf_56 : decode cX9_wordOf 56 = .ok (.ldc2_w 167, 3) := by decide +kernel
theorem dX9_wordOf_59 : decode cX9_wordOf 59 = .ok (.lreturn, 1) := by decide +kernel
theorem dX9_wordOf_60 : decode cX9_wordOf 60 = .ok (.ldc2_w 169, 3) := by decide +kernel
theorem dX9_wordOf_63 : decode cX9_wordOf 63 = .ok (.lreturn, 1) := by decide +kernel
theorem dX9_wordOf_64 : decode cX9_wordOf 64 = .ok (.ldc2_w 171, 3) := by decide +kernel
theorem dX9_wordOf_67 : decode cX9_wordOf 67 = .ok (.lreturn, 1) := by decide +kernel
theorem dX9_manyOf_0 : decode cX9_manyOf 0 = .ok (.iload_n 0, 1) := by decide +kernel
theorem dX9_manyOf_1 : decode cX9_manyOf 1 = .ok (.ifCond .eq 9, 3) := by decide +kernel
theorem dX9_manyOf_4 : decode cX9_manyOf 4 = .ok (.iload_n 0, 1) := by decide +kernel
theorem dX9_manyOf_5 : decode cX9_manyOf 5 = .ok (.bipush 6, 2) := by decide +kernel
theorem dX9_manyOf_7 : decode cX9_manyOf 7 = .ok (.if_icmp .ne 7, 3) := by decide +kernel
theorem dX9_manyOf_10 : decode cX9_manyOf 10 = .ok (.iconst 1, 1) := by decide +kernel
theorem dX9_manyOf_11 : decode cX9_manyOf 11 = .ok (.goto 13, 3) := by decide +kernel
theorem dX9_manyOf_14 : decode cX9_manyOf 14 = .ok (.iload_n 0, 1) := by decide +kernel
theorem dX9_manyOf_15 : decode cX9_manyOf 15 = .ok (.iconst 4, 1) := by decide +kernel
theorem dX9_manyOf_16 : decode cX9_manyOf 16 = .ok (.if_icmp .ge 7, 3) := by decide +kernel
theorem dX9_manyOf_19 : decode cX9_manyOf 19 = .ok (.iconst 3, 1) := by decide +kernel
theorem dX9_manyOf_20 : decode cX9_manyOf 20 = .ok (.goto 4, 3) := by decide +kernel
theorem dX9_manyOf_23 : decode cX9_manyOf 23 = .ok (.iload_n 0, 1) := by decide +kernel
theorem dX9_manyOf_24 : decode cX9_manyOf 24 = .ok (.ireturn, 1) := by decide +kernel
set_option maxRecDepth 100000 in
theorem ggX9_readWord_X9_here : GoodIn wsX9_readWord wsX9_here := goodIn_r _ [6, 1, 7, 8, 22, 23, 24, 25, 26, 27, 28, 29, 30, 31] rfl rfl
set_option maxRecDepth 100000 in
theorem gX9_readWord_X9_here : GoodIn wsX9_readWord (wsV RX9 152 RX9 yX9_here wsX9_here) := goodIn_app (goodIn_r _ [2, 3, 4, 5] rfl rfl) ggX9_readWord_X9_here
set_option maxRecDepth 100000 in
theorem ggX9_readWord_X9_in : GoodIn wsX9_readWord wsX9_in := goodIn_r _ [11] rfl rfl
set_option maxRecDepth 100000 in
theorem gX9_readWord_X9_in : GoodIn wsX9_readWord (va_wsS RX9 29 yX9_in wsX9_in) := goodIn_app (goodIn_r _ [9, 10, 5] rfl rfl) ggX9_readWord_X9_in
set_option maxRecDepth 100000 in
theorem ggX9_readWord_X9_wordOf : GoodIn wsX9_readWord wsX9_wordOf := goodIn_r _ [14, 15, 16, 17, 18, 19, 20, 21] rfl rfl
set_option maxRecDepth 100000 in
theorem gX9_readWord_X9_wordOf : GoodIn wsX9_readWord (va_wsS RX9 173 yX9_wordOf wsX9_wordOf) := goodIn_app (goodIn_r _ [12, 13, 5] rfl rfl) ggX9_readWord_X9_wordOf
theorem dX9_readWord_0 : decode cX9_readWord 0 = .ok (.lconst 0, 1) := by decide +kernel
theorem dX9_readWord_1 : decode cX9_readWord 1 = .ok (.lstore_n 1, 1) := by decide +kernel
theorem dX9_readWord_2 : decode cX9_readWord 2 = .ok (.iconst 0, 1) := by decide +kernel
theorem dX9_readWord_3 : decode cX9_readWord 3 = .ok (.istore_n 3, 1) := by decide +kernel
theorem dX9_readWord_4 : decode cX9_readWord 4 = .ok (.iload_n 3, 1) := by decide +kernel
theorem dX9_readWord_5 : decode cX9_readWord 5 = .ok (.bipush 7, 2) := by decide +kernel
theorem dX9_readWord_7 : decode cX9_readWord 7 = .ok (.if_icmp .ge 44, 3) := by decide +kernel
theorem dX9_readWord_10 : decode cX9_readWord 10 = .ok (.aload_n 0, 1) := by decide +kernel
theorem dX9_readWord_11 : decode cX9_readWord 11 = .ok (.invokevirtual 152, 3) := by decide +kernel
theorem dX9_readWord_14 : decode cX9_readWord 14 = .ok (.bipush 97, 2) := by decide +kernel
theorem dX9_readWord_16 : decode cX9_readWord 16 = .ok (.bipush 122, 2) := by decide +kernel
theorem dX9_readWord_18 : decode cX9_readWord 18 = .ok (.invokestatic 29, 3) := by decide +kernel
theorem dX9_readWord_21 : decode cX9_readWord 21 = .ok (.ifCond .eq 30, 3) := by decide +kernel
theorem dX9_readWord_24 : decode cX9_readWord 24 = .ok (.lload_n 1, 1) := by decide +kernel
theorem dX9_readWord_25 : decode cX9_readWord 25 = .ok (.bipush 8, 2) := by decide +kernel
theorem dX9_readWord_27 : decode cX9_readWord 27 = .ok (.lshl, 1) := by decide +kernel
theorem dX9_readWord_28 : decode cX9_readWord 28 = .ok (.aload_n 0, 1) := by decide +kernel
theorem dX9_readWord_29 : decode cX9_readWord 29 = .ok (.invokevirtual 152, 3) := by decide +kernel
theorem dX9_readWord_32 : decode cX9_readWord 32 = .ok (.i2l, 1) := by decide +kernel
theorem dX9_readWord_33 : decode cX9_readWord 33 = .ok (.lor, 1) := by decide +kernel
theorem dX9_readWord_34 : decode cX9_readWord 34 = .ok (.lstore_n 1, 1) := by decide +kernel
theorem dX9_readWord_35 : decode cX9_readWord 35 = .ok (.iinc 3 1, 3) := by decide +kernel
theorem dX9_readWord_38 : decode cX9_readWord 38 = .ok (.aload_n 0, 1) := by decide +kernel
theorem dX9_readWord_39 : decode cX9_readWord 39 = .ok (.dup, 1) := by decide +kernel
theorem dX9_readWord_40 : decode cX9_readWord 40 = .ok (.getfield 145, 3) := by decide +kernel
theorem dX9_readWord_43 : decode cX9_readWord 43 = .ok (.iconst 1, 1) := by decide +kernel
theorem dX9_readWord_44 : decode cX9_readWord 44 = .ok (.iadd, 1) := by decide +kernel
theorem dX9_readWord_45 : decode cX9_readWord 45 = .ok (.putfield 145, 3) := by decide +kernel
theorem dX9_readWord_48 : decode cX9_readWord 48 = .ok (.goto (-44), 3) := by decide +kernel
theorem dX9_readWord_51 : decode cX9_readWord 51 = .ok (.iconst 0, 1) := by decide +kernel
theorem dX9_readWord_52 : decode cX9_readWord 52 = .ok (.istore 4, 2) := by decide +kernel
theorem dX9_readWord_54 : decode cX9_readWord 54 = .ok (.iload 4, 2) := by decide +kernel
theorem dX9_readWord_56 : decode cX9_readWord 56 = .ok (.bipush 7, 2) := by decide +kernel
theorem dX9_readWord_58 : decode cX9_readWord 58 = .ok (.if_icmp .ge 22, 3) := by decide +kernel
theorem dX9_readWord_61 : decode cX9_readWord 61 = .ok (.iload 4, 2) := by decide +kernel
theorem dX9_readWord_63 : decode cX9_readWord 63 = .ok (.invokestatic 173, 3) := by decide +kernel
theorem dX9_readWord_66 : decode cX9_readWord 66 = .ok (.lload_n 1, 1) := by decide +kernel
theorem dX9_readWord_67 : decode cX9_readWord 67 = .ok (.lcmp, 1) := by decide +kernel
theorem dX9_readWord_68 : decode cX9_readWord 68 = .ok (.ifCond .ne 6, 3) := by decide +kernel
theorem dX9_readWord_71 : decode cX9_readWord 71 = .ok (.iload 4, 2) := by decide +kernel
theorem dX9_readWord_73 : decode cX9_readWord 73 = .ok (.ireturn, 1) := by decide +kernel
theorem dX9_readWord_74 : decode cX9_readWord 74 = .ok (.iinc 4 1, 3) := by decide +kernel
theorem dX9_readWord_77 : decode cX9_readWord 77 = .ok (.goto (-23), 3) := by decide +kernel
theorem dX9_readWord_80 : decode cX9_readWord 80 = .ok (.iconst (-1), 1) := by decide +kernel
theorem dX9_readWord_81 : decode cX9_readWord 81 = .ok (.ireturn, 1) := by decide +kernel
set_option maxRecDepth 100000 in
theorem ggX9_command_X9_readWord : GoodIn wsX9_command wsX9_readWord := goodIn_r _ [7, 8, 9, 10, 11, 6, 12, 13, 14, 15, 16, 17, 18, 19, 20, 21, 22, 23, 24, 25, 26, 27, 123, 124, 125, 126, 127, 128, 129, 130, 131, 132] rfl rfl
set_option maxRecDepth 100000 in
theorem gX9_command_X9_readWord : GoodIn wsX9_command (wsV RX9 177 RX9 yX9_readWord wsX9_readWord) := goodIn_app (goodIn_r _ [3, 4, 5, 6] rfl rfl) ggX9_command_X9_readWord
set_option maxRecDepth 100000 in
theorem ggX9_command_X9_manyOf : GoodIn wsX9_command wsX9_manyOf := goodIn_r _ [30] rfl rfl
set_option maxRecDepth 100000 in
theorem gX9_command_X9_manyOf : GoodIn wsX9_command (va_wsS RX9 180 yX9_manyOf wsX9_manyOf) := goodIn_app (goodIn_r _ [28, 29, 6] rfl rfl) ggX9_command_X9_manyOf
set_option maxRecDepth 100000 in
theorem ggX9_command_X9_readNumber : GoodIn wsX9_command wsX9_readNumber := goodIn_r _ [34, 8, 1, 35, 36, 37, 6, 38, 9, 10, 11, 12, 13, 14, 15, 16, 17, 123, 124, 125, 126, 127, 128, 129, 130, 131, 132] rfl rfl
set_option maxRecDepth 100000 in
theorem gX9_command_X9_readNumber : GoodIn wsX9_command (wsV RX9 183 RX9 yX9_readNumber wsX9_readNumber) := goodIn_app (goodIn_r _ [31, 32, 33, 6] rfl rfl) ggX9_command_X9_readNumber
set_option maxRecDepth 100000 in
theorem ggX9_command_X9_must : GoodIn wsX9_command wsX9_must := goodIn_r _ [38, 1, 8, 9, 10, 11, 6, 12, 13, 14, 123, 124, 125, 126, 127, 128, 129, 130, 131, 132] rfl rfl
set_option maxRecDepth 100000 in
theorem gX9_command_X9_must : GoodIn wsX9_command (wsV RX9 155 RX9 yX9_must wsX9_must) := goodIn_app (goodIn_r _ [35, 36, 37, 6] rfl rfl) ggX9_command_X9_must
set_option maxRecDepth 100000 in
theorem ggX9_command_X9_adds : GoodIn wsX9_command wsX9_adds := goodIn_r _ [42, 43, 15, 16, 6, 17, 123, 124, 125, 126, 127, 128, 129, 130, 131, 132] rfl rfl
set_option maxRecDepth 100000 in
theorem gX9_command_X9_adds : GoodIn wsX9_command (wsV RX9 91 RX9 yX9_adds wsX9_adds) := goodIn_app (goodIn_r _ [39, 40, 41, 6] rfl rfl) ggX9_command_X9_adds
set_option maxRecDepth 100000 in
theorem ggX9_command_X9_limits : GoodIn wsX9_command wsX9_limits := goodIn_r _ [47, 48, 49, 6, 50, 15, 16, 17, 51, 52, 53, 54, 43, 123, 124, 125, 126, 127, 128, 129, 130, 131, 132] rfl rfl
set_option maxRecDepth 100000 in
theorem gX9_command_X9_limits : GoodIn wsX9_command (wsV RX9 101 RX9 yX9_limits wsX9_limits) := goodIn_app (goodIn_r _ [44, 45, 46, 6] rfl rfl) ggX9_command_X9_limits
set_option maxRecDepth 100000 in
theorem ggX9_command_X9_calls : GoodIn wsX9_command wsX9_calls := goodIn_r _ [58, 43, 59, 60, 61, 6, 62, 63, 64, 65, 66, 15, 16, 17, 67, 68, 69, 70, 71, 72, 73, 74, 75, 76, 77, 78, 79, 80, 81, 82, 83, 84, 85, 86, 87, 88, 89, 90, 91, 92, 93, 94, 95, 96, 97, 98, 99, 100, 101, 102, 103, 104, 105, 106, 107, 108, 109, 110, 123, 124, 125, 126, 127, 128, 129, 130, 131, 132] rfl rfl
set_option maxRecDepth 100000 in
theorem gX9_command_X9_calls : GoodIn wsX9_command (wsV RX9 104 RX9 yX9_calls wsX9_calls) := goodIn_app (goodIn_r _ [55, 56, 57, 6] rfl rfl) ggX9_command_X9_calls
set_option maxRecDepth 100000 in
theorem ggX9_command_X9_fixes : GoodIn wsX9_command wsX9_fixes := goodIn_r _ [114, 43, 59, 60, 61, 6, 62, 63, 64, 65, 66, 15, 16, 17, 67, 68, 69, 70, 71, 72, 73, 74, 75, 76, 77, 78, 79, 80, 81, 82, 83, 84, 85, 86, 87, 88, 89, 90, 91, 92, 93, 94, 95, 96, 97, 98, 115, 116, 117, 118, 123, 124, 125, 126, 127, 128, 129, 130, 131, 132] rfl rfl
set_option maxRecDepth 100000 in
theorem gX9_command_X9_fixes : GoodIn wsX9_command (wsV RX9 107 RX9 yX9_fixes wsX9_fixes) := goodIn_app (goodIn_r _ [111, 112, 113, 6] rfl rfl) ggX9_command_X9_fixes
set_option maxRecDepth 100000 in
theorem ggX9_command_X9_passes : GoodIn wsX9_command wsX9_passes := goodIn_r _ [122, 43, 15, 16, 6, 17, 123, 124, 125, 126, 127, 128, 129, 130, 131, 132] rfl rfl
set_option maxRecDepth 100000 in
theorem gX9_command_X9_passes : GoodIn wsX9_command (wsV RX9 111 RX9 yX9_passes wsX9_passes) := goodIn_app (goodIn_r _ [119, 120, 121, 6] rfl rfl) ggX9_command_X9_passes
theorem dX9_command_0 : decode cX9_command 0 = .ok (.aload_n 0, 1) := by decide +kernel
theorem dX9_command_1 : decode cX9_command 1 = .ok (.invokevirtual 177, 3) := by decide +kernel
theorem dX9_command_4 : decode cX9_command 4 = .ok (.istore_n 1, 1) := by decide +kernel
theorem dX9_command_5 : decode cX9_command 5 = .ok (.aload_n 0, 1) := by decide +kernel
theorem dX9_command_6 : decode cX9_command 6 = .ok (.iload_n 1, 1) := by decide +kernel
theorem dX9_command_7 : decode cX9_command 7 = .ok (.ifCond .lt 7, 3) := by decide +kernel
theorem dX9_command_10 : decode cX9_command 10 = .ok (.iconst 1, 1) := by decide +kernel
theorem dX9_command_11 : decode cX9_command 11 = .ok (.goto 4, 3) := by decide +kernel
theorem dX9_command_14 : decode cX9_command 14 = .ok (.iconst 0, 1) := by decide +kernel
theorem dX9_command_15 : decode cX9_command 15 = .ok (.putfield 148, 3) := by decide +kernel
theorem dX9_command_18 : decode cX9_command 18 = .ok (.iconst 0, 1) := by decide +kernel
theorem dX9_command_19 : decode cX9_command 19 = .ok (.istore_n 2, 1) := by decide +kernel
theorem dX9_command_20 : decode cX9_command 20 = .ok (.aload_n 0, 1) := by decide +kernel
theorem dX9_command_21 : decode cX9_command 21 = .ok (.getfield 148, 3) := by decide +kernel
theorem dX9_command_24 : decode cX9_command 24 = .ok (.ifCond .eq 27, 3) := by decide +kernel
theorem dX9_command_27 : decode cX9_command 27 = .ok (.iload_n 2, 1) := by decide +kernel
theorem dX9_command_28 : decode cX9_command 28 = .ok (.iload_n 1, 1) := by decide +kernel
theorem dX9_command_29 : decode cX9_command 29 = .ok (.invokestatic 180, 3) := by decide +kernel
theorem dX9_command_32 : decode cX9_command 32 = .ok (.if_icmp .ge 19, 3) := by decide +kernel
theorem dX9_command_35 : decode cX9_command 35 = .ok (.aload_n 0, 1) := by decide +kernel
theorem dX9_command_36 : decode cX9_command 36 = .ok (.getfield 22, 3) := by decide +kernel
theorem dX9_command_39 : decode cX9_command 39 = .ok (.iload_n 2, 1) := by decide +kernel
theorem dX9_command_40 : decode cX9_command 40 = .ok (.aload_n 0, 1) := by decide +kernel
theorem dX9_command_41 : decode cX9_command 41 = .ok (.invokevirtual 183, 3) := by decide +kernel
theorem dX9_command_44 : decode cX9_command 44 = .ok (.iastore, 1) := by decide +kernel
theorem dX9_command_45 : decode cX9_command 45 = .ok (.iinc 2 1, 3) := by decide +kernel
theorem dX9_command_48 : decode cX9_command 48 = .ok (.goto (-28), 3) := by decide +kernel
theorem dX9_command_51 : decode cX9_command 51 = .ok (.aload_n 0, 1) := by decide +kernel
theorem dX9_command_52 : decode cX9_command 52 = .ok (.bipush 59, 2) := by decide +kernel
theorem dX9_command_54 : decode cX9_command 54 = .ok (.invokevirtual 155, 3) := by decide +kernel
theorem dX9_command_57 : decode cX9_command 57 = .ok (.aload_n 0, 1) := by decide +kernel
theorem dX9_command_58 : decode cX9_command 58 = .ok (.getfield 148, 3) := by decide +kernel
theorem dX9_command_61 : decode cX9_command 61 = .ok (.ifCond .ne 5, 3) := by decide +kernel
theorem dX9_command_64 : decode cX9_command 64 = .ok (.iconst 0, 1) := by decide +kernel
theorem dX9_command_65 : decode cX9_command 65 = .ok (.ireturn, 1) := by decide +kernel
theorem dX9_command_66 : decode cX9_command 66 = .ok (.iload_n 1, 1) := by decide +kernel
theorem dX9_command_67 : decode cX9_command 67 = .ok (.tableswitch 163 0 5 #[37, 48, 71, 71, 97, 128], 37) := by decide +kernel
theorem dX9_command_104 : decode cX9_command 104 = .ok (.aload_n 0, 1) := by decide +kernel
theorem dX9_command_105 : decode cX9_command 105 = .ok (.aload_n 0, 1) := by decide +kernel
theorem dX9_command_106 : decode cX9_command 106 = .ok (.getfield 22, 3) := by decide +kernel
theorem dX9_command_109 : decode cX9_command 109 = .ok (.iconst 0, 1) := by decide +kernel
theorem dX9_command_110 : decode cX9_command 110 = .ok (.iaload, 1) := by decide +kernel
theorem dX9_command_111 : decode cX9_command 111 = .ok (.invokevirtual 91, 3) := by decide +kernel
theorem dX9_command_114 : decode cX9_command 114 = .ok (.ireturn, 1) := by decide +kernel
theorem dX9_command_115 : decode cX9_command 115 = .ok (.aload_n 0, 1) := by decide +kernel
theorem dX9_command_116 : decode cX9_command 116 = .ok (.aload_n 0, 1) := by decide +kernel
theorem dX9_command_117 : decode cX9_command 117 = .ok (.getfield 22, 3) := by decide +kernel
theorem dX9_command_120 : decode cX9_command 120 = .ok (.iconst 0, 1) := by decide +kernel
theorem dX9_command_121 : decode cX9_command 121 = .ok (.iaload, 1) := by decide +kernel
theorem dX9_command_122 : decode cX9_command 122 = .ok (.aload_n 0, 1) := by decide +kernel
theorem dX9_command_123 : decode cX9_command 123 = .ok (.getfield 22, 3) := by decide +kernel
theorem dX9_command_126 : decode cX9_command 126 = .ok (.iconst 1, 1) := by decide +kernel
theorem dX9_command_127 : decode cX9_command 127 = .ok (.iaload, 1) := by decide +kernel
theorem dX9_command_128 : decode cX9_command 128 = .ok (.aload_n 0, 1) := by decide +kernel
theorem dX9_command_129 : decode cX9_command 129 = .ok (.getfield 22, 3) := by decide +kernel
theorem dX9_command_132 : decode cX9_command 132 = .ok (.iconst 2, 1) := by decide +kernel
theorem dX9_command_133 : decode cX9_command 133 = .ok (.iaload, 1) := by decide +kernel
theorem dX9_command_134 : decode cX9_command 134 = .ok (.invokevirtual 101, 3) := by decide +kernel
theorem dX9_command_137 : decode cX9_command 137 = .ok (.ireturn, 1) := by decide +kernel
theorem dX9_command_138 : decode cX9_command 138 = .ok (.aload_n 0, 1) := by decide +kernel
theorem dX9_command_139 : decode cX9_command 139 = .ok (.aload_n 0, 1) := by decide +kernel
theorem dX9_command_140 : decode cX9_command 140 = .ok (.getfield 22, 3) := by decide +kernel
theorem dX9_command_143 : decode cX9_command 143 = .ok (.iconst 0, 1) := by decide +kernel
theorem dX9_command_144 : decode cX9_command 144 = .ok (.iaload, 1) := by decide +kernel
theorem dX9_command_145 : decode cX9_command 145 = .ok (.aload_n 0, 1) := by decide +kernel
theorem dX9_command_146 : decode cX9_command 146 = .ok (.getfield 22, 3) := by decide +kernel
theorem dX9_command_149 : decode cX9_command 149 = .ok (.iconst 1, 1) := by decide +kernel
theorem dX9_command_150 : decode cX9_command 150 = .ok (.iaload, 1) := by decide +kernel
theorem dX9_command_151 : decode cX9_command 151 = .ok (.aload_n 0, 1) := by decide +kernel
theorem dX9_command_152 : decode cX9_command 152 = .ok (.getfield 22, 3) := by decide +kernel
theorem dX9_command_155 : decode cX9_command 155 = .ok (.iconst 2, 1) := by decide +kernel
theorem dX9_command_156 : decode cX9_command 156 = .ok (.iaload, 1) := by decide +kernel
theorem dX9_command_157 : decode cX9_command 157 = .ok (.iload_n 1, 1) := by decide +kernel
theorem dX9_command_158 : decode cX9_command 158 = .ok (.iconst 2, 1) := by decide +kernel
theorem dX9_command_159 : decode cX9_command 159 = .ok (.isub, 1) := by decide +kernel
theorem dX9_command_160 : decode cX9_command 160 = .ok (.invokevirtual 104, 3) := by decide +kernel
theorem dX9_command_163 : decode cX9_command 163 = .ok (.ireturn, 1) := by decide +kernel
theorem dX9_command_164 : decode cX9_command 164 = .ok (.aload_n 0, 1) := by decide +kernel
theorem dX9_command_165 : decode cX9_command 165 = .ok (.aload_n 0, 1) := by decide +kernel
theorem dX9_command_166 : decode cX9_command 166 = .ok (.getfield 22, 3) := by decide +kernel
theorem dX9_command_169 : decode cX9_command 169 = .ok (.iconst 0, 1) := by decide +kernel
theorem dX9_command_170 : decode cX9_command 170 = .ok (.iaload, 1) := by decide +kernel
theorem dX9_command_171 : decode cX9_command 171 = .ok (.aload_n 0, 1) := by decide +kernel
theorem dX9_command_172 : decode cX9_command 172 = .ok (.getfield 22, 3) := by decide +kernel
theorem dX9_command_175 : decode cX9_command 175 = .ok (.iconst 1, 1) := by decide +kernel
theorem dX9_command_176 : decode cX9_command 176 = .ok (.iaload, 1) := by decide +kernel
theorem dX9_command_177 : decode cX9_command 177 = .ok (.aload_n 0, 1) := by decide +kernel
theorem dX9_command_178 : decode cX9_command 178 = .ok (.getfield 22, 3) := by decide +kernel
theorem dX9_command_181 : decode cX9_command 181 = .ok (.iconst 2, 1) := by decide +kernel
theorem dX9_command_182 : decode cX9_command 182 = .ok (.iaload, 1) := by decide +kernel
theorem dX9_command_183 : decode cX9_command 183 = .ok (.aload_n 0, 1) := by decide +kernel
theorem dX9_command_184 : decode cX9_command 184 = .ok (.getfield 22, 3) := by decide +kernel
theorem dX9_command_187 : decode cX9_command 187 = .ok (.iconst 3, 1) := by decide +kernel
theorem dX9_command_188 : decode cX9_command 188 = .ok (.iaload, 1) := by decide +kernel
theorem dX9_command_189 : decode cX9_command 189 = .ok (.iconst 2, 1) := by decide +kernel
theorem dX9_command_190 : decode cX9_command 190 = .ok (.iadd, 1) := by decide +kernel
theorem dX9_command_191 : decode cX9_command 191 = .ok (.invokevirtual 104, 3) := by decide +kernel
theorem dX9_command_194 : decode cX9_command 194 = .ok (.ireturn, 1) := by decide +kernel
theorem dX9_command_195 : decode cX9_command 195 = .ok (.aload_n 0, 1) := by decide +kernel
theorem dX9_command_196 : decode cX9_command 196 = .ok (.aload_n 0, 1) := by decide +kernel
theorem dX9_command_197 : decode cX9_command 197 = .ok (.getfield 22, 3) := by decide +kernel
theorem dX9_command_200 : decode cX9_command 200 = .ok (.iconst 0, 1) := by decide +kernel
theorem dX9_command_201 : decode cX9_command 201 = .ok (.iaload, 1) := by decide +kernel
theorem dX9_command_202 : decode cX9_command 202 = .ok (.aload_n 0, 1) := by decide +kernel
theorem dX9_command_203 : decode cX9_command 203 = .ok (.getfield 22, 3) := by decide +kernel
theorem dX9_command_206 : decode cX9_command 206 = .ok (.iconst 1, 1) := by decide +kernel
theorem dX9_command_207 : decode cX9_command 207 = .ok (.iaload, 1) := by decide +kernel
theorem dX9_command_208 : decode cX9_command 208 = .ok (.aload_n 0, 1) := by decide +kernel
theorem dX9_command_209 : decode cX9_command 209 = .ok (.getfield 22, 3) := by decide +kernel
theorem dX9_command_212 : decode cX9_command 212 = .ok (.iconst 2, 1) := by decide +kernel
theorem dX9_command_213 : decode cX9_command 213 = .ok (.iaload, 1) := by decide +kernel
theorem dX9_command_214 : decode cX9_command 214 = .ok (.aload_n 0, 1) := by decide +kernel
theorem dX9_command_215 : decode cX9_command 215 = .ok (.getfield 22, 3) := by decide +kernel
theorem dX9_command_218 : decode cX9_command 218 = .ok (.iconst 3, 1) := by decide +kernel
theorem dX9_command_219 : decode cX9_command 219 = .ok (.iaload, 1) := by decide +kernel
theorem dX9_command_220 : decode cX9_command 220 = .ok (.aload_n 0, 1) := by decide +kernel
theorem dX9_command_221 : decode cX9_command 221 = .ok (.getfield 22, 3) := by decide +kernel
theorem dX9_command_224 : decode cX9_command 224 = .ok (.iconst 4, 1) := by decide +kernel
theorem dX9_command_225 : decode cX9_command 225 = .ok (.iaload, 1) := by decide +kernel
theorem dX9_command_226 : decode cX9_command 226 = .ok (.invokevirtual 107, 3) := by decide +kernel
theorem dX9_command_229 : decode cX9_command 229 = .ok (.ireturn, 1) := by decide +kernel
theorem dX9_command_230 : decode cX9_command 230 = .ok (.aload_n 0, 1) := by decide +kernel
theorem dX9_command_231 : decode cX9_command 231 = .ok (.aload_n 0, 1) := by decide +kernel
theorem dX9_command_232 : decode cX9_command 232 = .ok (.getfield 22, 3) := by decide +kernel
theorem dX9_command_235 : decode cX9_command 235 = .ok (.iconst 0, 1) := by decide +kernel
theorem dX9_command_236 : decode cX9_command 236 = .ok (.iaload, 1) := by decide +kernel
theorem dX9_command_237 : decode cX9_command 237 = .ok (.invokevirtual 111, 3) := by decide +kernel
theorem dX9_command_240 : decode cX9_command 240 = .ok (.ireturn, 1) := by decide +kernel
set_option maxRecDepth 100000 in
theorem ggX9_does_X9_command : GoodIn wsX9_does wsX9_command := goodIn_r _ [9, 3, 10, 11, 12, 13, 8, 14, 1, 15, 16, 17, 18, 2, 19, 20, 21, 22, 23, 24, 25, 26, 27, 28, 29, 30, 31, 32, 33, 34, 35, 36, 37, 38, 39, 40, 41, 42, 43, 44, 45, 46, 47, 48, 49, 50, 51, 52, 53, 54, 55, 56, 57, 58, 59, 60, 61, 62, 63, 64, 65, 66, 67, 68, 69, 70, 71, 72, 73, 74, 75, 76, 77, 78, 79, 80, 81, 82, 83, 84, 85, 86, 87, 88, 89, 90, 91, 92, 93, 94, 95, 96, 97, 98, 99, 100, 101, 102, 103, 104, 105, 106, 107, 108, 109, 110, 111, 112, 113, 114, 115, 116, 117, 118, 119, 120, 121, 122, 123, 124, 125, 126, 127, 128, 129, 130, 131, 132, 133, 134, 135, 136, 137] rfl rfl
set_option maxRecDepth 100000 in
theorem gX9_does_X9_command : GoodIn wsX9_does (wsV RX9 186 RX9 yX9_command wsX9_command) := goodIn_app (goodIn_r _ [5, 6, 7, 8] rfl rfl) ggX9_does_X9_command
theorem dX9_does_0 : decode cX9_does 0 = .ok (.aload_n 0, 1) := by decide +kernel
theorem dX9_does_1 : decode cX9_does 1 = .ok (.iconst 0, 1) := by decide +kernel
theorem dX9_does_2 : decode cX9_does 2 = .ok (.putfield 145, 3) := by decide +kernel
theorem dX9_does_5 : decode cX9_does 5 = .ok (.iconst 0, 1) := by decide +kernel
theorem dX9_does_6 : decode cX9_does 6 = .ok (.istore_n 1, 1) := by decide +kernel
theorem dX9_does_7 : decode cX9_does 7 = .ok (.aload_n 0, 1) := by decide +kernel
theorem dX9_does_8 : decode cX9_does 8 = .ok (.getfield 145, 3) := by decide +kernel
theorem dX9_does_11 : decode cX9_does 11 = .ok (.aload_n 0, 1) := by decide +kernel
theorem dX9_does_12 : decode cX9_does 12 = .ok (.getfield 133, 3) := by decide +kernel
theorem dX9_does_15 : decode cX9_does 15 = .ok (.if_icmp .ge 61, 3) := by decide +kernel
theorem dX9_does_18 : decode cX9_does 18 = .ok (.aload_n 0, 1) := by decide +kernel
theorem dX9_does_19 : decode cX9_does 19 = .ok (.getfield 145, 3) := by decide +kernel
theorem dX9_does_22 : decode cX9_does 22 = .ok (.istore_n 2, 1) := by decide +kernel
theorem dX9_does_23 : decode cX9_does 23 = .ok (.aload_n 0, 1) := by decide +kernel
theorem dX9_does_24 : decode cX9_does 24 = .ok (.invokevirtual 186, 3) := by decide +kernel
theorem dX9_does_27 : decode cX9_does 27 = .ok (.istore_n 3, 1) := by decide +kernel
theorem dX9_does_28 : decode cX9_does 28 = .ok (.aload_n 0, 1) := by decide +kernel
theorem dX9_does_29 : decode cX9_does 29 = .ok (.aload_n 0, 1) := by decide +kernel
theorem dX9_does_30 : decode cX9_does 30 = .ok (.getfield 148, 3) := by decide +kernel
theorem dX9_does_33 : decode cX9_does 33 = .ok (.ifCond .ne 7, 3) := by decide +kernel
theorem dX9_does_36 : decode cX9_does 36 = .ok (.iconst 1, 1) := by decide +kernel
theorem dX9_does_37 : decode cX9_does 37 = .ok (.goto 21, 3) := by decide +kernel
theorem dX9_does_40 : decode cX9_does 40 = .ok (.iload_n 3, 1) := by decide +kernel
theorem dX9_does_41 : decode cX9_does 41 = .ok (.iconst (-1), 1) := by decide +kernel
theorem dX9_does_42 : decode cX9_does 42 = .ok (.if_icmp .ne 7, 3) := by decide +kernel
theorem dX9_does_45 : decode cX9_does 45 = .ok (.iconst 2, 1) := by decide +kernel
theorem dX9_does_46 : decode cX9_does 46 = .ok (.goto 12, 3) := by decide +kernel
theorem dX9_does_49 : decode cX9_does 49 = .ok (.iload_n 3, 1) := by decide +kernel
theorem dX9_does_50 : decode cX9_does 50 = .ok (.ifCond .ge 7, 3) := by decide +kernel
theorem dX9_does_53 : decode cX9_does 53 = .ok (.iconst 3, 1) := by decide +kernel
theorem dX9_does_54 : decode cX9_does 54 = .ok (.goto 4, 3) := by decide +kernel
theorem dX9_does_57 : decode cX9_does 57 = .ok (.iconst 0, 1) := by decide +kernel
theorem dX9_does_58 : decode cX9_does 58 = .ok (.putfield 189, 3) := by decide +kernel
theorem dX9_does_61 : decode cX9_does 61 = .ok (.aload_n 0, 1) := by decide +kernel
theorem dX9_does_62 : decode cX9_does 62 = .ok (.getfield 189, 3) := by decide +kernel
theorem dX9_does_65 : decode cX9_does 65 = .ok (.ifCond .le 5, 3) := by decide +kernel
theorem dX9_does_68 : decode cX9_does 68 = .ok (.iload_n 2, 1) := by decide +kernel
theorem dX9_does_69 : decode cX9_does 69 = .ok (.ireturn, 1) := by decide +kernel
theorem dX9_does_70 : decode cX9_does 70 = .ok (.iinc 1 1, 3) := by decide +kernel
theorem dX9_does_73 : decode cX9_does 73 = .ok (.goto (-66), 3) := by decide +kernel
theorem dX9_does_76 : decode cX9_does 76 = .ok (.iconst (-1), 1) := by decide +kernel
theorem dX9_does_77 : decode cX9_does 77 = .ok (.iload_n 1, 1) := by decide +kernel
theorem dX9_does_78 : decode cX9_does 78 = .ok (.isub, 1) := by decide +kernel
theorem dX9_does_79 : decode cX9_does 79 = .ok (.ireturn, 1) := by decide +kernel
set_option maxRecDepth 100000 in
theorem ggX9_fault_X9_in : GoodIn wsX9_fault wsX9_in := goodIn_r _ [5] rfl rfl
set_option maxRecDepth 100000 in
theorem gX9_fault_X9_in : GoodIn wsX9_fault (va_wsS RX9 29 yX9_in wsX9_in) := goodIn_app (goodIn_r _ [2, 3, 4] rfl rfl) ggX9_fault_X9_in
set_option maxRecDepth 100000 in
theorem ggX9_fault_X9_begins : GoodIn wsX9_fault wsX9_begins := goodIn_r _ [9, 10, 11, 141, 142, 143, 144, 145, 146, 147, 148, 149, 150] rfl rfl
set_option maxRecDepth 100000 in
theorem gX9_fault_X9_begins : GoodIn wsX9_fault (wsV RX9 88 RX9 yX9_begins wsX9_begins) := goodIn_app (goodIn_r _ [6, 7, 8, 4] rfl rfl) ggX9_fault_X9_begins
set_option maxRecDepth 100000 in
theorem ggX9_fault_X9_does : GoodIn wsX9_fault wsX9_does := goodIn_r _ [15, 16, 17, 18, 1, 19, 20, 21, 4, 22, 23, 24, 25, 26, 27, 28, 29, 30, 31, 32, 2, 3, 5, 33, 34, 35, 36, 37, 38, 39, 40, 41, 42, 43, 44, 45, 46, 47, 48, 49, 50, 51, 52, 53, 54, 55, 56, 57, 11, 58, 59, 60, 61, 62, 63, 64, 65, 66, 67, 68, 69, 70, 71, 72, 73, 74, 75, 76, 77, 78, 79, 80, 81, 82, 83, 84, 85, 86, 87, 88, 89, 90, 91, 92, 93, 94, 95, 96, 97, 98, 99, 100, 101, 102, 103, 104, 105, 106, 107, 108, 109, 110, 111, 112, 113, 114, 115, 116, 117, 118, 119, 120, 121, 122, 123, 124, 125, 126, 127, 128, 129, 130, 131, 132, 133, 134, 135, 136, 141, 142, 143, 144, 145, 146, 147, 148, 149, 150] rfl rfl
set_option maxRecDepth 100000 in
theorem gX9_fault_X9_does : GoodIn wsX9_fault (wsV RX9 192 RX9 yX9_does wsX9_does) := goodIn_app (goodIn_r _ [12, 13, 14, 4] rfl rfl) ggX9_fault_X9_does
set_option maxRecDepth 100000 in
theorem ggX9_fault_X9_returns : GoodIn wsX9_fault wsX9_returns := goodIn_r _ [140, 11, 10, 141, 142, 143, 144, 145, 146, 147, 148, 149, 150] rfl rfl
set_option maxRecDepth 100000 in
theorem gX9_fault_X9_returns : GoodIn wsX9_fault (wsV RX9 195 RX9 yX9_returns wsX9_returns) := goodIn_app (goodIn_r _ [137, 138, 139, 4] rfl rfl) ggX9_fault_X9_returns
theorem dX9_fault_0 : decode cX9_fault 0 = .ok (.iload_n 1, 1) := by decide +kernel
theorem dX9_fault_1 : decode cX9_fault 1 = .ok (.iconst 0, 1) := by decide +kernel
theorem dX9_fault_2 : decode cX9_fault 2 = .ok (.iconst 1, 1) := by decide +kernel
theorem dX9_fault_3 : decode cX9_fault 3 = .ok (.invokestatic 29, 3) := by decide +kernel
theorem dX9_fault_6 : decode cX9_fault 6 = .ok (.ifCond .ne 5, 3) := by decide +kernel
theorem dX9_fault_9 : decode cX9_fault 9 = .ok (.iconst (-1), 1) := by decide +kernel
theorem dX9_fault_10 : decode cX9_fault 10 = .ok (.ireturn, 1) := by decide +kernel
theorem dX9_fault_11 : decode cX9_fault 11 = .ok (.aload_n 0, 1) := by decide +kernel
theorem dX9_fault_12 : decode cX9_fault 12 = .ok (.invokevirtual 88, 3) := by decide +kernel
theorem dX9_fault_15 : decode cX9_fault 15 = .ok (.aload_n 0, 1) := by decide +kernel
theorem dX9_fault_16 : decode cX9_fault 16 = .ok (.invokevirtual 192, 3) := by decide +kernel
theorem dX9_fault_19 : decode cX9_fault 19 = .ok (.istore_n 2, 1) := by decide +kernel
theorem dX9_fault_20 : decode cX9_fault 20 = .ok (.aload_n 0, 1) := by decide +kernel
theorem dX9_fault_21 : decode cX9_fault 21 = .ok (.invokevirtual 195, 3) := by decide +kernel
theorem dX9_fault_24 : decode cX9_fault 24 = .ok (.iload_n 2, 1) := by decide +kernel
theorem dX9_fault_25 : decode cX9_fault 25 = .ok (.ifCond .ge 8, 3) := by decide +kernel
theorem dX9_fault_28 : decode cX9_fault 28 = .ok (.bipush (-4), 2) := by decide +kernel
theorem dX9_fault_30 : decode cX9_fault 30 = .ok (.goto 15, 3) := by decide +kernel
theorem dX9_fault_33 : decode cX9_fault 33 = .ok (.iload_n 1, 1) := by decide +kernel
theorem dX9_fault_34 : decode cX9_fault 34 = .ok (.ifCond .ne 7, 3) := by decide +kernel
theorem dX9_fault_37 : decode cX9_fault 37 = .ok (.iload_n 2, 1) := by decide +kernel
theorem dX9_fault_38 : decode cX9_fault 38 = .ok (.goto 7, 3) := by decide +kernel
theorem dX9_fault_41 : decode cX9_fault 41 = .ok (.aload_n 0, 1) := by decide +kernel
theorem dX9_fault_42 : decode cX9_fault 42 = .ok (.getfield 189, 3) := by decide +kernel
theorem dX9_fault_45 : decode cX9_fault 45 = .ok (.ireturn, 1) := by decide +kernel
set_option maxRecDepth 100000 in
theorem ggX9_play_X9_begins : GoodIn wsX9_play wsX9_begins := goodIn_r _ [5, 6, 7, 147, 148, 149, 150, 151, 152, 153, 154, 155, 156] rfl rfl
set_option maxRecDepth 100000 in
theorem gX9_play_X9_begins : GoodIn wsX9_play (wsV RX9 88 RX9 yX9_begins wsX9_begins) := goodIn_app (goodIn_r _ [1, 2, 3, 4] rfl rfl) ggX9_play_X9_begins
set_option maxRecDepth 100000 in
theorem ggX9_play_X9_does : GoodIn wsX9_play wsX9_does := goodIn_r _ [11, 12, 13, 14, 15, 16, 17, 18, 4, 19, 20, 21, 22, 23, 24, 25, 26, 27, 28, 29, 30, 31, 32, 33, 34, 35, 36, 37, 38, 39, 40, 41, 42, 43, 44, 45, 46, 47, 48, 49, 50, 51, 52, 53, 54, 55, 56, 57, 7, 58, 59, 60, 61, 62, 63, 64, 65, 66, 67, 68, 69, 70, 71, 72, 73, 74, 75, 76, 77, 78, 79, 80, 81, 82, 83, 84, 85, 86, 87, 88, 89, 90, 91, 92, 93, 94, 95, 96, 97, 98, 99, 100, 101, 102, 103, 104, 105, 106, 107, 108, 109, 110, 111, 112, 113, 114, 115, 116, 117, 118, 119, 120, 121, 122, 123, 124, 125, 126, 127, 128, 129, 130, 131, 132, 133, 134, 135, 136, 147, 148, 149, 150, 151, 152, 153, 154, 155, 156] rfl rfl
set_option maxRecDepth 100000 in
theorem gX9_play_X9_does : GoodIn wsX9_play (wsV RX9 192 RX9 yX9_does wsX9_does) := goodIn_app (goodIn_r _ [8, 9, 10, 4] rfl rfl) ggX9_play_X9_does
set_option maxRecDepth 100000 in
theorem ggX9_play_X9_returns : GoodIn wsX9_play wsX9_returns := goodIn_r _ [140, 7, 6, 147, 148, 149, 150, 151, 152, 153, 154, 155, 156] rfl rfl
set_option maxRecDepth 100000 in
theorem gX9_play_X9_returns : GoodIn wsX9_play (wsV RX9 195 RX9 yX9_returns wsX9_returns) := goodIn_app (goodIn_r _ [137, 138, 139, 4] rfl rfl) ggX9_play_X9_returns
set_option maxRecDepth 100000 in
theorem ggX9_play_X9_acted : GoodIn wsX9_play wsX9_acted := goodIn_r _ [144, 145, 146, 6, 147, 148, 149, 150, 151, 152, 153, 154, 155, 156] rfl rfl
set_option maxRecDepth 100000 in
theorem gX9_play_X9_acted : GoodIn wsX9_play (wsV RX9 95 RX9 yX9_acted wsX9_acted) := goodIn_app (goodIn_r _ [141, 142, 143, 4] rfl rfl) ggX9_play_X9_acted
theorem dX9_play_0 : decode cX9_play 0 = .ok (.aload_n 0, 1) := by decide +kernel
theorem dX9_play_1 : decode cX9_play 1 = .ok (.invokevirtual 88, 3) := by decide +kernel
theorem dX9_play_4 : decode cX9_play 4 = .ok (.aload_n 0, 1) := by decide +kernel
theorem dX9_play_5 : decode cX9_play 5 = .ok (.invokevirtual 192, 3) := by decide +kernel
theorem dX9_play_8 : decode cX9_play 8 = .ok (.istore_n 1, 1) := by decide +kernel
theorem dX9_play_9 : decode cX9_play 9 = .ok (.iload_n 1, 1) := by decide +kernel
theorem dX9_play_10 : decode cX9_play 10 = .ok (.ifCond .lt 10, 3) := by decide +kernel
theorem dX9_play_13 : decode cX9_play 13 = .ok (.aload_n 0, 1) := by decide +kernel
theorem dX9_play_14 : decode cX9_play 14 = .ok (.invokevirtual 195, 3) := by decide +kernel
theorem dX9_play_17 : decode cX9_play 17 = .ok (.bipush (-2), 2) := by decide +kernel
theorem dX9_play_19 : decode cX9_play 19 = .ok (.ireturn, 1) := by decide +kernel
theorem dX9_play_20 : decode cX9_play 20 = .ok (.aload_n 0, 1) := by decide +kernel
theorem dX9_play_21 : decode cX9_play 21 = .ok (.iconst (-1), 1) := by decide +kernel
theorem dX9_play_22 : decode cX9_play 22 = .ok (.iload_n 1, 1) := by decide +kernel
theorem dX9_play_23 : decode cX9_play 23 = .ok (.isub, 1) := by decide +kernel
theorem dX9_play_24 : decode cX9_play 24 = .ok (.invokevirtual 95, 3) := by decide +kernel
theorem dX9_play_27 : decode cX9_play 27 = .ok (.ireturn, 1) := by decide +kernel
