set_option maxRecDepth 100000 in
theorem ggX5_init_X6_init : GoodIn wsX5_init wsX6_init := goodIn_r _ [14, 15, 2, 3, 16, 17, 18, 23, 24] rfl rfl
set_option maxRecDepth 100000 in
theorem gX5_init_X6_init : GoodIn wsX5_init (wsX6_init) := ggX5_init_X6_init
set_option maxRecDepth 100000 in
theorem ggX5_init_X6_put : GoodIn wsX5_init wsX6_put := goodIn_r _ [22, 18, 17, 23, 24] rfl rfl
set_option maxRecDepth 100000 in
theorem gX5_init_X6_put : GoodIn wsX5_init (wsV RX5 33 RX6 yX6_put wsX6_put) := goodIn_app (goodIn_r _ [19, 20, 21, 6] rfl rfl) ggX5_init_X6_put
theorem dX5_init_0 : decode cX5_init 0 = .ok (.aload_n 0, 1) := by decide +kernel
theorem dX5_init_1 : decode cX5_init 1 = .ok (.invokespecial 3, 3) := by decide +kernel
theorem dX5_init_4 : decode cX5_init 4 = .ok (.aload_n 0, 1) := by decide +kernel
theorem dX5_init_5 : decode cX5_init 5 = .ok (.new 9, 3) := by decide +kernel
theorem dX5_init_8 : decode cX5_init 8 = .ok (.dup, 1) := by decide +kernel
theorem dX5_init_9 : decode cX5_init 9 = .ok (.bipush 24, 2) := by decide +kernel
theorem dX5_init_11 : decode cX5_init 11 = .ok (.bipush 10, 2) := by decide +kernel
theorem dX5_init_13 : decode cX5_init 13 = .ok (.invokespecial 11, 3) := by decide +kernel
theorem dX5_init_16 : decode cX5_init 16 = .ok (.putfield 14, 3) := by decide +kernel
theorem dX5_init_19 : decode cX5_init 19 = .ok (.aload_n 0, 1) := by decide +kernel
theorem dX5_init_20 : decode cX5_init 20 = .ok (.new 9, 3) := by decide +kernel
theorem dX5_init_23 : decode cX5_init 23 = .ok (.dup, 1) := by decide +kernel
theorem dX5_init_24 : decode cX5_init 24 = .ok (.iconst 5, 1) := by decide +kernel
theorem dX5_init_25 : decode cX5_init 25 = .ok (.bipush 6, 2) := by decide +kernel
theorem dX5_init_27 : decode cX5_init 27 = .ok (.invokespecial 11, 3) := by decide +kernel
theorem dX5_init_30 : decode cX5_init 30 = .ok (.putfield 20, 3) := by decide +kernel
theorem dX5_init_33 : decode cX5_init 33 = .ok (.aload_n 0, 1) := by decide +kernel
theorem dX5_init_34 : decode cX5_init 34 = .ok (.new 9, 3) := by decide +kernel
theorem dX5_init_37 : decode cX5_init 37 = .ok (.dup, 1) := by decide +kernel
theorem dX5_init_38 : decode cX5_init 38 = .ok (.bipush 12, 2) := by decide +kernel
theorem dX5_init_40 : decode cX5_init 40 = .ok (.iconst 3, 1) := by decide +kernel
theorem dX5_init_41 : decode cX5_init 41 = .ok (.invokespecial 11, 3) := by decide +kernel
theorem dX5_init_44 : decode cX5_init 44 = .ok (.putfield 23, 3) := by decide +kernel
theorem dX5_init_47 : decode cX5_init 47 = .ok (.aload_n 0, 1) := by decide +kernel
theorem dX5_init_48 : decode cX5_init 48 = .ok (.iconst 4, 1) := by decide +kernel
theorem dX5_init_49 : decode cX5_init 49 = .ok (.putfield 26, 3) := by decide +kernel
theorem dX5_init_52 : decode cX5_init 52 = .ok (.aload_n 0, 1) := by decide +kernel
theorem dX5_init_53 : decode cX5_init 53 = .ok (.iconst 1, 1) := by decide +kernel
theorem dX5_init_54 : decode cX5_init 54 = .ok (.putfield 30, 3) := by decide +kernel
theorem dX5_init_57 : decode cX5_init 57 = .ok (.iconst 0, 1) := by decide +kernel
theorem dX5_init_58 : decode cX5_init 58 = .ok (.istore_n 1, 1) := by decide +kernel
theorem dX5_init_59 : decode cX5_init 59 = .ok (.iload_n 1, 1) := by decide +kernel
theorem dX5_init_60 : decode cX5_init 60 = .ok (.bipush 12, 2) := by decide +kernel
theorem dX5_init_62 : decode cX5_init 62 = .ok (.if_icmp .ge 30, 3) := by decide +kernel
theorem dX5_init_65 : decode cX5_init 65 = .ok (.aload_n 0, 1) := by decide +kernel
theorem dX5_init_66 : decode cX5_init 66 = .ok (.getfield 23, 3) := by decide +kernel
theorem dX5_init_69 : decode cX5_init 69 = .ok (.iload_n 1, 1) := by decide +kernel
theorem dX5_init_70 : decode cX5_init 70 = .ok (.iconst 0, 1) := by decide +kernel
theorem dX5_init_71 : decode cX5_init 71 = .ok (.iconst 2, 1) := by decide +kernel
theorem dX5_init_72 : decode cX5_init 72 = .ok (.invokevirtual 33, 3) := by decide +kernel
theorem dX5_init_75 : decode cX5_init 75 = .ok (.aload_n 0, 1) := by decide +kernel
theorem dX5_init_76 : decode cX5_init 76 = .ok (.getfield 23, 3) := by decide +kernel
theorem dX5_init_79 : decode cX5_init 79 = .ok (.iload_n 1, 1) := by decide +kernel
theorem dX5_init_80 : decode cX5_init 80 = .ok (.iconst 2, 1) := by decide +kernel
theorem dX5_init_81 : decode cX5_init 81 = .ok (.bipush 100, 2) := by decide +kernel
theorem dX5_init_83 : decode cX5_init 83 = .ok (.invokevirtual 33, 3) := by decide +kernel
theorem dX5_init_86 : decode cX5_init 86 = .ok (.iinc 1 1, 3) := by decide +kernel
theorem dX5_init_89 : decode cX5_init 89 = .ok (.goto (-30), 3) := by decide +kernel
theorem dX5_init_92 : decode cX5_init 92 = .ok (.return_, 1) := by decide +kernel
set_option maxRecDepth 100000 in
theorem ggX5_copyFrom_X6_copyFrom : GoodIn wsX5_copyFrom wsX6_copyFrom := goodIn_r _ [13, 14, 23, 24] rfl rfl
set_option maxRecDepth 100000 in
theorem gX5_copyFrom_X6_copyFrom : GoodIn wsX5_copyFrom (wsV RX5 37 RX6 yX6_copyFrom wsX6_copyFrom) := goodIn_app (goodIn_r _ [9, 10, 11, 12] rfl rfl) ggX5_copyFrom_X6_copyFrom
theorem dX5_copyFrom_0 : decode cX5_copyFrom 0 = .ok (.aload_n 0, 1) := by decide +kernel
theorem dX5_copyFrom_1 : decode cX5_copyFrom 1 = .ok (.getfield 14, 3) := by decide +kernel
theorem dX5_copyFrom_4 : decode cX5_copyFrom 4 = .ok (.aload_n 1, 1) := by decide +kernel
theorem dX5_copyFrom_5 : decode cX5_copyFrom 5 = .ok (.getfield 14, 3) := by decide +kernel
theorem dX5_copyFrom_8 : decode cX5_copyFrom 8 = .ok (.invokevirtual 37, 3) := by decide +kernel
theorem dX5_copyFrom_11 : decode cX5_copyFrom 11 = .ok (.aload_n 0, 1) := by decide +kernel
theorem dX5_copyFrom_12 : decode cX5_copyFrom 12 = .ok (.getfield 20, 3) := by decide +kernel
theorem dX5_copyFrom_15 : decode cX5_copyFrom 15 = .ok (.aload_n 1, 1) := by decide +kernel
theorem dX5_copyFrom_16 : decode cX5_copyFrom 16 = .ok (.getfield 20, 3) := by decide +kernel
theorem dX5_copyFrom_19 : decode cX5_copyFrom 19 = .ok (.invokevirtual 37, 3) := by decide +kernel
theorem dX5_copyFrom_22 : decode cX5_copyFrom 22 = .ok (.aload_n 0, 1) := by decide +kernel
theorem dX5_copyFrom_23 : decode cX5_copyFrom 23 = .ok (.getfield 23, 3) := by decide +kernel
theorem dX5_copyFrom_26 : decode cX5_copyFrom 26 = .ok (.aload_n 1, 1) := by decide +kernel
theorem dX5_copyFrom_27 : decode cX5_copyFrom 27 = .ok (.getfield 23, 3) := by decide +kernel
theorem dX5_copyFrom_30 : decode cX5_copyFrom 30 = .ok (.invokevirtual 37, 3) := by decide +kernel
theorem dX5_copyFrom_33 : decode cX5_copyFrom 33 = .ok (.aload_n 0, 1) := by decide +kernel
theorem dX5_copyFrom_34 : decode cX5_copyFrom 34 = .ok (.aload_n 1, 1) := by decide +kernel
theorem dX5_copyFrom_35 : decode cX5_copyFrom 35 = .ok (.getfield 41, 3) := by decide +kernel
theorem dX5_copyFrom_38 : decode cX5_copyFrom 38 = .ok (.putfield 41, 3) := by decide +kernel
theorem dX5_copyFrom_41 : decode cX5_copyFrom 41 = .ok (.aload_n 0, 1) := by decide +kernel
theorem dX5_copyFrom_42 : decode cX5_copyFrom 42 = .ok (.aload_n 1, 1) := by decide +kernel
theorem dX5_copyFrom_43 : decode cX5_copyFrom 43 = .ok (.getfield 44, 3) := by decide +kernel
theorem dX5_copyFrom_46 : decode cX5_copyFrom 46 = .ok (.putfield 44, 3) := by decide +kernel
theorem dX5_copyFrom_49 : decode cX5_copyFrom 49 = .ok (.aload_n 0, 1) := by decide +kernel
theorem dX5_copyFrom_50 : decode cX5_copyFrom 50 = .ok (.aload_n 1, 1) := by decide +kernel
theorem dX5_copyFrom_51 : decode cX5_copyFrom 51 = .ok (.getfield 47, 3) := by decide +kernel
theorem dX5_copyFrom_54 : decode cX5_copyFrom 54 = .ok (.putfield 47, 3) := by decide +kernel
theorem dX5_copyFrom_57 : decode cX5_copyFrom 57 = .ok (.aload_n 0, 1) := by decide +kernel
theorem dX5_copyFrom_58 : decode cX5_copyFrom 58 = .ok (.aload_n 1, 1) := by decide +kernel
theorem dX5_copyFrom_59 : decode cX5_copyFrom 59 = .ok (.getfield 26, 3) := by decide +kernel
theorem dX5_copyFrom_62 : decode cX5_copyFrom 62 = .ok (.putfield 26, 3) := by decide +kernel
theorem dX5_copyFrom_65 : decode cX5_copyFrom 65 = .ok (.aload_n 0, 1) := by decide +kernel
theorem dX5_copyFrom_66 : decode cX5_copyFrom 66 = .ok (.aload_n 1, 1) := by decide +kernel
theorem dX5_copyFrom_67 : decode cX5_copyFrom 67 = .ok (.getfield 30, 3) := by decide +kernel
theorem dX5_copyFrom_70 : decode cX5_copyFrom 70 = .ok (.putfield 30, 3) := by decide +kernel
theorem dX5_copyFrom_73 : decode cX5_copyFrom 73 = .ok (.return_, 1) := by decide +kernel
theorem dX5_addressCount_0 : decode cX5_addressCount 0 = .ok (.aload_n 0, 1) := by decide +kernel
theorem dX5_addressCount_1 : decode cX5_addressCount 1 = .ok (.getfield 41, 3) := by decide +kernel
theorem dX5_addressCount_4 : decode cX5_addressCount 4 = .ok (.ireturn, 1) := by decide +kernel
theorem dX5_interviewerCount_0 : decode cX5_interviewerCount 0 = .ok (.aload_n 0, 1) := by decide +kernel
theorem dX5_interviewerCount_1 : decode cX5_interviewerCount 1 = .ok (.getfield 44, 3) := by decide +kernel
theorem dX5_interviewerCount_4 : decode cX5_interviewerCount 4 = .ok (.ireturn, 1) := by decide +kernel
theorem dX5_day_0 : decode cX5_day 0 = .ok (.aload_n 0, 1) := by decide +kernel
theorem dX5_day_1 : decode cX5_day 1 = .ok (.getfield 47, 3) := by decide +kernel
theorem dX5_day_4 : decode cX5_day 4 = .ok (.ireturn, 1) := by decide +kernel
theorem dX5_vainLimit_0 : decode cX5_vainLimit 0 = .ok (.aload_n 0, 1) := by decide +kernel
theorem dX5_vainLimit_1 : decode cX5_vainLimit 1 = .ok (.getfield 26, 3) := by decide +kernel
theorem dX5_vainLimit_4 : decode cX5_vainLimit 4 = .ok (.ireturn, 1) := by decide +kernel
theorem dX5_daysBetween_0 : decode cX5_daysBetween 0 = .ok (.aload_n 0, 1) := by decide +kernel
theorem dX5_daysBetween_1 : decode cX5_daysBetween 1 = .ok (.getfield 30, 3) := by decide +kernel
theorem dX5_daysBetween_4 : decode cX5_daysBetween 4 = .ok (.ireturn, 1) := by decide +kernel
set_option maxRecDepth 100000 in
theorem ggX5_hasAddress_X8_isWithin : GoodIn wsX5_hasAddress wsX8_isWithin := goodIn_r _ [4] rfl rfl
set_option maxRecDepth 100000 in
theorem gX5_hasAddress_X8_isWithin_n50 : GoodIn wsX5_hasAddress (wsX8_isWithin) := ggX5_hasAddress_X8_isWithin
theorem dX5_hasAddress_0 : decode cX5_hasAddress 0 = .ok (.iload_n 1, 1) := by decide +kernel
theorem dX5_hasAddress_1 : decode cX5_hasAddress 1 = .ok (.iconst 0, 1) := by decide +kernel
theorem dX5_hasAddress_2 : decode cX5_hasAddress 2 = .ok (.aload_n 0, 1) := by decide +kernel
theorem dX5_hasAddress_3 : decode cX5_hasAddress 3 = .ok (.getfield 41, 3) := by decide +kernel
theorem dX5_hasAddress_6 : decode cX5_hasAddress 6 = .ok (.iconst 1, 1) := by decide +kernel
theorem dX5_hasAddress_7 : decode cX5_hasAddress 7 = .ok (.isub, 1) := by decide +kernel
theorem dX5_hasAddress_8 : decode cX5_hasAddress 8 = .ok (.invokestatic 50, 3) := by decide +kernel
theorem dX5_hasAddress_11 : decode cX5_hasAddress 11 = .ok (.ireturn, 1) := by decide +kernel
set_option maxRecDepth 100000 in
theorem ggX5_hasInterviewer_X8_isWithin : GoodIn wsX5_hasInterviewer wsX8_isWithin := goodIn_r _ [4] rfl rfl
set_option maxRecDepth 100000 in
theorem gX5_hasInterviewer_X8_isWithin_n50 : GoodIn wsX5_hasInterviewer (wsX8_isWithin) := ggX5_hasInterviewer_X8_isWithin
theorem dX5_hasInterviewer_0 : decode cX5_hasInterviewer 0 = .ok (.iload_n 1, 1) := by decide +kernel
theorem dX5_hasInterviewer_1 : decode cX5_hasInterviewer 1 = .ok (.iconst 0, 1) := by decide +kernel
theorem dX5_hasInterviewer_2 : decode cX5_hasInterviewer 2 = .ok (.aload_n 0, 1) := by decide +kernel
theorem dX5_hasInterviewer_3 : decode cX5_hasInterviewer 3 = .ok (.getfield 44, 3) := by decide +kernel
theorem dX5_hasInterviewer_6 : decode cX5_hasInterviewer 6 = .ok (.iconst 1, 1) := by decide +kernel
theorem dX5_hasInterviewer_7 : decode cX5_hasInterviewer 7 = .ok (.isub, 1) := by decide +kernel
theorem dX5_hasInterviewer_8 : decode cX5_hasInterviewer 8 = .ok (.invokestatic 50, 3) := by decide +kernel
theorem dX5_hasInterviewer_11 : decode cX5_hasInterviewer 11 = .ok (.ireturn, 1) := by decide +kernel
set_option maxRecDepth 100000 in
theorem ggX5_ofAddress_X6_get : GoodIn wsX5_ofAddress wsX6_get := goodIn_r _ [6, 7, 8, 17, 18] rfl rfl
set_option maxRecDepth 100000 in
theorem gX5_ofAddress_X6_get : GoodIn wsX5_ofAddress (wsV RX5 54 RX6 yX6_get wsX6_get) := goodIn_app (goodIn_r _ [2, 3, 4, 5] rfl rfl) ggX5_ofAddress_X6_get
theorem dX5_ofAddress_0 : decode cX5_ofAddress 0 = .ok (.aload_n 0, 1) := by decide +kernel
theorem dX5_ofAddress_1 : decode cX5_ofAddress 1 = .ok (.getfield 14, 3) := by decide +kernel
theorem dX5_ofAddress_4 : decode cX5_ofAddress 4 = .ok (.iload_n 1, 1) := by decide +kernel
theorem dX5_ofAddress_5 : decode cX5_ofAddress 5 = .ok (.iload_n 2, 1) := by decide +kernel
theorem dX5_ofAddress_6 : decode cX5_ofAddress 6 = .ok (.invokevirtual 54, 3) := by decide +kernel
theorem dX5_ofAddress_9 : decode cX5_ofAddress 9 = .ok (.ireturn, 1) := by decide +kernel
set_option maxRecDepth 100000 in
theorem ggX5_ofInterviewer_X6_get : GoodIn wsX5_ofInterviewer wsX6_get := goodIn_r _ [6, 7, 8, 17, 18] rfl rfl
set_option maxRecDepth 100000 in
theorem gX5_ofInterviewer_X6_get : GoodIn wsX5_ofInterviewer (wsV RX5 54 RX6 yX6_get wsX6_get) := goodIn_app (goodIn_r _ [2, 3, 4, 5] rfl rfl) ggX5_ofInterviewer_X6_get
theorem dX5_ofInterviewer_0 : decode cX5_ofInterviewer 0 = .ok (.aload_n 0, 1) := by decide +kernel
theorem dX5_ofInterviewer_1 : decode cX5_ofInterviewer 1 = .ok (.getfield 20, 3) := by decide +kernel
theorem dX5_ofInterviewer_4 : decode cX5_ofInterviewer 4 = .ok (.iload_n 1, 1) := by decide +kernel
theorem dX5_ofInterviewer_5 : decode cX5_ofInterviewer 5 = .ok (.iload_n 2, 1) := by decide +kernel
theorem dX5_ofInterviewer_6 : decode cX5_ofInterviewer 6 = .ok (.invokevirtual 54, 3) := by decide +kernel
theorem dX5_ofInterviewer_9 : decode cX5_ofInterviewer 9 = .ok (.ireturn, 1) := by decide +kernel
set_option maxRecDepth 100000 in
theorem ggX5_ofCell_X6_get : GoodIn wsX5_ofCell wsX6_get := goodIn_r _ [6, 7, 8, 17, 18] rfl rfl
set_option maxRecDepth 100000 in
theorem gX5_ofCell_X6_get : GoodIn wsX5_ofCell (wsV RX5 54 RX6 yX6_get wsX6_get) := goodIn_app (goodIn_r _ [2, 3, 4, 5] rfl rfl) ggX5_ofCell_X6_get
theorem dX5_ofCell_0 : decode cX5_ofCell 0 = .ok (.aload_n 0, 1) := by decide +kernel
theorem dX5_ofCell_1 : decode cX5_ofCell 1 = .ok (.getfield 23, 3) := by decide +kernel
theorem dX5_ofCell_4 : decode cX5_ofCell 4 = .ok (.iload_n 1, 1) := by decide +kernel
theorem dX5_ofCell_5 : decode cX5_ofCell 5 = .ok (.iconst 3, 1) := by decide +kernel
theorem dX5_ofCell_6 : decode cX5_ofCell 6 = .ok (.imul, 1) := by decide +kernel
theorem dX5_ofCell_7 : decode cX5_ofCell 7 = .ok (.iload_n 2, 1) := by decide +kernel
theorem dX5_ofCell_8 : decode cX5_ofCell 8 = .ok (.iadd, 1) := by decide +kernel
theorem dX5_ofCell_9 : decode cX5_ofCell 9 = .ok (.iload_n 3, 1) := by decide +kernel
theorem dX5_ofCell_10 : decode cX5_ofCell 10 = .ok (.invokevirtual 54, 3) := by decide +kernel
theorem dX5_ofCell_13 : decode cX5_ofCell 13 = .ok (.ireturn, 1) := by decide +kernel
set_option maxRecDepth 100000 in
theorem ggX5_wantedIn_X6_get : GoodIn wsX5_wantedIn wsX6_get := goodIn_r _ [6, 7, 8, 17, 18] rfl rfl
set_option maxRecDepth 100000 in
theorem gX5_wantedIn_X6_get : GoodIn wsX5_wantedIn (wsV RX5 54 RX6 yX6_get wsX6_get) := goodIn_app (goodIn_r _ [2, 3, 4, 5] rfl rfl) ggX5_wantedIn_X6_get
theorem dX5_wantedIn_0 : decode cX5_wantedIn 0 = .ok (.iload_n 1, 1) := by decide +kernel
theorem dX5_wantedIn_1 : decode cX5_wantedIn 1 = .ok (.iconst 3, 1) := by decide +kernel
theorem dX5_wantedIn_2 : decode cX5_wantedIn 2 = .ok (.imul, 1) := by decide +kernel
theorem dX5_wantedIn_3 : decode cX5_wantedIn 3 = .ok (.iload_n 2, 1) := by decide +kernel
theorem dX5_wantedIn_4 : decode cX5_wantedIn 4 = .ok (.iadd, 1) := by decide +kernel
theorem dX5_wantedIn_5 : decode cX5_wantedIn 5 = .ok (.istore_n 3, 1) := by decide +kernel
theorem dX5_wantedIn_6 : decode cX5_wantedIn 6 = .ok (.aload_n 0, 1) := by decide +kernel
theorem dX5_wantedIn_7 : decode cX5_wantedIn 7 = .ok (.getfield 23, 3) := by decide +kernel
theorem dX5_wantedIn_10 : decode cX5_wantedIn 10 = .ok (.iload_n 3, 1) := by decide +kernel
theorem dX5_wantedIn_11 : decode cX5_wantedIn 11 = .ok (.iconst 0, 1) := by decide +kernel
theorem dX5_wantedIn_12 : decode cX5_wantedIn 12 = .ok (.invokevirtual 54, 3) := by decide +kernel
theorem dX5_wantedIn_15 : decode cX5_wantedIn 15 = .ok (.aload_n 0, 1) := by decide +kernel
theorem dX5_wantedIn_16 : decode cX5_wantedIn 16 = .ok (.getfield 23, 3) := by decide +kernel
theorem dX5_wantedIn_19 : decode cX5_wantedIn 19 = .ok (.iload_n 3, 1) := by decide +kernel
theorem dX5_wantedIn_20 : decode cX5_wantedIn 20 = .ok (.iconst 1, 1) := by decide +kernel
theorem dX5_wantedIn_21 : decode cX5_wantedIn 21 = .ok (.invokevirtual 54, 3) := by decide +kernel
theorem dX5_wantedIn_24 : decode cX5_wantedIn 24 = .ok (.isub, 1) := by decide +kernel
theorem dX5_wantedIn_25 : decode cX5_wantedIn 25 = .ok (.istore 4, 2) := by decide +kernel
theorem dX5_wantedIn_27 : decode cX5_wantedIn 27 = .ok (.iload 4, 2) := by decide +kernel
theorem dX5_wantedIn_29 : decode cX5_wantedIn 29 = .ok (.ifCond .le 8, 3) := by decide +kernel
theorem dX5_wantedIn_32 : decode cX5_wantedIn 32 = .ok (.iload 4, 2) := by decide +kernel
theorem dX5_wantedIn_34 : decode cX5_wantedIn 34 = .ok (.goto 4, 3) := by decide +kernel
theorem dX5_wantedIn_37 : decode cX5_wantedIn 37 = .ok (.iconst 0, 1) := by decide +kernel
theorem dX5_wantedIn_38 : decode cX5_wantedIn 38 = .ok (.ireturn, 1) := by decide +kernel
set_option maxRecDepth 100000 in
theorem ggX5_isOpen_X6_get : GoodIn wsX5_isOpen wsX6_get := goodIn_r _ [6, 7, 8, 17, 18] rfl rfl
set_option maxRecDepth 100000 in
theorem gX5_isOpen_X6_get : GoodIn wsX5_isOpen (wsV RX5 54 RX6 yX6_get wsX6_get) := goodIn_app (goodIn_r _ [2, 3, 4, 5] rfl rfl) ggX5_isOpen_X6_get
theorem dX5_isOpen_0 : decode cX5_isOpen 0 = .ok (.aload_n 0, 1) := by decide +kernel
theorem dX5_isOpen_1 : decode cX5_isOpen 1 = .ok (.getfield 14, 3) := by decide +kernel
theorem dX5_isOpen_4 : decode cX5_isOpen 4 = .ok (.iload_n 1, 1) := by decide +kernel
theorem dX5_isOpen_5 : decode cX5_isOpen 5 = .ok (.iconst 1, 1) := by decide +kernel
theorem dX5_isOpen_6 : decode cX5_isOpen 6 = .ok (.invokevirtual 54, 3) := by decide +kernel
theorem dX5_isOpen_9 : decode cX5_isOpen 9 = .ok (.ifCond .ne 7, 3) := by decide +kernel
theorem dX5_isOpen_12 : decode cX5_isOpen 12 = .ok (.iconst 1, 1) := by decide +kernel
theorem dX5_isOpen_13 : decode cX5_isOpen 13 = .ok (.goto 4, 3) := by decide +kernel
theorem dX5_isOpen_16 : decode cX5_isOpen 16 = .ok (.iconst 0, 1) := by decide +kernel
theorem dX5_isOpen_17 : decode cX5_isOpen 17 = .ok (.ireturn, 1) := by decide +kernel
set_option maxRecDepth 100000 in
theorem ggX5_hasMeeting_X6_get : GoodIn wsX5_hasMeeting wsX6_get := goodIn_r _ [6, 7, 8, 17, 18] rfl rfl
set_option maxRecDepth 100000 in
theorem gX5_hasMeeting_X6_get : GoodIn wsX5_hasMeeting (wsV RX5 54 RX6 yX6_get wsX6_get) := goodIn_app (goodIn_r _ [2, 3, 4, 5] rfl rfl) ggX5_hasMeeting_X6_get
theorem dX5_hasMeeting_0 : decode cX5_hasMeeting 0 = .ok (.aload_n 0, 1) := by decide +kernel
theorem dX5_hasMeeting_1 : decode cX5_hasMeeting 1 = .ok (.getfield 14, 3) := by decide +kernel
theorem dX5_hasMeeting_4 : decode cX5_hasMeeting 4 = .ok (.iload_n 1, 1) := by decide +kernel
theorem dX5_hasMeeting_5 : decode cX5_hasMeeting 5 = .ok (.bipush 6, 2) := by decide +kernel
theorem dX5_hasMeeting_7 : decode cX5_hasMeeting 7 = .ok (.invokevirtual 54, 3) := by decide +kernel
theorem dX5_hasMeeting_10 : decode cX5_hasMeeting 10 = .ok (.bipush (-4), 2) := by decide +kernel
theorem dX5_hasMeeting_12 : decode cX5_hasMeeting 12 = .ok (.if_icmp .eq 7, 3) := by decide +kernel
theorem dX5_hasMeeting_15 : decode cX5_hasMeeting 15 = .ok (.iconst 1, 1) := by decide +kernel
theorem dX5_hasMeeting_16 : decode cX5_hasMeeting 16 = .ok (.goto 4, 3) := by decide +kernel
theorem dX5_hasMeeting_19 : decode cX5_hasMeeting 19 = .ok (.iconst 0, 1) := by decide +kernel
theorem dX5_hasMeeting_20 : decode cX5_hasMeeting 20 = .ok (.ireturn, 1) := by decide +kernel
set_option maxRecDepth 100000 in
theorem ggX5_isMeetingOver_X6_get : GoodIn wsX5_isMeetingOver wsX6_get := goodIn_r _ [7, 8, 9, 18, 19] rfl rfl
set_option maxRecDepth 100000 in
theorem gX5_isMeetingOver_X6_get : GoodIn wsX5_isMeetingOver (wsV RX5 54 RX6 yX6_get wsX6_get) := goodIn_app (goodIn_r _ [3, 4, 5, 6] rfl rfl) ggX5_isMeetingOver_X6_get
theorem dX5_isMeetingOver_0 : decode cX5_isMeetingOver 0 = .ok (.aload_n 0, 1) := by decide +kernel
theorem dX5_isMeetingOver_1 : decode cX5_isMeetingOver 1 = .ok (.getfield 14, 3) := by decide +kernel
theorem dX5_isMeetingOver_4 : decode cX5_isMeetingOver 4 = .ok (.iload_n 1, 1) := by decide +kernel
theorem dX5_isMeetingOver_5 : decode cX5_isMeetingOver 5 = .ok (.bipush 6, 2) := by decide +kernel
theorem dX5_isMeetingOver_7 : decode cX5_isMeetingOver 7 = .ok (.invokevirtual 54, 3) := by decide +kernel
theorem dX5_isMeetingOver_10 : decode cX5_isMeetingOver 10 = .ok (.istore_n 2, 1) := by decide +kernel
theorem dX5_isMeetingOver_11 : decode cX5_isMeetingOver 11 = .ok (.iload_n 2, 1) := by decide +kernel
theorem dX5_isMeetingOver_12 : decode cX5_isMeetingOver 12 = .ok (.bipush (-4), 2) := by decide +kernel
theorem dX5_isMeetingOver_14 : decode cX5_isMeetingOver 14 = .ok (.if_icmp .eq 15, 3) := by decide +kernel
theorem dX5_isMeetingOver_17 : decode cX5_isMeetingOver 17 = .ok (.iload_n 2, 1) := by decide +kernel
theorem dX5_isMeetingOver_18 : decode cX5_isMeetingOver 18 = .ok (.aload_n 0, 1) := by decide +kernel
theorem dX5_isMeetingOver_19 : decode cX5_isMeetingOver 19 = .ok (.getfield 47, 3) := by decide +kernel
theorem dX5_isMeetingOver_22 : decode cX5_isMeetingOver 22 = .ok (.if_icmp .ge 7, 3) := by decide +kernel
theorem dX5_isMeetingOver_25 : decode cX5_isMeetingOver 25 = .ok (.iconst 1, 1) := by decide +kernel
theorem dX5_isMeetingOver_26 : decode cX5_isMeetingOver 26 = .ok (.goto 4, 3) := by decide +kernel
theorem dX5_isMeetingOver_29 : decode cX5_isMeetingOver 29 = .ok (.iconst 0, 1) := by decide +kernel
theorem dX5_isMeetingOver_30 : decode cX5_isMeetingOver 30 = .ok (.ireturn, 1) := by decide +kernel
set_option maxRecDepth 100000 in
theorem ggX5_isPossible_X6_get : GoodIn wsX5_isPossible wsX6_get := goodIn_r _ [6, 7, 8, 29, 30] rfl rfl
set_option maxRecDepth 100000 in
theorem gX5_isPossible_X6_get : GoodIn wsX5_isPossible (wsV RX5 54 RX6 yX6_get wsX6_get) := goodIn_app (goodIn_r _ [2, 3, 4, 5] rfl rfl) ggX5_isPossible_X6_get
set_option maxRecDepth 100000 in
theorem ggX5_isPossible_X5_isOpen : GoodIn wsX5_isPossible wsX5_isOpen := goodIn_r _ [13, 14, 2, 3, 4, 5, 6, 7, 8, 21, 22, 23, 24, 25, 26, 27, 28, 29, 30] rfl rfl
set_option maxRecDepth 100000 in
theorem gX5_isPossible_X5_isOpen : GoodIn wsX5_isPossible (wsV RX5 58 RX5 yX5_isOpen wsX5_isOpen) := goodIn_app (goodIn_r _ [9, 10, 11, 12] rfl rfl) ggX5_isPossible_X5_isOpen
set_option maxRecDepth 100000 in
theorem ggX5_isPossible_X5_isTimely : GoodIn wsX5_isPossible wsX5_isTimely := goodIn_r _ [18, 14, 19, 20, 2, 3, 4, 5, 6, 7, 8, 21, 22, 23, 24, 25, 26, 27, 28, 29, 30] rfl rfl
set_option maxRecDepth 100000 in
theorem gX5_isPossible_X5_isTimely : GoodIn wsX5_isPossible (wsV RX5 62 RX5 yX5_isTimely wsX5_isTimely) := goodIn_app (goodIn_r _ [15, 16, 17, 12] rfl rfl) ggX5_isPossible_X5_isTimely
theorem dX5_isPossible_0 : decode cX5_isPossible 0 = .ok (.aload_n 0, 1) := by decide +kernel
theorem dX5_isPossible_1 : decode cX5_isPossible 1 = .ok (.getfield 20, 3) := by decide +kernel
theorem dX5_isPossible_4 : decode cX5_isPossible 4 = .ok (.iload_n 1, 1) := by decide +kernel
theorem dX5_isPossible_5 : decode cX5_isPossible 5 = .ok (.iconst 2, 1) := by decide +kernel
theorem dX5_isPossible_6 : decode cX5_isPossible 6 = .ok (.invokevirtual 54, 3) := by decide +kernel
theorem dX5_isPossible_9 : decode cX5_isPossible 9 = .ok (.istore 4, 2) := by decide +kernel
theorem dX5_isPossible_11 : decode cX5_isPossible 11 = .ok (.aload_n 0, 1) := by decide +kernel
theorem dX5_isPossible_12 : decode cX5_isPossible 12 = .ok (.iload_n 2, 1) := by decide +kernel
theorem dX5_isPossible_13 : decode cX5_isPossible 13 = .ok (.invokevirtual 58, 3) := by decide +kernel
theorem dX5_isPossible_16 : decode cX5_isPossible 16 = .ok (.ifCond .eq 30, 3) := by decide +kernel
theorem dX5_isPossible_19 : decode cX5_isPossible 19 = .ok (.iload 4, 2) := by decide +kernel
theorem dX5_isPossible_21 : decode cX5_isPossible 21 = .ok (.aload_n 0, 1) := by decide +kernel
theorem dX5_isPossible_22 : decode cX5_isPossible 22 = .ok (.getfield 20, 3) := by decide +kernel
theorem dX5_isPossible_25 : decode cX5_isPossible 25 = .ok (.iload_n 1, 1) := by decide +kernel
theorem dX5_isPossible_26 : decode cX5_isPossible 26 = .ok (.iconst 1, 1) := by decide +kernel
theorem dX5_isPossible_27 : decode cX5_isPossible 27 = .ok (.invokevirtual 54, 3) := by decide +kernel
theorem dX5_isPossible_30 : decode cX5_isPossible 30 = .ok (.if_icmp .ge 16, 3) := by decide +kernel
theorem dX5_isPossible_33 : decode cX5_isPossible 33 = .ok (.aload_n 0, 1) := by decide +kernel
theorem dX5_isPossible_34 : decode cX5_isPossible 34 = .ok (.iload_n 2, 1) := by decide +kernel
theorem dX5_isPossible_35 : decode cX5_isPossible 35 = .ok (.iload_n 3, 1) := by decide +kernel
theorem dX5_isPossible_36 : decode cX5_isPossible 36 = .ok (.invokevirtual 62, 3) := by decide +kernel
theorem dX5_isPossible_39 : decode cX5_isPossible 39 = .ok (.ifCond .eq 7, 3) := by decide +kernel
theorem dX5_isPossible_42 : decode cX5_isPossible 42 = .ok (.iconst 1, 1) := by decide +kernel
theorem dX5_isPossible_43 : decode cX5_isPossible 43 = .ok (.goto 4, 3) := by decide +kernel
theorem dX5_isPossible_46 : decode cX5_isPossible 46 = .ok (.iconst 0, 1) := by decide +kernel
theorem dX5_isPossible_47 : decode cX5_isPossible 47 = .ok (.ireturn, 1) := by decide +kernel
set_option maxRecDepth 100000 in
theorem ggX5_addAddress_X8_isWithin : GoodIn wsX5_addAddress wsX8_isWithin := goodIn_r _ [5] rfl rfl
set_option maxRecDepth 100000 in
theorem gX5_addAddress_X8_isWithin_n50 : GoodIn wsX5_addAddress (wsX8_isWithin) := ggX5_addAddress_X8_isWithin
set_option maxRecDepth 100000 in
theorem ggX5_addAddress_X6_put : GoodIn wsX5_addAddress wsX6_put := goodIn_r _ [10, 11, 12, 21, 22] rfl rfl
set_option maxRecDepth 100000 in
theorem gX5_addAddress_X6_put : GoodIn wsX5_addAddress (wsV RX5 33 RX6 yX6_put wsX6_put) := goodIn_app (goodIn_r _ [6, 7, 8, 9] rfl rfl) ggX5_addAddress_X6_put
theorem dX5_addAddress_0 : decode cX5_addAddress 0 = .ok (.iload_n 1, 1) := by decide +kernel
theorem dX5_addAddress_1 : decode cX5_addAddress 1 = .ok (.iconst 0, 1) := by decide +kernel
theorem dX5_addAddress_2 : decode cX5_addAddress 2 = .ok (.iconst 3, 1) := by decide +kernel
theorem dX5_addAddress_3 : decode cX5_addAddress 3 = .ok (.invokestatic 50, 3) := by decide +kernel
theorem dX5_addAddress_6 : decode cX5_addAddress 6 = .ok (.ifCond .ne 5, 3) := by decide +kernel
theorem dX5_addAddress_9 : decode cX5_addAddress 9 = .ok (.iconst (-1), 1) := by decide +kernel
theorem dX5_addAddress_10 : decode cX5_addAddress 10 = .ok (.ireturn, 1) := by decide +kernel
theorem dX5_addAddress_11 : decode cX5_addAddress 11 = .ok (.aload_n 0, 1) := by decide +kernel
theorem dX5_addAddress_12 : decode cX5_addAddress 12 = .ok (.getfield 41, 3) := by decide +kernel
theorem dX5_addAddress_15 : decode cX5_addAddress 15 = .ok (.bipush 24, 2) := by decide +kernel
theorem dX5_addAddress_17 : decode cX5_addAddress 17 = .ok (.if_icmp .lt 6, 3) := by decide +kernel
theorem dX5_addAddress_20 : decode cX5_addAddress 20 = .ok (.bipush (-3), 2) := by decide +kernel
theorem dX5_addAddress_22 : decode cX5_addAddress 22 = .ok (.ireturn, 1) := by decide +kernel
theorem dX5_addAddress_23 : decode cX5_addAddress 23 = .ok (.aload_n 0, 1) := by decide +kernel
theorem dX5_addAddress_24 : decode cX5_addAddress 24 = .ok (.getfield 41, 3) := by decide +kernel
theorem dX5_addAddress_27 : decode cX5_addAddress 27 = .ok (.istore_n 2, 1) := by decide +kernel
theorem dX5_addAddress_28 : decode cX5_addAddress 28 = .ok (.aload_n 0, 1) := by decide +kernel
theorem dX5_addAddress_29 : decode cX5_addAddress 29 = .ok (.dup, 1) := by decide +kernel
theorem dX5_addAddress_30 : decode cX5_addAddress 30 = .ok (.getfield 41, 3) := by decide +kernel
theorem dX5_addAddress_33 : decode cX5_addAddress 33 = .ok (.iconst 1, 1) := by decide +kernel
theorem dX5_addAddress_34 : decode cX5_addAddress 34 = .ok (.iadd, 1) := by decide +kernel
theorem dX5_addAddress_35 : decode cX5_addAddress 35 = .ok (.putfield 41, 3) := by decide +kernel
theorem dX5_addAddress_38 : decode cX5_addAddress 38 = .ok (.aload_n 0, 1) := by decide +kernel
theorem dX5_addAddress_39 : decode cX5_addAddress 39 = .ok (.getfield 14, 3) := by decide +kernel
theorem dX5_addAddress_42 : decode cX5_addAddress 42 = .ok (.iload_n 2, 1) := by decide +kernel
theorem dX5_addAddress_43 : decode cX5_addAddress 43 = .ok (.iconst 0, 1) := by decide +kernel
theorem dX5_addAddress_44 : decode cX5_addAddress 44 = .ok (.iload_n 1, 1) := by decide +kernel
theorem dX5_addAddress_45 : decode cX5_addAddress 45 = .ok (.invokevirtual 33, 3) := by decide +kernel
theorem dX5_addAddress_48 : decode cX5_addAddress 48 = .ok (.iconst 4, 1) := by decide +kernel
theorem dX5_addAddress_49 : decode cX5_addAddress 49 = .ok (.istore_n 3, 1) := by decide +kernel
theorem dX5_addAddress_50 : decode cX5_addAddress 50 = .ok (.iload_n 3, 1) := by decide +kernel
theorem dX5_addAddress_51 : decode cX5_addAddress 51 = .ok (.bipush 10, 2) := by decide +kernel
theorem dX5_addAddress_53 : decode cX5_addAddress 53 = .ok (.if_icmp .ge 20, 3) := by decide +kernel
theorem dX5_addAddress_56 : decode cX5_addAddress 56 = .ok (.aload_n 0, 1) := by decide +kernel
theorem dX5_addAddress_57 : decode cX5_addAddress 57 = .ok (.getfield 14, 3) := by decide +kernel
theorem dX5_addAddress_60 : decode cX5_addAddress 60 = .ok (.iload_n 2, 1) := by decide +kernel
theorem dX5_addAddress_61 : decode cX5_addAddress 61 = .ok (.iload_n 3, 1) := by decide +kernel
theorem dX5_addAddress_62 : decode cX5_addAddress 62 = .ok (.bipush (-4), 2) := by decide +kernel
theorem dX5_addAddress_64 : decode cX5_addAddress 64 = .ok (.invokevirtual 33, 3) := by decide +kernel
theorem dX5_addAddress_67 : decode cX5_addAddress 67 = .ok (.iinc 3 1, 3) := by decide +kernel
theorem dX5_addAddress_70 : decode cX5_addAddress 70 = .ok (.goto (-20), 3) := by decide +kernel
theorem dX5_addAddress_73 : decode cX5_addAddress 73 = .ok (.iload_n 2, 1) := by decide +kernel
theorem dX5_addAddress_74 : decode cX5_addAddress 74 = .ok (.ireturn, 1) := by decide +kernel
set_option maxRecDepth 100000 in
theorem ggX5_addInterviewer_X8_isWithin : GoodIn wsX5_addInterviewer wsX8_isWithin := goodIn_r _ [5] rfl rfl
set_option maxRecDepth 100000 in
theorem gX5_addInterviewer_X8_isWithin_n50 : GoodIn wsX5_addInterviewer (wsX8_isWithin) := ggX5_addInterviewer_X8_isWithin
set_option maxRecDepth 100000 in
theorem ggX5_addInterviewer_X6_put : GoodIn wsX5_addInterviewer wsX6_put := goodIn_r _ [10, 11, 12, 21, 22] rfl rfl
set_option maxRecDepth 100000 in
theorem gX5_addInterviewer_X6_put : GoodIn wsX5_addInterviewer (wsV RX5 33 RX6 yX6_put wsX6_put) := goodIn_app (goodIn_r _ [6, 7, 8, 9] rfl rfl) ggX5_addInterviewer_X6_put
theorem dX5_addInterviewer_0 : decode cX5_addInterviewer 0 = .ok (.iload_n 1, 1) := by decide +kernel
theorem dX5_addInterviewer_1 : decode cX5_addInterviewer 1 = .ok (.iconst 0, 1) := by decide +kernel
theorem dX5_addInterviewer_2 : decode cX5_addInterviewer 2 = .ok (.iconst 3, 1) := by decide +kernel
theorem dX5_addInterviewer_3 : decode cX5_addInterviewer 3 = .ok (.invokestatic 50, 3) := by decide +kernel
theorem dX5_addInterviewer_6 : decode cX5_addInterviewer 6 = .ok (.ifCond .eq 13, 3) := by decide +kernel
theorem dX5_addInterviewer_9 : decode cX5_addInterviewer 9 = .ok (.iload_n 2, 1) := by decide +kernel
theorem dX5_addInterviewer_10 : decode cX5_addInterviewer 10 = .ok (.iconst 1, 1) := by decide +kernel
theorem dX5_addInterviewer_11 : decode cX5_addInterviewer 11 = .ok (.bipush 9, 2) := by decide +kernel
theorem dX5_addInterviewer_13 : decode cX5_addInterviewer 13 = .ok (.invokestatic 50, 3) := by decide +kernel
theorem dX5_addInterviewer_16 : decode cX5_addInterviewer 16 = .ok (.ifCond .ne 5, 3) := by decide +kernel
theorem dX5_addInterviewer_19 : decode cX5_addInterviewer 19 = .ok (.iconst (-1), 1) := by decide +kernel
theorem dX5_addInterviewer_20 : decode cX5_addInterviewer 20 = .ok (.ireturn, 1) := by decide +kernel
theorem dX5_addInterviewer_21 : decode cX5_addInterviewer 21 = .ok (.aload_n 0, 1) := by decide +kernel
theorem dX5_addInterviewer_22 : decode cX5_addInterviewer 22 = .ok (.getfield 44, 3) := by decide +kernel
theorem dX5_addInterviewer_25 : decode cX5_addInterviewer 25 = .ok (.iconst 5, 1) := by decide +kernel
theorem dX5_addInterviewer_26 : decode cX5_addInterviewer 26 = .ok (.if_icmp .lt 6, 3) := by decide +kernel
theorem dX5_addInterviewer_29 : decode cX5_addInterviewer 29 = .ok (.bipush (-3), 2) := by decide +kernel
theorem dX5_addInterviewer_31 : decode cX5_addInterviewer 31 = .ok (.ireturn, 1) := by decide +kernel
theorem dX5_addInterviewer_32 : decode cX5_addInterviewer 32 = .ok (.aload_n 0, 1) := by decide +kernel
theorem dX5_addInterviewer_33 : decode cX5_addInterviewer 33 = .ok (.getfield 44, 3) := by decide +kernel
theorem dX5_addInterviewer_36 : decode cX5_addInterviewer 36 = .ok (.istore_n 3, 1) := by decide +kernel
theorem dX5_addInterviewer_37 : decode cX5_addInterviewer 37 = .ok (.aload_n 0, 1) := by decide +kernel
theorem dX5_addInterviewer_38 : decode cX5_addInterviewer 38 = .ok (.dup, 1) := by decide +kernel
theorem dX5_addInterviewer_39 : decode cX5_addInterviewer 39 = .ok (.getfield 44, 3) := by decide +kernel
theorem dX5_addInterviewer_42 : decode cX5_addInterviewer 42 = .ok (.iconst 1, 1) := by decide +kernel
theorem dX5_addInterviewer_43 : decode cX5_addInterviewer 43 = .ok (.iadd, 1) := by decide +kernel
theorem dX5_addInterviewer_44 : decode cX5_addInterviewer 44 = .ok (.putfield 44, 3) := by decide +kernel
theorem dX5_addInterviewer_47 : decode cX5_addInterviewer 47 = .ok (.aload_n 0, 1) := by decide +kernel
theorem dX5_addInterviewer_48 : decode cX5_addInterviewer 48 = .ok (.getfield 20, 3) := by decide +kernel
theorem dX5_addInterviewer_51 : decode cX5_addInterviewer 51 = .ok (.iload_n 3, 1) := by decide +kernel
theorem dX5_addInterviewer_52 : decode cX5_addInterviewer 52 = .ok (.iconst 0, 1) := by decide +kernel
theorem dX5_addInterviewer_53 : decode cX5_addInterviewer 53 = .ok (.iload_n 1, 1) := by decide +kernel
theorem dX5_addInterviewer_54 : decode cX5_addInterviewer 54 = .ok (.invokevirtual 33, 3) := by decide +kernel
theorem dX5_addInterviewer_57 : decode cX5_addInterviewer 57 = .ok (.aload_n 0, 1) := by decide +kernel
theorem dX5_addInterviewer_58 : decode cX5_addInterviewer 58 = .ok (.getfield 20, 3) := by decide +kernel
theorem dX5_addInterviewer_61 : decode cX5_addInterviewer 61 = .ok (.iload_n 3, 1) := by decide +kernel
theorem dX5_addInterviewer_62 : decode cX5_addInterviewer 62 = .ok (.iconst 1, 1) := by decide +kernel
theorem dX5_addInterviewer_63 : decode cX5_addInterviewer 63 = .ok (.iload_n 2, 1) := by decide +kernel
theorem dX5_addInterviewer_64 : decode cX5_addInterviewer 64 = .ok (.invokevirtual 33, 3) := by decide +kernel
theorem dX5_addInterviewer_67 : decode cX5_addInterviewer 67 = .ok (.iload_n 3, 1) := by decide +kernel
theorem dX5_addInterviewer_68 : decode cX5_addInterviewer 68 = .ok (.ireturn, 1) := by decide +kernel
set_option maxRecDepth 100000 in
theorem ggX5_changeQuota_X8_isCell : GoodIn wsX5_changeQuota wsX8_isCell := goodIn_r _ [3, 4, 5, 2, 6] rfl rfl
set_option maxRecDepth 100000 in
theorem gX5_changeQuota_X8_isCell_n66 : GoodIn wsX5_changeQuota (wsX8_isCell) := ggX5_changeQuota_X8_isCell
set_option maxRecDepth 100000 in
theorem ggX5_changeQuota_X8_isWithin : GoodIn wsX5_changeQuota wsX8_isWithin := goodIn_r _ [6] rfl rfl
set_option maxRecDepth 100000 in
theorem gX5_changeQuota_X8_isWithin_n50 : GoodIn wsX5_changeQuota (wsX8_isWithin) := ggX5_changeQuota_X8_isWithin
set_option maxRecDepth 100000 in
theorem ggX5_changeQuota_X5_changeCell : GoodIn wsX5_changeQuota wsX5_changeCell := goodIn_r _ [11, 12, 13, 14, 15, 16, 17, 18, 19, 20, 21, 22, 23, 24, 25, 26, 27, 28, 29, 30, 31, 32, 33] rfl rfl
set_option maxRecDepth 100000 in
theorem gX5_changeQuota_X5_changeCell : GoodIn wsX5_changeQuota (wsV RX5 69 RX5 yX5_changeCell wsX5_changeCell) := goodIn_app (goodIn_r _ [7, 8, 9, 10] rfl rfl) ggX5_changeQuota_X5_changeCell
theorem dX5_changeQuota_0 : decode cX5_changeQuota 0 = .ok (.iload_n 1, 1) := by decide +kernel
theorem dX5_changeQuota_1 : decode cX5_changeQuota 1 = .ok (.iload_n 2, 1) := by decide +kernel
theorem dX5_changeQuota_2 : decode cX5_changeQuota 2 = .ok (.invokestatic 66, 3) := by decide +kernel
theorem dX5_changeQuota_5 : decode cX5_changeQuota 5 = .ok (.ifCond .eq 13, 3) := by decide +kernel
theorem dX5_changeQuota_8 : decode cX5_changeQuota 8 = .ok (.iload_n 3, 1) := by decide +kernel
theorem dX5_changeQuota_9 : decode cX5_changeQuota 9 = .ok (.iconst 0, 1) := by decide +kernel
theorem dX5_changeQuota_10 : decode cX5_changeQuota 10 = .ok (.bipush 20, 2) := by decide +kernel
theorem dX5_changeQuota_12 : decode cX5_changeQuota 12 = .ok (.invokestatic 50, 3) := by decide +kernel
theorem dX5_changeQuota_15 : decode cX5_changeQuota 15 = .ok (.ifCond .ne 5, 3) := by decide +kernel
theorem dX5_changeQuota_18 : decode cX5_changeQuota 18 = .ok (.iconst (-1), 1) := by decide +kernel
theorem dX5_changeQuota_19 : decode cX5_changeQuota 19 = .ok (.ireturn, 1) := by decide +kernel
theorem dX5_changeQuota_20 : decode cX5_changeQuota 20 = .ok (.aload_n 0, 1) := by decide +kernel
theorem dX5_changeQuota_21 : decode cX5_changeQuota 21 = .ok (.iload_n 1, 1) := by decide +kernel
theorem dX5_changeQuota_22 : decode cX5_changeQuota 22 = .ok (.iload_n 2, 1) := by decide +kernel
theorem dX5_changeQuota_23 : decode cX5_changeQuota 23 = .ok (.iconst 0, 1) := by decide +kernel
theorem dX5_changeQuota_24 : decode cX5_changeQuota 24 = .ok (.iload_n 3, 1) := by decide +kernel
theorem dX5_changeQuota_25 : decode cX5_changeQuota 25 = .ok (.invokevirtual 69, 3) := by decide +kernel
theorem dX5_changeQuota_28 : decode cX5_changeQuota 28 = .ok (.ireturn, 1) := by decide +kernel
set_option maxRecDepth 100000 in
theorem ggX5_changePopulation_X8_isCell : GoodIn wsX5_changePopulation wsX8_isCell := goodIn_r _ [3, 4, 5, 2, 6] rfl rfl
set_option maxRecDepth 100000 in
theorem gX5_changePopulation_X8_isCell_n66 : GoodIn wsX5_changePopulation (wsX8_isCell) := ggX5_changePopulation_X8_isCell
set_option maxRecDepth 100000 in
theorem ggX5_changePopulation_X8_isWithin : GoodIn wsX5_changePopulation wsX8_isWithin := goodIn_r _ [6] rfl rfl
set_option maxRecDepth 100000 in
theorem gX5_changePopulation_X8_isWithin_n50 : GoodIn wsX5_changePopulation (wsX8_isWithin) := ggX5_changePopulation_X8_isWithin
set_option maxRecDepth 100000 in
theorem ggX5_changePopulation_X5_changeCell : GoodIn wsX5_changePopulation wsX5_changeCell := goodIn_r _ [11, 12, 13, 14, 15, 16, 17, 18, 19, 20, 21, 22, 23, 24, 25, 26, 27, 28, 29, 30, 31, 32, 33] rfl rfl
set_option maxRecDepth 100000 in
theorem gX5_changePopulation_X5_changeCell : GoodIn wsX5_changePopulation (wsV RX5 69 RX5 yX5_changeCell wsX5_changeCell) := goodIn_app (goodIn_r _ [7, 8, 9, 10] rfl rfl) ggX5_changePopulation_X5_changeCell
theorem dX5_changePopulation_0 : decode cX5_changePopulation 0 = .ok (.iload_n 1, 1) := by decide +kernel
theorem dX5_changePopulation_1 : decode cX5_changePopulation 1 = .ok (.iload_n 2, 1) := by decide +kernel
theorem dX5_changePopulation_2 : decode cX5_changePopulation 2 = .ok (.invokestatic 66, 3) := by decide +kernel
theorem dX5_changePopulation_5 : decode cX5_changePopulation 5 = .ok (.ifCond .eq 14, 3) := by decide +kernel
theorem dX5_changePopulation_8 : decode cX5_changePopulation 8 = .ok (.iload_n 3, 1) := by decide +kernel
theorem dX5_changePopulation_9 : decode cX5_changePopulation 9 = .ok (.iconst 0, 1) := by decide +kernel
theorem dX5_changePopulation_10 : decode cX5_changePopulation 10 = .ok (.sipush 9999, 3) := by decide +kernel
theorem dX5_changePopulation_13 : decode cX5_changePopulation 13 = .ok (.invokestatic 50, 3) := by decide +kernel
theorem dX5_changePopulation_16 : decode cX5_changePopulation 16 = .ok (.ifCond .ne 5, 3) := by decide +kernel
theorem dX5_changePopulation_19 : decode cX5_changePopulation 19 = .ok (.iconst (-1), 1) := by decide +kernel
theorem dX5_changePopulation_20 : decode cX5_changePopulation 20 = .ok (.ireturn, 1) := by decide +kernel
theorem dX5_changePopulation_21 : decode cX5_changePopulation 21 = .ok (.aload_n 0, 1) := by decide +kernel
theorem dX5_changePopulation_22 : decode cX5_changePopulation 22 = .ok (.iload_n 1, 1) := by decide +kernel
theorem dX5_changePopulation_23 : decode cX5_changePopulation 23 = .ok (.iload_n 2, 1) := by decide +kernel
theorem dX5_changePopulation_24 : decode cX5_changePopulation 24 = .ok (.iconst 2, 1) := by decide +kernel
theorem dX5_changePopulation_25 : decode cX5_changePopulation 25 = .ok (.iload_n 3, 1) := by decide +kernel
theorem dX5_changePopulation_26 : decode cX5_changePopulation 26 = .ok (.invokevirtual 69, 3) := by decide +kernel
theorem dX5_changePopulation_29 : decode cX5_changePopulation 29 = .ok (.ireturn, 1) := by decide +kernel
set_option maxRecDepth 100000 in
theorem ggX5_changeSetting_X8_isWithin : GoodIn wsX5_changeSetting wsX8_isWithin := goodIn_r _ [5] rfl rfl
set_option maxRecDepth 100000 in
theorem gX5_changeSetting_X8_isWithin_n50 : GoodIn wsX5_changeSetting (wsX8_isWithin) := ggX5_changeSetting_X8_isWithin
theorem dX5_changeSetting_0 : decode cX5_changeSetting 0 = .ok (.iload_n 1, 1) := by decide +kernel
theorem dX5_changeSetting_1 : decode cX5_changeSetting 1 = .ok (.ifCond .ne 25, 3) := by decide +kernel
theorem dX5_changeSetting_4 : decode cX5_changeSetting 4 = .ok (.iload_n 2, 1) := by decide +kernel
theorem dX5_changeSetting_5 : decode cX5_changeSetting 5 = .ok (.iconst 1, 1) := by decide +kernel
theorem dX5_changeSetting_6 : decode cX5_changeSetting 6 = .ok (.bipush 9, 2) := by decide +kernel
theorem dX5_changeSetting_8 : decode cX5_changeSetting 8 = .ok (.invokestatic 50, 3) := by decide +kernel
theorem dX5_changeSetting_11 : decode cX5_changeSetting 11 = .ok (.ifCond .eq 15, 3) := by decide +kernel
theorem dX5_changeSetting_14 : decode cX5_changeSetting 14 = .ok (.aload_n 0, 1) := by decide +kernel
theorem dX5_changeSetting_15 : decode cX5_changeSetting 15 = .ok (.getfield 26, 3) := by decide +kernel
theorem dX5_changeSetting_18 : decode cX5_changeSetting 18 = .ok (.istore_n 3, 1) := by decide +kernel
theorem dX5_changeSetting_19 : decode cX5_changeSetting 19 = .ok (.aload_n 0, 1) := by decide +kernel
theorem dX5_changeSetting_20 : decode cX5_changeSetting 20 = .ok (.iload_n 2, 1) := by decide +kernel
theorem dX5_changeSetting_21 : decode cX5_changeSetting 21 = .ok (.putfield 26, 3) := by decide +kernel
theorem dX5_changeSetting_24 : decode cX5_changeSetting 24 = .ok (.iload_n 3, 1) := by decide +kernel
theorem dX5_changeSetting_25 : decode cX5_changeSetting 25 = .ok (.ireturn, 1) := by decide +kernel
theorem dX5_changeSetting_26 : decode cX5_changeSetting 26 = .ok (.iload_n 1, 1) := by decide +kernel
theorem dX5_changeSetting_27 : decode cX5_changeSetting 27 = .ok (.iconst 1, 1) := by decide +kernel
theorem dX5_changeSetting_28 : decode cX5_changeSetting 28 = .ok (.if_icmp .ne 25, 3) := by decide +kernel
theorem dX5_changeSetting_31 : decode cX5_changeSetting 31 = .ok (.iload_n 2, 1) := by decide +kernel
theorem dX5_changeSetting_32 : decode cX5_changeSetting 32 = .ok (.iconst 0, 1) := by decide +kernel
theorem dX5_changeSetting_33 : decode cX5_changeSetting 33 = .ok (.bipush 9, 2) := by decide +kernel
theorem dX5_changeSetting_35 : decode cX5_changeSetting 35 = .ok (.invokestatic 50, 3) := by decide +kernel
theorem dX5_changeSetting_38 : decode cX5_changeSetting 38 = .ok (.ifCond .eq 15, 3) := by decide +kernel
theorem dX5_changeSetting_41 : decode cX5_changeSetting 41 = .ok (.aload_n 0, 1) := by decide +kernel
theorem dX5_changeSetting_42 : decode cX5_changeSetting 42 = .ok (.getfield 30, 3) := by decide +kernel
theorem dX5_changeSetting_45 : decode cX5_changeSetting 45 = .ok (.istore_n 3, 1) := by decide +kernel
theorem dX5_changeSetting_46 : decode cX5_changeSetting 46 = .ok (.aload_n 0, 1) := by decide +kernel
theorem dX5_changeSetting_47 : decode cX5_changeSetting 47 = .ok (.iload_n 2, 1) := by decide +kernel
theorem dX5_changeSetting_48 : decode cX5_changeSetting 48 = .ok (.putfield 30, 3) := by decide +kernel
theorem dX5_changeSetting_51 : decode cX5_changeSetting 51 = .ok (.iload_n 3, 1) := by decide +kernel
theorem dX5_changeSetting_52 : decode cX5_changeSetting 52 = .ok (.ireturn, 1) := by decide +kernel
theorem dX5_changeSetting_53 : decode cX5_changeSetting 53 = .ok (.iconst (-1), 1) := by decide +kernel
theorem dX5_changeSetting_54 : decode cX5_changeSetting 54 = .ok (.ireturn, 1) := by decide +kernel
set_option maxRecDepth 100000 in
theorem ggX5_passDays_X8_isWithin : GoodIn wsX5_passDays wsX8_isWithin := goodIn_r _ [6] rfl rfl
set_option maxRecDepth 100000 in
theorem gX5_passDays_X8_isWithin_n50 : GoodIn wsX5_passDays (wsX8_isWithin) := ggX5_passDays_X8_isWithin
set_option maxRecDepth 100000 in
theorem ggX5_passDays_X6_put : GoodIn wsX5_passDays wsX6_put := goodIn_r _ [11, 12, 13, 22, 23] rfl rfl
set_option maxRecDepth 100000 in
theorem gX5_passDays_X6_put : GoodIn wsX5_passDays (wsV RX5 33 RX6 yX6_put wsX6_put) := goodIn_app (goodIn_r _ [7, 8, 9, 10] rfl rfl) ggX5_passDays_X6_put
theorem dX5_passDays_0 : decode cX5_passDays 0 = .ok (.iload_n 1, 1) := by decide +kernel
theorem dX5_passDays_1 : decode cX5_passDays 1 = .ok (.iconst 1, 1) := by decide +kernel
theorem dX5_passDays_2 : decode cX5_passDays 2 = .ok (.bipush 99, 2) := by decide +kernel
theorem dX5_passDays_4 : decode cX5_passDays 4 = .ok (.invokestatic 50, 3) := by decide +kernel
theorem dX5_passDays_7 : decode cX5_passDays 7 = .ok (.ifCond .ne 5, 3) := by decide +kernel
theorem dX5_passDays_10 : decode cX5_passDays 10 = .ok (.iconst (-1), 1) := by decide +kernel
theorem dX5_passDays_11 : decode cX5_passDays 11 = .ok (.ireturn, 1) := by decide +kernel
theorem dX5_passDays_12 : decode cX5_passDays 12 = .ok (.aload_n 0, 1) := by decide +kernel
theorem dX5_passDays_13 : decode cX5_passDays 13 = .ok (.getfield 47, 3) := by decide +kernel
theorem dX5_passDays_16 : decode cX5_passDays 16 = .ok (.iload_n 1, 1) := by decide +kernel
theorem dX5_passDays_17 : decode cX5_passDays 17 = .ok (.iadd, 1) := by decide +kernel
theorem dX5_passDays_18 : decode cX5_passDays 18 = .ok (.sipush 999, 3) := by decide +kernel
theorem dX5_passDays_21 : decode cX5_passDays 21 = .ok (.if_icmp .le 6, 3) := by decide +kernel
theorem dX5_passDays_24 : decode cX5_passDays 24 = .ok (.bipush (-3), 2) := by decide +kernel
theorem dX5_passDays_26 : decode cX5_passDays 26 = .ok (.ireturn, 1) := by decide +kernel
theorem dX5_passDays_27 : decode cX5_passDays 27 = .ok (.aload_n 0, 1) := by decide +kernel
theorem dX5_passDays_28 : decode cX5_passDays 28 = .ok (.dup, 1) := by decide +kernel
theorem dX5_passDays_29 : decode cX5_passDays 29 = .ok (.getfield 47, 3) := by decide +kernel
theorem dX5_passDays_32 : decode cX5_passDays 32 = .ok (.iload_n 1, 1) := by decide +kernel
theorem dX5_passDays_33 : decode cX5_passDays 33 = .ok (.iadd, 1) := by decide +kernel
theorem dX5_passDays_34 : decode cX5_passDays 34 = .ok (.putfield 47, 3) := by decide +kernel
theorem dX5_passDays_37 : decode cX5_passDays 37 = .ok (.iconst 0, 1) := by decide +kernel
theorem dX5_passDays_38 : decode cX5_passDays 38 = .ok (.istore_n 2, 1) := by decide +kernel
theorem dX5_passDays_39 : decode cX5_passDays 39 = .ok (.iload_n 2, 1) := by decide +kernel
theorem dX5_passDays_40 : decode cX5_passDays 40 = .ok (.aload_n 0, 1) := by decide +kernel
theorem dX5_passDays_41 : decode cX5_passDays 41 = .ok (.getfield 44, 3) := by decide +kernel
theorem dX5_passDays_44 : decode cX5_passDays 44 = .ok (.if_icmp .ge 19, 3) := by decide +kernel
theorem dX5_passDays_47 : decode cX5_passDays 47 = .ok (.aload_n 0, 1) := by decide +kernel
theorem dX5_passDays_48 : decode cX5_passDays 48 = .ok (.getfield 20, 3) := by decide +kernel
theorem dX5_passDays_51 : decode cX5_passDays 51 = .ok (.iload_n 2, 1) := by decide +kernel
theorem dX5_passDays_52 : decode cX5_passDays 52 = .ok (.iconst 2, 1) := by decide +kernel
theorem dX5_passDays_53 : decode cX5_passDays 53 = .ok (.iconst 0, 1) := by decide +kernel
theorem dX5_passDays_54 : decode cX5_passDays 54 = .ok (.invokevirtual 33, 3) := by decide +kernel
theorem dX5_passDays_57 : decode cX5_passDays 57 = .ok (.iinc 2 1, 3) := by decide +kernel
theorem dX5_passDays_60 : decode cX5_passDays 60 = .ok (.goto (-21), 3) := by decide +kernel
theorem dX5_passDays_63 : decode cX5_passDays 63 = .ok (.aload_n 0, 1) := by decide +kernel
theorem dX5_passDays_64 : decode cX5_passDays 64 = .ok (.getfield 47, 3) := by decide +kernel
theorem dX5_passDays_67 : decode cX5_passDays 67 = .ok (.ireturn, 1) := by decide +kernel
set_option maxRecDepth 100000 in
theorem ggX5_makeCall_X5_isCallNamed : GoodIn wsX5_makeCall wsX5_isCallNamed := goodIn_r _ [6, 7, 8, 9, 5, 10, 11, 12, 13, 14, 15, 16, 17, 18, 19, 20, 21, 22, 73, 74, 75, 76, 77, 78, 79, 80] rfl rfl
set_option maxRecDepth 100000 in
theorem gX5_makeCall_X5_isCallNamed : GoodIn wsX5_makeCall (wsV RX5 73 RX5 yX5_isCallNamed wsX5_isCallNamed) := goodIn_app (goodIn_r _ [2, 3, 4, 5] rfl rfl) ggX5_makeCall_X5_isCallNamed
set_option maxRecDepth 100000 in
theorem ggX5_makeCall_X8_isWithin : GoodIn wsX5_makeCall wsX8_isWithin := goodIn_r _ [14] rfl rfl
set_option maxRecDepth 100000 in
theorem gX5_makeCall_X8_isWithin_n50 : GoodIn wsX5_makeCall (wsX8_isWithin) := ggX5_makeCall_X8_isWithin
set_option maxRecDepth 100000 in
theorem ggX5_makeCall_X5_isPossible : GoodIn wsX5_makeCall wsX5_isPossible := goodIn_r _ [26, 27, 28, 29, 30, 31, 32, 33, 34, 35, 36, 37, 5, 38, 1, 39, 40, 41, 42, 43, 44, 73, 74, 75, 76, 77, 78, 79, 80, 81, 82] rfl rfl
set_option maxRecDepth 100000 in
theorem gX5_makeCall_X5_isPossible : GoodIn wsX5_makeCall (wsV RX5 76 RX5 yX5_isPossible wsX5_isPossible) := goodIn_app (goodIn_r _ [23, 24, 25, 5] rfl rfl) ggX5_makeCall_X5_isPossible
set_option maxRecDepth 100000 in
theorem ggX5_makeCall_X5_noteCall : GoodIn wsX5_makeCall wsX5_noteCall := goodIn_r _ [48, 1, 43, 27, 49, 50, 51, 31, 52, 53, 29, 30, 32, 33, 34, 54, 55, 56, 57, 58, 28, 73, 74, 75, 76, 77, 78, 79, 80, 81, 82] rfl rfl
set_option maxRecDepth 100000 in
theorem gX5_makeCall_X5_noteCall : GoodIn wsX5_makeCall (wsV RX5 79 RX5 yX5_noteCall wsX5_noteCall) := goodIn_app (goodIn_r _ [45, 46, 47, 5] rfl rfl) ggX5_makeCall_X5_noteCall
set_option maxRecDepth 100000 in
theorem ggX5_makeCall_X5_noteVain : GoodIn wsX5_makeCall wsX5_noteVain := goodIn_r _ [62, 1, 63, 49, 50, 51, 31, 52, 53, 29, 30, 32, 33, 34, 54, 55, 56, 57, 28, 58, 73, 74, 75, 76, 77, 78, 79, 80, 81, 82] rfl rfl
set_option maxRecDepth 100000 in
theorem gX5_makeCall_X5_noteVain : GoodIn wsX5_makeCall (wsV RX5 82 RX5 yX5_noteVain wsX5_noteVain) := goodIn_app (goodIn_r _ [59, 60, 61, 5] rfl rfl) ggX5_makeCall_X5_noteVain
set_option maxRecDepth 100000 in
theorem ggX5_makeCall_X6_put : GoodIn wsX5_makeCall wsX6_put := goodIn_r _ [57, 33, 34, 81, 82] rfl rfl
set_option maxRecDepth 100000 in
theorem gX5_makeCall_X6_put : GoodIn wsX5_makeCall (wsV RX5 33 RX6 yX6_put wsX6_put) := goodIn_app (goodIn_r _ [58, 55, 56, 31] rfl rfl) ggX5_makeCall_X6_put
set_option maxRecDepth 100000 in
theorem ggX5_makeCall_X5_noteInterview : GoodIn wsX5_makeCall wsX5_noteInterview := goodIn_r _ [67, 1, 27, 68, 28, 29, 30, 31, 32, 33, 34, 69, 70, 71, 5, 72, 58, 55, 56, 57, 49, 50, 51, 52, 53, 54, 73, 74, 75, 76, 77, 78, 79, 80, 81, 82] rfl rfl
set_option maxRecDepth 100000 in
theorem gX5_makeCall_X5_noteInterview : GoodIn wsX5_makeCall (wsV RX5 86 RX5 yX5_noteInterview wsX5_noteInterview) := goodIn_app (goodIn_r _ [64, 65, 66, 5] rfl rfl) ggX5_makeCall_X5_noteInterview
set_option maxRecDepth 100000 in
theorem ggX5_makeCall_X6_get : GoodIn wsX5_makeCall wsX6_get := goodIn_r _ [32, 33, 34, 81, 82] rfl rfl
set_option maxRecDepth 100000 in
theorem gX5_makeCall_X6_get : GoodIn wsX5_makeCall (wsV RX5 54 RX6 yX6_get wsX6_get) := goodIn_app (goodIn_r _ [28, 29, 30, 31] rfl rfl) ggX5_makeCall_X6_get
theorem dX5_makeCall_0 : decode cX5_makeCall 0 = .ok (.aload_n 0, 1) := by decide +kernel
theorem dX5_makeCall_1 : decode cX5_makeCall 1 = .ok (.iload_n 1, 1) := by decide +kernel
theorem dX5_makeCall_2 : decode cX5_makeCall 2 = .ok (.iload_n 2, 1) := by decide +kernel
theorem dX5_makeCall_3 : decode cX5_makeCall 3 = .ok (.iload_n 3, 1) := by decide +kernel
theorem dX5_makeCall_4 : decode cX5_makeCall 4 = .ok (.invokevirtual 73, 3) := by decide +kernel
theorem dX5_makeCall_7 : decode cX5_makeCall 7 = .ok (.ifCond .eq 13, 3) := by decide +kernel
theorem dX5_makeCall_10 : decode cX5_makeCall 10 = .ok (.iload 4, 2) := by decide +kernel
theorem dX5_makeCall_12 : decode cX5_makeCall 12 = .ok (.iconst 0, 1) := by decide +kernel
theorem dX5_makeCall_13 : decode cX5_makeCall 13 = .ok (.iconst 4, 1) := by decide +kernel
theorem dX5_makeCall_14 : decode cX5_makeCall 14 = .ok (.invokestatic 50, 3) := by decide +kernel
theorem dX5_makeCall_17 : decode cX5_makeCall 17 = .ok (.ifCond .ne 5, 3) := by decide +kernel
theorem dX5_makeCall_20 : decode cX5_makeCall 20 = .ok (.iconst (-1), 1) := by decide +kernel
theorem dX5_makeCall_21 : decode cX5_makeCall 21 = .ok (.ireturn, 1) := by decide +kernel
theorem dX5_makeCall_22 : decode cX5_makeCall 22 = .ok (.aload_n 0, 1) := by decide +kernel
theorem dX5_makeCall_23 : decode cX5_makeCall 23 = .ok (.iload_n 1, 1) := by decide +kernel
theorem dX5_makeCall_24 : decode cX5_makeCall 24 = .ok (.iload_n 2, 1) := by decide +kernel
theorem dX5_makeCall_25 : decode cX5_makeCall 25 = .ok (.iload_n 3, 1) := by decide +kernel
theorem dX5_makeCall_26 : decode cX5_makeCall 26 = .ok (.invokevirtual 76, 3) := by decide +kernel
theorem dX5_makeCall_29 : decode cX5_makeCall 29 = .ok (.ifCond .ne 6, 3) := by decide +kernel
theorem dX5_makeCall_32 : decode cX5_makeCall 32 = .ok (.bipush (-2), 2) := by decide +kernel
theorem dX5_makeCall_34 : decode cX5_makeCall 34 = .ok (.ireturn, 1) := by decide +kernel
theorem dX5_makeCall_35 : decode cX5_makeCall 35 = .ok (.aload_n 0, 1) := by decide +kernel
theorem dX5_makeCall_36 : decode cX5_makeCall 36 = .ok (.iload_n 1, 1) := by decide +kernel
theorem dX5_makeCall_37 : decode cX5_makeCall 37 = .ok (.iload_n 2, 1) := by decide +kernel
theorem dX5_makeCall_38 : decode cX5_makeCall 38 = .ok (.iload_n 3, 1) := by decide +kernel
theorem dX5_makeCall_39 : decode cX5_makeCall 39 = .ok (.invokevirtual 79, 3) := by decide +kernel
theorem dX5_makeCall_42 : decode cX5_makeCall 42 = .ok (.iload 4, 2) := by decide +kernel
theorem dX5_makeCall_44 : decode cX5_makeCall 44 = .ok (.ifCond .ne 11, 3) := by decide +kernel
theorem dX5_makeCall_47 : decode cX5_makeCall 47 = .ok (.aload_n 0, 1) := by decide +kernel
theorem dX5_makeCall_48 : decode cX5_makeCall 48 = .ok (.iload_n 2, 1) := by decide +kernel
theorem dX5_makeCall_49 : decode cX5_makeCall 49 = .ok (.invokevirtual 82, 3) := by decide +kernel
theorem dX5_makeCall_52 : decode cX5_makeCall 52 = .ok (.goto 32, 3) := by decide +kernel
theorem dX5_makeCall_55 : decode cX5_makeCall 55 = .ok (.iload 4, 2) := by decide +kernel
theorem dX5_makeCall_57 : decode cX5_makeCall 57 = .ok (.iconst 1, 1) := by decide +kernel
theorem dX5_makeCall_58 : decode cX5_makeCall 58 = .ok (.if_icmp .ne 16, 3) := by decide +kernel
theorem dX5_makeCall_61 : decode cX5_makeCall 61 = .ok (.aload_n 0, 1) := by decide +kernel
theorem dX5_makeCall_62 : decode cX5_makeCall 62 = .ok (.getfield 14, 3) := by decide +kernel
theorem dX5_makeCall_65 : decode cX5_makeCall 65 = .ok (.iload_n 2, 1) := by decide +kernel
theorem dX5_makeCall_66 : decode cX5_makeCall 66 = .ok (.iconst 1, 1) := by decide +kernel
theorem dX5_makeCall_67 : decode cX5_makeCall 67 = .ok (.iconst 2, 1) := by decide +kernel
theorem dX5_makeCall_68 : decode cX5_makeCall 68 = .ok (.invokevirtual 33, 3) := by decide +kernel
theorem dX5_makeCall_71 : decode cX5_makeCall 71 = .ok (.goto 13, 3) := by decide +kernel
theorem dX5_makeCall_74 : decode cX5_makeCall 74 = .ok (.aload_n 0, 1) := by decide +kernel
theorem dX5_makeCall_75 : decode cX5_makeCall 75 = .ok (.iload_n 1, 1) := by decide +kernel
theorem dX5_makeCall_76 : decode cX5_makeCall 76 = .ok (.iload_n 2, 1) := by decide +kernel
theorem dX5_makeCall_77 : decode cX5_makeCall 77 = .ok (.iload 4, 2) := by decide +kernel
theorem dX5_makeCall_79 : decode cX5_makeCall 79 = .ok (.iconst 2, 1) := by decide +kernel
theorem dX5_makeCall_80 : decode cX5_makeCall 80 = .ok (.isub, 1) := by decide +kernel
theorem dX5_makeCall_81 : decode cX5_makeCall 81 = .ok (.invokevirtual 86, 3) := by decide +kernel
theorem dX5_makeCall_84 : decode cX5_makeCall 84 = .ok (.aload_n 0, 1) := by decide +kernel
theorem dX5_makeCall_85 : decode cX5_makeCall 85 = .ok (.getfield 14, 3) := by decide +kernel
theorem dX5_makeCall_88 : decode cX5_makeCall 88 = .ok (.iload_n 2, 1) := by decide +kernel
theorem dX5_makeCall_89 : decode cX5_makeCall 89 = .ok (.iconst 1, 1) := by decide +kernel
theorem dX5_makeCall_90 : decode cX5_makeCall 90 = .ok (.invokevirtual 54, 3) := by decide +kernel
theorem dX5_makeCall_93 : decode cX5_makeCall 93 = .ok (.ireturn, 1) := by decide +kernel
set_option maxRecDepth 100000 in
theorem ggX5_makeMeeting_X5_isCallNamed : GoodIn wsX5_makeMeeting wsX5_isCallNamed := goodIn_r _ [7, 8, 9, 10, 6, 11, 12, 13, 14, 15, 16, 17, 18, 19, 20, 21, 22, 23, 67, 68, 69, 70, 71, 72, 73, 74] rfl rfl
set_option maxRecDepth 100000 in
theorem gX5_makeMeeting_X5_isCallNamed : GoodIn wsX5_makeMeeting (wsV RX5 73 RX5 yX5_isCallNamed wsX5_isCallNamed) := goodIn_app (goodIn_r _ [3, 4, 5, 6] rfl rfl) ggX5_makeMeeting_X5_isCallNamed
set_option maxRecDepth 100000 in
theorem ggX5_makeMeeting_X8_isWithin : GoodIn wsX5_makeMeeting wsX8_isWithin := goodIn_r _ [15] rfl rfl
set_option maxRecDepth 100000 in
theorem gX5_makeMeeting_X8_isWithin_n50 : GoodIn wsX5_makeMeeting (wsX8_isWithin) := ggX5_makeMeeting_X8_isWithin
set_option maxRecDepth 100000 in
theorem ggX5_makeMeeting_X8_isTime : GoodIn wsX5_makeMeeting wsX8_isTime := goodIn_r _ [22, 23, 13, 14, 15] rfl rfl
set_option maxRecDepth 100000 in
theorem gX5_makeMeeting_X8_isTime_n89 : GoodIn wsX5_makeMeeting (wsX8_isTime) := ggX5_makeMeeting_X8_isTime
set_option maxRecDepth 100000 in
theorem ggX5_makeMeeting_X5_isPossible : GoodIn wsX5_makeMeeting wsX5_isPossible := goodIn_r _ [27, 28, 29, 30, 31, 32, 33, 34, 35, 36, 37, 38, 6, 39, 2, 40, 41, 42, 43, 1, 44, 67, 68, 69, 70, 71, 72, 73, 74, 75, 76] rfl rfl
set_option maxRecDepth 100000 in
theorem gX5_makeMeeting_X5_isPossible : GoodIn wsX5_makeMeeting (wsV RX5 76 RX5 yX5_isPossible wsX5_isPossible) := goodIn_app (goodIn_r _ [24, 25, 26, 6] rfl rfl) ggX5_makeMeeting_X5_isPossible
set_option maxRecDepth 100000 in
theorem ggX5_makeMeeting_X5_noteCall : GoodIn wsX5_makeMeeting wsX5_noteCall := goodIn_r _ [48, 2, 1, 28, 49, 50, 51, 32, 52, 53, 30, 31, 33, 34, 35, 54, 55, 56, 57, 58, 29, 67, 68, 69, 70, 71, 72, 73, 74, 75, 76] rfl rfl
set_option maxRecDepth 100000 in
theorem gX5_makeMeeting_X5_noteCall : GoodIn wsX5_makeMeeting (wsV RX5 79 RX5 yX5_noteCall wsX5_noteCall) := goodIn_app (goodIn_r _ [45, 46, 47, 6] rfl rfl) ggX5_makeMeeting_X5_noteCall
set_option maxRecDepth 100000 in
theorem ggX5_makeMeeting_X6_put : GoodIn wsX5_makeMeeting wsX6_put := goodIn_r _ [57, 34, 35, 75, 76] rfl rfl
set_option maxRecDepth 100000 in
theorem gX5_makeMeeting_X6_put : GoodIn wsX5_makeMeeting (wsV RX5 33 RX6 yX6_put wsX6_put) := goodIn_app (goodIn_r _ [58, 55, 56, 32] rfl rfl) ggX5_makeMeeting_X6_put
set_option maxRecDepth 100000 in
theorem ggX5_makeMeeting_X5_meetings : GoodIn wsX5_makeMeeting wsX5_meetings := goodIn_r _ [62, 20, 36, 37, 38, 6, 39, 2, 29, 30, 31, 32, 33, 34, 35, 63, 64, 65, 66, 67, 68, 69, 70, 71, 72, 73, 74, 75, 76] rfl rfl
set_option maxRecDepth 100000 in
theorem gX5_makeMeeting_X5_meetings : GoodIn wsX5_makeMeeting (wsV RX5 92 RX5 yX5_meetings wsX5_meetings) := goodIn_app (goodIn_r _ [59, 60, 61, 6] rfl rfl) ggX5_makeMeeting_X5_meetings
theorem dX5_makeMeeting_0 : decode cX5_makeMeeting 0 = .ok (.aload_n 0, 1) := by decide +kernel
theorem dX5_makeMeeting_1 : decode cX5_makeMeeting 1 = .ok (.iload_n 1, 1) := by decide +kernel
theorem dX5_makeMeeting_2 : decode cX5_makeMeeting 2 = .ok (.iload_n 2, 1) := by decide +kernel
theorem dX5_makeMeeting_3 : decode cX5_makeMeeting 3 = .ok (.iload_n 3, 1) := by decide +kernel
theorem dX5_makeMeeting_4 : decode cX5_makeMeeting 4 = .ok (.invokevirtual 73, 3) := by decide +kernel
theorem dX5_makeMeeting_7 : decode cX5_makeMeeting 7 = .ok (.ifCond .eq 23, 3) := by decide +kernel
theorem dX5_makeMeeting_10 : decode cX5_makeMeeting 10 = .ok (.iload 4, 2) := by decide +kernel
theorem dX5_makeMeeting_12 : decode cX5_makeMeeting 12 = .ok (.iconst 0, 1) := by decide +kernel
theorem dX5_makeMeeting_13 : decode cX5_makeMeeting 13 = .ok (.sipush 999, 3) := by decide +kernel
theorem dX5_makeMeeting_16 : decode cX5_makeMeeting 16 = .ok (.invokestatic 50, 3) := by decide +kernel
theorem dX5_makeMeeting_19 : decode cX5_makeMeeting 19 = .ok (.ifCond .eq 11, 3) := by decide +kernel
theorem dX5_makeMeeting_22 : decode cX5_makeMeeting 22 = .ok (.iload 5, 2) := by decide +kernel
theorem dX5_makeMeeting_24 : decode cX5_makeMeeting 24 = .ok (.invokestatic 89, 3) := by decide +kernel
theorem dX5_makeMeeting_27 : decode cX5_makeMeeting 27 = .ok (.ifCond .ne 5, 3) := by decide +kernel
theorem dX5_makeMeeting_30 : decode cX5_makeMeeting 30 = .ok (.iconst (-1), 1) := by decide +kernel
theorem dX5_makeMeeting_31 : decode cX5_makeMeeting 31 = .ok (.ireturn, 1) := by decide +kernel
theorem dX5_makeMeeting_32 : decode cX5_makeMeeting 32 = .ok (.iload 4, 2) := by decide +kernel
theorem dX5_makeMeeting_34 : decode cX5_makeMeeting 34 = .ok (.aload_n 0, 1) := by decide +kernel
theorem dX5_makeMeeting_35 : decode cX5_makeMeeting 35 = .ok (.getfield 47, 3) := by decide +kernel
theorem dX5_makeMeeting_38 : decode cX5_makeMeeting 38 = .ok (.if_icmp .le 13, 3) := by decide +kernel
theorem dX5_makeMeeting_41 : decode cX5_makeMeeting 41 = .ok (.aload_n 0, 1) := by decide +kernel
theorem dX5_makeMeeting_42 : decode cX5_makeMeeting 42 = .ok (.iload_n 1, 1) := by decide +kernel
theorem dX5_makeMeeting_43 : decode cX5_makeMeeting 43 = .ok (.iload_n 2, 1) := by decide +kernel
theorem dX5_makeMeeting_44 : decode cX5_makeMeeting 44 = .ok (.iload_n 3, 1) := by decide +kernel
theorem dX5_makeMeeting_45 : decode cX5_makeMeeting 45 = .ok (.invokevirtual 76, 3) := by decide +kernel
theorem dX5_makeMeeting_48 : decode cX5_makeMeeting 48 = .ok (.ifCond .ne 6, 3) := by decide +kernel
theorem dX5_makeMeeting_51 : decode cX5_makeMeeting 51 = .ok (.bipush (-2), 2) := by decide +kernel
theorem dX5_makeMeeting_53 : decode cX5_makeMeeting 53 = .ok (.ireturn, 1) := by decide +kernel
theorem dX5_makeMeeting_54 : decode cX5_makeMeeting 54 = .ok (.aload_n 0, 1) := by decide +kernel
theorem dX5_makeMeeting_55 : decode cX5_makeMeeting 55 = .ok (.iload_n 1, 1) := by decide +kernel
theorem dX5_makeMeeting_56 : decode cX5_makeMeeting 56 = .ok (.iload_n 2, 1) := by decide +kernel
theorem dX5_makeMeeting_57 : decode cX5_makeMeeting 57 = .ok (.iload_n 3, 1) := by decide +kernel
theorem dX5_makeMeeting_58 : decode cX5_makeMeeting 58 = .ok (.invokevirtual 79, 3) := by decide +kernel
theorem dX5_makeMeeting_61 : decode cX5_makeMeeting 61 = .ok (.aload_n 0, 1) := by decide +kernel
theorem dX5_makeMeeting_62 : decode cX5_makeMeeting 62 = .ok (.getfield 14, 3) := by decide +kernel
theorem dX5_makeMeeting_65 : decode cX5_makeMeeting 65 = .ok (.iload_n 2, 1) := by decide +kernel
theorem dX5_makeMeeting_66 : decode cX5_makeMeeting 66 = .ok (.bipush 6, 2) := by decide +kernel
theorem dX5_makeMeeting_68 : decode cX5_makeMeeting 68 = .ok (.iload 4, 2) := by decide +kernel
theorem dX5_makeMeeting_70 : decode cX5_makeMeeting 70 = .ok (.invokevirtual 33, 3) := by decide +kernel
theorem dX5_makeMeeting_73 : decode cX5_makeMeeting 73 = .ok (.aload_n 0, 1) := by decide +kernel
theorem dX5_makeMeeting_74 : decode cX5_makeMeeting 74 = .ok (.getfield 14, 3) := by decide +kernel
theorem dX5_makeMeeting_77 : decode cX5_makeMeeting 77 = .ok (.iload_n 2, 1) := by decide +kernel
theorem dX5_makeMeeting_78 : decode cX5_makeMeeting 78 = .ok (.bipush 7, 2) := by decide +kernel
theorem dX5_makeMeeting_80 : decode cX5_makeMeeting 80 = .ok (.iload 5, 2) := by decide +kernel
theorem dX5_makeMeeting_82 : decode cX5_makeMeeting 82 = .ok (.invokevirtual 33, 3) := by decide +kernel
theorem dX5_makeMeeting_85 : decode cX5_makeMeeting 85 = .ok (.aload_n 0, 1) := by decide +kernel
theorem dX5_makeMeeting_86 : decode cX5_makeMeeting 86 = .ok (.invokevirtual 92, 3) := by decide +kernel
theorem dX5_makeMeeting_89 : decode cX5_makeMeeting 89 = .ok (.ireturn, 1) := by decide +kernel
set_option maxRecDepth 100000 in
theorem ggX5_meetings_X5_isOpen : GoodIn wsX5_meetings wsX5_isOpen := goodIn_r _ [6, 7, 8, 9, 10, 11, 12, 13, 14, 19, 20, 21, 22, 23, 24, 25, 26, 27, 28] rfl rfl
set_option maxRecDepth 100000 in
theorem gX5_meetings_X5_isOpen : GoodIn wsX5_meetings (wsV RX5 58 RX5 yX5_isOpen wsX5_isOpen) := goodIn_app (goodIn_r _ [2, 3, 4, 5] rfl rfl) ggX5_meetings_X5_isOpen
set_option maxRecDepth 100000 in
theorem ggX5_meetings_X5_hasMeeting : GoodIn wsX5_meetings wsX5_hasMeeting := goodIn_r _ [18, 7, 8, 9, 10, 11, 12, 13, 14, 19, 20, 21, 22, 23, 24, 25, 26, 27, 28] rfl rfl
set_option maxRecDepth 100000 in
theorem gX5_meetings_X5_hasMeeting : GoodIn wsX5_meetings (wsV RX5 96 RX5 yX5_hasMeeting wsX5_hasMeeting) := goodIn_app (goodIn_r _ [15, 16, 17, 5] rfl rfl) ggX5_meetings_X5_hasMeeting
theorem dX5_meetings_0 : decode cX5_meetings 0 = .ok (.iconst 0, 1) := by decide +kernel
theorem dX5_meetings_1 : decode cX5_meetings 1 = .ok (.istore_n 1, 1) := by decide +kernel
theorem dX5_meetings_2 : decode cX5_meetings 2 = .ok (.iconst 0, 1) := by decide +kernel
theorem dX5_meetings_3 : decode cX5_meetings 3 = .ok (.istore_n 2, 1) := by decide +kernel
theorem dX5_meetings_4 : decode cX5_meetings 4 = .ok (.iload_n 2, 1) := by decide +kernel
theorem dX5_meetings_5 : decode cX5_meetings 5 = .ok (.aload_n 0, 1) := by decide +kernel
theorem dX5_meetings_6 : decode cX5_meetings 6 = .ok (.getfield 41, 3) := by decide +kernel
theorem dX5_meetings_9 : decode cX5_meetings 9 = .ok (.if_icmp .ge 28, 3) := by decide +kernel
theorem dX5_meetings_12 : decode cX5_meetings 12 = .ok (.aload_n 0, 1) := by decide +kernel
theorem dX5_meetings_13 : decode cX5_meetings 13 = .ok (.iload_n 2, 1) := by decide +kernel
theorem dX5_meetings_14 : decode cX5_meetings 14 = .ok (.invokevirtual 58, 3) := by decide +kernel
theorem dX5_meetings_17 : decode cX5_meetings 17 = .ok (.ifCond .eq 14, 3) := by decide +kernel
theorem dX5_meetings_20 : decode cX5_meetings 20 = .ok (.aload_n 0, 1) := by decide +kernel
theorem dX5_meetings_21 : decode cX5_meetings 21 = .ok (.iload_n 2, 1) := by decide +kernel
theorem dX5_meetings_22 : decode cX5_meetings 22 = .ok (.invokevirtual 96, 3) := by decide +kernel
theorem dX5_meetings_25 : decode cX5_meetings 25 = .ok (.ifCond .eq 6, 3) := by decide +kernel
theorem dX5_meetings_28 : decode cX5_meetings 28 = .ok (.iinc 1 1, 3) := by decide +kernel
theorem dX5_meetings_31 : decode cX5_meetings 31 = .ok (.iinc 2 1, 3) := by decide +kernel
theorem dX5_meetings_34 : decode cX5_meetings 34 = .ok (.goto (-30), 3) := by decide +kernel
theorem dX5_meetings_37 : decode cX5_meetings 37 = .ok (.iload_n 1, 1) := by decide +kernel
theorem dX5_meetings_38 : decode cX5_meetings 38 = .ok (.ireturn, 1) := by decide +kernel
set_option maxRecDepth 100000 in
theorem ggX5_changeCell_X6_get : GoodIn wsX5_changeCell wsX6_get := goodIn_r _ [6, 7, 8, 21, 22] rfl rfl
set_option maxRecDepth 100000 in
theorem gX5_changeCell_X6_get : GoodIn wsX5_changeCell (wsV RX5 54 RX6 yX6_get wsX6_get) := goodIn_app (goodIn_r _ [2, 3, 4, 5] rfl rfl) ggX5_changeCell_X6_get
set_option maxRecDepth 100000 in
theorem ggX5_changeCell_X6_put : GoodIn wsX5_changeCell wsX6_put := goodIn_r _ [12, 7, 8, 21, 22] rfl rfl
set_option maxRecDepth 100000 in
theorem gX5_changeCell_X6_put : GoodIn wsX5_changeCell (wsV RX5 33 RX6 yX6_put wsX6_put) := goodIn_app (goodIn_r _ [9, 10, 11, 5] rfl rfl) ggX5_changeCell_X6_put
theorem dX5_changeCell_0 : decode cX5_changeCell 0 = .ok (.iload_n 1, 1) := by decide +kernel
theorem dX5_changeCell_1 : decode cX5_changeCell 1 = .ok (.iconst 3, 1) := by decide +kernel
theorem dX5_changeCell_2 : decode cX5_changeCell 2 = .ok (.imul, 1) := by decide +kernel
theorem dX5_changeCell_3 : decode cX5_changeCell 3 = .ok (.iload_n 2, 1) := by decide +kernel
theorem dX5_changeCell_4 : decode cX5_changeCell 4 = .ok (.iadd, 1) := by decide +kernel
theorem dX5_changeCell_5 : decode cX5_changeCell 5 = .ok (.istore 5, 2) := by decide +kernel
theorem dX5_changeCell_7 : decode cX5_changeCell 7 = .ok (.aload_n 0, 1) := by decide +kernel
theorem dX5_changeCell_8 : decode cX5_changeCell 8 = .ok (.getfield 23, 3) := by decide +kernel
theorem dX5_changeCell_11 : decode cX5_changeCell 11 = .ok (.iload 5, 2) := by decide +kernel
theorem dX5_changeCell_13 : decode cX5_changeCell 13 = .ok (.iload_n 3, 1) := by decide +kernel
theorem dX5_changeCell_14 : decode cX5_changeCell 14 = .ok (.invokevirtual 54, 3) := by decide +kernel
theorem dX5_changeCell_17 : decode cX5_changeCell 17 = .ok (.istore 6, 2) := by decide +kernel
theorem dX5_changeCell_19 : decode cX5_changeCell 19 = .ok (.aload_n 0, 1) := by decide +kernel
theorem dX5_changeCell_20 : decode cX5_changeCell 20 = .ok (.getfield 23, 3) := by decide +kernel
theorem dX5_changeCell_23 : decode cX5_changeCell 23 = .ok (.iload 5, 2) := by decide +kernel
theorem dX5_changeCell_25 : decode cX5_changeCell 25 = .ok (.iload_n 3, 1) := by decide +kernel
theorem dX5_changeCell_26 : decode cX5_changeCell 26 = .ok (.iload 4, 2) := by decide +kernel
theorem dX5_changeCell_28 : decode cX5_changeCell 28 = .ok (.invokevirtual 33, 3) := by decide +kernel
theorem dX5_changeCell_31 : decode cX5_changeCell 31 = .ok (.iload 6, 2) := by decide +kernel
theorem dX5_changeCell_33 : decode cX5_changeCell 33 = .ok (.ireturn, 1) := by decide +kernel
set_option maxRecDepth 100000 in
theorem ggX5_isCallNamed_X5_hasInterviewer : GoodIn wsX5_isCallNamed wsX5_hasInterviewer := goodIn_r _ [5, 6, 7, 8, 9, 18, 19, 20, 21, 22, 23, 24, 25] rfl rfl
set_option maxRecDepth 100000 in
theorem gX5_isCallNamed_X5_hasInterviewer : GoodIn wsX5_isCallNamed (wsV RX5 99 RX5 yX5_hasInterviewer wsX5_hasInterviewer) := goodIn_app (goodIn_r _ [1, 2, 3, 4] rfl rfl) ggX5_isCallNamed_X5_hasInterviewer
set_option maxRecDepth 100000 in
theorem ggX5_isCallNamed_X5_hasAddress : GoodIn wsX5_isCallNamed wsX5_hasAddress := goodIn_r _ [13, 14, 7, 8, 9, 18, 19, 20, 21, 22, 23, 24, 25] rfl rfl
set_option maxRecDepth 100000 in
theorem gX5_isCallNamed_X5_hasAddress : GoodIn wsX5_isCallNamed (wsV RX5 102 RX5 yX5_hasAddress wsX5_hasAddress) := goodIn_app (goodIn_r _ [10, 11, 12, 4] rfl rfl) ggX5_isCallNamed_X5_hasAddress
set_option maxRecDepth 100000 in
theorem ggX5_isCallNamed_X8_isTime : GoodIn wsX5_isCallNamed wsX8_isTime := goodIn_r _ [16, 17, 7, 8, 9] rfl rfl
set_option maxRecDepth 100000 in
theorem gX5_isCallNamed_X8_isTime_n89 : GoodIn wsX5_isCallNamed (wsX8_isTime) := ggX5_isCallNamed_X8_isTime
theorem dX5_isCallNamed_0 : decode cX5_isCallNamed 0 = .ok (.aload_n 0, 1) := by decide +kernel
theorem dX5_isCallNamed_1 : decode cX5_isCallNamed 1 = .ok (.iload_n 1, 1) := by decide +kernel
theorem dX5_isCallNamed_2 : decode cX5_isCallNamed 2 = .ok (.invokevirtual 99, 3) := by decide +kernel
theorem dX5_isCallNamed_5 : decode cX5_isCallNamed 5 = .ok (.ifCond .eq 22, 3) := by decide +kernel
theorem dX5_isCallNamed_8 : decode cX5_isCallNamed 8 = .ok (.aload_n 0, 1) := by decide +kernel
theorem dX5_isCallNamed_9 : decode cX5_isCallNamed 9 = .ok (.iload_n 2, 1) := by decide +kernel
theorem dX5_isCallNamed_10 : decode cX5_isCallNamed 10 = .ok (.invokevirtual 102, 3) := by decide +kernel
theorem dX5_isCallNamed_13 : decode cX5_isCallNamed 13 = .ok (.ifCond .eq 14, 3) := by decide +kernel
theorem dX5_isCallNamed_16 : decode cX5_isCallNamed 16 = .ok (.iload_n 3, 1) := by decide +kernel
theorem dX5_isCallNamed_17 : decode cX5_isCallNamed 17 = .ok (.invokestatic 89, 3) := by decide +kernel
theorem dX5_isCallNamed_20 : decode cX5_isCallNamed 20 = .ok (.ifCond .eq 7, 3) := by decide +kernel
theorem dX5_isCallNamed_23 : decode cX5_isCallNamed 23 = .ok (.iconst 1, 1) := by decide +kernel
theorem dX5_isCallNamed_24 : decode cX5_isCallNamed 24 = .ok (.goto 4, 3) := by decide +kernel
theorem dX5_isCallNamed_27 : decode cX5_isCallNamed 27 = .ok (.iconst 0, 1) := by decide +kernel
theorem dX5_isCallNamed_28 : decode cX5_isCallNamed 28 = .ok (.ireturn, 1) := by decide +kernel
set_option maxRecDepth 100000 in
theorem ggX5_isTimely_X6_get : GoodIn wsX5_isTimely wsX6_get := goodIn_r _ [8, 9, 10, 19, 20] rfl rfl
set_option maxRecDepth 100000 in
theorem gX5_isTimely_X6_get : GoodIn wsX5_isTimely (wsV RX5 54 RX6 yX6_get wsX6_get) := goodIn_app (goodIn_r _ [4, 5, 6, 7] rfl rfl) ggX5_isTimely_X6_get
theorem dX5_isTimely_0 : decode cX5_isTimely 0 = .ok (.aload_n 0, 1) := by decide +kernel
theorem dX5_isTimely_1 : decode cX5_isTimely 1 = .ok (.getfield 14, 3) := by decide +kernel
theorem dX5_isTimely_4 : decode cX5_isTimely 4 = .ok (.iload_n 1, 1) := by decide +kernel
theorem dX5_isTimely_5 : decode cX5_isTimely 5 = .ok (.bipush 6, 2) := by decide +kernel
theorem dX5_isTimely_7 : decode cX5_isTimely 7 = .ok (.invokevirtual 54, 3) := by decide +kernel
theorem dX5_isTimely_10 : decode cX5_isTimely 10 = .ok (.istore_n 3, 1) := by decide +kernel
theorem dX5_isTimely_11 : decode cX5_isTimely 11 = .ok (.iload_n 3, 1) := by decide +kernel
theorem dX5_isTimely_12 : decode cX5_isTimely 12 = .ok (.bipush (-4), 2) := by decide +kernel
theorem dX5_isTimely_14 : decode cX5_isTimely 14 = .ok (.if_icmp .eq 51, 3) := by decide +kernel
theorem dX5_isTimely_17 : decode cX5_isTimely 17 = .ok (.aload_n 0, 1) := by decide +kernel
theorem dX5_isTimely_18 : decode cX5_isTimely 18 = .ok (.getfield 14, 3) := by decide +kernel
theorem dX5_isTimely_21 : decode cX5_isTimely 21 = .ok (.iload_n 1, 1) := by decide +kernel
theorem dX5_isTimely_22 : decode cX5_isTimely 22 = .ok (.bipush 7, 2) := by decide +kernel
theorem dX5_isTimely_24 : decode cX5_isTimely 24 = .ok (.invokevirtual 54, 3) := by decide +kernel
theorem dX5_isTimely_27 : decode cX5_isTimely 27 = .ok (.iload_n 2, 1) := by decide +kernel
theorem dX5_isTimely_28 : decode cX5_isTimely 28 = .ok (.if_icmp .ne 7, 3) := by decide +kernel
theorem dX5_isTimely_31 : decode cX5_isTimely 31 = .ok (.iconst 1, 1) := by decide +kernel
theorem dX5_isTimely_32 : decode cX5_isTimely 32 = .ok (.goto 4, 3) := by decide +kernel
theorem dX5_isTimely_35 : decode cX5_isTimely 35 = .ok (.iconst 0, 1) := by decide +kernel
theorem dX5_isTimely_36 : decode cX5_isTimely 36 = .ok (.istore 4, 2) := by decide +kernel
theorem dX5_isTimely_38 : decode cX5_isTimely 38 = .ok (.iload_n 3, 1) := by decide +kernel
theorem dX5_isTimely_39 : decode cX5_isTimely 39 = .ok (.aload_n 0, 1) := by decide +kernel
theorem dX5_isTimely_40 : decode cX5_isTimely 40 = .ok (.getfield 47, 3) := by decide +kernel
theorem dX5_isTimely_43 : decode cX5_isTimely 43 = .ok (.if_icmp .lt 16, 3) := by decide +kernel
theorem dX5_isTimely_46 : decode cX5_isTimely 46 = .ok (.iload_n 3, 1) := by decide +kernel
theorem dX5_isTimely_47 : decode cX5_isTimely 47 = .ok (.aload_n 0, 1) := by decide +kernel
theorem dX5_isTimely_48 : decode cX5_isTimely 48 = .ok (.getfield 47, 3) := by decide +kernel
theorem dX5_isTimely_51 : decode cX5_isTimely 51 = .ok (.if_icmp .ne 12, 3) := by decide +kernel
theorem dX5_isTimely_54 : decode cX5_isTimely 54 = .ok (.iload 4, 2) := by decide +kernel
theorem dX5_isTimely_56 : decode cX5_isTimely 56 = .ok (.ifCond .eq 7, 3) := by decide +kernel
theorem dX5_isTimely_59 : decode cX5_isTimely 59 = .ok (.iconst 1, 1) := by decide +kernel
theorem dX5_isTimely_60 : decode cX5_isTimely 60 = .ok (.goto 4, 3) := by decide +kernel
theorem dX5_isTimely_63 : decode cX5_isTimely 63 = .ok (.iconst 0, 1) := by decide +kernel
theorem dX5_isTimely_64 : decode cX5_isTimely 64 = .ok (.ireturn, 1) := by decide +kernel
theorem dX5_isTimely_65 : decode cX5_isTimely 65 = .ok (.aload_n 0, 1) := by decide +kernel
theorem dX5_isTimely_66 : decode cX5_isTimely 66 = .ok (.getfield 14, 3) := by decide +kernel
theorem dX5_isTimely_69 : decode cX5_isTimely 69 = .ok (.iload_n 1, 1) := by decide +kernel
theorem dX5_isTimely_70 : decode cX5_isTimely 70 = .ok (.iconst 2, 1) := by decide +kernel
theorem dX5_isTimely_71 : decode cX5_isTimely 71 = .ok (.invokevirtual 54, 3) := by decide +kernel
theorem dX5_isTimely_74 : decode cX5_isTimely 74 = .ok (.ifCond .ne 5, 3) := by decide +kernel
theorem dX5_isTimely_77 : decode cX5_isTimely 77 = .ok (.iconst 1, 1) := by decide +kernel
theorem dX5_isTimely_78 : decode cX5_isTimely 78 = .ok (.ireturn, 1) := by decide +kernel
theorem dX5_isTimely_79 : decode cX5_isTimely 79 = .ok (.aload_n 0, 1) := by decide +kernel
theorem dX5_isTimely_80 : decode cX5_isTimely 80 = .ok (.getfield 14, 3) := by decide +kernel
theorem dX5_isTimely_83 : decode cX5_isTimely 83 = .ok (.iload_n 1, 1) := by decide +kernel
theorem dX5_isTimely_84 : decode cX5_isTimely 84 = .ok (.iconst 5, 1) := by decide +kernel
theorem dX5_isTimely_85 : decode cX5_isTimely 85 = .ok (.invokevirtual 54, 3) := by decide +kernel
theorem dX5_isTimely_88 : decode cX5_isTimely 88 = .ok (.iload_n 2, 1) := by decide +kernel
theorem dX5_isTimely_89 : decode cX5_isTimely 89 = .ok (.if_icmp .eq 28, 3) := by decide +kernel
theorem dX5_isTimely_92 : decode cX5_isTimely 92 = .ok (.aload_n 0, 1) := by decide +kernel
theorem dX5_isTimely_93 : decode cX5_isTimely 93 = .ok (.getfield 47, 3) := by decide +kernel
theorem dX5_isTimely_96 : decode cX5_isTimely 96 = .ok (.aload_n 0, 1) := by decide +kernel
theorem dX5_isTimely_97 : decode cX5_isTimely 97 = .ok (.getfield 14, 3) := by decide +kernel
theorem dX5_isTimely_100 : decode cX5_isTimely 100 = .ok (.iload_n 1, 1) := by decide +kernel
theorem dX5_isTimely_101 : decode cX5_isTimely 101 = .ok (.iconst 4, 1) := by decide +kernel
theorem dX5_isTimely_102 : decode cX5_isTimely 102 = .ok (.invokevirtual 54, 3) := by decide +kernel
theorem dX5_isTimely_105 : decode cX5_isTimely 105 = .ok (.isub, 1) := by decide +kernel
theorem dX5_isTimely_106 : decode cX5_isTimely 106 = .ok (.aload_n 0, 1) := by decide +kernel
theorem dX5_isTimely_107 : decode cX5_isTimely 107 = .ok (.getfield 30, 3) := by decide +kernel
theorem dX5_isTimely_110 : decode cX5_isTimely 110 = .ok (.if_icmp .lt 7, 3) := by decide +kernel
theorem dX5_isTimely_113 : decode cX5_isTimely 113 = .ok (.iconst 1, 1) := by decide +kernel
theorem dX5_isTimely_114 : decode cX5_isTimely 114 = .ok (.goto 4, 3) := by decide +kernel
theorem dX5_isTimely_117 : decode cX5_isTimely 117 = .ok (.iconst 0, 1) := by decide +kernel
theorem dX5_isTimely_118 : decode cX5_isTimely 118 = .ok (.ireturn, 1) := by decide +kernel
set_option maxRecDepth 100000 in
theorem ggX5_noteCall_X6_increase : GoodIn wsX5_noteCall wsX6_increase := goodIn_r _ [8, 9, 10, 11, 7, 12, 13, 14, 15, 16, 17, 18, 29, 30] rfl rfl
set_option maxRecDepth 100000 in
theorem gX5_noteCall_X6_increase : GoodIn wsX5_noteCall (wsV RX5 105 RX6 yX6_increase wsX6_increase) := goodIn_app (goodIn_r _ [4, 5, 6, 7] rfl rfl) ggX5_noteCall_X6_increase
set_option maxRecDepth 100000 in
theorem ggX5_noteCall_X6_put : GoodIn wsX5_noteCall wsX6_put := goodIn_r _ [18, 13, 14, 29, 30] rfl rfl
set_option maxRecDepth 100000 in
theorem gX5_noteCall_X6_put : GoodIn wsX5_noteCall (wsV RX5 33 RX6 yX6_put wsX6_put) := goodIn_app (goodIn_r _ [19, 16, 17, 7] rfl rfl) ggX5_noteCall_X6_put
set_option maxRecDepth 100000 in
theorem ggX5_noteCall_X6_get : GoodIn wsX5_noteCall wsX6_get := goodIn_r _ [12, 13, 14, 29, 30] rfl rfl
set_option maxRecDepth 100000 in
theorem gX5_noteCall_X6_get : GoodIn wsX5_noteCall (wsV RX5 54 RX6 yX6_get wsX6_get) := goodIn_app (goodIn_r _ [20, 10, 11, 7] rfl rfl) ggX5_noteCall_X6_get
theorem dX5_noteCall_0 : decode cX5_noteCall 0 = .ok (.aload_n 0, 1) := by decide +kernel
theorem dX5_noteCall_1 : decode cX5_noteCall 1 = .ok (.getfield 14, 3) := by decide +kernel
theorem dX5_noteCall_4 : decode cX5_noteCall 4 = .ok (.iload_n 2, 1) := by decide +kernel
theorem dX5_noteCall_5 : decode cX5_noteCall 5 = .ok (.iconst 2, 1) := by decide +kernel
theorem dX5_noteCall_6 : decode cX5_noteCall 6 = .ok (.invokevirtual 105, 3) := by decide +kernel
theorem dX5_noteCall_9 : decode cX5_noteCall 9 = .ok (.aload_n 0, 1) := by decide +kernel
theorem dX5_noteCall_10 : decode cX5_noteCall 10 = .ok (.getfield 14, 3) := by decide +kernel
theorem dX5_noteCall_13 : decode cX5_noteCall 13 = .ok (.iload_n 2, 1) := by decide +kernel
theorem dX5_noteCall_14 : decode cX5_noteCall 14 = .ok (.iconst 4, 1) := by decide +kernel
theorem dX5_noteCall_15 : decode cX5_noteCall 15 = .ok (.aload_n 0, 1) := by decide +kernel
theorem dX5_noteCall_16 : decode cX5_noteCall 16 = .ok (.getfield 47, 3) := by decide +kernel
theorem dX5_noteCall_19 : decode cX5_noteCall 19 = .ok (.invokevirtual 33, 3) := by decide +kernel
theorem dX5_noteCall_22 : decode cX5_noteCall 22 = .ok (.aload_n 0, 1) := by decide +kernel
theorem dX5_noteCall_23 : decode cX5_noteCall 23 = .ok (.getfield 14, 3) := by decide +kernel
theorem dX5_noteCall_26 : decode cX5_noteCall 26 = .ok (.iload_n 2, 1) := by decide +kernel
theorem dX5_noteCall_27 : decode cX5_noteCall 27 = .ok (.iconst 5, 1) := by decide +kernel
theorem dX5_noteCall_28 : decode cX5_noteCall 28 = .ok (.iload_n 3, 1) := by decide +kernel
theorem dX5_noteCall_29 : decode cX5_noteCall 29 = .ok (.invokevirtual 33, 3) := by decide +kernel
theorem dX5_noteCall_32 : decode cX5_noteCall 32 = .ok (.aload_n 0, 1) := by decide +kernel
theorem dX5_noteCall_33 : decode cX5_noteCall 33 = .ok (.getfield 14, 3) := by decide +kernel
theorem dX5_noteCall_36 : decode cX5_noteCall 36 = .ok (.iload_n 2, 1) := by decide +kernel
theorem dX5_noteCall_37 : decode cX5_noteCall 37 = .ok (.bipush 9, 2) := by decide +kernel
theorem dX5_noteCall_39 : decode cX5_noteCall 39 = .ok (.iload_n 1, 1) := by decide +kernel
theorem dX5_noteCall_40 : decode cX5_noteCall 40 = .ok (.invokevirtual 33, 3) := by decide +kernel
theorem dX5_noteCall_43 : decode cX5_noteCall 43 = .ok (.aload_n 0, 1) := by decide +kernel
theorem dX5_noteCall_44 : decode cX5_noteCall 44 = .ok (.getfield 14, 3) := by decide +kernel
theorem dX5_noteCall_47 : decode cX5_noteCall 47 = .ok (.iload_n 2, 1) := by decide +kernel
theorem dX5_noteCall_48 : decode cX5_noteCall 48 = .ok (.bipush 6, 2) := by decide +kernel
theorem dX5_noteCall_50 : decode cX5_noteCall 50 = .ok (.bipush (-4), 2) := by decide +kernel
theorem dX5_noteCall_52 : decode cX5_noteCall 52 = .ok (.invokevirtual 33, 3) := by decide +kernel
theorem dX5_noteCall_55 : decode cX5_noteCall 55 = .ok (.aload_n 0, 1) := by decide +kernel
theorem dX5_noteCall_56 : decode cX5_noteCall 56 = .ok (.getfield 14, 3) := by decide +kernel
theorem dX5_noteCall_59 : decode cX5_noteCall 59 = .ok (.iload_n 2, 1) := by decide +kernel
theorem dX5_noteCall_60 : decode cX5_noteCall 60 = .ok (.bipush 7, 2) := by decide +kernel
theorem dX5_noteCall_62 : decode cX5_noteCall 62 = .ok (.bipush (-4), 2) := by decide +kernel
theorem dX5_noteCall_64 : decode cX5_noteCall 64 = .ok (.invokevirtual 33, 3) := by decide +kernel
theorem dX5_noteCall_67 : decode cX5_noteCall 67 = .ok (.aload_n 0, 1) := by decide +kernel
theorem dX5_noteCall_68 : decode cX5_noteCall 68 = .ok (.getfield 20, 3) := by decide +kernel
theorem dX5_noteCall_71 : decode cX5_noteCall 71 = .ok (.iload_n 1, 1) := by decide +kernel
theorem dX5_noteCall_72 : decode cX5_noteCall 72 = .ok (.iconst 2, 1) := by decide +kernel
theorem dX5_noteCall_73 : decode cX5_noteCall 73 = .ok (.invokevirtual 105, 3) := by decide +kernel
theorem dX5_noteCall_76 : decode cX5_noteCall 76 = .ok (.aload_n 0, 1) := by decide +kernel
theorem dX5_noteCall_77 : decode cX5_noteCall 77 = .ok (.getfield 20, 3) := by decide +kernel
theorem dX5_noteCall_80 : decode cX5_noteCall 80 = .ok (.iload_n 1, 1) := by decide +kernel
theorem dX5_noteCall_81 : decode cX5_noteCall 81 = .ok (.iconst 3, 1) := by decide +kernel
theorem dX5_noteCall_82 : decode cX5_noteCall 82 = .ok (.invokevirtual 105, 3) := by decide +kernel
theorem dX5_noteCall_85 : decode cX5_noteCall 85 = .ok (.aload_n 0, 1) := by decide +kernel
theorem dX5_noteCall_86 : decode cX5_noteCall 86 = .ok (.getfield 14, 3) := by decide +kernel
theorem dX5_noteCall_89 : decode cX5_noteCall 89 = .ok (.iload_n 2, 1) := by decide +kernel
theorem dX5_noteCall_90 : decode cX5_noteCall 90 = .ok (.iconst 0, 1) := by decide +kernel
theorem dX5_noteCall_91 : decode cX5_noteCall 91 = .ok (.invokevirtual 54, 3) := by decide +kernel
theorem dX5_noteCall_94 : decode cX5_noteCall 94 = .ok (.istore 4, 2) := by decide +kernel
theorem dX5_noteCall_96 : decode cX5_noteCall 96 = .ok (.aload_n 0, 1) := by decide +kernel
theorem dX5_noteCall_97 : decode cX5_noteCall 97 = .ok (.getfield 20, 3) := by decide +kernel
theorem dX5_noteCall_100 : decode cX5_noteCall 100 = .ok (.iload_n 1, 1) := by decide +kernel
theorem dX5_noteCall_101 : decode cX5_noteCall 101 = .ok (.iconst 0, 1) := by decide +kernel
theorem dX5_noteCall_102 : decode cX5_noteCall 102 = .ok (.invokevirtual 54, 3) := by decide +kernel
theorem dX5_noteCall_105 : decode cX5_noteCall 105 = .ok (.iload 4, 2) := by decide +kernel
theorem dX5_noteCall_107 : decode cX5_noteCall 107 = .ok (.if_icmp .eq 12, 3) := by decide +kernel
theorem dX5_noteCall_110 : decode cX5_noteCall 110 = .ok (.aload_n 0, 1) := by decide +kernel
theorem dX5_noteCall_111 : decode cX5_noteCall 111 = .ok (.getfield 20, 3) := by decide +kernel
theorem dX5_noteCall_114 : decode cX5_noteCall 114 = .ok (.iload_n 1, 1) := by decide +kernel
theorem dX5_noteCall_115 : decode cX5_noteCall 115 = .ok (.iconst 5, 1) := by decide +kernel
theorem dX5_noteCall_116 : decode cX5_noteCall 116 = .ok (.invokevirtual 105, 3) := by decide +kernel
theorem dX5_noteCall_119 : decode cX5_noteCall 119 = .ok (.return_, 1) := by decide +kernel
set_option maxRecDepth 100000 in
theorem ggX5_noteVain_X6_increase : GoodIn wsX5_noteVain wsX6_increase := goodIn_r _ [7, 8, 9, 10, 6, 11, 12, 13, 14, 15, 16, 17, 28, 29] rfl rfl
set_option maxRecDepth 100000 in
theorem gX5_noteVain_X6_increase : GoodIn wsX5_noteVain (wsV RX5 105 RX6 yX6_increase wsX6_increase) := goodIn_app (goodIn_r _ [3, 4, 5, 6] rfl rfl) ggX5_noteVain_X6_increase
set_option maxRecDepth 100000 in
theorem ggX5_noteVain_X6_get : GoodIn wsX5_noteVain wsX6_get := goodIn_r _ [11, 12, 13, 28, 29] rfl rfl
set_option maxRecDepth 100000 in
theorem gX5_noteVain_X6_get : GoodIn wsX5_noteVain (wsV RX5 54 RX6 yX6_get wsX6_get) := goodIn_app (goodIn_r _ [18, 9, 10, 6] rfl rfl) ggX5_noteVain_X6_get
set_option maxRecDepth 100000 in
theorem ggX5_noteVain_X6_put : GoodIn wsX5_noteVain wsX6_put := goodIn_r _ [17, 12, 13, 28, 29] rfl rfl
set_option maxRecDepth 100000 in
theorem gX5_noteVain_X6_put : GoodIn wsX5_noteVain (wsV RX5 33 RX6 yX6_put wsX6_put) := goodIn_app (goodIn_r _ [19, 15, 16, 6] rfl rfl) ggX5_noteVain_X6_put
theorem dX5_noteVain_0 : decode cX5_noteVain 0 = .ok (.aload_n 0, 1) := by decide +kernel
theorem dX5_noteVain_1 : decode cX5_noteVain 1 = .ok (.getfield 14, 3) := by decide +kernel
theorem dX5_noteVain_4 : decode cX5_noteVain 4 = .ok (.iload_n 1, 1) := by decide +kernel
theorem dX5_noteVain_5 : decode cX5_noteVain 5 = .ok (.iconst 3, 1) := by decide +kernel
theorem dX5_noteVain_6 : decode cX5_noteVain 6 = .ok (.invokevirtual 105, 3) := by decide +kernel
theorem dX5_noteVain_9 : decode cX5_noteVain 9 = .ok (.aload_n 0, 1) := by decide +kernel
theorem dX5_noteVain_10 : decode cX5_noteVain 10 = .ok (.getfield 14, 3) := by decide +kernel
theorem dX5_noteVain_13 : decode cX5_noteVain 13 = .ok (.iload_n 1, 1) := by decide +kernel
theorem dX5_noteVain_14 : decode cX5_noteVain 14 = .ok (.iconst 3, 1) := by decide +kernel
theorem dX5_noteVain_15 : decode cX5_noteVain 15 = .ok (.invokevirtual 54, 3) := by decide +kernel
theorem dX5_noteVain_18 : decode cX5_noteVain 18 = .ok (.aload_n 0, 1) := by decide +kernel
theorem dX5_noteVain_19 : decode cX5_noteVain 19 = .ok (.getfield 26, 3) := by decide +kernel
theorem dX5_noteVain_22 : decode cX5_noteVain 22 = .ok (.if_icmp .lt 13, 3) := by decide +kernel
theorem dX5_noteVain_25 : decode cX5_noteVain 25 = .ok (.aload_n 0, 1) := by decide +kernel
theorem dX5_noteVain_26 : decode cX5_noteVain 26 = .ok (.getfield 14, 3) := by decide +kernel
theorem dX5_noteVain_29 : decode cX5_noteVain 29 = .ok (.iload_n 1, 1) := by decide +kernel
theorem dX5_noteVain_30 : decode cX5_noteVain 30 = .ok (.iconst 1, 1) := by decide +kernel
theorem dX5_noteVain_31 : decode cX5_noteVain 31 = .ok (.iconst 3, 1) := by decide +kernel
theorem dX5_noteVain_32 : decode cX5_noteVain 32 = .ok (.invokevirtual 33, 3) := by decide +kernel
theorem dX5_noteVain_35 : decode cX5_noteVain 35 = .ok (.return_, 1) := by decide +kernel
set_option maxRecDepth 100000 in
theorem ggX5_noteInterview_X6_get : GoodIn wsX5_noteInterview wsX6_get := goodIn_r _ [8, 9, 10, 34, 35] rfl rfl
set_option maxRecDepth 100000 in
theorem gX5_noteInterview_X6_get : GoodIn wsX5_noteInterview (wsV RX5 54 RX6 yX6_get wsX6_get) := goodIn_app (goodIn_r _ [4, 5, 6, 7] rfl rfl) ggX5_noteInterview_X6_get
set_option maxRecDepth 100000 in
theorem ggX5_noteInterview_X5_wantedIn : GoodIn wsX5_noteInterview wsX5_wantedIn := goodIn_r _ [15, 3, 4, 5, 6, 7, 8, 9, 10, 26, 27, 28, 29, 30, 31, 32, 33, 34, 35] rfl rfl
set_option maxRecDepth 100000 in
theorem gX5_noteInterview_X5_wantedIn : GoodIn wsX5_noteInterview (wsV RX5 108 RX5 yX5_wantedIn wsX5_wantedIn) := goodIn_app (goodIn_r _ [11, 12, 13, 14] rfl rfl) ggX5_noteInterview_X5_wantedIn
set_option maxRecDepth 100000 in
theorem ggX5_noteInterview_X6_put : GoodIn wsX5_noteInterview wsX6_put := goodIn_r _ [19, 9, 10, 34, 35] rfl rfl
set_option maxRecDepth 100000 in
theorem gX5_noteInterview_X6_put : GoodIn wsX5_noteInterview (wsV RX5 33 RX6 yX6_put wsX6_put) := goodIn_app (goodIn_r _ [16, 17, 18, 7] rfl rfl) ggX5_noteInterview_X6_put
set_option maxRecDepth 100000 in
theorem ggX5_noteInterview_X6_increase : GoodIn wsX5_noteInterview wsX6_increase := goodIn_r _ [23, 24, 5, 6, 7, 8, 9, 10, 25, 17, 18, 19, 34, 35] rfl rfl
set_option maxRecDepth 100000 in
theorem gX5_noteInterview_X6_increase : GoodIn wsX5_noteInterview (wsV RX5 105 RX6 yX6_increase wsX6_increase) := goodIn_app (goodIn_r _ [20, 21, 22, 7] rfl rfl) ggX5_noteInterview_X6_increase
theorem dX5_noteInterview_0 : decode cX5_noteInterview 0 = .ok (.aload_n 0, 1) := by decide +kernel
theorem dX5_noteInterview_1 : decode cX5_noteInterview 1 = .ok (.getfield 14, 3) := by decide +kernel
theorem dX5_noteInterview_4 : decode cX5_noteInterview 4 = .ok (.iload_n 2, 1) := by decide +kernel
theorem dX5_noteInterview_5 : decode cX5_noteInterview 5 = .ok (.iconst 0, 1) := by decide +kernel
theorem dX5_noteInterview_6 : decode cX5_noteInterview 6 = .ok (.invokevirtual 54, 3) := by decide +kernel
theorem dX5_noteInterview_9 : decode cX5_noteInterview 9 = .ok (.istore 4, 2) := by decide +kernel
theorem dX5_noteInterview_11 : decode cX5_noteInterview 11 = .ok (.aload_n 0, 1) := by decide +kernel
theorem dX5_noteInterview_12 : decode cX5_noteInterview 12 = .ok (.iload 4, 2) := by decide +kernel
theorem dX5_noteInterview_14 : decode cX5_noteInterview 14 = .ok (.iload_n 3, 1) := by decide +kernel
theorem dX5_noteInterview_15 : decode cX5_noteInterview 15 = .ok (.invokevirtual 108, 3) := by decide +kernel
theorem dX5_noteInterview_18 : decode cX5_noteInterview 18 = .ok (.ifCond .ne 14, 3) := by decide +kernel
theorem dX5_noteInterview_21 : decode cX5_noteInterview 21 = .ok (.aload_n 0, 1) := by decide +kernel
theorem dX5_noteInterview_22 : decode cX5_noteInterview 22 = .ok (.getfield 14, 3) := by decide +kernel
theorem dX5_noteInterview_25 : decode cX5_noteInterview 25 = .ok (.iload_n 2, 1) := by decide +kernel
theorem dX5_noteInterview_26 : decode cX5_noteInterview 26 = .ok (.iconst 1, 1) := by decide +kernel
theorem dX5_noteInterview_27 : decode cX5_noteInterview 27 = .ok (.iconst 4, 1) := by decide +kernel
theorem dX5_noteInterview_28 : decode cX5_noteInterview 28 = .ok (.invokevirtual 33, 3) := by decide +kernel
theorem dX5_noteInterview_31 : decode cX5_noteInterview 31 = .ok (.return_, 1) := by decide +kernel
theorem dX5_noteInterview_32 : decode cX5_noteInterview 32 = .ok (.aload_n 0, 1) := by decide +kernel
theorem dX5_noteInterview_33 : decode cX5_noteInterview 33 = .ok (.getfield 14, 3) := by decide +kernel
theorem dX5_noteInterview_36 : decode cX5_noteInterview 36 = .ok (.iload_n 2, 1) := by decide +kernel
theorem dX5_noteInterview_37 : decode cX5_noteInterview 37 = .ok (.iconst 1, 1) := by decide +kernel
theorem dX5_noteInterview_38 : decode cX5_noteInterview 38 = .ok (.iconst 1, 1) := by decide +kernel
theorem dX5_noteInterview_39 : decode cX5_noteInterview 39 = .ok (.invokevirtual 33, 3) := by decide +kernel
theorem dX5_noteInterview_42 : decode cX5_noteInterview 42 = .ok (.aload_n 0, 1) := by decide +kernel
theorem dX5_noteInterview_43 : decode cX5_noteInterview 43 = .ok (.getfield 14, 3) := by decide +kernel
theorem dX5_noteInterview_46 : decode cX5_noteInterview 46 = .ok (.iload_n 2, 1) := by decide +kernel
theorem dX5_noteInterview_47 : decode cX5_noteInterview 47 = .ok (.bipush 8, 2) := by decide +kernel
theorem dX5_noteInterview_49 : decode cX5_noteInterview 49 = .ok (.iload_n 3, 1) := by decide +kernel
theorem dX5_noteInterview_50 : decode cX5_noteInterview 50 = .ok (.invokevirtual 33, 3) := by decide +kernel
theorem dX5_noteInterview_53 : decode cX5_noteInterview 53 = .ok (.aload_n 0, 1) := by decide +kernel
theorem dX5_noteInterview_54 : decode cX5_noteInterview 54 = .ok (.getfield 20, 3) := by decide +kernel
theorem dX5_noteInterview_57 : decode cX5_noteInterview 57 = .ok (.iload_n 1, 1) := by decide +kernel
theorem dX5_noteInterview_58 : decode cX5_noteInterview 58 = .ok (.iconst 4, 1) := by decide +kernel
theorem dX5_noteInterview_59 : decode cX5_noteInterview 59 = .ok (.invokevirtual 105, 3) := by decide +kernel
theorem dX5_noteInterview_62 : decode cX5_noteInterview 62 = .ok (.aload_n 0, 1) := by decide +kernel
theorem dX5_noteInterview_63 : decode cX5_noteInterview 63 = .ok (.getfield 23, 3) := by decide +kernel
theorem dX5_noteInterview_66 : decode cX5_noteInterview 66 = .ok (.iload 4, 2) := by decide +kernel
theorem dX5_noteInterview_68 : decode cX5_noteInterview 68 = .ok (.iconst 3, 1) := by decide +kernel
theorem dX5_noteInterview_69 : decode cX5_noteInterview 69 = .ok (.imul, 1) := by decide +kernel
theorem dX5_noteInterview_70 : decode cX5_noteInterview 70 = .ok (.iload_n 3, 1) := by decide +kernel
theorem dX5_noteInterview_71 : decode cX5_noteInterview 71 = .ok (.iadd, 1) := by decide +kernel
theorem dX5_noteInterview_72 : decode cX5_noteInterview 72 = .ok (.iconst 1, 1) := by decide +kernel
theorem dX5_noteInterview_73 : decode cX5_noteInterview 73 = .ok (.invokevirtual 105, 3) := by decide +kernel
theorem dX5_noteInterview_76 : decode cX5_noteInterview 76 = .ok (.return_, 1) := by decide +kernel
