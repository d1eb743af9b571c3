set_option maxRecDepth 100000 in
theorem ggX8_init_X5_init : GoodIn wsX8_init wsX5_init := goodIn_r _ [26, 27, 2, 3, 28, 29, 30, 31, 32, 33, 34, 35, 36, 37, 38, 39, 40, 41, 42, 43, 44, 45, 46, 101, 102, 74, 75, 76, 77, 78, 79, 80, 81] rfl rfl
set_option maxRecDepth 100000 in
theorem gX8_init_X5_init : GoodIn wsX8_init (wsX5_init) := ggX8_init_X5_init
set_option maxRecDepth 100000 in
theorem ggX8_init_X2_init : GoodIn wsX8_init wsX2_init := goodIn_r _ [49, 50, 2, 3, 51, 87] rfl rfl
set_option maxRecDepth 100000 in
theorem gX8_init_X2_init : GoodIn wsX8_init (wsX2_init) := ggX8_init_X2_init
set_option maxRecDepth 100000 in
theorem ggX8_init_X1_init : GoodIn wsX8_init wsX1_init := goodIn_r _ [54, 55, 2, 3, 56, 57, 5, 6, 58, 25, 26, 27, 28, 29, 30, 31, 32, 33, 34, 35, 36, 37, 38, 39, 40, 41, 42, 43, 44, 45, 46, 88, 89, 90, 74, 75, 76, 77, 78, 79, 80, 81, 101, 102] rfl rfl
set_option maxRecDepth 100000 in
theorem gX8_init_X1_init : GoodIn wsX8_init (wsX1_init) := ggX8_init_X1_init
set_option maxRecDepth 100000 in
theorem ggX8_init_X4_init : GoodIn wsX8_init wsX4_init := goodIn_r _ [61, 62, 2, 3, 63, 64, 40, 65, 91, 92, 93, 94, 95] rfl rfl
set_option maxRecDepth 100000 in
theorem gX8_init_X4_init : GoodIn wsX8_init (wsX4_init) := ggX8_init_X4_init
set_option maxRecDepth 100000 in
theorem ggX8_init_X3_init : GoodIn wsX8_init wsX3_init := goodIn_r _ [68, 69, 2, 3, 70, 71, 5, 6, 72, 73, 25, 26, 27, 28, 29, 30, 31, 32, 33, 34, 35, 36, 37, 38, 39, 40, 41, 42, 43, 44, 45, 46, 96, 97, 98, 99, 100, 74, 75, 76, 77, 78, 79, 80, 81, 101, 102] rfl rfl
set_option maxRecDepth 100000 in
theorem gX8_init_X3_init : GoodIn wsX8_init (wsX3_init) := ggX8_init_X3_init
theorem dX8_init_0 : decode cX8_init 0 = .ok (.aload_n 0, 1) := by decide +kernel
theorem dX8_init_1 : decode cX8_init 1 = .ok (.invokespecial 1, 3) := by decide +kernel
theorem dX8_init_4 : decode cX8_init 4 = .ok (.aload_n 0, 1) := by decide +kernel
theorem dX8_init_5 : decode cX8_init 5 = .ok (.new 7, 3) := by decide +kernel
theorem dX8_init_8 : decode cX8_init 8 = .ok (.dup, 1) := by decide +kernel
theorem dX8_init_9 : decode cX8_init 9 = .ok (.invokespecial 9, 3) := by decide +kernel
theorem dX8_init_12 : decode cX8_init 12 = .ok (.putfield 10, 3) := by decide +kernel
theorem dX8_init_15 : decode cX8_init 15 = .ok (.aload_n 0, 1) := by decide +kernel
theorem dX8_init_16 : decode cX8_init 16 = .ok (.new 16, 3) := by decide +kernel
theorem dX8_init_19 : decode cX8_init 19 = .ok (.dup, 1) := by decide +kernel
theorem dX8_init_20 : decode cX8_init 20 = .ok (.aload_n 0, 1) := by decide +kernel
theorem dX8_init_21 : decode cX8_init 21 = .ok (.getfield 10, 3) := by decide +kernel
theorem dX8_init_24 : decode cX8_init 24 = .ok (.invokespecial 18, 3) := by decide +kernel
theorem dX8_init_27 : decode cX8_init 27 = .ok (.putfield 21, 3) := by decide +kernel
theorem dX8_init_30 : decode cX8_init 30 = .ok (.aload_n 0, 1) := by decide +kernel
theorem dX8_init_31 : decode cX8_init 31 = .ok (.new 25, 3) := by decide +kernel
theorem dX8_init_34 : decode cX8_init 34 = .ok (.dup, 1) := by decide +kernel
theorem dX8_init_35 : decode cX8_init 35 = .ok (.invokespecial 27, 3) := by decide +kernel
theorem dX8_init_38 : decode cX8_init 38 = .ok (.putfield 28, 3) := by decide +kernel
theorem dX8_init_41 : decode cX8_init 41 = .ok (.aload_n 0, 1) := by decide +kernel
theorem dX8_init_42 : decode cX8_init 42 = .ok (.new 32, 3) := by decide +kernel
theorem dX8_init_45 : decode cX8_init 45 = .ok (.dup, 1) := by decide +kernel
theorem dX8_init_46 : decode cX8_init 46 = .ok (.invokespecial 34, 3) := by decide +kernel
theorem dX8_init_49 : decode cX8_init 49 = .ok (.putfield 35, 3) := by decide +kernel
theorem dX8_init_52 : decode cX8_init 52 = .ok (.aload_n 0, 1) := by decide +kernel
theorem dX8_init_53 : decode cX8_init 53 = .ok (.new 39, 3) := by decide +kernel
theorem dX8_init_56 : decode cX8_init 56 = .ok (.dup, 1) := by decide +kernel
theorem dX8_init_57 : decode cX8_init 57 = .ok (.aload_n 0, 1) := by decide +kernel
theorem dX8_init_58 : decode cX8_init 58 = .ok (.getfield 35, 3) := by decide +kernel
theorem dX8_init_61 : decode cX8_init 61 = .ok (.invokespecial 41, 3) := by decide +kernel
theorem dX8_init_64 : decode cX8_init 64 = .ok (.putfield 44, 3) := by decide +kernel
theorem dX8_init_67 : decode cX8_init 67 = .ok (.return_, 1) := by decide +kernel
set_option maxRecDepth 100000 in
theorem ggX8_address_X1_draft : GoodIn wsX8_address wsX1_draft := goodIn_r _ [7, 8, 9, 10, 11, 6, 12, 13, 14, 15, 16, 17, 18, 19, 20, 21, 22, 23, 24, 25, 26, 27, 28, 29, 30, 31, 32, 33, 55, 56, 57, 58, 59, 60, 61, 62, 63, 64, 65, 66, 67] rfl rfl
set_option maxRecDepth 100000 in
theorem gX8_address_X1_draft : GoodIn wsX8_address (wsV RX8 48 RX1 yX1_draft wsX1_draft) := goodIn_app (goodIn_r _ [3, 4, 5, 6] rfl rfl) ggX8_address_X1_draft
set_option maxRecDepth 100000 in
theorem ggX8_address_X5_addAddress : GoodIn wsX8_address wsX5_addAddress := goodIn_r _ [37, 23, 20, 38, 39, 40, 41, 42, 43, 31, 44, 45, 33, 58, 59, 60, 61, 62, 63, 64, 65, 66, 67] rfl rfl
set_option maxRecDepth 100000 in
theorem gX8_address_X5_addAddress : GoodIn wsX8_address (wsV RX8 51 RX5 yX5_addAddress wsX5_addAddress) := goodIn_app (goodIn_r _ [34, 35, 36, 18] rfl rfl) ggX8_address_X5_addAddress
set_option maxRecDepth 100000 in
theorem ggX8_address_X1_settle : GoodIn wsX8_address wsX1_settle := goodIn_r _ [49, 8, 13, 55, 56, 57] rfl rfl
set_option maxRecDepth 100000 in
theorem gX8_address_X1_settle : GoodIn wsX8_address (wsV RX8 55 RX1 yX1_settle wsX1_settle) := goodIn_app (goodIn_r _ [46, 47, 48, 6] rfl rfl) ggX8_address_X1_settle
theorem dX8_address_0 : decode cX8_address 0 = .ok (.aload_n 0, 1) := by decide +kernel
theorem dX8_address_1 : decode cX8_address 1 = .ok (.getfield 28, 3) := by decide +kernel
theorem dX8_address_4 : decode cX8_address 4 = .ok (.aload_n 0, 1) := by decide +kernel
theorem dX8_address_5 : decode cX8_address 5 = .ok (.getfield 10, 3) := by decide +kernel
theorem dX8_address_8 : decode cX8_address 8 = .ok (.invokevirtual 48, 3) := by decide +kernel
theorem dX8_address_11 : decode cX8_address 11 = .ok (.aload_n 0, 1) := by decide +kernel
theorem dX8_address_12 : decode cX8_address 12 = .ok (.getfield 28, 3) := by decide +kernel
theorem dX8_address_15 : decode cX8_address 15 = .ok (.aload_n 0, 1) := by decide +kernel
theorem dX8_address_16 : decode cX8_address 16 = .ok (.getfield 10, 3) := by decide +kernel
theorem dX8_address_19 : decode cX8_address 19 = .ok (.iload_n 1, 1) := by decide +kernel
theorem dX8_address_20 : decode cX8_address 20 = .ok (.invokevirtual 51, 3) := by decide +kernel
theorem dX8_address_23 : decode cX8_address 23 = .ok (.invokevirtual 55, 3) := by decide +kernel
theorem dX8_address_26 : decode cX8_address 26 = .ok (.ireturn, 1) := by decide +kernel
set_option maxRecDepth 100000 in
theorem ggX8_interviewer_X1_draft : GoodIn wsX8_interviewer wsX1_draft := goodIn_r _ [7, 8, 9, 10, 11, 6, 12, 13, 14, 15, 16, 17, 18, 19, 20, 21, 22, 23, 24, 25, 26, 27, 28, 29, 30, 31, 32, 33, 55, 56, 57, 58, 59, 60, 61, 62, 63, 64, 65, 66, 67] rfl rfl
set_option maxRecDepth 100000 in
theorem gX8_interviewer_X1_draft : GoodIn wsX8_interviewer (wsV RX8 48 RX1 yX1_draft wsX1_draft) := goodIn_app (goodIn_r _ [3, 4, 5, 6] rfl rfl) ggX8_interviewer_X1_draft
set_option maxRecDepth 100000 in
theorem ggX8_interviewer_X5_addInterviewer : GoodIn wsX8_interviewer wsX5_addInterviewer := goodIn_r _ [37, 24, 21, 38, 39, 40, 41, 42, 43, 31, 44, 45, 33, 58, 59, 60, 61, 62, 63, 64, 65, 66, 67] rfl rfl
set_option maxRecDepth 100000 in
theorem gX8_interviewer_X5_addInterviewer : GoodIn wsX8_interviewer (wsV RX8 58 RX5 yX5_addInterviewer wsX5_addInterviewer) := goodIn_app (goodIn_r _ [34, 35, 36, 18] rfl rfl) ggX8_interviewer_X5_addInterviewer
set_option maxRecDepth 100000 in
theorem ggX8_interviewer_X1_settle : GoodIn wsX8_interviewer wsX1_settle := goodIn_r _ [49, 8, 13, 55, 56, 57] rfl rfl
set_option maxRecDepth 100000 in
theorem gX8_interviewer_X1_settle : GoodIn wsX8_interviewer (wsV RX8 55 RX1 yX1_settle wsX1_settle) := goodIn_app (goodIn_r _ [46, 47, 48, 6] rfl rfl) ggX8_interviewer_X1_settle
theorem dX8_interviewer_0 : decode cX8_interviewer 0 = .ok (.aload_n 0, 1) := by decide +kernel
theorem dX8_interviewer_1 : decode cX8_interviewer 1 = .ok (.getfield 28, 3) := by decide +kernel
theorem dX8_interviewer_4 : decode cX8_interviewer 4 = .ok (.aload_n 0, 1) := by decide +kernel
theorem dX8_interviewer_5 : decode cX8_interviewer 5 = .ok (.getfield 10, 3) := by decide +kernel
theorem dX8_interviewer_8 : decode cX8_interviewer 8 = .ok (.invokevirtual 48, 3) := by decide +kernel
theorem dX8_interviewer_11 : decode cX8_interviewer 11 = .ok (.aload_n 0, 1) := by decide +kernel
theorem dX8_interviewer_12 : decode cX8_interviewer 12 = .ok (.getfield 28, 3) := by decide +kernel
theorem dX8_interviewer_15 : decode cX8_interviewer 15 = .ok (.aload_n 0, 1) := by decide +kernel
theorem dX8_interviewer_16 : decode cX8_interviewer 16 = .ok (.getfield 10, 3) := by decide +kernel
theorem dX8_interviewer_19 : decode cX8_interviewer 19 = .ok (.iload_n 1, 1) := by decide +kernel
theorem dX8_interviewer_20 : decode cX8_interviewer 20 = .ok (.iload_n 2, 1) := by decide +kernel
theorem dX8_interviewer_21 : decode cX8_interviewer 21 = .ok (.invokevirtual 58, 3) := by decide +kernel
theorem dX8_interviewer_24 : decode cX8_interviewer 24 = .ok (.invokevirtual 55, 3) := by decide +kernel
theorem dX8_interviewer_27 : decode cX8_interviewer 27 = .ok (.ireturn, 1) := by decide +kernel
set_option maxRecDepth 100000 in
theorem ggX8_quota_X1_draft : GoodIn wsX8_quota wsX1_draft := goodIn_r _ [7, 8, 9, 10, 11, 6, 12, 13, 14, 15, 16, 17, 18, 19, 20, 21, 22, 23, 24, 25, 26, 27, 28, 29, 30, 31, 32, 33, 66, 67, 68, 69, 70, 71, 72, 73, 74, 75, 76, 77, 78] rfl rfl
set_option maxRecDepth 100000 in
theorem gX8_quota_X1_draft : GoodIn wsX8_quota (wsV RX8 48 RX1 yX1_draft wsX1_draft) := goodIn_app (goodIn_r _ [3, 4, 5, 6] rfl rfl) ggX8_quota_X1_draft
set_option maxRecDepth 100000 in
theorem ggX8_quota_X5_changeQuota : GoodIn wsX8_quota wsX5_changeQuota := goodIn_r _ [37, 38, 39, 40, 41, 42, 43, 44, 45, 46, 18, 47, 22, 48, 49, 50, 31, 51, 52, 33, 53, 54, 55, 56, 69, 70, 71, 72, 73, 74, 75, 76, 77, 78] rfl rfl
set_option maxRecDepth 100000 in
theorem gX8_quota_X5_changeQuota : GoodIn wsX8_quota (wsV RX8 62 RX5 yX5_changeQuota wsX5_changeQuota) := goodIn_app (goodIn_r _ [34, 35, 36, 18] rfl rfl) ggX8_quota_X5_changeQuota
set_option maxRecDepth 100000 in
theorem ggX8_quota_X1_settle : GoodIn wsX8_quota wsX1_settle := goodIn_r _ [60, 8, 13, 66, 67, 68] rfl rfl
set_option maxRecDepth 100000 in
theorem gX8_quota_X1_settle : GoodIn wsX8_quota (wsV RX8 55 RX1 yX1_settle wsX1_settle) := goodIn_app (goodIn_r _ [57, 58, 59, 6] rfl rfl) ggX8_quota_X1_settle
theorem dX8_quota_0 : decode cX8_quota 0 = .ok (.aload_n 0, 1) := by decide +kernel
theorem dX8_quota_1 : decode cX8_quota 1 = .ok (.getfield 28, 3) := by decide +kernel
theorem dX8_quota_4 : decode cX8_quota 4 = .ok (.aload_n 0, 1) := by decide +kernel
theorem dX8_quota_5 : decode cX8_quota 5 = .ok (.getfield 10, 3) := by decide +kernel
theorem dX8_quota_8 : decode cX8_quota 8 = .ok (.invokevirtual 48, 3) := by decide +kernel
theorem dX8_quota_11 : decode cX8_quota 11 = .ok (.aload_n 0, 1) := by decide +kernel
theorem dX8_quota_12 : decode cX8_quota 12 = .ok (.getfield 28, 3) := by decide +kernel
theorem dX8_quota_15 : decode cX8_quota 15 = .ok (.aload_n 0, 1) := by decide +kernel
theorem dX8_quota_16 : decode cX8_quota 16 = .ok (.getfield 10, 3) := by decide +kernel
theorem dX8_quota_19 : decode cX8_quota 19 = .ok (.iload_n 1, 1) := by decide +kernel
theorem dX8_quota_20 : decode cX8_quota 20 = .ok (.iload_n 2, 1) := by decide +kernel
theorem dX8_quota_21 : decode cX8_quota 21 = .ok (.iload_n 3, 1) := by decide +kernel
theorem dX8_quota_22 : decode cX8_quota 22 = .ok (.invokevirtual 62, 3) := by decide +kernel
theorem dX8_quota_25 : decode cX8_quota 25 = .ok (.invokevirtual 55, 3) := by decide +kernel
theorem dX8_quota_28 : decode cX8_quota 28 = .ok (.ireturn, 1) := by decide +kernel
set_option maxRecDepth 100000 in
theorem ggX8_population_X1_draft : GoodIn wsX8_population wsX1_draft := goodIn_r _ [7, 8, 9, 10, 11, 6, 12, 13, 14, 15, 16, 17, 18, 19, 20, 21, 22, 23, 24, 25, 26, 27, 28, 29, 30, 31, 32, 33, 66, 67, 68, 69, 70, 71, 72, 73, 74, 75, 76, 77, 78] rfl rfl
set_option maxRecDepth 100000 in
theorem gX8_population_X1_draft : GoodIn wsX8_population (wsV RX8 48 RX1 yX1_draft wsX1_draft) := goodIn_app (goodIn_r _ [3, 4, 5, 6] rfl rfl) ggX8_population_X1_draft
set_option maxRecDepth 100000 in
theorem ggX8_population_X5_changePopulation : GoodIn wsX8_population wsX5_changePopulation := goodIn_r _ [37, 38, 39, 40, 41, 42, 43, 44, 45, 46, 18, 47, 22, 48, 49, 50, 31, 51, 52, 33, 53, 54, 55, 56, 69, 70, 71, 72, 73, 74, 75, 76, 77, 78] rfl rfl
set_option maxRecDepth 100000 in
theorem gX8_population_X5_changePopulation : GoodIn wsX8_population (wsV RX8 66 RX5 yX5_changePopulation wsX5_changePopulation) := goodIn_app (goodIn_r _ [34, 35, 36, 18] rfl rfl) ggX8_population_X5_changePopulation
set_option maxRecDepth 100000 in
theorem ggX8_population_X1_settle : GoodIn wsX8_population wsX1_settle := goodIn_r _ [60, 8, 13, 66, 67, 68] rfl rfl
set_option maxRecDepth 100000 in
theorem gX8_population_X1_settle : GoodIn wsX8_population (wsV RX8 55 RX1 yX1_settle wsX1_settle) := goodIn_app (goodIn_r _ [57, 58, 59, 6] rfl rfl) ggX8_population_X1_settle
theorem dX8_population_0 : decode cX8_population 0 = .ok (.aload_n 0, 1) := by decide +kernel
theorem dX8_population_1 : decode cX8_population 1 = .ok (.getfield 28, 3) := by decide +kernel
theorem dX8_population_4 : decode cX8_population 4 = .ok (.aload_n 0, 1) := by decide +kernel
theorem dX8_population_5 : decode cX8_population 5 = .ok (.getfield 10, 3) := by decide +kernel
theorem dX8_population_8 : decode cX8_population 8 = .ok (.invokevirtual 48, 3) := by decide +kernel
theorem dX8_population_11 : decode cX8_population 11 = .ok (.aload_n 0, 1) := by decide +kernel
theorem dX8_population_12 : decode cX8_population 12 = .ok (.getfield 28, 3) := by decide +kernel
theorem dX8_population_15 : decode cX8_population 15 = .ok (.aload_n 0, 1) := by decide +kernel
theorem dX8_population_16 : decode cX8_population 16 = .ok (.getfield 10, 3) := by decide +kernel
theorem dX8_population_19 : decode cX8_population 19 = .ok (.iload_n 1, 1) := by decide +kernel
theorem dX8_population_20 : decode cX8_population 20 = .ok (.iload_n 2, 1) := by decide +kernel
theorem dX8_population_21 : decode cX8_population 21 = .ok (.iload_n 3, 1) := by decide +kernel
theorem dX8_population_22 : decode cX8_population 22 = .ok (.invokevirtual 66, 3) := by decide +kernel
theorem dX8_population_25 : decode cX8_population 25 = .ok (.invokevirtual 55, 3) := by decide +kernel
theorem dX8_population_28 : decode cX8_population 28 = .ok (.ireturn, 1) := by decide +kernel
set_option maxRecDepth 100000 in
theorem ggX8_call_X1_draft : GoodIn wsX8_call wsX1_draft := goodIn_r _ [7, 8, 9, 10, 11, 6, 12, 13, 14, 15, 16, 17, 18, 19, 20, 21, 22, 23, 24, 25, 26, 27, 28, 29, 30, 31, 32, 33, 108, 109, 110, 111, 112, 113, 114, 115, 116, 117, 118, 119, 120] rfl rfl
set_option maxRecDepth 100000 in
theorem gX8_call_X1_draft : GoodIn wsX8_call (wsV RX8 48 RX1 yX1_draft wsX1_draft) := goodIn_app (goodIn_r _ [3, 4, 5, 6] rfl rfl) ggX8_call_X1_draft
set_option maxRecDepth 100000 in
theorem ggX8_call_X5_makeCall : GoodIn wsX8_call wsX5_makeCall := goodIn_r _ [37, 20, 38, 39, 40, 18, 41, 42, 43, 44, 45, 24, 46, 47, 48, 49, 50, 51, 52, 23, 53, 54, 55, 56, 57, 58, 59, 21, 60, 61, 62, 31, 63, 64, 33, 65, 66, 67, 68, 69, 70, 71, 72, 25, 27, 73, 74, 75, 76, 77, 78, 79, 80, 81, 82, 83, 84, 85, 86, 87, 88, 89, 90, 26, 91, 92, 93, 94, 22, 95, 96, 97, 98, 111, 112, 113, 114, 115, 116, 117, 118, 119, 120] rfl rfl
set_option maxRecDepth 100000 in
theorem gX8_call_X5_makeCall : GoodIn wsX8_call (wsV RX8 69 RX5 yX5_makeCall wsX5_makeCall) := goodIn_app (goodIn_r _ [34, 35, 36, 18] rfl rfl) ggX8_call_X5_makeCall
set_option maxRecDepth 100000 in
theorem ggX8_call_X1_settle : GoodIn wsX8_call wsX1_settle := goodIn_r _ [102, 8, 13, 108, 109, 110] rfl rfl
set_option maxRecDepth 100000 in
theorem gX8_call_X1_settle : GoodIn wsX8_call (wsV RX8 55 RX1 yX1_settle wsX1_settle) := goodIn_app (goodIn_r _ [99, 100, 101, 6] rfl rfl) ggX8_call_X1_settle
theorem dX8_call_0 : decode cX8_call 0 = .ok (.aload_n 0, 1) := by decide +kernel
theorem dX8_call_1 : decode cX8_call 1 = .ok (.getfield 28, 3) := by decide +kernel
theorem dX8_call_4 : decode cX8_call 4 = .ok (.aload_n 0, 1) := by decide +kernel
theorem dX8_call_5 : decode cX8_call 5 = .ok (.getfield 10, 3) := by decide +kernel
theorem dX8_call_8 : decode cX8_call 8 = .ok (.invokevirtual 48, 3) := by decide +kernel
theorem dX8_call_11 : decode cX8_call 11 = .ok (.aload_n 0, 1) := by decide +kernel
theorem dX8_call_12 : decode cX8_call 12 = .ok (.getfield 28, 3) := by decide +kernel
theorem dX8_call_15 : decode cX8_call 15 = .ok (.aload_n 0, 1) := by decide +kernel
theorem dX8_call_16 : decode cX8_call 16 = .ok (.getfield 10, 3) := by decide +kernel
theorem dX8_call_19 : decode cX8_call 19 = .ok (.iload_n 1, 1) := by decide +kernel
theorem dX8_call_20 : decode cX8_call 20 = .ok (.iload_n 2, 1) := by decide +kernel
theorem dX8_call_21 : decode cX8_call 21 = .ok (.iload_n 3, 1) := by decide +kernel
theorem dX8_call_22 : decode cX8_call 22 = .ok (.iload 4, 2) := by decide +kernel
theorem dX8_call_24 : decode cX8_call 24 = .ok (.invokevirtual 69, 3) := by decide +kernel
theorem dX8_call_27 : decode cX8_call 27 = .ok (.invokevirtual 55, 3) := by decide +kernel
theorem dX8_call_30 : decode cX8_call 30 = .ok (.ireturn, 1) := by decide +kernel
set_option maxRecDepth 100000 in
theorem ggX8_later_X1_draft : GoodIn wsX8_later wsX1_draft := goodIn_r _ [7, 8, 9, 10, 11, 6, 12, 13, 14, 15, 16, 17, 18, 19, 20, 21, 22, 23, 24, 25, 26, 27, 28, 29, 30, 31, 32, 33, 104, 105, 106, 107, 108, 109, 110, 111, 112, 113, 114, 115, 116] rfl rfl
set_option maxRecDepth 100000 in
theorem gX8_later_X1_draft : GoodIn wsX8_later (wsV RX8 48 RX1 yX1_draft wsX1_draft) := goodIn_app (goodIn_r _ [3, 4, 5, 6] rfl rfl) ggX8_later_X1_draft
set_option maxRecDepth 100000 in
theorem ggX8_later_X5_makeMeeting : GoodIn wsX8_later wsX5_makeMeeting := goodIn_r _ [37, 25, 20, 38, 39, 40, 18, 41, 42, 43, 44, 45, 24, 46, 47, 48, 49, 50, 51, 52, 23, 53, 54, 55, 56, 57, 58, 59, 21, 60, 61, 62, 31, 63, 64, 33, 65, 66, 67, 68, 69, 70, 71, 72, 27, 73, 74, 75, 76, 77, 78, 79, 80, 81, 82, 83, 84, 85, 86, 87, 88, 89, 90, 91, 92, 93, 94, 107, 108, 109, 110, 111, 112, 113, 114, 115, 116] rfl rfl
set_option maxRecDepth 100000 in
theorem gX8_later_X5_makeMeeting : GoodIn wsX8_later (wsV RX8 73 RX5 yX5_makeMeeting wsX5_makeMeeting) := goodIn_app (goodIn_r _ [34, 35, 36, 18] rfl rfl) ggX8_later_X5_makeMeeting
set_option maxRecDepth 100000 in
theorem ggX8_later_X1_settle : GoodIn wsX8_later wsX1_settle := goodIn_r _ [98, 8, 13, 104, 105, 106] rfl rfl
set_option maxRecDepth 100000 in
theorem gX8_later_X1_settle : GoodIn wsX8_later (wsV RX8 55 RX1 yX1_settle wsX1_settle) := goodIn_app (goodIn_r _ [95, 96, 97, 6] rfl rfl) ggX8_later_X1_settle
theorem dX8_later_0 : decode cX8_later 0 = .ok (.aload_n 0, 1) := by decide +kernel
theorem dX8_later_1 : decode cX8_later 1 = .ok (.getfield 28, 3) := by decide +kernel
theorem dX8_later_4 : decode cX8_later 4 = .ok (.aload_n 0, 1) := by decide +kernel
theorem dX8_later_5 : decode cX8_later 5 = .ok (.getfield 10, 3) := by decide +kernel
theorem dX8_later_8 : decode cX8_later 8 = .ok (.invokevirtual 48, 3) := by decide +kernel
theorem dX8_later_11 : decode cX8_later 11 = .ok (.aload_n 0, 1) := by decide +kernel
theorem dX8_later_12 : decode cX8_later 12 = .ok (.getfield 28, 3) := by decide +kernel
theorem dX8_later_15 : decode cX8_later 15 = .ok (.aload_n 0, 1) := by decide +kernel
theorem dX8_later_16 : decode cX8_later 16 = .ok (.getfield 10, 3) := by decide +kernel
theorem dX8_later_19 : decode cX8_later 19 = .ok (.iload_n 1, 1) := by decide +kernel
theorem dX8_later_20 : decode cX8_later 20 = .ok (.iload_n 2, 1) := by decide +kernel
theorem dX8_later_21 : decode cX8_later 21 = .ok (.iload_n 3, 1) := by decide +kernel
theorem dX8_later_22 : decode cX8_later 22 = .ok (.iload 4, 2) := by decide +kernel
theorem dX8_later_24 : decode cX8_later 24 = .ok (.iload 5, 2) := by decide +kernel
theorem dX8_later_26 : decode cX8_later 26 = .ok (.invokevirtual 73, 3) := by decide +kernel
theorem dX8_later_29 : decode cX8_later 29 = .ok (.invokevirtual 55, 3) := by decide +kernel
theorem dX8_later_32 : decode cX8_later 32 = .ok (.ireturn, 1) := by decide +kernel
set_option maxRecDepth 100000 in
theorem ggX8_pass_X1_draft : GoodIn wsX8_pass wsX1_draft := goodIn_r _ [7, 8, 9, 10, 11, 6, 12, 13, 14, 15, 16, 17, 18, 19, 20, 21, 22, 23, 24, 25, 26, 27, 28, 29, 30, 31, 32, 33, 55, 56, 57, 58, 59, 60, 61, 62, 63, 64, 65, 66, 67] rfl rfl
set_option maxRecDepth 100000 in
theorem gX8_pass_X1_draft : GoodIn wsX8_pass (wsV RX8 48 RX1 yX1_draft wsX1_draft) := goodIn_app (goodIn_r _ [3, 4, 5, 6] rfl rfl) ggX8_pass_X1_draft
set_option maxRecDepth 100000 in
theorem ggX8_pass_X5_passDays : GoodIn wsX8_pass wsX5_passDays := goodIn_r _ [37, 25, 24, 21, 38, 39, 40, 41, 42, 43, 31, 44, 45, 33, 58, 59, 60, 61, 62, 63, 64, 65, 66, 67] rfl rfl
set_option maxRecDepth 100000 in
theorem gX8_pass_X5_passDays : GoodIn wsX8_pass (wsV RX8 77 RX5 yX5_passDays wsX5_passDays) := goodIn_app (goodIn_r _ [34, 35, 36, 18] rfl rfl) ggX8_pass_X5_passDays
set_option maxRecDepth 100000 in
theorem ggX8_pass_X1_settle : GoodIn wsX8_pass wsX1_settle := goodIn_r _ [49, 8, 13, 55, 56, 57] rfl rfl
set_option maxRecDepth 100000 in
theorem gX8_pass_X1_settle : GoodIn wsX8_pass (wsV RX8 55 RX1 yX1_settle wsX1_settle) := goodIn_app (goodIn_r _ [46, 47, 48, 6] rfl rfl) ggX8_pass_X1_settle
theorem dX8_pass_0 : decode cX8_pass 0 = .ok (.aload_n 0, 1) := by decide +kernel
theorem dX8_pass_1 : decode cX8_pass 1 = .ok (.getfield 28, 3) := by decide +kernel
theorem dX8_pass_4 : decode cX8_pass 4 = .ok (.aload_n 0, 1) := by decide +kernel
theorem dX8_pass_5 : decode cX8_pass 5 = .ok (.getfield 10, 3) := by decide +kernel
theorem dX8_pass_8 : decode cX8_pass 8 = .ok (.invokevirtual 48, 3) := by decide +kernel
theorem dX8_pass_11 : decode cX8_pass 11 = .ok (.aload_n 0, 1) := by decide +kernel
theorem dX8_pass_12 : decode cX8_pass 12 = .ok (.getfield 28, 3) := by decide +kernel
theorem dX8_pass_15 : decode cX8_pass 15 = .ok (.aload_n 0, 1) := by decide +kernel
theorem dX8_pass_16 : decode cX8_pass 16 = .ok (.getfield 10, 3) := by decide +kernel
theorem dX8_pass_19 : decode cX8_pass 19 = .ok (.iload_n 1, 1) := by decide +kernel
theorem dX8_pass_20 : decode cX8_pass 20 = .ok (.invokevirtual 77, 3) := by decide +kernel
theorem dX8_pass_23 : decode cX8_pass 23 = .ok (.invokevirtual 55, 3) := by decide +kernel
theorem dX8_pass_26 : decode cX8_pass 26 = .ok (.ireturn, 1) := by decide +kernel
set_option maxRecDepth 100000 in
theorem ggX8_set_X1_draft : GoodIn wsX8_set wsX1_draft := goodIn_r _ [7, 8, 9, 10, 11, 6, 12, 13, 14, 15, 16, 17, 18, 19, 20, 21, 22, 23, 24, 25, 26, 27, 28, 29, 30, 31, 32, 33, 50, 51, 52, 53, 54, 55, 56, 57, 58, 59, 60, 61, 62] rfl rfl
set_option maxRecDepth 100000 in
theorem gX8_set_X1_draft : GoodIn wsX8_set (wsV RX8 48 RX1 yX1_draft wsX1_draft) := goodIn_app (goodIn_r _ [3, 4, 5, 6] rfl rfl) ggX8_set_X1_draft
set_option maxRecDepth 100000 in
theorem ggX8_set_X5_changeSetting : GoodIn wsX8_set wsX5_changeSetting := goodIn_r _ [37, 26, 27, 38, 39, 40, 53, 54, 55, 56, 57, 58, 59, 60] rfl rfl
set_option maxRecDepth 100000 in
theorem gX8_set_X5_changeSetting : GoodIn wsX8_set (wsV RX8 80 RX5 yX5_changeSetting wsX5_changeSetting) := goodIn_app (goodIn_r _ [34, 35, 36, 18] rfl rfl) ggX8_set_X5_changeSetting
set_option maxRecDepth 100000 in
theorem ggX8_set_X1_settle : GoodIn wsX8_set wsX1_settle := goodIn_r _ [44, 8, 13, 50, 51, 52] rfl rfl
set_option maxRecDepth 100000 in
theorem gX8_set_X1_settle : GoodIn wsX8_set (wsV RX8 55 RX1 yX1_settle wsX1_settle) := goodIn_app (goodIn_r _ [41, 42, 43, 6] rfl rfl) ggX8_set_X1_settle
theorem dX8_set_0 : decode cX8_set 0 = .ok (.aload_n 0, 1) := by decide +kernel
theorem dX8_set_1 : decode cX8_set 1 = .ok (.getfield 28, 3) := by decide +kernel
theorem dX8_set_4 : decode cX8_set 4 = .ok (.aload_n 0, 1) := by decide +kernel
theorem dX8_set_5 : decode cX8_set 5 = .ok (.getfield 10, 3) := by decide +kernel
theorem dX8_set_8 : decode cX8_set 8 = .ok (.invokevirtual 48, 3) := by decide +kernel
theorem dX8_set_11 : decode cX8_set 11 = .ok (.aload_n 0, 1) := by decide +kernel
theorem dX8_set_12 : decode cX8_set 12 = .ok (.getfield 28, 3) := by decide +kernel
theorem dX8_set_15 : decode cX8_set 15 = .ok (.aload_n 0, 1) := by decide +kernel
theorem dX8_set_16 : decode cX8_set 16 = .ok (.getfield 10, 3) := by decide +kernel
theorem dX8_set_19 : decode cX8_set 19 = .ok (.iload_n 1, 1) := by decide +kernel
theorem dX8_set_20 : decode cX8_set 20 = .ok (.iload_n 2, 1) := by decide +kernel
theorem dX8_set_21 : decode cX8_set 21 = .ok (.invokevirtual 80, 3) := by decide +kernel
theorem dX8_set_24 : decode cX8_set 24 = .ok (.invokevirtual 55, 3) := by decide +kernel
theorem dX8_set_27 : decode cX8_set 27 = .ok (.ireturn, 1) := by decide +kernel
set_option maxRecDepth 100000 in
theorem ggX8_addressOf_X5_hasAddress : GoodIn wsX8_addressOf wsX5_hasAddress := goodIn_r _ [6, 7, 8, 9, 10, 29, 30, 31, 32, 33, 34, 35, 36] rfl rfl
set_option maxRecDepth 100000 in
theorem gX8_addressOf_X5_hasAddress : GoodIn wsX8_addressOf (wsV RX8 83 RX5 yX5_hasAddress wsX5_hasAddress) := goodIn_app (goodIn_r _ [2, 3, 4, 5] rfl rfl) ggX8_addressOf_X5_hasAddress
set_option maxRecDepth 100000 in
theorem ggX8_addressOf_X8_isWithin : GoodIn wsX8_addressOf wsX8_isWithin := goodIn_r _ [10] rfl rfl
set_option maxRecDepth 100000 in
theorem gX8_addressOf_X8_isWithin : GoodIn wsX8_addressOf (va_wsS RX8 87 yX8_isWithin wsX8_isWithin) := goodIn_app (goodIn_r _ [11, 8, 9] rfl rfl) ggX8_addressOf_X8_isWithin
set_option maxRecDepth 100000 in
theorem ggX8_addressOf_X5_ofAddress : GoodIn wsX8_addressOf wsX5_ofAddress := goodIn_r _ [15, 16, 17, 18, 19, 20, 21, 22, 23, 29, 30, 31, 32, 33, 34, 35, 36, 37, 38] rfl rfl
set_option maxRecDepth 100000 in
theorem gX8_addressOf_X5_ofAddress : GoodIn wsX8_addressOf (wsV RX8 91 RX5 yX5_ofAddress wsX5_ofAddress) := goodIn_app (goodIn_r _ [12, 13, 14, 5] rfl rfl) ggX8_addressOf_X5_ofAddress
theorem dX8_addressOf_0 : decode cX8_addressOf 0 = .ok (.aload_n 0, 1) := by decide +kernel
theorem dX8_addressOf_1 : decode cX8_addressOf 1 = .ok (.getfield 10, 3) := by decide +kernel
theorem dX8_addressOf_4 : decode cX8_addressOf 4 = .ok (.iload_n 1, 1) := by decide +kernel
theorem dX8_addressOf_5 : decode cX8_addressOf 5 = .ok (.invokevirtual 83, 3) := by decide +kernel
theorem dX8_addressOf_8 : decode cX8_addressOf 8 = .ok (.ifCond .eq 13, 3) := by decide +kernel
theorem dX8_addressOf_11 : decode cX8_addressOf 11 = .ok (.iload_n 2, 1) := by decide +kernel
theorem dX8_addressOf_12 : decode cX8_addressOf 12 = .ok (.iconst 0, 1) := by decide +kernel
theorem dX8_addressOf_13 : decode cX8_addressOf 13 = .ok (.bipush 9, 2) := by decide +kernel
theorem dX8_addressOf_15 : decode cX8_addressOf 15 = .ok (.invokestatic 87, 3) := by decide +kernel
theorem dX8_addressOf_18 : decode cX8_addressOf 18 = .ok (.ifCond .ne 5, 3) := by decide +kernel
theorem dX8_addressOf_21 : decode cX8_addressOf 21 = .ok (.iconst (-1), 1) := by decide +kernel
theorem dX8_addressOf_22 : decode cX8_addressOf 22 = .ok (.ireturn, 1) := by decide +kernel
theorem dX8_addressOf_23 : decode cX8_addressOf 23 = .ok (.aload_n 0, 1) := by decide +kernel
theorem dX8_addressOf_24 : decode cX8_addressOf 24 = .ok (.getfield 10, 3) := by decide +kernel
theorem dX8_addressOf_27 : decode cX8_addressOf 27 = .ok (.iload_n 1, 1) := by decide +kernel
theorem dX8_addressOf_28 : decode cX8_addressOf 28 = .ok (.iload_n 2, 1) := by decide +kernel
theorem dX8_addressOf_29 : decode cX8_addressOf 29 = .ok (.invokevirtual 91, 3) := by decide +kernel
theorem dX8_addressOf_32 : decode cX8_addressOf 32 = .ok (.ireturn, 1) := by decide +kernel
set_option maxRecDepth 100000 in
theorem ggX8_interviewerOf_X5_hasInterviewer : GoodIn wsX8_interviewerOf wsX5_hasInterviewer := goodIn_r _ [6, 7, 8, 9, 10, 29, 30, 31, 32, 33, 34, 35, 36] rfl rfl
set_option maxRecDepth 100000 in
theorem gX8_interviewerOf_X5_hasInterviewer : GoodIn wsX8_interviewerOf (wsV RX8 94 RX5 yX5_hasInterviewer wsX5_hasInterviewer) := goodIn_app (goodIn_r _ [2, 3, 4, 5] rfl rfl) ggX8_interviewerOf_X5_hasInterviewer
set_option maxRecDepth 100000 in
theorem ggX8_interviewerOf_X8_isWithin : GoodIn wsX8_interviewerOf wsX8_isWithin := goodIn_r _ [10] rfl rfl
set_option maxRecDepth 100000 in
theorem gX8_interviewerOf_X8_isWithin : GoodIn wsX8_interviewerOf (va_wsS RX8 87 yX8_isWithin wsX8_isWithin) := goodIn_app (goodIn_r _ [11, 8, 9] rfl rfl) ggX8_interviewerOf_X8_isWithin
set_option maxRecDepth 100000 in
theorem ggX8_interviewerOf_X5_ofInterviewer : GoodIn wsX8_interviewerOf wsX5_ofInterviewer := goodIn_r _ [15, 16, 17, 18, 19, 20, 21, 22, 23, 29, 30, 31, 32, 33, 34, 35, 36, 37, 38] rfl rfl
set_option maxRecDepth 100000 in
theorem gX8_interviewerOf_X5_ofInterviewer : GoodIn wsX8_interviewerOf (wsV RX8 97 RX5 yX5_ofInterviewer wsX5_ofInterviewer) := goodIn_app (goodIn_r _ [12, 13, 14, 5] rfl rfl) ggX8_interviewerOf_X5_ofInterviewer
theorem dX8_interviewerOf_0 : decode cX8_interviewerOf 0 = .ok (.aload_n 0, 1) := by decide +kernel
theorem dX8_interviewerOf_1 : decode cX8_interviewerOf 1 = .ok (.getfield 10, 3) := by decide +kernel
theorem dX8_interviewerOf_4 : decode cX8_interviewerOf 4 = .ok (.iload_n 1, 1) := by decide +kernel
theorem dX8_interviewerOf_5 : decode cX8_interviewerOf 5 = .ok (.invokevirtual 94, 3) := by decide +kernel
theorem dX8_interviewerOf_8 : decode cX8_interviewerOf 8 = .ok (.ifCond .eq 12, 3) := by decide +kernel
theorem dX8_interviewerOf_11 : decode cX8_interviewerOf 11 = .ok (.iload_n 2, 1) := by decide +kernel
theorem dX8_interviewerOf_12 : decode cX8_interviewerOf 12 = .ok (.iconst 0, 1) := by decide +kernel
theorem dX8_interviewerOf_13 : decode cX8_interviewerOf 13 = .ok (.iconst 5, 1) := by decide +kernel
theorem dX8_interviewerOf_14 : decode cX8_interviewerOf 14 = .ok (.invokestatic 87, 3) := by decide +kernel
theorem dX8_interviewerOf_17 : decode cX8_interviewerOf 17 = .ok (.ifCond .ne 5, 3) := by decide +kernel
theorem dX8_interviewerOf_20 : decode cX8_interviewerOf 20 = .ok (.iconst (-1), 1) := by decide +kernel
theorem dX8_interviewerOf_21 : decode cX8_interviewerOf 21 = .ok (.ireturn, 1) := by decide +kernel
theorem dX8_interviewerOf_22 : decode cX8_interviewerOf 22 = .ok (.aload_n 0, 1) := by decide +kernel
theorem dX8_interviewerOf_23 : decode cX8_interviewerOf 23 = .ok (.getfield 10, 3) := by decide +kernel
theorem dX8_interviewerOf_26 : decode cX8_interviewerOf 26 = .ok (.iload_n 1, 1) := by decide +kernel
theorem dX8_interviewerOf_27 : decode cX8_interviewerOf 27 = .ok (.iload_n 2, 1) := by decide +kernel
theorem dX8_interviewerOf_28 : decode cX8_interviewerOf 28 = .ok (.invokevirtual 97, 3) := by decide +kernel
theorem dX8_interviewerOf_31 : decode cX8_interviewerOf 31 = .ok (.ireturn, 1) := by decide +kernel
set_option maxRecDepth 100000 in
theorem ggX8_cellOf_X8_isCell : GoodIn wsX8_cellOf wsX8_isCell := goodIn_r _ [6, 7, 8, 5, 9] rfl rfl
set_option maxRecDepth 100000 in
theorem gX8_cellOf_X8_isCell : GoodIn wsX8_cellOf (va_wsS RX8 100 yX8_isCell wsX8_isCell) := goodIn_app (goodIn_r _ [3, 4, 5] rfl rfl) ggX8_cellOf_X8_isCell
set_option maxRecDepth 100000 in
theorem ggX8_cellOf_X5_ofCell : GoodIn wsX8_cellOf wsX5_ofCell := goodIn_r _ [14, 15, 16, 17, 18, 19, 20, 21, 22, 48, 49, 50, 51, 52, 53, 54, 55, 56, 57] rfl rfl
set_option maxRecDepth 100000 in
theorem gX8_cellOf_X5_ofCell : GoodIn wsX8_cellOf (wsV RX8 104 RX5 yX5_ofCell wsX5_ofCell) := goodIn_app (goodIn_r _ [10, 11, 12, 13] rfl rfl) ggX8_cellOf_X5_ofCell
set_option maxRecDepth 100000 in
theorem ggX8_cellOf_X5_wantedIn : GoodIn wsX8_cellOf wsX5_wantedIn := goodIn_r _ [26, 15, 16, 17, 18, 19, 20, 21, 22, 48, 49, 50, 51, 52, 53, 54, 55, 56, 57] rfl rfl
set_option maxRecDepth 100000 in
theorem gX8_cellOf_X5_wantedIn : GoodIn wsX8_cellOf (wsV RX8 107 RX5 yX5_wantedIn wsX5_wantedIn) := goodIn_app (goodIn_r _ [23, 24, 25, 13] rfl rfl) ggX8_cellOf_X5_wantedIn
set_option maxRecDepth 100000 in
theorem ggX8_cellOf_X2_weightBits : GoodIn wsX8_cellOf wsX2_weightBits := goodIn_r _ [31, 32, 33, 11, 12, 13, 14, 15, 16, 17, 18, 19, 20, 21, 22, 34, 35, 36, 30, 37, 38, 39, 40, 41, 42, 58, 48, 49, 50, 51, 52, 53, 54, 55, 56, 57] rfl rfl
set_option maxRecDepth 100000 in
theorem gX8_cellOf_X2_weightBits : GoodIn wsX8_cellOf (wsV RX8 110 RX2 yX2_weightBits wsX2_weightBits) := goodIn_app (goodIn_r _ [27, 28, 29, 30] rfl rfl) ggX8_cellOf_X2_weightBits
theorem dX8_cellOf_0 : decode cX8_cellOf 0 = .ok (.iload_n 1, 1) := by decide +kernel
theorem dX8_cellOf_1 : decode cX8_cellOf 1 = .ok (.iload_n 2, 1) := by decide +kernel
theorem dX8_cellOf_2 : decode cX8_cellOf 2 = .ok (.invokestatic 100, 3) := by decide +kernel
theorem dX8_cellOf_5 : decode cX8_cellOf 5 = .ok (.ifCond .ne 5, 3) := by decide +kernel
theorem dX8_cellOf_8 : decode cX8_cellOf 8 = .ok (.iconst (-1), 1) := by decide +kernel
theorem dX8_cellOf_9 : decode cX8_cellOf 9 = .ok (.ireturn, 1) := by decide +kernel
theorem dX8_cellOf_10 : decode cX8_cellOf 10 = .ok (.iload_n 3, 1) := by decide +kernel
theorem dX8_cellOf_11 : decode cX8_cellOf 11 = .ok (.tableswitch 86 0 4 #[33, 44, 55, 65, 76], 33) := by decide +kernel
theorem dX8_cellOf_44 : decode cX8_cellOf 44 = .ok (.aload_n 0, 1) := by decide +kernel
theorem dX8_cellOf_45 : decode cX8_cellOf 45 = .ok (.getfield 10, 3) := by decide +kernel
theorem dX8_cellOf_48 : decode cX8_cellOf 48 = .ok (.iload_n 1, 1) := by decide +kernel
theorem dX8_cellOf_49 : decode cX8_cellOf 49 = .ok (.iload_n 2, 1) := by decide +kernel
theorem dX8_cellOf_50 : decode cX8_cellOf 50 = .ok (.iconst 0, 1) := by decide +kernel
theorem dX8_cellOf_51 : decode cX8_cellOf 51 = .ok (.invokevirtual 104, 3) := by decide +kernel
theorem dX8_cellOf_54 : decode cX8_cellOf 54 = .ok (.ireturn, 1) := by decide +kernel
theorem dX8_cellOf_55 : decode cX8_cellOf 55 = .ok (.aload_n 0, 1) := by decide +kernel
theorem dX8_cellOf_56 : decode cX8_cellOf 56 = .ok (.getfield 10, 3) := by decide +kernel
theorem dX8_cellOf_59 : decode cX8_cellOf 59 = .ok (.iload_n 1, 1) := by decide +kernel
theorem dX8_cellOf_60 : decode cX8_cellOf 60 = .ok (.iload_n 2, 1) := by decide +kernel
theorem dX8_cellOf_61 : decode cX8_cellOf 61 = .ok (.iconst 1, 1) := by decide +kernel
theorem dX8_cellOf_62 : decode cX8_cellOf 62 = .ok (.invokevirtual 104, 3) := by decide +kernel
theorem dX8_cellOf_65 : decode cX8_cellOf 65 = .ok (.ireturn, 1) := by decide +kernel
theorem dX8_cellOf_66 : decode cX8_cellOf 66 = .ok (.aload_n 0, 1) := by decide +kernel
theorem dX8_cellOf_67 : decode cX8_cellOf 67 = .ok (.getfield 10, 3) := by decide +kernel
theorem dX8_cellOf_70 : decode cX8_cellOf 70 = .ok (.iload_n 1, 1) := by decide +kernel
theorem dX8_cellOf_71 : decode cX8_cellOf 71 = .ok (.iload_n 2, 1) := by decide +kernel
theorem dX8_cellOf_72 : decode cX8_cellOf 72 = .ok (.invokevirtual 107, 3) := by decide +kernel
theorem dX8_cellOf_75 : decode cX8_cellOf 75 = .ok (.ireturn, 1) := by decide +kernel
theorem dX8_cellOf_76 : decode cX8_cellOf 76 = .ok (.aload_n 0, 1) := by decide +kernel
theorem dX8_cellOf_77 : decode cX8_cellOf 77 = .ok (.getfield 10, 3) := by decide +kernel
theorem dX8_cellOf_80 : decode cX8_cellOf 80 = .ok (.iload_n 1, 1) := by decide +kernel
theorem dX8_cellOf_81 : decode cX8_cellOf 81 = .ok (.iload_n 2, 1) := by decide +kernel
theorem dX8_cellOf_82 : decode cX8_cellOf 82 = .ok (.iconst 2, 1) := by decide +kernel
theorem dX8_cellOf_83 : decode cX8_cellOf 83 = .ok (.invokevirtual 104, 3) := by decide +kernel
theorem dX8_cellOf_86 : decode cX8_cellOf 86 = .ok (.ireturn, 1) := by decide +kernel
theorem dX8_cellOf_87 : decode cX8_cellOf 87 = .ok (.aload_n 0, 1) := by decide +kernel
theorem dX8_cellOf_88 : decode cX8_cellOf 88 = .ok (.getfield 21, 3) := by decide +kernel
theorem dX8_cellOf_91 : decode cX8_cellOf 91 = .ok (.iload_n 1, 1) := by decide +kernel
theorem dX8_cellOf_92 : decode cX8_cellOf 92 = .ok (.iload_n 2, 1) := by decide +kernel
theorem dX8_cellOf_93 : decode cX8_cellOf 93 = .ok (.invokevirtual 110, 3) := by decide +kernel
theorem dX8_cellOf_96 : decode cX8_cellOf 96 = .ok (.ireturn, 1) := by decide +kernel
theorem dX8_cellOf_97 : decode cX8_cellOf 97 = .ok (.iconst (-1), 1) := by decide +kernel
theorem dX8_cellOf_98 : decode cX8_cellOf 98 = .ok (.ireturn, 1) := by decide +kernel
set_option maxRecDepth 100000 in
theorem ggX8_addresses_X8_isWithin : GoodIn wsX8_addresses wsX8_isWithin := goodIn_r _ [5] rfl rfl
set_option maxRecDepth 100000 in
theorem gX8_addresses_X8_isWithin : GoodIn wsX8_addresses (va_wsS RX8 87 yX8_isWithin wsX8_isWithin) := goodIn_app (goodIn_r _ [2, 3, 4] rfl rfl) ggX8_addresses_X8_isWithin
set_option maxRecDepth 100000 in
theorem ggX8_addresses_X2_addressesOfKind : GoodIn wsX8_addresses wsX2_addressesOfKind := goodIn_r _ [10, 11, 12, 13, 14, 15, 16, 17, 18, 19, 20, 9, 21, 22, 23, 24, 25, 26, 27, 28, 29, 30, 31, 32, 33, 34, 35, 36, 37, 38, 39, 40, 41, 42, 43, 44, 45, 46, 52, 53, 54, 55, 56, 57, 58, 59, 60, 61, 62] rfl rfl
set_option maxRecDepth 100000 in
theorem gX8_addresses_X2_addressesOfKind : GoodIn wsX8_addresses (wsV RX8 113 RX2 yX2_addressesOfKind wsX2_addressesOfKind) := goodIn_app (goodIn_r _ [6, 7, 8, 9] rfl rfl) ggX8_addresses_X2_addressesOfKind
theorem dX8_addresses_0 : decode cX8_addresses 0 = .ok (.iload_n 1, 1) := by decide +kernel
theorem dX8_addresses_1 : decode cX8_addresses 1 = .ok (.iconst 0, 1) := by decide +kernel
theorem dX8_addresses_2 : decode cX8_addresses 2 = .ok (.bipush 7, 2) := by decide +kernel
theorem dX8_addresses_4 : decode cX8_addresses 4 = .ok (.invokestatic 87, 3) := by decide +kernel
theorem dX8_addresses_7 : decode cX8_addresses 7 = .ok (.ifCond .ne 5, 3) := by decide +kernel
theorem dX8_addresses_10 : decode cX8_addresses 10 = .ok (.iconst (-1), 1) := by decide +kernel
theorem dX8_addresses_11 : decode cX8_addresses 11 = .ok (.ireturn, 1) := by decide +kernel
theorem dX8_addresses_12 : decode cX8_addresses 12 = .ok (.aload_n 0, 1) := by decide +kernel
theorem dX8_addresses_13 : decode cX8_addresses 13 = .ok (.getfield 21, 3) := by decide +kernel
theorem dX8_addresses_16 : decode cX8_addresses 16 = .ok (.iload_n 1, 1) := by decide +kernel
theorem dX8_addresses_17 : decode cX8_addresses 17 = .ok (.invokevirtual 113, 3) := by decide +kernel
theorem dX8_addresses_20 : decode cX8_addresses 20 = .ok (.ireturn, 1) := by decide +kernel
set_option maxRecDepth 100000 in
theorem ggX8_count_X1_size : GoodIn wsX8_count wsX1_size := goodIn_r _ [8, 9, 98, 99, 100] rfl rfl
set_option maxRecDepth 100000 in
theorem gX8_count_X1_size : GoodIn wsX8_count (wsV RX8 116 RX1 yX1_size wsX1_size) := goodIn_app (goodIn_r _ [4, 5, 6, 7] rfl rfl) ggX8_count_X1_size
set_option maxRecDepth 100000 in
theorem ggX8_count_X4_length : GoodIn wsX8_count wsX4_length := goodIn_r _ [14, 15, 101, 102, 103, 104, 105] rfl rfl
set_option maxRecDepth 100000 in
theorem gX8_count_X4_length : GoodIn wsX8_count (wsV RX8 120 RX4 yX4_length wsX4_length) := goodIn_app (goodIn_r _ [10, 11, 12, 13] rfl rfl) ggX8_count_X4_length
set_option maxRecDepth 100000 in
theorem ggX8_count_X2_number : GoodIn wsX8_count wsX2_number := goodIn_r _ [20, 21, 22, 23, 24, 25, 26, 27, 28, 29, 30, 31, 32, 33, 34, 35, 36, 37, 38, 39, 40, 19, 41, 42, 43, 44, 45, 46, 47, 48, 49, 50, 51, 52, 53, 54, 55, 56, 57, 58, 59, 60, 61, 62, 63, 64, 65, 66, 67, 68, 69, 70, 71, 72, 73, 74, 75, 76, 77, 78, 79, 80, 81, 82, 83, 84, 85, 86, 87, 88, 89, 90, 91, 92, 106, 107, 108, 109, 110, 111, 112, 113, 114, 115, 116] rfl rfl
set_option maxRecDepth 100000 in
theorem gX8_count_X2_number : GoodIn wsX8_count (wsV RX8 123 RX2 yX2_number wsX2_number) := goodIn_app (goodIn_r _ [16, 17, 18, 19] rfl rfl) ggX8_count_X2_number
theorem dX8_count_0 : decode cX8_count 0 = .ok (.iload_n 1, 1) := by decide +kernel
theorem dX8_count_1 : decode cX8_count 1 = .ok (.lookupswitch 43 #[(8, 27), (9, 35)], 27) := by decide +kernel
theorem dX8_count_28 : decode cX8_count 28 = .ok (.aload_n 0, 1) := by decide +kernel
theorem dX8_count_29 : decode cX8_count 29 = .ok (.getfield 28, 3) := by decide +kernel
theorem dX8_count_32 : decode cX8_count 32 = .ok (.invokevirtual 116, 3) := by decide +kernel
theorem dX8_count_35 : decode cX8_count 35 = .ok (.ireturn, 1) := by decide +kernel
theorem dX8_count_36 : decode cX8_count 36 = .ok (.aload_n 0, 1) := by decide +kernel
theorem dX8_count_37 : decode cX8_count 37 = .ok (.getfield 35, 3) := by decide +kernel
theorem dX8_count_40 : decode cX8_count 40 = .ok (.invokevirtual 120, 3) := by decide +kernel
theorem dX8_count_43 : decode cX8_count 43 = .ok (.ireturn, 1) := by decide +kernel
theorem dX8_count_44 : decode cX8_count 44 = .ok (.aload_n 0, 1) := by decide +kernel
theorem dX8_count_45 : decode cX8_count 45 = .ok (.getfield 21, 3) := by decide +kernel
theorem dX8_count_48 : decode cX8_count 48 = .ok (.iload_n 1, 1) := by decide +kernel
theorem dX8_count_49 : decode cX8_count 49 = .ok (.invokevirtual 123, 3) := by decide +kernel
theorem dX8_count_52 : decode cX8_count 52 = .ok (.ireturn, 1) := by decide +kernel
set_option maxRecDepth 100000 in
theorem ggX8_next_X5_hasInterviewer : GoodIn wsX8_next wsX5_hasInterviewer := goodIn_r _ [7, 8, 9, 10, 11, 90, 91, 92, 93, 94, 95, 96, 97] rfl rfl
set_option maxRecDepth 100000 in
theorem gX8_next_X5_hasInterviewer : GoodIn wsX8_next (wsV RX8 94 RX5 yX5_hasInterviewer wsX5_hasInterviewer) := goodIn_app (goodIn_r _ [3, 4, 5, 6] rfl rfl) ggX8_next_X5_hasInterviewer
set_option maxRecDepth 100000 in
theorem ggX8_next_X8_isTime : GoodIn wsX8_next wsX8_isTime := goodIn_r _ [14, 15, 9, 10, 11] rfl rfl
set_option maxRecDepth 100000 in
theorem gX8_next_X8_isTime : GoodIn wsX8_next (va_wsS RX8 126 yX8_isTime wsX8_isTime) := goodIn_app (goodIn_r _ [12, 13, 10] rfl rfl) ggX8_next_X8_isTime
set_option maxRecDepth 100000 in
theorem ggX8_next_X2_bestAddress : GoodIn wsX8_next wsX2_bestAddress := goodIn_r _ [20, 21, 22, 23, 24, 6, 25, 26, 27, 28, 29, 30, 31, 32, 33, 34, 35, 36, 37, 38, 39, 40, 41, 42, 43, 44, 45, 46, 47, 48, 49, 50, 51, 52, 19, 53, 54, 55, 56, 57, 58, 59, 60, 61, 62, 63, 64, 65, 66, 67, 68, 69, 70, 71, 72, 73, 74, 75, 76, 77, 78, 79, 80, 81, 82, 83, 84, 98, 90, 91, 92, 93, 94, 95, 96, 97, 99, 100] rfl rfl
set_option maxRecDepth 100000 in
theorem gX8_next_X2_bestAddress : GoodIn wsX8_next (wsV RX8 129 RX2 yX2_bestAddress wsX2_bestAddress) := goodIn_app (goodIn_r _ [16, 17, 18, 19] rfl rfl) ggX8_next_X2_bestAddress
theorem dX8_next_0 : decode cX8_next 0 = .ok (.aload_n 0, 1) := by decide +kernel
theorem dX8_next_1 : decode cX8_next 1 = .ok (.getfield 10, 3) := by decide +kernel
theorem dX8_next_4 : decode cX8_next 4 = .ok (.iload_n 1, 1) := by decide +kernel
theorem dX8_next_5 : decode cX8_next 5 = .ok (.invokevirtual 94, 3) := by decide +kernel
theorem dX8_next_8 : decode cX8_next 8 = .ok (.ifCond .eq 10, 3) := by decide +kernel
theorem dX8_next_11 : decode cX8_next 11 = .ok (.iload_n 2, 1) := by decide +kernel
theorem dX8_next_12 : decode cX8_next 12 = .ok (.invokestatic 126, 3) := by decide +kernel
theorem dX8_next_15 : decode cX8_next 15 = .ok (.ifCond .ne 5, 3) := by decide +kernel
theorem dX8_next_18 : decode cX8_next 18 = .ok (.iconst (-1), 1) := by decide +kernel
theorem dX8_next_19 : decode cX8_next 19 = .ok (.ireturn, 1) := by decide +kernel
theorem dX8_next_20 : decode cX8_next 20 = .ok (.aload_n 0, 1) := by decide +kernel
theorem dX8_next_21 : decode cX8_next 21 = .ok (.getfield 21, 3) := by decide +kernel
theorem dX8_next_24 : decode cX8_next 24 = .ok (.iload_n 1, 1) := by decide +kernel
theorem dX8_next_25 : decode cX8_next 25 = .ok (.iload_n 2, 1) := by decide +kernel
theorem dX8_next_26 : decode cX8_next 26 = .ok (.invokevirtual 129, 3) := by decide +kernel
theorem dX8_next_29 : decode cX8_next 29 = .ok (.ireturn, 1) := by decide +kernel
set_option maxRecDepth 100000 in
theorem ggX8_possible_X5_hasInterviewer : GoodIn wsX8_possible wsX5_hasInterviewer := goodIn_r _ [7, 8, 9, 10, 11, 55, 56, 57, 58, 59, 60, 61, 62] rfl rfl
set_option maxRecDepth 100000 in
theorem gX8_possible_X5_hasInterviewer : GoodIn wsX8_possible (wsV RX8 94 RX5 yX5_hasInterviewer wsX5_hasInterviewer) := goodIn_app (goodIn_r _ [3, 4, 5, 6] rfl rfl) ggX8_possible_X5_hasInterviewer
set_option maxRecDepth 100000 in
theorem ggX8_possible_X8_isTime : GoodIn wsX8_possible wsX8_isTime := goodIn_r _ [14, 15, 9, 10, 11] rfl rfl
set_option maxRecDepth 100000 in
theorem gX8_possible_X8_isTime : GoodIn wsX8_possible (va_wsS RX8 126 yX8_isTime wsX8_isTime) := goodIn_app (goodIn_r _ [12, 13, 10] rfl rfl) ggX8_possible_X8_isTime
set_option maxRecDepth 100000 in
theorem ggX8_possible_X2_possibleAddresses : GoodIn wsX8_possible wsX2_possibleAddresses := goodIn_r _ [20, 21, 22, 23, 24, 6, 25, 26, 27, 28, 29, 30, 31, 32, 33, 34, 35, 36, 37, 38, 39, 40, 41, 42, 43, 44, 45, 46, 47, 48, 49, 63, 55, 56, 57, 58, 59, 60, 61, 62, 64, 65] rfl rfl
set_option maxRecDepth 100000 in
theorem gX8_possible_X2_possibleAddresses : GoodIn wsX8_possible (wsV RX8 132 RX2 yX2_possibleAddresses wsX2_possibleAddresses) := goodIn_app (goodIn_r _ [16, 17, 18, 19] rfl rfl) ggX8_possible_X2_possibleAddresses
theorem dX8_possible_0 : decode cX8_possible 0 = .ok (.aload_n 0, 1) := by decide +kernel
theorem dX8_possible_1 : decode cX8_possible 1 = .ok (.getfield 10, 3) := by decide +kernel
theorem dX8_possible_4 : decode cX8_possible 4 = .ok (.iload_n 1, 1) := by decide +kernel
theorem dX8_possible_5 : decode cX8_possible 5 = .ok (.invokevirtual 94, 3) := by decide +kernel
theorem dX8_possible_8 : decode cX8_possible 8 = .ok (.ifCond .eq 10, 3) := by decide +kernel
theorem dX8_possible_11 : decode cX8_possible 11 = .ok (.iload_n 2, 1) := by decide +kernel
theorem dX8_possible_12 : decode cX8_possible 12 = .ok (.invokestatic 126, 3) := by decide +kernel
theorem dX8_possible_15 : decode cX8_possible 15 = .ok (.ifCond .ne 5, 3) := by decide +kernel
theorem dX8_possible_18 : decode cX8_possible 18 = .ok (.iconst (-1), 1) := by decide +kernel
theorem dX8_possible_19 : decode cX8_possible 19 = .ok (.ireturn, 1) := by decide +kernel
theorem dX8_possible_20 : decode cX8_possible 20 = .ok (.aload_n 0, 1) := by decide +kernel
theorem dX8_possible_21 : decode cX8_possible 21 = .ok (.getfield 21, 3) := by decide +kernel
theorem dX8_possible_24 : decode cX8_possible 24 = .ok (.iload_n 1, 1) := by decide +kernel
theorem dX8_possible_25 : decode cX8_possible 25 = .ok (.iload_n 2, 1) := by decide +kernel
theorem dX8_possible_26 : decode cX8_possible 26 = .ok (.invokevirtual 132, 3) := by decide +kernel
theorem dX8_possible_29 : decode cX8_possible 29 = .ok (.ireturn, 1) := by decide +kernel
set_option maxRecDepth 100000 in
theorem ggX8_daysLeft_X2_daysNeeded : GoodIn wsX8_daysLeft wsX2_daysNeeded := goodIn_r _ [6, 7, 8, 9, 5, 10, 11, 12, 13, 14, 15, 16, 17, 18, 19, 20, 21, 22, 23, 24, 25, 26, 27, 28, 29, 30, 31, 32, 33, 34, 35, 36, 37, 38, 39, 40, 41, 42, 43, 44, 45, 46, 47, 48, 49, 50, 51, 52, 53, 54, 55, 56, 62, 63, 64, 65, 66, 67, 68, 69, 70, 71, 72] rfl rfl
set_option maxRecDepth 100000 in
theorem gX8_daysLeft_X2_daysNeeded : GoodIn wsX8_daysLeft (wsV RX8 135 RX2 yX2_daysNeeded wsX2_daysNeeded) := goodIn_app (goodIn_r _ [2, 3, 4, 5] rfl rfl) ggX8_daysLeft_X2_daysNeeded
theorem dX8_daysLeft_0 : decode cX8_daysLeft 0 = .ok (.aload_n 0, 1) := by decide +kernel
theorem dX8_daysLeft_1 : decode cX8_daysLeft 1 = .ok (.getfield 21, 3) := by decide +kernel
theorem dX8_daysLeft_4 : decode cX8_daysLeft 4 = .ok (.invokevirtual 135, 3) := by decide +kernel
theorem dX8_daysLeft_7 : decode cX8_daysLeft 7 = .ok (.ireturn, 1) := by decide +kernel
set_option maxRecDepth 100000 in
theorem ggX8_rateBits_X2_rateOfInterviews : GoodIn wsX8_rateBits wsX2_rateOfInterviews := goodIn_r _ [6, 7, 8, 9, 10, 11, 12, 13, 14, 15, 16, 5, 17, 18, 19, 20, 21, 22, 23, 24, 25, 26, 27, 28, 29, 30, 31, 32, 33, 34, 40, 41, 42, 43, 44, 45, 46, 47, 48, 49, 50] rfl rfl
set_option maxRecDepth 100000 in
theorem gX8_rateBits_X2_rateOfInterviews : GoodIn wsX8_rateBits (wsV RX8 138 RX2 yX2_rateOfInterviews wsX2_rateOfInterviews) := goodIn_app (goodIn_r _ [2, 3, 4, 5] rfl rfl) ggX8_rateBits_X2_rateOfInterviews
theorem dX8_rateBits_0 : decode cX8_rateBits 0 = .ok (.aload_n 0, 1) := by decide +kernel
theorem dX8_rateBits_1 : decode cX8_rateBits 1 = .ok (.getfield 21, 3) := by decide +kernel
theorem dX8_rateBits_4 : decode cX8_rateBits 4 = .ok (.invokevirtual 138, 3) := by decide +kernel
theorem dX8_rateBits_7 : decode cX8_rateBits 7 = .ok (.ireturn, 1) := by decide +kernel
set_option maxRecDepth 100000 in
theorem ggX8_partBits_X8_isWithin : GoodIn wsX8_partBits wsX8_isWithin := goodIn_r _ [5] rfl rfl
set_option maxRecDepth 100000 in
theorem gX8_partBits_X8_isWithin : GoodIn wsX8_partBits (va_wsS RX8 87 yX8_isWithin wsX8_isWithin) := goodIn_app (goodIn_r _ [2, 3, 4] rfl rfl) ggX8_partBits_X8_isWithin
set_option maxRecDepth 100000 in
theorem ggX8_partBits_X2_partOfGroup : GoodIn wsX8_partBits wsX2_partOfGroup := goodIn_r _ [10, 11, 12, 13, 9, 14, 15, 16, 17, 18, 19, 20, 21, 22, 23, 24, 25, 26, 27, 28, 29, 30, 31, 32, 33, 34, 35, 36, 37, 43, 44, 45, 46, 47, 48, 49, 50, 51, 52, 53] rfl rfl
set_option maxRecDepth 100000 in
theorem gX8_partBits_X2_partOfGroup : GoodIn wsX8_partBits (wsV RX8 141 RX2 yX2_partOfGroup wsX2_partOfGroup) := goodIn_app (goodIn_r _ [6, 7, 8, 9] rfl rfl) ggX8_partBits_X2_partOfGroup
theorem dX8_partBits_0 : decode cX8_partBits 0 = .ok (.iload_n 1, 1) := by decide +kernel
theorem dX8_partBits_1 : decode cX8_partBits 1 = .ok (.iconst 0, 1) := by decide +kernel
theorem dX8_partBits_2 : decode cX8_partBits 2 = .ok (.iconst 2, 1) := by decide +kernel
theorem dX8_partBits_3 : decode cX8_partBits 3 = .ok (.invokestatic 87, 3) := by decide +kernel
theorem dX8_partBits_6 : decode cX8_partBits 6 = .ok (.ifCond .ne 5, 3) := by decide +kernel
theorem dX8_partBits_9 : decode cX8_partBits 9 = .ok (.iconst (-1), 1) := by decide +kernel
theorem dX8_partBits_10 : decode cX8_partBits 10 = .ok (.ireturn, 1) := by decide +kernel
theorem dX8_partBits_11 : decode cX8_partBits 11 = .ok (.aload_n 0, 1) := by decide +kernel
theorem dX8_partBits_12 : decode cX8_partBits 12 = .ok (.getfield 21, 3) := by decide +kernel
theorem dX8_partBits_15 : decode cX8_partBits 15 = .ok (.iload_n 1, 1) := by decide +kernel
theorem dX8_partBits_16 : decode cX8_partBits 16 = .ok (.invokevirtual 141, 3) := by decide +kernel
theorem dX8_partBits_19 : decode cX8_partBits 19 = .ok (.ireturn, 1) := by decide +kernel
set_option maxRecDepth 100000 in
theorem ggX8_undo_X1_restore : GoodIn wsX8_undo wsX1_restore := goodIn_r _ [7, 8, 9, 10, 11, 6, 12, 13, 14, 15, 16, 17, 18, 19, 20, 21, 22, 23, 24, 25, 26, 27, 28, 29, 30, 31, 32, 33, 39, 40, 41, 42, 43, 44, 45, 46, 47, 48, 49, 50, 51] rfl rfl
set_option maxRecDepth 100000 in
theorem gX8_undo_X1_restore : GoodIn wsX8_undo (wsV RX8 144 RX1 yX1_restore wsX1_restore) := goodIn_app (goodIn_r _ [3, 4, 5, 6] rfl rfl) ggX8_undo_X1_restore
theorem dX8_undo_0 : decode cX8_undo 0 = .ok (.aload_n 0, 1) := by decide +kernel
theorem dX8_undo_1 : decode cX8_undo 1 = .ok (.getfield 28, 3) := by decide +kernel
theorem dX8_undo_4 : decode cX8_undo 4 = .ok (.aload_n 0, 1) := by decide +kernel
theorem dX8_undo_5 : decode cX8_undo 5 = .ok (.getfield 10, 3) := by decide +kernel
theorem dX8_undo_8 : decode cX8_undo 8 = .ok (.invokevirtual 144, 3) := by decide +kernel
theorem dX8_undo_11 : decode cX8_undo 11 = .ok (.ireturn, 1) := by decide +kernel
set_option maxRecDepth 100000 in
theorem ggX8_type_X4_append : GoodIn wsX8_type wsX4_append := goodIn_r _ [6, 7, 8, 9, 10, 11, 17, 18, 19, 20, 21] rfl rfl
set_option maxRecDepth 100000 in
theorem gX8_type_X4_append : GoodIn wsX8_type (wsV RX8 148 RX4 yX4_append wsX4_append) := goodIn_app (goodIn_r _ [2, 3, 4, 5] rfl rfl) ggX8_type_X4_append
theorem dX8_type_0 : decode cX8_type 0 = .ok (.aload_n 0, 1) := by decide +kernel
theorem dX8_type_1 : decode cX8_type 1 = .ok (.getfield 35, 3) := by decide +kernel
theorem dX8_type_4 : decode cX8_type 4 = .ok (.iload_n 1, 1) := by decide +kernel
theorem dX8_type_5 : decode cX8_type 5 = .ok (.invokevirtual 148, 3) := by decide +kernel
theorem dX8_type_8 : decode cX8_type 8 = .ok (.ireturn, 1) := by decide +kernel
set_option maxRecDepth 100000 in
theorem ggX8_clearText_X4_clear : GoodIn wsX8_clearText wsX4_clear := goodIn_r _ [6, 7, 13, 14, 15, 16, 17] rfl rfl
set_option maxRecDepth 100000 in
theorem gX8_clearText_X4_clear : GoodIn wsX8_clearText (wsV RX8 151 RX4 yX4_clear wsX4_clear) := goodIn_app (goodIn_r _ [2, 3, 4, 5] rfl rfl) ggX8_clearText_X4_clear
theorem dX8_clearText_0 : decode cX8_clearText 0 = .ok (.aload_n 0, 1) := by decide +kernel
theorem dX8_clearText_1 : decode cX8_clearText 1 = .ok (.getfield 35, 3) := by decide +kernel
theorem dX8_clearText_4 : decode cX8_clearText 4 = .ok (.invokevirtual 151, 3) := by decide +kernel
theorem dX8_clearText_7 : decode cX8_clearText 7 = .ok (.ireturn, 1) := by decide +kernel
set_option maxRecDepth 100000 in
theorem ggX8_fault_X8_isWithin : GoodIn wsX8_fault wsX8_isWithin := goodIn_r _ [6] rfl rfl
set_option maxRecDepth 100000 in
theorem gX8_fault_X8_isWithin : GoodIn wsX8_fault (va_wsS RX8 87 yX8_isWithin wsX8_isWithin) := goodIn_app (goodIn_r _ [3, 4, 5] rfl rfl) ggX8_fault_X8_isWithin
set_option maxRecDepth 100000 in
theorem ggX8_fault_X3_run : GoodIn wsX8_fault wsX3_run := goodIn_r _ [11, 12, 13, 14, 15, 16, 17, 18, 19, 20, 21, 22, 23, 24, 25, 26, 27, 28, 29, 30, 31, 32, 33, 34, 35, 36, 37, 38, 39, 40, 41, 42, 43, 44, 45, 46, 47, 48, 49, 50, 51, 52, 53, 54, 55, 56, 57, 58, 59, 60, 61, 62, 63, 64, 65, 66, 67, 68, 69, 70, 71, 72, 73, 74, 75, 76, 77, 78, 79, 80, 81, 82, 83, 84, 85, 86, 87, 88, 89, 90, 91, 92, 93, 94, 95, 96, 97, 98, 99, 100, 101, 102, 103, 104, 105, 106, 107, 108, 109, 110, 111, 112, 113, 114, 115, 116, 117, 118, 119, 4, 5, 6, 120, 121, 122, 123, 124, 125, 126, 10, 127, 128, 129, 130, 131, 132, 133, 134, 135, 136, 137, 138, 139, 140, 141, 142, 143, 144, 145, 146, 147, 148, 149, 150, 151, 152, 153, 154, 3, 155, 156, 157, 158, 159, 160, 161, 162, 163, 164, 165, 166, 167, 168, 169, 170, 171, 172, 173, 174, 175, 176, 177, 178, 179, 180, 181, 182, 183, 184, 185, 186, 187, 188, 189, 190, 191, 192, 193, 194, 195, 196, 197, 198, 199, 200, 201, 202, 203, 204, 205, 206, 207, 208, 209, 210, 211, 212, 213, 214, 215, 216, 217, 218, 219, 220, 221, 222, 223, 224, 225, 226, 227, 228, 229, 230, 231, 232, 233, 234, 252, 253, 254, 255, 256, 257, 258, 259, 260, 261, 262, 263, 264, 265, 266, 267, 268, 269, 270, 271] rfl rfl
set_option maxRecDepth 100000 in
theorem gX8_fault_X3_run : GoodIn wsX8_fault (wsV RX8 154 RX3 yX3_run wsX3_run) := goodIn_app (goodIn_r _ [7, 8, 9, 10] rfl rfl) ggX8_fault_X3_run
set_option maxRecDepth 100000 in
theorem ggX8_fault_X3_hasFault : GoodIn wsX8_fault wsX3_hasFault := goodIn_r _ [238, 15, 252, 253, 254, 255, 256] rfl rfl
set_option maxRecDepth 100000 in
theorem gX8_fault_X3_hasFault : GoodIn wsX8_fault (wsV RX8 157 RX3 yX3_hasFault wsX3_hasFault) := goodIn_app (goodIn_r _ [235, 236, 237, 10] rfl rfl) ggX8_fault_X3_hasFault
set_option maxRecDepth 100000 in
theorem ggX8_fault_X3_position : GoodIn wsX8_fault wsX3_position := goodIn_r _ [242, 14, 252, 253, 254, 255, 256] rfl rfl
set_option maxRecDepth 100000 in
theorem gX8_fault_X3_position : GoodIn wsX8_fault (wsV RX8 161 RX3 yX3_position wsX3_position) := goodIn_app (goodIn_r _ [239, 240, 241, 10] rfl rfl) ggX8_fault_X3_position
set_option maxRecDepth 100000 in
theorem ggX8_fault_X3_reason : GoodIn wsX8_fault wsX3_reason := goodIn_r _ [246, 15, 252, 253, 254, 255, 256] rfl rfl
set_option maxRecDepth 100000 in
theorem gX8_fault_X3_reason : GoodIn wsX8_fault (wsV RX8 164 RX3 yX3_reason wsX3_reason) := goodIn_app (goodIn_r _ [243, 244, 245, 10] rfl rfl) ggX8_fault_X3_reason
theorem dX8_fault_0 : decode cX8_fault 0 = .ok (.iload_n 1, 1) := by decide +kernel
theorem dX8_fault_1 : decode cX8_fault 1 = .ok (.iconst 0, 1) := by decide +kernel
theorem dX8_fault_2 : decode cX8_fault 2 = .ok (.iconst 1, 1) := by decide +kernel
theorem dX8_fault_3 : decode cX8_fault 3 = .ok (.invokestatic 87, 3) := by decide +kernel
theorem dX8_fault_6 : decode cX8_fault 6 = .ok (.ifCond .ne 5, 3) := by decide +kernel
theorem dX8_fault_9 : decode cX8_fault 9 = .ok (.iconst (-1), 1) := by decide +kernel
theorem dX8_fault_10 : decode cX8_fault 10 = .ok (.ireturn, 1) := by decide +kernel
theorem dX8_fault_11 : decode cX8_fault 11 = .ok (.aload_n 0, 1) := by decide +kernel
theorem dX8_fault_12 : decode cX8_fault 12 = .ok (.getfield 44, 3) := by decide +kernel
theorem dX8_fault_15 : decode cX8_fault 15 = .ok (.aload_n 0, 1) := by decide +kernel
theorem dX8_fault_16 : decode cX8_fault 16 = .ok (.getfield 10, 3) := by decide +kernel
theorem dX8_fault_19 : decode cX8_fault 19 = .ok (.invokevirtual 154, 3) := by decide +kernel
theorem dX8_fault_22 : decode cX8_fault 22 = .ok (.aload_n 0, 1) := by decide +kernel
theorem dX8_fault_23 : decode cX8_fault 23 = .ok (.getfield 44, 3) := by decide +kernel
theorem dX8_fault_26 : decode cX8_fault 26 = .ok (.invokevirtual 157, 3) := by decide +kernel
theorem dX8_fault_29 : decode cX8_fault 29 = .ok (.ifCond .ne 6, 3) := by decide +kernel
theorem dX8_fault_32 : decode cX8_fault 32 = .ok (.bipush (-4), 2) := by decide +kernel
theorem dX8_fault_34 : decode cX8_fault 34 = .ok (.ireturn, 1) := by decide +kernel
theorem dX8_fault_35 : decode cX8_fault 35 = .ok (.iload_n 1, 1) := by decide +kernel
theorem dX8_fault_36 : decode cX8_fault 36 = .ok (.ifCond .ne 13, 3) := by decide +kernel
theorem dX8_fault_39 : decode cX8_fault 39 = .ok (.aload_n 0, 1) := by decide +kernel
theorem dX8_fault_40 : decode cX8_fault 40 = .ok (.getfield 44, 3) := by decide +kernel
theorem dX8_fault_43 : decode cX8_fault 43 = .ok (.invokevirtual 161, 3) := by decide +kernel
theorem dX8_fault_46 : decode cX8_fault 46 = .ok (.goto 10, 3) := by decide +kernel
theorem dX8_fault_49 : decode cX8_fault 49 = .ok (.aload_n 0, 1) := by decide +kernel
theorem dX8_fault_50 : decode cX8_fault 50 = .ok (.getfield 44, 3) := by decide +kernel
theorem dX8_fault_53 : decode cX8_fault 53 = .ok (.invokevirtual 164, 3) := by decide +kernel
theorem dX8_fault_56 : decode cX8_fault 56 = .ok (.ireturn, 1) := by decide +kernel
set_option maxRecDepth 100000 in
theorem ggX8_play_X3_run : GoodIn wsX8_play wsX3_run := goodIn_r _ [8, 9, 10, 11, 12, 13, 14, 15, 16, 17, 18, 19, 20, 21, 22, 23, 24, 25, 26, 27, 28, 29, 30, 31, 32, 33, 34, 35, 36, 37, 38, 39, 40, 41, 42, 43, 44, 45, 46, 47, 48, 49, 50, 51, 52, 53, 54, 55, 56, 57, 58, 59, 60, 61, 62, 63, 64, 65, 66, 67, 68, 69, 70, 71, 72, 73, 74, 75, 76, 77, 78, 79, 80, 81, 82, 83, 84, 85, 86, 87, 88, 89, 90, 91, 92, 93, 94, 95, 96, 97, 98, 99, 100, 101, 102, 103, 104, 105, 106, 107, 108, 109, 110, 111, 112, 113, 114, 115, 116, 117, 118, 119, 120, 121, 122, 123, 124, 125, 126, 7, 127, 128, 129, 130, 131, 132, 133, 134, 135, 136, 137, 138, 139, 140, 141, 142, 143, 144, 145, 146, 147, 148, 149, 150, 151, 152, 153, 154, 155, 156, 157, 158, 159, 160, 161, 162, 163, 164, 165, 166, 167, 168, 169, 170, 171, 172, 173, 174, 175, 176, 177, 178, 179, 180, 181, 182, 183, 184, 185, 186, 187, 188, 189, 190, 191, 192, 193, 194, 195, 196, 197, 198, 199, 200, 201, 202, 203, 204, 205, 206, 207, 208, 209, 210, 211, 212, 213, 214, 215, 216, 217, 218, 219, 220, 221, 222, 223, 224, 225, 226, 227, 228, 229, 230, 231, 232, 233, 234, 235, 270, 271, 272, 273, 274, 275, 276, 277, 278, 279, 280, 281, 282, 283, 284, 285, 286, 287, 288, 289] rfl rfl
set_option maxRecDepth 100000 in
theorem gX8_play_X3_run : GoodIn wsX8_play (wsV RX8 154 RX3 yX3_run wsX3_run) := goodIn_app (goodIn_r _ [4, 5, 6, 7] rfl rfl) ggX8_play_X3_run
set_option maxRecDepth 100000 in
theorem ggX8_play_X3_hasFault : GoodIn wsX8_play wsX3_hasFault := goodIn_r _ [239, 12, 270, 271, 272, 273, 274] rfl rfl
set_option maxRecDepth 100000 in
theorem gX8_play_X3_hasFault : GoodIn wsX8_play (wsV RX8 157 RX3 yX3_hasFault wsX3_hasFault) := goodIn_app (goodIn_r _ [236, 237, 238, 7] rfl rfl) ggX8_play_X3_hasFault
set_option maxRecDepth 100000 in
theorem ggX8_play_X1_draft : GoodIn wsX8_play wsX1_draft := goodIn_r _ [244, 245, 246, 247, 248, 243, 249, 250, 251, 252, 15, 16, 17, 18, 19, 20, 21, 22, 23, 24, 25, 26, 27, 28, 29, 30, 31, 32, 290, 291, 292, 275, 276, 277, 278, 279, 280, 281, 282, 283, 284] rfl rfl
set_option maxRecDepth 100000 in
theorem gX8_play_X1_draft : GoodIn wsX8_play (wsV RX8 48 RX1 yX1_draft wsX1_draft) := goodIn_app (goodIn_r _ [240, 241, 242, 243] rfl rfl) ggX8_play_X1_draft
set_option maxRecDepth 100000 in
theorem ggX8_play_X3_copyTo : GoodIn wsX8_play wsX3_copyTo := goodIn_r _ [256, 9, 14, 15, 16, 17, 18, 19, 20, 21, 22, 23, 24, 25, 26, 27, 28, 29, 30, 31, 32, 270, 271, 272, 273, 274, 275, 276, 277, 278, 279, 280, 281, 282, 283, 284] rfl rfl
set_option maxRecDepth 100000 in
theorem gX8_play_X3_copyTo : GoodIn wsX8_play (wsV RX8 167 RX3 yX3_copyTo wsX3_copyTo) := goodIn_app (goodIn_r _ [253, 254, 255, 7] rfl rfl) ggX8_play_X3_copyTo
set_option maxRecDepth 100000 in
theorem ggX8_play_X3_commands : GoodIn wsX8_play wsX3_commands := goodIn_r _ [260, 10, 270, 271, 272, 273, 274] rfl rfl
set_option maxRecDepth 100000 in
theorem gX8_play_X3_commands : GoodIn wsX8_play (wsV RX8 170 RX3 yX3_commands wsX3_commands) := goodIn_app (goodIn_r _ [257, 258, 259, 7] rfl rfl) ggX8_play_X3_commands
set_option maxRecDepth 100000 in
theorem ggX8_play_X1_settle : GoodIn wsX8_play wsX1_settle := goodIn_r _ [264, 245, 250, 290, 291, 292] rfl rfl
set_option maxRecDepth 100000 in
theorem gX8_play_X1_settle : GoodIn wsX8_play (wsV RX8 55 RX1 yX1_settle wsX1_settle) := goodIn_app (goodIn_r _ [261, 262, 263, 243] rfl rfl) ggX8_play_X1_settle
theorem dX8_play_0 : decode cX8_play 0 = .ok (.aload_n 0, 1) := by decide +kernel
theorem dX8_play_1 : decode cX8_play 1 = .ok (.getfield 44, 3) := by decide +kernel
theorem dX8_play_4 : decode cX8_play 4 = .ok (.aload_n 0, 1) := by decide +kernel
theorem dX8_play_5 : decode cX8_play 5 = .ok (.getfield 10, 3) := by decide +kernel
theorem dX8_play_8 : decode cX8_play 8 = .ok (.invokevirtual 154, 3) := by decide +kernel
theorem dX8_play_11 : decode cX8_play 11 = .ok (.aload_n 0, 1) := by decide +kernel
theorem dX8_play_12 : decode cX8_play 12 = .ok (.getfield 44, 3) := by decide +kernel
theorem dX8_play_15 : decode cX8_play 15 = .ok (.invokevirtual 157, 3) := by decide +kernel
theorem dX8_play_18 : decode cX8_play 18 = .ok (.ifCond .eq 6, 3) := by decide +kernel
theorem dX8_play_21 : decode cX8_play 21 = .ok (.bipush (-2), 2) := by decide +kernel
theorem dX8_play_23 : decode cX8_play 23 = .ok (.ireturn, 1) := by decide +kernel
theorem dX8_play_24 : decode cX8_play 24 = .ok (.aload_n 0, 1) := by decide +kernel
theorem dX8_play_25 : decode cX8_play 25 = .ok (.getfield 28, 3) := by decide +kernel
theorem dX8_play_28 : decode cX8_play 28 = .ok (.aload_n 0, 1) := by decide +kernel
theorem dX8_play_29 : decode cX8_play 29 = .ok (.getfield 10, 3) := by decide +kernel
theorem dX8_play_32 : decode cX8_play 32 = .ok (.invokevirtual 48, 3) := by decide +kernel
theorem dX8_play_35 : decode cX8_play 35 = .ok (.aload_n 0, 1) := by decide +kernel
theorem dX8_play_36 : decode cX8_play 36 = .ok (.getfield 44, 3) := by decide +kernel
theorem dX8_play_39 : decode cX8_play 39 = .ok (.aload_n 0, 1) := by decide +kernel
theorem dX8_play_40 : decode cX8_play 40 = .ok (.getfield 10, 3) := by decide +kernel
theorem dX8_play_43 : decode cX8_play 43 = .ok (.invokevirtual 167, 3) := by decide +kernel
theorem dX8_play_46 : decode cX8_play 46 = .ok (.aload_n 0, 1) := by decide +kernel
theorem dX8_play_47 : decode cX8_play 47 = .ok (.getfield 28, 3) := by decide +kernel
theorem dX8_play_50 : decode cX8_play 50 = .ok (.aload_n 0, 1) := by decide +kernel
theorem dX8_play_51 : decode cX8_play 51 = .ok (.getfield 44, 3) := by decide +kernel
theorem dX8_play_54 : decode cX8_play 54 = .ok (.invokevirtual 170, 3) := by decide +kernel
theorem dX8_play_57 : decode cX8_play 57 = .ok (.invokevirtual 55, 3) := by decide +kernel
theorem dX8_play_60 : decode cX8_play 60 = .ok (.ireturn, 1) := by decide +kernel
