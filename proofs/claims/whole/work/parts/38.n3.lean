theorem dJx29ce0_ordinal_8abf5_0 : decode cJx29ce0_ordinal_8abf5 0 = .ok (.aload_n 0, 1) := by decide +kernel
theorem dJx29ce0_ordinal_8abf5_1 : decode cJx29ce0_ordinal_8abf5 1 = .ok (.getfield 7, 3) := by decide +kernel
theorem dJx29ce0_ordinal_8abf5_4 : decode cJx29ce0_ordinal_8abf5 4 = .ok (.ireturn, 1) := by decide +kernel
set_option maxRecDepth 100000 in
theorem ggX3_init_X5_init : GoodIn wsX3_init wsX5_init := goodIn_r _ [11, 12, 2, 3, 13, 14, 15, 16, 17, 18, 19, 20, 21, 22, 23, 24, 25, 26, 27, 28, 29, 30, 31, 45, 46, 37, 38, 39, 40, 41, 42, 43, 44] rfl rfl
set_option maxRecDepth 100000 in
theorem gX3_init_X5_init : GoodIn wsX3_init (wsX5_init) := ggX3_init_X5_init
theorem dX3_init_0 : decode cX3_init 0 = .ok (.aload_n 0, 1) := by decide +kernel
theorem dX3_init_1 : decode cX3_init 1 = .ok (.invokespecial 3, 3) := by decide +kernel
theorem dX3_init_4 : decode cX3_init 4 = .ok (.aload_n 0, 1) := by decide +kernel
theorem dX3_init_5 : decode cX3_init 5 = .ok (.aload_n 1, 1) := by decide +kernel
theorem dX3_init_6 : decode cX3_init 6 = .ok (.putfield 9, 3) := by decide +kernel
theorem dX3_init_9 : decode cX3_init 9 = .ok (.aload_n 0, 1) := by decide +kernel
theorem dX3_init_10 : decode cX3_init 10 = .ok (.new 15, 3) := by decide +kernel
theorem dX3_init_13 : decode cX3_init 13 = .ok (.dup, 1) := by decide +kernel
theorem dX3_init_14 : decode cX3_init 14 = .ok (.invokespecial 17, 3) := by decide +kernel
theorem dX3_init_17 : decode cX3_init 17 = .ok (.putfield 18, 3) := by decide +kernel
theorem dX3_init_20 : decode cX3_init 20 = .ok (.return_, 1) := by decide +kernel
set_option maxRecDepth 100000 in
theorem ggX3_run_X5_copyFrom : GoodIn wsX3_run wsX5_copyFrom := goodIn_r _ [10, 11, 12, 13, 14, 15, 16, 17, 18, 19, 20, 21, 22, 23, 24, 234, 235, 236, 237, 238, 239, 240, 241, 242, 243] rfl rfl
set_option maxRecDepth 100000 in
theorem gX3_run_X5_copyFrom : GoodIn wsX3_run (wsV RX3 22 RX5 yX5_copyFrom wsX5_copyFrom) := goodIn_app (goodIn_r _ [6, 7, 8, 9] rfl rfl) ggX3_run_X5_copyFrom
set_option maxRecDepth 100000 in
theorem ggX3_run_X4_length : GoodIn wsX3_run wsX4_length := goodIn_r _ [29, 30, 244, 245, 246, 247, 248] rfl rfl
set_option maxRecDepth 100000 in
theorem gX3_run_X4_length : GoodIn wsX3_run (wsV RX3 36 RX4 yX4_length wsX4_length) := goodIn_app (goodIn_r _ [25, 26, 27, 28] rfl rfl) ggX3_run_X4_length
set_option maxRecDepth 100000 in
theorem ggX3_run_X4_readCommand : GoodIn wsX3_run wsX4_readCommand := goodIn_r _ [34, 35, 36, 37, 38, 39, 40, 28, 41, 42, 43, 44, 45, 46, 47, 48, 49, 50, 51, 52, 53, 54, 55, 56, 57, 58, 59, 60, 61, 62, 30, 63, 64, 65, 66, 67, 68, 69, 70, 71, 72, 73, 74, 75, 76, 77, 78, 79, 80, 81, 82, 83, 84, 85, 86, 87, 88, 89, 90, 91, 92, 93, 94, 95, 96, 97, 98, 99, 100, 101, 102, 103, 104, 105, 106, 107, 108, 109, 110, 111, 244, 245, 246, 247, 248] rfl rfl
set_option maxRecDepth 100000 in
theorem gX3_run_X4_readCommand : GoodIn wsX3_run (wsV RX3 42 RX4 yX4_readCommand wsX4_readCommand) := goodIn_app (goodIn_r _ [31, 32, 33, 28] rfl rfl) ggX3_run_X4_readCommand
set_option maxRecDepth 100000 in
theorem ggX3_run_X4_verb : GoodIn wsX3_run wsX4_verb := goodIn_r _ [115, 36, 244, 245, 246, 247, 248] rfl rfl
set_option maxRecDepth 100000 in
theorem gX3_run_X4_verb : GoodIn wsX3_run (wsV RX3 46 RX4 yX4_verb wsX4_verb) := goodIn_app (goodIn_r _ [112, 113, 114, 28] rfl rfl) ggX3_run_X4_verb
set_option maxRecDepth 100000 in
theorem ggX3_run_X3_answerOf : GoodIn wsX3_run wsX3_answerOf := goodIn_r _ [120, 5, 121, 1, 122, 123, 124, 28, 125, 37, 126, 127, 128, 129, 130, 131, 132, 133, 134, 135, 9, 136, 14, 11, 109, 110, 111, 137, 138, 139, 22, 140, 141, 24, 142, 143, 144, 145, 146, 147, 148, 149, 150, 151, 152, 13, 153, 154, 155, 156, 157, 158, 159, 160, 161, 162, 163, 164, 165, 166, 167, 168, 15, 169, 170, 171, 172, 173, 174, 175, 176, 177, 178, 12, 179, 180, 181, 182, 183, 184, 185, 186, 16, 18, 187, 188, 189, 190, 191, 192, 193, 194, 195, 196, 197, 198, 199, 200, 17, 201, 202, 203, 204, 205, 206, 207, 208, 209, 210, 211, 212, 213, 214, 215, 216, 217, 218, 219, 220, 221, 222, 223, 224, 229, 230, 231, 232, 233, 244, 245, 246, 247, 248, 234, 235, 236, 237, 238, 239, 240, 241, 242, 243] rfl rfl
set_option maxRecDepth 100000 in
theorem gX3_run_X3_answerOf : GoodIn wsX3_run (wsV RX3 50 RX3 yX3_answerOf wsX3_answerOf) := goodIn_app (goodIn_r _ [116, 117, 118, 119] rfl rfl) ggX3_run_X3_answerOf
set_option maxRecDepth 100000 in
theorem ggX3_run_X4_position : GoodIn wsX3_run wsX4_position := goodIn_r _ [228, 35, 244, 245, 246, 247, 248] rfl rfl
set_option maxRecDepth 100000 in
theorem gX3_run_X4_position : GoodIn wsX3_run (wsV RX3 54 RX4 yX4_position wsX4_position) := goodIn_app (goodIn_r _ [225, 226, 227, 28] rfl rfl) ggX3_run_X4_position
theorem dX3_run_0 : decode cX3_run 0 = .ok (.aload_n 0, 1) := by decide +kernel
theorem dX3_run_1 : decode cX3_run 1 = .ok (.getfield 18, 3) := by decide +kernel
theorem dX3_run_4 : decode cX3_run 4 = .ok (.aload_n 1, 1) := by decide +kernel
theorem dX3_run_5 : decode cX3_run 5 = .ok (.invokevirtual 22, 3) := by decide +kernel
theorem dX3_run_8 : decode cX3_run 8 = .ok (.aload_n 0, 1) := by decide +kernel
theorem dX3_run_9 : decode cX3_run 9 = .ok (.iconst 0, 1) := by decide +kernel
theorem dX3_run_10 : decode cX3_run 10 = .ok (.putfield 26, 3) := by decide +kernel
theorem dX3_run_13 : decode cX3_run 13 = .ok (.aload_n 0, 1) := by decide +kernel
theorem dX3_run_14 : decode cX3_run 14 = .ok (.iconst 0, 1) := by decide +kernel
theorem dX3_run_15 : decode cX3_run 15 = .ok (.putfield 30, 3) := by decide +kernel
theorem dX3_run_18 : decode cX3_run 18 = .ok (.aload_n 0, 1) := by decide +kernel
theorem dX3_run_19 : decode cX3_run 19 = .ok (.iconst 0, 1) := by decide +kernel
theorem dX3_run_20 : decode cX3_run 20 = .ok (.putfield 33, 3) := by decide +kernel
theorem dX3_run_23 : decode cX3_run 23 = .ok (.iconst 0, 1) := by decide +kernel
theorem dX3_run_24 : decode cX3_run 24 = .ok (.istore_n 2, 1) := by decide +kernel
theorem dX3_run_25 : decode cX3_run 25 = .ok (.iload_n 2, 1) := by decide +kernel
theorem dX3_run_26 : decode cX3_run 26 = .ok (.bipush 80, 2) := by decide +kernel
theorem dX3_run_28 : decode cX3_run 28 = .ok (.if_icmp .ge 95, 3) := by decide +kernel
theorem dX3_run_31 : decode cX3_run 31 = .ok (.aload_n 0, 1) := by decide +kernel
theorem dX3_run_32 : decode cX3_run 32 = .ok (.getfield 30, 3) := by decide +kernel
theorem dX3_run_35 : decode cX3_run 35 = .ok (.aload_n 0, 1) := by decide +kernel
theorem dX3_run_36 : decode cX3_run 36 = .ok (.getfield 9, 3) := by decide +kernel
theorem dX3_run_39 : decode cX3_run 39 = .ok (.invokevirtual 36, 3) := by decide +kernel
theorem dX3_run_42 : decode cX3_run 42 = .ok (.if_icmp .ge 81, 3) := by decide +kernel
theorem dX3_run_45 : decode cX3_run 45 = .ok (.aload_n 0, 1) := by decide +kernel
theorem dX3_run_46 : decode cX3_run 46 = .ok (.getfield 9, 3) := by decide +kernel
theorem dX3_run_49 : decode cX3_run 49 = .ok (.aload_n 0, 1) := by decide +kernel
theorem dX3_run_50 : decode cX3_run 50 = .ok (.getfield 30, 3) := by decide +kernel
theorem dX3_run_53 : decode cX3_run 53 = .ok (.invokevirtual 42, 3) := by decide +kernel
theorem dX3_run_56 : decode cX3_run 56 = .ok (.ifCond .ne 9, 3) := by decide +kernel
theorem dX3_run_59 : decode cX3_run 59 = .ok (.aload_n 0, 1) := by decide +kernel
theorem dX3_run_60 : decode cX3_run 60 = .ok (.iconst 1, 1) := by decide +kernel
theorem dX3_run_61 : decode cX3_run 61 = .ok (.putfield 33, 3) := by decide +kernel
theorem dX3_run_64 : decode cX3_run 64 = .ok (.return_, 1) := by decide +kernel
theorem dX3_run_65 : decode cX3_run 65 = .ok (.aload_n 0, 1) := by decide +kernel
theorem dX3_run_66 : decode cX3_run 66 = .ok (.aload_n 0, 1) := by decide +kernel
theorem dX3_run_67 : decode cX3_run 67 = .ok (.getfield 9, 3) := by decide +kernel
theorem dX3_run_70 : decode cX3_run 70 = .ok (.invokevirtual 46, 3) := by decide +kernel
theorem dX3_run_73 : decode cX3_run 73 = .ok (.invokevirtual 50, 3) := by decide +kernel
theorem dX3_run_76 : decode cX3_run 76 = .ok (.istore_n 3, 1) := by decide +kernel
theorem dX3_run_77 : decode cX3_run 77 = .ok (.iload_n 3, 1) := by decide +kernel
theorem dX3_run_78 : decode cX3_run 78 = .ok (.ifCond .ge 18, 3) := by decide +kernel
theorem dX3_run_81 : decode cX3_run 81 = .ok (.aload_n 0, 1) := by decide +kernel
theorem dX3_run_82 : decode cX3_run 82 = .ok (.iload_n 3, 1) := by decide +kernel
theorem dX3_run_83 : decode cX3_run 83 = .ok (.iconst (-1), 1) := by decide +kernel
theorem dX3_run_84 : decode cX3_run 84 = .ok (.if_icmp .ne 7, 3) := by decide +kernel
theorem dX3_run_87 : decode cX3_run 87 = .ok (.iconst 2, 1) := by decide +kernel
theorem dX3_run_88 : decode cX3_run 88 = .ok (.goto 4, 3) := by decide +kernel
theorem dX3_run_91 : decode cX3_run 91 = .ok (.iconst 3, 1) := by decide +kernel
theorem dX3_run_92 : decode cX3_run 92 = .ok (.putfield 33, 3) := by decide +kernel
theorem dX3_run_95 : decode cX3_run 95 = .ok (.return_, 1) := by decide +kernel
theorem dX3_run_96 : decode cX3_run 96 = .ok (.aload_n 0, 1) := by decide +kernel
theorem dX3_run_97 : decode cX3_run 97 = .ok (.dup, 1) := by decide +kernel
theorem dX3_run_98 : decode cX3_run 98 = .ok (.getfield 26, 3) := by decide +kernel
theorem dX3_run_101 : decode cX3_run 101 = .ok (.iconst 1, 1) := by decide +kernel
theorem dX3_run_102 : decode cX3_run 102 = .ok (.iadd, 1) := by decide +kernel
theorem dX3_run_103 : decode cX3_run 103 = .ok (.putfield 26, 3) := by decide +kernel
theorem dX3_run_106 : decode cX3_run 106 = .ok (.aload_n 0, 1) := by decide +kernel
theorem dX3_run_107 : decode cX3_run 107 = .ok (.aload_n 0, 1) := by decide +kernel
theorem dX3_run_108 : decode cX3_run 108 = .ok (.getfield 9, 3) := by decide +kernel
theorem dX3_run_111 : decode cX3_run 111 = .ok (.invokevirtual 54, 3) := by decide +kernel
theorem dX3_run_114 : decode cX3_run 114 = .ok (.putfield 30, 3) := by decide +kernel
theorem dX3_run_117 : decode cX3_run 117 = .ok (.iinc 2 1, 3) := by decide +kernel
theorem dX3_run_120 : decode cX3_run 120 = .ok (.goto (-95), 3) := by decide +kernel
theorem dX3_run_123 : decode cX3_run 123 = .ok (.return_, 1) := by decide +kernel
theorem dX3_hasFault_0 : decode cX3_hasFault 0 = .ok (.aload_n 0, 1) := by decide +kernel
theorem dX3_hasFault_1 : decode cX3_hasFault 1 = .ok (.getfield 33, 3) := by decide +kernel
theorem dX3_hasFault_4 : decode cX3_hasFault 4 = .ok (.ifCond .eq 7, 3) := by decide +kernel
theorem dX3_hasFault_7 : decode cX3_hasFault 7 = .ok (.iconst 1, 1) := by decide +kernel
theorem dX3_hasFault_8 : decode cX3_hasFault 8 = .ok (.goto 4, 3) := by decide +kernel
theorem dX3_hasFault_11 : decode cX3_hasFault 11 = .ok (.iconst 0, 1) := by decide +kernel
theorem dX3_hasFault_12 : decode cX3_hasFault 12 = .ok (.ireturn, 1) := by decide +kernel
theorem dX3_position_0 : decode cX3_position 0 = .ok (.aload_n 0, 1) := by decide +kernel
theorem dX3_position_1 : decode cX3_position 1 = .ok (.getfield 30, 3) := by decide +kernel
theorem dX3_position_4 : decode cX3_position 4 = .ok (.ireturn, 1) := by decide +kernel
theorem dX3_reason_0 : decode cX3_reason 0 = .ok (.aload_n 0, 1) := by decide +kernel
theorem dX3_reason_1 : decode cX3_reason 1 = .ok (.getfield 33, 3) := by decide +kernel
theorem dX3_reason_4 : decode cX3_reason 4 = .ok (.ireturn, 1) := by decide +kernel
theorem dX3_commands_0 : decode cX3_commands 0 = .ok (.aload_n 0, 1) := by decide +kernel
theorem dX3_commands_1 : decode cX3_commands 1 = .ok (.getfield 26, 3) := by decide +kernel
theorem dX3_commands_4 : decode cX3_commands 4 = .ok (.ireturn, 1) := by decide +kernel
set_option maxRecDepth 100000 in
theorem ggX3_copyTo_X5_copyFrom : GoodIn wsX3_copyTo wsX5_copyFrom := goodIn_r _ [6, 7, 8, 9, 10, 11, 12, 13, 14, 15, 16, 17, 18, 19, 20, 26, 27, 28, 29, 30, 31, 32, 33, 34, 35] rfl rfl
set_option maxRecDepth 100000 in
theorem gX3_copyTo_X5_copyFrom : GoodIn wsX3_copyTo (wsV RX3 22 RX5 yX5_copyFrom wsX5_copyFrom) := goodIn_app (goodIn_r _ [2, 3, 4, 5] rfl rfl) ggX3_copyTo_X5_copyFrom
theorem dX3_copyTo_0 : decode cX3_copyTo 0 = .ok (.aload_n 1, 1) := by decide +kernel
theorem dX3_copyTo_1 : decode cX3_copyTo 1 = .ok (.aload_n 0, 1) := by decide +kernel
theorem dX3_copyTo_2 : decode cX3_copyTo 2 = .ok (.getfield 18, 3) := by decide +kernel
theorem dX3_copyTo_5 : decode cX3_copyTo 5 = .ok (.invokevirtual 22, 3) := by decide +kernel
theorem dX3_copyTo_8 : decode cX3_copyTo 8 = .ok (.return_, 1) := by decide +kernel
set_option maxRecDepth 100000 in
theorem ggX3_answerOf_X4_number : GoodIn wsX3_answerOf wsX4_number := goodIn_r _ [8, 9, 128, 129, 130, 131, 132] rfl rfl
set_option maxRecDepth 100000 in
theorem gX3_answerOf_X4_number : GoodIn wsX3_answerOf (wsV RX3 56 RX4 yX4_number wsX4_number) := goodIn_app (goodIn_r _ [4, 5, 6, 7] rfl rfl) ggX3_answerOf_X4_number
set_option maxRecDepth 100000 in
theorem ggX3_answerOf_Jx29ce0_ordinal_8abf5 : GoodIn wsX3_answerOf wsJx29ce0_ordinal_8abf5 := goodIn_r _ [15, 16] rfl rfl
set_option maxRecDepth 100000 in
theorem gX3_answerOf_Jx29ce0_ordinal_8abf5_u66X7 : GoodIn wsX3_answerOf (([.methodLink RX3 66 ⟨"FieldQuotas$Verb", "ordinal", "()I"⟩, .sameMethod "FieldQuotas$Verb" "java/lang/Enum" "ordinal" "()I", .selects RX7 ⟨"FieldQuotas$Verb", "ordinal", "()I"⟩ yJx29ce0_ordinal_8abf5, .instanceMethod yJx29ce0_ordinal_8abf5] : List Cond) ++ wsJx29ce0_ordinal_8abf5) := goodIn_app (goodIn_of _ (by decide +kernel)) ggX3_answerOf_Jx29ce0_ordinal_8abf5
set_option maxRecDepth 100000 in
theorem ggX3_answerOf_X5_addAddress : GoodIn wsX3_answerOf wsX5_addAddress := goodIn_r _ [21, 22, 23, 24, 25, 26, 27, 28, 29, 30, 31, 32, 33, 133, 134, 135, 136, 137, 138, 139, 140, 141, 142] rfl rfl
set_option maxRecDepth 100000 in
theorem gX3_answerOf_X5_addAddress : GoodIn wsX3_answerOf (wsV RX3 71 RX5 yX5_addAddress wsX5_addAddress) := goodIn_app (goodIn_r _ [17, 18, 19, 20] rfl rfl) ggX3_answerOf_X5_addAddress
set_option maxRecDepth 100000 in
theorem ggX3_answerOf_X5_changeQuota : GoodIn wsX3_answerOf wsX5_changeQuota := goodIn_r _ [37, 38, 25, 39, 40, 24, 26, 41, 42, 43, 20, 44, 45, 46, 47, 48, 30, 49, 32, 33, 27, 28, 29, 31, 133, 134, 135, 136, 137, 138, 139, 140, 141, 142] rfl rfl
set_option maxRecDepth 100000 in
theorem gX3_answerOf_X5_changeQuota : GoodIn wsX3_answerOf (wsV RX3 74 RX5 yX5_changeQuota wsX5_changeQuota) := goodIn_app (goodIn_r _ [34, 35, 36, 20] rfl rfl) ggX3_answerOf_X5_changeQuota
set_option maxRecDepth 100000 in
theorem ggX3_answerOf_X5_makeCall : GoodIn wsX3_answerOf wsX5_makeCall := goodIn_r _ [53, 23, 54, 55, 56, 20, 57, 58, 59, 60, 61, 62, 24, 25, 26, 63, 64, 65, 66, 22, 67, 68, 40, 69, 70, 71, 72, 73, 46, 47, 48, 30, 49, 32, 33, 74, 75, 76, 77, 78, 79, 80, 81, 82, 83, 84, 85, 86, 87, 88, 89, 90, 91, 92, 93, 28, 29, 31, 27, 94, 95, 96, 97, 98, 99, 100, 101, 102, 45, 103, 104, 105, 106, 133, 134, 135, 136, 137, 138, 139, 140, 141, 142] rfl rfl
set_option maxRecDepth 100000 in
theorem gX3_answerOf_X5_makeCall : GoodIn wsX3_answerOf (wsV RX3 78 RX5 yX5_makeCall wsX5_makeCall) := goodIn_app (goodIn_r _ [50, 51, 52, 20] rfl rfl) ggX3_answerOf_X5_makeCall
set_option maxRecDepth 100000 in
theorem ggX3_answerOf_X5_makeMeeting : GoodIn wsX3_answerOf wsX5_makeMeeting := goodIn_r _ [110, 82, 23, 54, 55, 56, 20, 57, 58, 59, 60, 61, 62, 24, 25, 26, 63, 64, 65, 66, 22, 67, 68, 40, 69, 70, 71, 72, 73, 46, 47, 48, 30, 49, 32, 33, 74, 75, 76, 77, 78, 79, 80, 81, 83, 84, 85, 86, 87, 88, 89, 90, 91, 92, 93, 28, 29, 31, 27, 111, 112, 113, 114, 115, 116, 117, 118, 133, 134, 135, 136, 137, 138, 139, 140, 141, 142] rfl rfl
set_option maxRecDepth 100000 in
theorem gX3_answerOf_X5_makeMeeting : GoodIn wsX3_answerOf (wsV RX3 82 RX5 yX5_makeMeeting wsX5_makeMeeting) := goodIn_app (goodIn_r _ [107, 108, 109, 20] rfl rfl) ggX3_answerOf_X5_makeMeeting
set_option maxRecDepth 100000 in
theorem ggX3_answerOf_X5_passDays : GoodIn wsX3_answerOf wsX5_passDays := goodIn_r _ [122, 82, 62, 73, 24, 25, 26, 27, 28, 29, 30, 31, 32, 33, 133, 134, 135, 136, 137, 138, 139, 140, 141, 142] rfl rfl
set_option maxRecDepth 100000 in
theorem gX3_answerOf_X5_passDays : GoodIn wsX3_answerOf (wsV RX3 86 RX5 yX5_passDays wsX5_passDays) := goodIn_app (goodIn_r _ [119, 120, 121, 20] rfl rfl) ggX3_answerOf_X5_passDays
theorem dX3_answerOf_0 : decode cX3_answerOf 0 = .ok (.aload_n 1, 1) := by decide +kernel
theorem dX3_answerOf_1 : decode cX3_answerOf 1 = .ok (.ifnonnull 6, 3) := by decide +kernel
theorem dX3_answerOf_4 : decode cX3_answerOf 4 = .ok (.bipush (-2), 2) := by decide +kernel
theorem dX3_answerOf_6 : decode cX3_answerOf 6 = .ok (.ireturn, 1) := by decide +kernel
theorem dX3_answerOf_7 : decode cX3_answerOf 7 = .ok (.aload_n 0, 1) := by decide +kernel
theorem dX3_answerOf_8 : decode cX3_answerOf 8 = .ok (.getfield 9, 3) := by decide +kernel
theorem dX3_answerOf_11 : decode cX3_answerOf 11 = .ok (.iconst 0, 1) := by decide +kernel
theorem dX3_answerOf_12 : decode cX3_answerOf 12 = .ok (.invokevirtual 56, 3) := by decide +kernel
theorem dX3_answerOf_15 : decode cX3_answerOf 15 = .ok (.istore_n 2, 1) := by decide +kernel
theorem dX3_answerOf_16 : decode cX3_answerOf 16 = .ok (.aload_n 0, 1) := by decide +kernel
theorem dX3_answerOf_17 : decode cX3_answerOf 17 = .ok (.getfield 9, 3) := by decide +kernel
theorem dX3_answerOf_20 : decode cX3_answerOf 20 = .ok (.iconst 1, 1) := by decide +kernel
theorem dX3_answerOf_21 : decode cX3_answerOf 21 = .ok (.invokevirtual 56, 3) := by decide +kernel
theorem dX3_answerOf_24 : decode cX3_answerOf 24 = .ok (.istore_n 3, 1) := by decide +kernel
theorem dX3_answerOf_25 : decode cX3_answerOf 25 = .ok (.aload_n 0, 1) := by decide +kernel
theorem dX3_answerOf_26 : decode cX3_answerOf 26 = .ok (.getfield 9, 3) := by decide +kernel
theorem dX3_answerOf_29 : decode cX3_answerOf 29 = .ok (.iconst 2, 1) := by decide +kernel
theorem dX3_answerOf_30 : decode cX3_answerOf 30 = .ok (.invokevirtual 56, 3) := by decide +kernel
theorem dX3_answerOf_33 : decode cX3_answerOf 33 = .ok (.istore 4, 2) := by decide +kernel
theorem dX3_answerOf_35 : decode cX3_answerOf 35 = .ok (.getstatic 60, 3) := by decide +kernel
theorem dX3_answerOf_38 : decode cX3_answerOf 38 = .ok (.aload_n 1, 1) := by decide +kernel
theorem dX3_answerOf_39 : decode cX3_answerOf 39 = .ok (.invokevirtual 66, 3) := by decide +kernel
theorem dX3_answerOf_42 : decode cX3_answerOf 42 = .ok (.iaload, 1) := by decide +kernel
theorem dX3_answerOf_43 : decode cX3_answerOf 43 = .ok (.tableswitch 147 1 7 #[41, 50, 62, 75, 88, 110, 138], 41) := by decide +kernel
theorem dX3_answerOf_84 : decode cX3_answerOf 84 = .ok (.aload_n 0, 1) := by decide +kernel
theorem dX3_answerOf_85 : decode cX3_answerOf 85 = .ok (.getfield 18, 3) := by decide +kernel
theorem dX3_answerOf_88 : decode cX3_answerOf 88 = .ok (.iload_n 2, 1) := by decide +kernel
theorem dX3_answerOf_89 : decode cX3_answerOf 89 = .ok (.invokevirtual 71, 3) := by decide +kernel
theorem dX3_answerOf_92 : decode cX3_answerOf 92 = .ok (.ireturn, 1) := by decide +kernel
theorem dX3_answerOf_93 : decode cX3_answerOf 93 = .ok (.aload_n 0, 1) := by decide +kernel
theorem dX3_answerOf_94 : decode cX3_answerOf 94 = .ok (.getfield 18, 3) := by decide +kernel
theorem dX3_answerOf_97 : decode cX3_answerOf 97 = .ok (.iload_n 2, 1) := by decide +kernel
theorem dX3_answerOf_98 : decode cX3_answerOf 98 = .ok (.iload_n 3, 1) := by decide +kernel
theorem dX3_answerOf_99 : decode cX3_answerOf 99 = .ok (.iload 4, 2) := by decide +kernel
theorem dX3_answerOf_101 : decode cX3_answerOf 101 = .ok (.invokevirtual 74, 3) := by decide +kernel
theorem dX3_answerOf_104 : decode cX3_answerOf 104 = .ok (.ireturn, 1) := by decide +kernel
theorem dX3_answerOf_105 : decode cX3_answerOf 105 = .ok (.aload_n 0, 1) := by decide +kernel
theorem dX3_answerOf_106 : decode cX3_answerOf 106 = .ok (.getfield 18, 3) := by decide +kernel
theorem dX3_answerOf_109 : decode cX3_answerOf 109 = .ok (.iload_n 2, 1) := by decide +kernel
theorem dX3_answerOf_110 : decode cX3_answerOf 110 = .ok (.iload_n 3, 1) := by decide +kernel
theorem dX3_answerOf_111 : decode cX3_answerOf 111 = .ok (.iload 4, 2) := by decide +kernel
theorem dX3_answerOf_113 : decode cX3_answerOf 113 = .ok (.iconst 0, 1) := by decide +kernel
theorem dX3_answerOf_114 : decode cX3_answerOf 114 = .ok (.invokevirtual 78, 3) := by decide +kernel
theorem dX3_answerOf_117 : decode cX3_answerOf 117 = .ok (.ireturn, 1) := by decide +kernel
theorem dX3_answerOf_118 : decode cX3_answerOf 118 = .ok (.aload_n 0, 1) := by decide +kernel
theorem dX3_answerOf_119 : decode cX3_answerOf 119 = .ok (.getfield 18, 3) := by decide +kernel
theorem dX3_answerOf_122 : decode cX3_answerOf 122 = .ok (.iload_n 2, 1) := by decide +kernel
theorem dX3_answerOf_123 : decode cX3_answerOf 123 = .ok (.iload_n 3, 1) := by decide +kernel
theorem dX3_answerOf_124 : decode cX3_answerOf 124 = .ok (.iload 4, 2) := by decide +kernel
theorem dX3_answerOf_126 : decode cX3_answerOf 126 = .ok (.iconst 1, 1) := by decide +kernel
theorem dX3_answerOf_127 : decode cX3_answerOf 127 = .ok (.invokevirtual 78, 3) := by decide +kernel
theorem dX3_answerOf_130 : decode cX3_answerOf 130 = .ok (.ireturn, 1) := by decide +kernel
theorem dX3_answerOf_131 : decode cX3_answerOf 131 = .ok (.aload_n 0, 1) := by decide +kernel
theorem dX3_answerOf_132 : decode cX3_answerOf 132 = .ok (.getfield 18, 3) := by decide +kernel
theorem dX3_answerOf_135 : decode cX3_answerOf 135 = .ok (.iload_n 2, 1) := by decide +kernel
theorem dX3_answerOf_136 : decode cX3_answerOf 136 = .ok (.iload_n 3, 1) := by decide +kernel
theorem dX3_answerOf_137 : decode cX3_answerOf 137 = .ok (.iload 4, 2) := by decide +kernel
theorem dX3_answerOf_139 : decode cX3_answerOf 139 = .ok (.iconst 2, 1) := by decide +kernel
theorem dX3_answerOf_140 : decode cX3_answerOf 140 = .ok (.aload_n 0, 1) := by decide +kernel
theorem dX3_answerOf_141 : decode cX3_answerOf 141 = .ok (.getfield 9, 3) := by decide +kernel
theorem dX3_answerOf_144 : decode cX3_answerOf 144 = .ok (.iconst 3, 1) := by decide +kernel
theorem dX3_answerOf_145 : decode cX3_answerOf 145 = .ok (.invokevirtual 56, 3) := by decide +kernel
theorem dX3_answerOf_148 : decode cX3_answerOf 148 = .ok (.iadd, 1) := by decide +kernel
theorem dX3_answerOf_149 : decode cX3_answerOf 149 = .ok (.invokevirtual 78, 3) := by decide +kernel
theorem dX3_answerOf_152 : decode cX3_answerOf 152 = .ok (.ireturn, 1) := by decide +kernel
theorem dX3_answerOf_153 : decode cX3_answerOf 153 = .ok (.aload_n 0, 1) := by decide +kernel
theorem dX3_answerOf_154 : decode cX3_answerOf 154 = .ok (.getfield 18, 3) := by decide +kernel
theorem dX3_answerOf_157 : decode cX3_answerOf 157 = .ok (.iload_n 2, 1) := by decide +kernel
theorem dX3_answerOf_158 : decode cX3_answerOf 158 = .ok (.iload_n 3, 1) := by decide +kernel
theorem dX3_answerOf_159 : decode cX3_answerOf 159 = .ok (.iload 4, 2) := by decide +kernel
theorem dX3_answerOf_161 : decode cX3_answerOf 161 = .ok (.aload_n 0, 1) := by decide +kernel
theorem dX3_answerOf_162 : decode cX3_answerOf 162 = .ok (.getfield 9, 3) := by decide +kernel
theorem dX3_answerOf_165 : decode cX3_answerOf 165 = .ok (.iconst 3, 1) := by decide +kernel
theorem dX3_answerOf_166 : decode cX3_answerOf 166 = .ok (.invokevirtual 56, 3) := by decide +kernel
theorem dX3_answerOf_169 : decode cX3_answerOf 169 = .ok (.aload_n 0, 1) := by decide +kernel
theorem dX3_answerOf_170 : decode cX3_answerOf 170 = .ok (.getfield 9, 3) := by decide +kernel
theorem dX3_answerOf_173 : decode cX3_answerOf 173 = .ok (.iconst 4, 1) := by decide +kernel
theorem dX3_answerOf_174 : decode cX3_answerOf 174 = .ok (.invokevirtual 56, 3) := by decide +kernel
theorem dX3_answerOf_177 : decode cX3_answerOf 177 = .ok (.invokevirtual 82, 3) := by decide +kernel
theorem dX3_answerOf_180 : decode cX3_answerOf 180 = .ok (.ireturn, 1) := by decide +kernel
theorem dX3_answerOf_181 : decode cX3_answerOf 181 = .ok (.aload_n 0, 1) := by decide +kernel
theorem dX3_answerOf_182 : decode cX3_answerOf 182 = .ok (.getfield 18, 3) := by decide +kernel
theorem dX3_answerOf_185 : decode cX3_answerOf 185 = .ok (.iload_n 2, 1) := by decide +kernel
theorem dX3_answerOf_186 : decode cX3_answerOf 186 = .ok (.invokevirtual 86, 3) := by decide +kernel
theorem dX3_answerOf_189 : decode cX3_answerOf 189 = .ok (.ireturn, 1) := by decide +kernel
theorem dX3_answerOf_190 : decode cX3_answerOf 190 = .ok (.bipush (-2), 2) := by decide +kernel
theorem dX3_answerOf_192 : decode cX3_answerOf 192 = .ok (.ireturn, 1) := by decide +kernel
