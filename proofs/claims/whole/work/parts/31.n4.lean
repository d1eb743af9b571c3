theorem dX4_init_0 : decode cX4_init 0 = .ok (.aload_n 0, 1) := by decide +kernel
theorem dX4_init_1 : decode cX4_init 1 = .ok (.invokespecial 3, 3) := by decide +kernel
theorem dX4_init_4 : decode cX4_init 4 = .ok (.aload_n 0, 1) := by decide +kernel
theorem dX4_init_5 : decode cX4_init 5 = .ok (.bipush 80, 2) := by decide +kernel
theorem dX4_init_7 : decode cX4_init 7 = .ok (.newarray .char, 2) := by decide +kernel
theorem dX4_init_9 : decode cX4_init 9 = .ok (.putfield 9, 3) := by decide +kernel
theorem dX4_init_12 : decode cX4_init 12 = .ok (.aload_n 0, 1) := by decide +kernel
theorem dX4_init_13 : decode cX4_init 13 = .ok (.iconst 5, 1) := by decide +kernel
theorem dX4_init_14 : decode cX4_init 14 = .ok (.newarray .int, 2) := by decide +kernel
theorem dX4_init_16 : decode cX4_init 16 = .ok (.putfield 15, 3) := by decide +kernel
theorem dX4_init_19 : decode cX4_init 19 = .ok (.return_, 1) := by decide +kernel
theorem dX4_length_0 : decode cX4_length 0 = .ok (.aload_n 0, 1) := by decide +kernel
theorem dX4_length_1 : decode cX4_length 1 = .ok (.getfield 19, 3) := by decide +kernel
theorem dX4_length_4 : decode cX4_length 4 = .ok (.ireturn, 1) := by decide +kernel
set_option maxRecDepth 100000 in
theorem ggX4_append_X8_isWithin : GoodIn wsX4_append wsX8_isWithin := goodIn_r _ [5] rfl rfl
set_option maxRecDepth 100000 in
theorem gX4_append_X8_isWithin_n23 : GoodIn wsX4_append (wsX8_isWithin) := ggX4_append_X8_isWithin
theorem dX4_append_0 : decode cX4_append 0 = .ok (.iload_n 1, 1) := by decide +kernel
theorem dX4_append_1 : decode cX4_append 1 = .ok (.bipush 32, 2) := by decide +kernel
theorem dX4_append_3 : decode cX4_append 3 = .ok (.bipush 126, 2) := by decide +kernel
theorem dX4_append_5 : decode cX4_append 5 = .ok (.invokestatic 23, 3) := by decide +kernel
theorem dX4_append_8 : decode cX4_append 8 = .ok (.ifCond .ne 5, 3) := by decide +kernel
theorem dX4_append_11 : decode cX4_append 11 = .ok (.iconst (-1), 1) := by decide +kernel
theorem dX4_append_12 : decode cX4_append 12 = .ok (.ireturn, 1) := by decide +kernel
theorem dX4_append_13 : decode cX4_append 13 = .ok (.aload_n 0, 1) := by decide +kernel
theorem dX4_append_14 : decode cX4_append 14 = .ok (.getfield 19, 3) := by decide +kernel
theorem dX4_append_17 : decode cX4_append 17 = .ok (.ifCond .lt 15, 3) := by decide +kernel
theorem dX4_append_20 : decode cX4_append 20 = .ok (.aload_n 0, 1) := by decide +kernel
theorem dX4_append_21 : decode cX4_append 21 = .ok (.getfield 19, 3) := by decide +kernel
theorem dX4_append_24 : decode cX4_append 24 = .ok (.aload_n 0, 1) := by decide +kernel
theorem dX4_append_25 : decode cX4_append 25 = .ok (.getfield 9, 3) := by decide +kernel
theorem dX4_append_28 : decode cX4_append 28 = .ok (.arraylength, 1) := by decide +kernel
theorem dX4_append_29 : decode cX4_append 29 = .ok (.if_icmp .lt 6, 3) := by decide +kernel
theorem dX4_append_32 : decode cX4_append 32 = .ok (.bipush (-3), 2) := by decide +kernel
theorem dX4_append_34 : decode cX4_append 34 = .ok (.ireturn, 1) := by decide +kernel
theorem dX4_append_35 : decode cX4_append 35 = .ok (.aload_n 0, 1) := by decide +kernel
theorem dX4_append_36 : decode cX4_append 36 = .ok (.getfield 9, 3) := by decide +kernel
theorem dX4_append_39 : decode cX4_append 39 = .ok (.aload_n 0, 1) := by decide +kernel
theorem dX4_append_40 : decode cX4_append 40 = .ok (.getfield 19, 3) := by decide +kernel
theorem dX4_append_43 : decode cX4_append 43 = .ok (.iload_n 1, 1) := by decide +kernel
theorem dX4_append_44 : decode cX4_append 44 = .ok (.i2c, 1) := by decide +kernel
theorem dX4_append_45 : decode cX4_append 45 = .ok (.castore, 1) := by decide +kernel
theorem dX4_append_46 : decode cX4_append 46 = .ok (.aload_n 0, 1) := by decide +kernel
theorem dX4_append_47 : decode cX4_append 47 = .ok (.dup, 1) := by decide +kernel
theorem dX4_append_48 : decode cX4_append 48 = .ok (.getfield 19, 3) := by decide +kernel
theorem dX4_append_51 : decode cX4_append 51 = .ok (.iconst 1, 1) := by decide +kernel
theorem dX4_append_52 : decode cX4_append 52 = .ok (.iadd, 1) := by decide +kernel
theorem dX4_append_53 : decode cX4_append 53 = .ok (.putfield 19, 3) := by decide +kernel
theorem dX4_append_56 : decode cX4_append 56 = .ok (.aload_n 0, 1) := by decide +kernel
theorem dX4_append_57 : decode cX4_append 57 = .ok (.getfield 19, 3) := by decide +kernel
theorem dX4_append_60 : decode cX4_append 60 = .ok (.ireturn, 1) := by decide +kernel
theorem dX4_clear_0 : decode cX4_clear 0 = .ok (.aload_n 0, 1) := by decide +kernel
theorem dX4_clear_1 : decode cX4_clear 1 = .ok (.getfield 19, 3) := by decide +kernel
theorem dX4_clear_4 : decode cX4_clear 4 = .ok (.istore_n 1, 1) := by decide +kernel
theorem dX4_clear_5 : decode cX4_clear 5 = .ok (.aload_n 0, 1) := by decide +kernel
theorem dX4_clear_6 : decode cX4_clear 6 = .ok (.iconst 0, 1) := by decide +kernel
theorem dX4_clear_7 : decode cX4_clear 7 = .ok (.putfield 19, 3) := by decide +kernel
theorem dX4_clear_10 : decode cX4_clear 10 = .ok (.iload_n 1, 1) := by decide +kernel
theorem dX4_clear_11 : decode cX4_clear 11 = .ok (.ireturn, 1) := by decide +kernel
theorem dX4_verb_0 : decode cX4_verb 0 = .ok (.aload_n 0, 1) := by decide +kernel
theorem dX4_verb_1 : decode cX4_verb 1 = .ok (.getfield 27, 3) := by decide +kernel
theorem dX4_verb_4 : decode cX4_verb 4 = .ok (.areturn, 1) := by decide +kernel
theorem dX4_number_0 : decode cX4_number 0 = .ok (.iload_n 1, 1) := by decide +kernel
theorem dX4_number_1 : decode cX4_number 1 = .ok (.ifCond .lt 21, 3) := by decide +kernel
theorem dX4_number_4 : decode cX4_number 4 = .ok (.iload_n 1, 1) := by decide +kernel
theorem dX4_number_5 : decode cX4_number 5 = .ok (.aload_n 0, 1) := by decide +kernel
theorem dX4_number_6 : decode cX4_number 6 = .ok (.getfield 15, 3) := by decide +kernel
theorem dX4_number_9 : decode cX4_number 9 = .ok (.arraylength, 1) := by decide +kernel
theorem dX4_number_10 : decode cX4_number 10 = .ok (.if_icmp .ge 12, 3) := by decide +kernel
theorem dX4_number_13 : decode cX4_number 13 = .ok (.aload_n 0, 1) := by decide +kernel
theorem dX4_number_14 : decode cX4_number 14 = .ok (.getfield 15, 3) := by decide +kernel
theorem dX4_number_17 : decode cX4_number 17 = .ok (.iload_n 1, 1) := by decide +kernel
theorem dX4_number_18 : decode cX4_number 18 = .ok (.iaload, 1) := by decide +kernel
theorem dX4_number_19 : decode cX4_number 19 = .ok (.goto 4, 3) := by decide +kernel
theorem dX4_number_22 : decode cX4_number 22 = .ok (.iconst 0, 1) := by decide +kernel
theorem dX4_number_23 : decode cX4_number 23 = .ok (.ireturn, 1) := by decide +kernel
theorem dX4_position_0 : decode cX4_position 0 = .ok (.aload_n 0, 1) := by decide +kernel
theorem dX4_position_1 : decode cX4_position 1 = .ok (.getfield 31, 3) := by decide +kernel
theorem dX4_position_4 : decode cX4_position 4 = .ok (.ireturn, 1) := by decide +kernel
set_option maxRecDepth 100000 in
theorem ggX4_readCommand_X4_verbAt : GoodIn wsX4_readCommand wsX4_verbAt := goodIn_r _ [8, 9, 10, 11, 12, 7, 13, 14, 15, 16, 17, 18, 19, 20, 21, 22, 23, 24, 25, 26, 27, 28, 29, 30, 31, 32, 33, 34, 35, 36, 37, 38, 39, 40, 41, 42, 43, 44, 45, 46, 47, 48, 49, 50, 51, 52, 53, 54, 55, 56, 57, 58, 59, 60, 61, 62, 63, 64, 65, 66, 67, 68, 80, 81, 82, 83, 84] rfl rfl
set_option maxRecDepth 100000 in
theorem gX4_readCommand_X4_verbAt : GoodIn wsX4_readCommand (wsV RX4 34 RX4 yX4_verbAt wsX4_verbAt) := goodIn_app (goodIn_r _ [4, 5, 6, 7] rfl rfl) ggX4_readCommand_X4_verbAt
set_option maxRecDepth 100000 in
theorem ggX4_readCommand_J0_length_8abf5 : GoodIn wsX4_readCommand wsJ0_length_8abf5 := goodIn_r _ [18, 19, 20, 21, 22, 17, 23, 24, 25] rfl rfl
set_option maxRecDepth 100000 in
theorem gX4_readCommand_J0_length_8abf5 : GoodIn wsX4_readCommand (wsV RX4 44 RJ0 yJ0_length_8abf5 wsJ0_length_8abf5) := goodIn_app (goodIn_r _ [14, 15, 16, 17] rfl rfl) ggX4_readCommand_J0_length_8abf5
set_option maxRecDepth 100000 in
theorem ggX4_readCommand_X4_readSign : GoodIn wsX4_readCommand wsX4_readSign := goodIn_r _ [72, 1, 26, 27, 28, 7, 29, 30, 31, 80, 81, 82, 83, 84] rfl rfl
set_option maxRecDepth 100000 in
theorem gX4_readCommand_X4_readSign : GoodIn wsX4_readCommand (wsV RX4 51 RX4 yX4_readSign wsX4_readSign) := goodIn_app (goodIn_r _ [69, 70, 71, 7] rfl rfl) ggX4_readCommand_X4_readSign
set_option maxRecDepth 100000 in
theorem ggX4_readCommand_X4_readNumber : GoodIn wsX4_readCommand wsX4_readNumber := goodIn_r _ [76, 1, 3, 26, 27, 28, 7, 29, 30, 31, 77, 78, 79, 80, 81, 82, 83, 84] rfl rfl
set_option maxRecDepth 100000 in
theorem gX4_readCommand_X4_readNumber : GoodIn wsX4_readCommand (wsV RX4 55 RX4 yX4_readNumber wsX4_readNumber) := goodIn_app (goodIn_r _ [73, 74, 75, 7] rfl rfl) ggX4_readCommand_X4_readNumber
theorem dX4_readCommand_0 : decode cX4_readCommand 0 = .ok (.aload_n 0, 1) := by decide +kernel
theorem dX4_readCommand_1 : decode cX4_readCommand 1 = .ok (.iload_n 1, 1) := by decide +kernel
theorem dX4_readCommand_2 : decode cX4_readCommand 2 = .ok (.putfield 31, 3) := by decide +kernel
theorem dX4_readCommand_5 : decode cX4_readCommand 5 = .ok (.aload_n 0, 1) := by decide +kernel
theorem dX4_readCommand_6 : decode cX4_readCommand 6 = .ok (.aload_n 0, 1) := by decide +kernel
theorem dX4_readCommand_7 : decode cX4_readCommand 7 = .ok (.iload_n 1, 1) := by decide +kernel
theorem dX4_readCommand_8 : decode cX4_readCommand 8 = .ok (.invokevirtual 34, 3) := by decide +kernel
theorem dX4_readCommand_11 : decode cX4_readCommand 11 = .ok (.putfield 27, 3) := by decide +kernel
theorem dX4_readCommand_14 : decode cX4_readCommand 14 = .ok (.aload_n 0, 1) := by decide +kernel
theorem dX4_readCommand_15 : decode cX4_readCommand 15 = .ok (.getfield 27, 3) := by decide +kernel
theorem dX4_readCommand_18 : decode cX4_readCommand 18 = .ok (.ifnonnull 5, 3) := by decide +kernel
theorem dX4_readCommand_21 : decode cX4_readCommand 21 = .ok (.iconst 0, 1) := by decide +kernel
theorem dX4_readCommand_22 : decode cX4_readCommand 22 = .ok (.ireturn, 1) := by decide +kernel
theorem dX4_readCommand_23 : decode cX4_readCommand 23 = .ok (.aload_n 0, 1) := by decide +kernel
theorem dX4_readCommand_24 : decode cX4_readCommand 24 = .ok (.dup, 1) := by decide +kernel
theorem dX4_readCommand_25 : decode cX4_readCommand 25 = .ok (.getfield 31, 3) := by decide +kernel
theorem dX4_readCommand_28 : decode cX4_readCommand 28 = .ok (.aload_n 0, 1) := by decide +kernel
theorem dX4_readCommand_29 : decode cX4_readCommand 29 = .ok (.getfield 27, 3) := by decide +kernel
theorem dX4_readCommand_32 : decode cX4_readCommand 32 = .ok (.getfield 38, 3) := by decide +kernel
theorem dX4_readCommand_35 : decode cX4_readCommand 35 = .ok (.invokevirtual 44, 3) := by decide +kernel
theorem dX4_readCommand_38 : decode cX4_readCommand 38 = .ok (.iadd, 1) := by decide +kernel
theorem dX4_readCommand_39 : decode cX4_readCommand 39 = .ok (.putfield 31, 3) := by decide +kernel
theorem dX4_readCommand_42 : decode cX4_readCommand 42 = .ok (.iconst 0, 1) := by decide +kernel
theorem dX4_readCommand_43 : decode cX4_readCommand 43 = .ok (.istore_n 2, 1) := by decide +kernel
theorem dX4_readCommand_44 : decode cX4_readCommand 44 = .ok (.iload_n 2, 1) := by decide +kernel
theorem dX4_readCommand_45 : decode cX4_readCommand 45 = .ok (.aload_n 0, 1) := by decide +kernel
theorem dX4_readCommand_46 : decode cX4_readCommand 46 = .ok (.getfield 27, 3) := by decide +kernel
theorem dX4_readCommand_49 : decode cX4_readCommand 49 = .ok (.getfield 49, 3) := by decide +kernel
theorem dX4_readCommand_52 : decode cX4_readCommand 52 = .ok (.if_icmp .ge 37, 3) := by decide +kernel
theorem dX4_readCommand_55 : decode cX4_readCommand 55 = .ok (.iload_n 2, 1) := by decide +kernel
theorem dX4_readCommand_56 : decode cX4_readCommand 56 = .ok (.aload_n 0, 1) := by decide +kernel
theorem dX4_readCommand_57 : decode cX4_readCommand 57 = .ok (.getfield 15, 3) := by decide +kernel
theorem dX4_readCommand_60 : decode cX4_readCommand 60 = .ok (.arraylength, 1) := by decide +kernel
theorem dX4_readCommand_61 : decode cX4_readCommand 61 = .ok (.if_icmp .ge 28, 3) := by decide +kernel
theorem dX4_readCommand_64 : decode cX4_readCommand 64 = .ok (.aload_n 0, 1) := by decide +kernel
theorem dX4_readCommand_65 : decode cX4_readCommand 65 = .ok (.bipush 32, 2) := by decide +kernel
theorem dX4_readCommand_67 : decode cX4_readCommand 67 = .ok (.invokevirtual 51, 3) := by decide +kernel
theorem dX4_readCommand_70 : decode cX4_readCommand 70 = .ok (.ifCond .eq 11, 3) := by decide +kernel
theorem dX4_readCommand_73 : decode cX4_readCommand 73 = .ok (.aload_n 0, 1) := by decide +kernel
theorem dX4_readCommand_74 : decode cX4_readCommand 74 = .ok (.iload_n 2, 1) := by decide +kernel
theorem dX4_readCommand_75 : decode cX4_readCommand 75 = .ok (.invokevirtual 55, 3) := by decide +kernel
theorem dX4_readCommand_78 : decode cX4_readCommand 78 = .ok (.ifCond .ne 5, 3) := by decide +kernel
theorem dX4_readCommand_81 : decode cX4_readCommand 81 = .ok (.iconst 0, 1) := by decide +kernel
theorem dX4_readCommand_82 : decode cX4_readCommand 82 = .ok (.ireturn, 1) := by decide +kernel
theorem dX4_readCommand_83 : decode cX4_readCommand 83 = .ok (.iinc 2 1, 3) := by decide +kernel
theorem dX4_readCommand_86 : decode cX4_readCommand 86 = .ok (.goto (-42), 3) := by decide +kernel
theorem dX4_readCommand_89 : decode cX4_readCommand 89 = .ok (.aload_n 0, 1) := by decide +kernel
theorem dX4_readCommand_90 : decode cX4_readCommand 90 = .ok (.bipush 59, 2) := by decide +kernel
theorem dX4_readCommand_92 : decode cX4_readCommand 92 = .ok (.invokevirtual 51, 3) := by decide +kernel
theorem dX4_readCommand_95 : decode cX4_readCommand 95 = .ok (.ireturn, 1) := by decide +kernel
set_option maxRecDepth 100000 in
theorem ggX4_verbAt_X4_hasWordAt : GoodIn wsX4_verbAt wsX4_hasWordAt := goodIn_r _ [6, 7, 8, 9, 10, 11, 12, 13, 14, 15, 16, 17, 18, 19, 20, 21, 5, 22, 23, 24, 25, 26, 27, 28, 29, 30, 31, 32, 33, 34, 35, 36, 37, 38, 39, 40, 41, 42, 43, 44, 45, 46, 47, 48, 49, 50, 51, 52, 53, 54, 55, 56, 57, 58, 59, 60, 61, 62, 63, 64, 65, 66] rfl rfl
set_option maxRecDepth 100000 in
theorem gX4_verbAt_X4_hasWordAt : GoodIn wsX4_verbAt (wsV RX4 63 RX4 yX4_hasWordAt wsX4_hasWordAt) := goodIn_app (goodIn_r _ [2, 3, 4, 5] rfl rfl) ggX4_verbAt_X4_hasWordAt
theorem dX4_verbAt_0 : decode cX4_verbAt 0 = .ok (.iconst 0, 1) := by decide +kernel
theorem dX4_verbAt_1 : decode cX4_verbAt 1 = .ok (.istore_n 2, 1) := by decide +kernel
theorem dX4_verbAt_2 : decode cX4_verbAt 2 = .ok (.iload_n 2, 1) := by decide +kernel
theorem dX4_verbAt_3 : decode cX4_verbAt 3 = .ok (.getstatic 59, 3) := by decide +kernel
theorem dX4_verbAt_6 : decode cX4_verbAt 6 = .ok (.arraylength, 1) := by decide +kernel
theorem dX4_verbAt_7 : decode cX4_verbAt 7 = .ok (.if_icmp .ge 33, 3) := by decide +kernel
theorem dX4_verbAt_10 : decode cX4_verbAt 10 = .ok (.getstatic 59, 3) := by decide +kernel
theorem dX4_verbAt_13 : decode cX4_verbAt 13 = .ok (.iload_n 2, 1) := by decide +kernel
theorem dX4_verbAt_14 : decode cX4_verbAt 14 = .ok (.aaload, 1) := by decide +kernel
theorem dX4_verbAt_15 : decode cX4_verbAt 15 = .ok (.astore_n 3, 1) := by decide +kernel
theorem dX4_verbAt_16 : decode cX4_verbAt 16 = .ok (.aload_n 3, 1) := by decide +kernel
theorem dX4_verbAt_17 : decode cX4_verbAt 17 = .ok (.ifnull 17, 3) := by decide +kernel
theorem dX4_verbAt_20 : decode cX4_verbAt 20 = .ok (.aload_n 0, 1) := by decide +kernel
theorem dX4_verbAt_21 : decode cX4_verbAt 21 = .ok (.iload_n 1, 1) := by decide +kernel
theorem dX4_verbAt_22 : decode cX4_verbAt 22 = .ok (.aload_n 3, 1) := by decide +kernel
theorem dX4_verbAt_23 : decode cX4_verbAt 23 = .ok (.getfield 38, 3) := by decide +kernel
theorem dX4_verbAt_26 : decode cX4_verbAt 26 = .ok (.invokevirtual 63, 3) := by decide +kernel
theorem dX4_verbAt_29 : decode cX4_verbAt 29 = .ok (.ifCond .eq 5, 3) := by decide +kernel
theorem dX4_verbAt_32 : decode cX4_verbAt 32 = .ok (.aload_n 3, 1) := by decide +kernel
theorem dX4_verbAt_33 : decode cX4_verbAt 33 = .ok (.areturn, 1) := by decide +kernel
theorem dX4_verbAt_34 : decode cX4_verbAt 34 = .ok (.iinc 2 1, 3) := by decide +kernel
theorem dX4_verbAt_37 : decode cX4_verbAt 37 = .ok (.goto (-35), 3) := by decide +kernel
theorem dX4_verbAt_40 : decode cX4_verbAt 40 = .ok (.aconst_null, 1) := by decide +kernel
theorem dX4_verbAt_41 : decode cX4_verbAt 41 = .ok (.areturn, 1) := by decide +kernel
set_option maxRecDepth 100000 in
theorem ggX4_hasWordAt_J0_length_8abf5 : GoodIn wsX4_hasWordAt wsJ0_length_8abf5 := goodIn_r _ [5, 6, 7, 8, 9, 4, 10, 11, 12] rfl rfl
set_option maxRecDepth 100000 in
theorem gX4_hasWordAt_J0_length_8abf5 : GoodIn wsX4_hasWordAt (wsV RX4 44 RJ0 yJ0_length_8abf5 wsJ0_length_8abf5) := goodIn_app (goodIn_r _ [1, 2, 3, 4] rfl rfl) ggX4_hasWordAt_J0_length_8abf5
set_option maxRecDepth 100000 in
theorem ggX4_hasWordAt_X4_signAt : GoodIn wsX4_hasWordAt wsX4_signAt := goodIn_r _ [17, 18, 19, 57, 58, 59, 60, 61] rfl rfl
set_option maxRecDepth 100000 in
theorem gX4_hasWordAt_X4_signAt : GoodIn wsX4_hasWordAt (wsV RX4 67 RX4 yX4_signAt wsX4_signAt) := goodIn_app (goodIn_r _ [13, 14, 15, 16] rfl rfl) ggX4_hasWordAt_X4_signAt
set_option maxRecDepth 100000 in
theorem ggX4_hasWordAt_J0_charAt_5068e : GoodIn wsX4_hasWordAt wsJ0_charAt_5068e := goodIn_r _ [23, 6, 24, 25, 26, 4, 27, 11, 12, 28, 29, 30, 31, 32, 33, 34, 35, 36, 37, 38, 39, 40, 41, 42, 43, 44, 45, 46, 47, 48, 49, 50, 51, 52, 53, 54, 55, 56] rfl rfl
set_option maxRecDepth 100000 in
theorem gX4_hasWordAt_J0_charAt_5068e : GoodIn wsX4_hasWordAt (wsV RX4 71 RJ0 yJ0_charAt_5068e wsJ0_charAt_5068e) := goodIn_app (goodIn_r _ [20, 21, 22, 4] rfl rfl) ggX4_hasWordAt_J0_charAt_5068e
theorem dX4_hasWordAt_0 : decode cX4_hasWordAt 0 = .ok (.iconst 0, 1) := by decide +kernel
theorem dX4_hasWordAt_1 : decode cX4_hasWordAt 1 = .ok (.istore_n 3, 1) := by decide +kernel
theorem dX4_hasWordAt_2 : decode cX4_hasWordAt 2 = .ok (.iload_n 3, 1) := by decide +kernel
theorem dX4_hasWordAt_3 : decode cX4_hasWordAt 3 = .ok (.aload_n 2, 1) := by decide +kernel
theorem dX4_hasWordAt_4 : decode cX4_hasWordAt 4 = .ok (.invokevirtual 44, 3) := by decide +kernel
theorem dX4_hasWordAt_7 : decode cX4_hasWordAt 7 = .ok (.if_icmp .ge 26, 3) := by decide +kernel
theorem dX4_hasWordAt_10 : decode cX4_hasWordAt 10 = .ok (.aload_n 0, 1) := by decide +kernel
theorem dX4_hasWordAt_11 : decode cX4_hasWordAt 11 = .ok (.iload_n 1, 1) := by decide +kernel
theorem dX4_hasWordAt_12 : decode cX4_hasWordAt 12 = .ok (.iload_n 3, 1) := by decide +kernel
theorem dX4_hasWordAt_13 : decode cX4_hasWordAt 13 = .ok (.iadd, 1) := by decide +kernel
theorem dX4_hasWordAt_14 : decode cX4_hasWordAt 14 = .ok (.invokevirtual 67, 3) := by decide +kernel
theorem dX4_hasWordAt_17 : decode cX4_hasWordAt 17 = .ok (.aload_n 2, 1) := by decide +kernel
theorem dX4_hasWordAt_18 : decode cX4_hasWordAt 18 = .ok (.iload_n 3, 1) := by decide +kernel
theorem dX4_hasWordAt_19 : decode cX4_hasWordAt 19 = .ok (.invokevirtual 71, 3) := by decide +kernel
theorem dX4_hasWordAt_22 : decode cX4_hasWordAt 22 = .ok (.if_icmp .eq 5, 3) := by decide +kernel
theorem dX4_hasWordAt_25 : decode cX4_hasWordAt 25 = .ok (.iconst 0, 1) := by decide +kernel
theorem dX4_hasWordAt_26 : decode cX4_hasWordAt 26 = .ok (.ireturn, 1) := by decide +kernel
theorem dX4_hasWordAt_27 : decode cX4_hasWordAt 27 = .ok (.iinc 3 1, 3) := by decide +kernel
theorem dX4_hasWordAt_30 : decode cX4_hasWordAt 30 = .ok (.goto (-28), 3) := by decide +kernel
theorem dX4_hasWordAt_33 : decode cX4_hasWordAt 33 = .ok (.iconst 1, 1) := by decide +kernel
theorem dX4_hasWordAt_34 : decode cX4_hasWordAt 34 = .ok (.ireturn, 1) := by decide +kernel
set_option maxRecDepth 100000 in
theorem ggX4_readSign_X4_signAt : GoodIn wsX4_readSign wsX4_signAt := goodIn_r _ [6, 7, 8, 9, 10, 11, 12, 13] rfl rfl
set_option maxRecDepth 100000 in
theorem gX4_readSign_X4_signAt : GoodIn wsX4_readSign (wsV RX4 67 RX4 yX4_signAt wsX4_signAt) := goodIn_app (goodIn_r _ [2, 3, 4, 5] rfl rfl) ggX4_readSign_X4_signAt
theorem dX4_readSign_0 : decode cX4_readSign 0 = .ok (.aload_n 0, 1) := by decide +kernel
theorem dX4_readSign_1 : decode cX4_readSign 1 = .ok (.aload_n 0, 1) := by decide +kernel
theorem dX4_readSign_2 : decode cX4_readSign 2 = .ok (.getfield 31, 3) := by decide +kernel
theorem dX4_readSign_5 : decode cX4_readSign 5 = .ok (.invokevirtual 67, 3) := by decide +kernel
theorem dX4_readSign_8 : decode cX4_readSign 8 = .ok (.iload_n 1, 1) := by decide +kernel
theorem dX4_readSign_9 : decode cX4_readSign 9 = .ok (.if_icmp .eq 5, 3) := by decide +kernel
theorem dX4_readSign_12 : decode cX4_readSign 12 = .ok (.iconst 0, 1) := by decide +kernel
theorem dX4_readSign_13 : decode cX4_readSign 13 = .ok (.ireturn, 1) := by decide +kernel
theorem dX4_readSign_14 : decode cX4_readSign 14 = .ok (.aload_n 0, 1) := by decide +kernel
theorem dX4_readSign_15 : decode cX4_readSign 15 = .ok (.dup, 1) := by decide +kernel
theorem dX4_readSign_16 : decode cX4_readSign 16 = .ok (.getfield 31, 3) := by decide +kernel
theorem dX4_readSign_19 : decode cX4_readSign 19 = .ok (.iconst 1, 1) := by decide +kernel
theorem dX4_readSign_20 : decode cX4_readSign 20 = .ok (.iadd, 1) := by decide +kernel
theorem dX4_readSign_21 : decode cX4_readSign 21 = .ok (.putfield 31, 3) := by decide +kernel
theorem dX4_readSign_24 : decode cX4_readSign 24 = .ok (.iconst 1, 1) := by decide +kernel
theorem dX4_readSign_25 : decode cX4_readSign 25 = .ok (.ireturn, 1) := by decide +kernel
set_option maxRecDepth 100000 in
theorem ggX4_readNumber_X4_signAt : GoodIn wsX4_readNumber wsX4_signAt := goodIn_r _ [7, 8, 9, 13, 14, 15, 16, 17] rfl rfl
set_option maxRecDepth 100000 in
theorem gX4_readNumber_X4_signAt : GoodIn wsX4_readNumber (wsV RX4 67 RX4 yX4_signAt wsX4_signAt) := goodIn_app (goodIn_r _ [3, 4, 5, 6] rfl rfl) ggX4_readNumber_X4_signAt
set_option maxRecDepth 100000 in
theorem ggX4_readNumber_X8_isWithin : GoodIn wsX4_readNumber wsX8_isWithin := goodIn_r _ [12] rfl rfl
set_option maxRecDepth 100000 in
theorem gX4_readNumber_X8_isWithin_n23 : GoodIn wsX4_readNumber (wsX8_isWithin) := ggX4_readNumber_X8_isWithin
theorem dX4_readNumber_0 : decode cX4_readNumber 0 = .ok (.iconst 0, 1) := by decide +kernel
theorem dX4_readNumber_1 : decode cX4_readNumber 1 = .ok (.istore_n 2, 1) := by decide +kernel
theorem dX4_readNumber_2 : decode cX4_readNumber 2 = .ok (.iconst 0, 1) := by decide +kernel
theorem dX4_readNumber_3 : decode cX4_readNumber 3 = .ok (.istore_n 3, 1) := by decide +kernel
theorem dX4_readNumber_4 : decode cX4_readNumber 4 = .ok (.iload_n 3, 1) := by decide +kernel
theorem dX4_readNumber_5 : decode cX4_readNumber 5 = .ok (.iconst 3, 1) := by decide +kernel
theorem dX4_readNumber_6 : decode cX4_readNumber 6 = .ok (.if_icmp .ge 54, 3) := by decide +kernel
theorem dX4_readNumber_9 : decode cX4_readNumber 9 = .ok (.aload_n 0, 1) := by decide +kernel
theorem dX4_readNumber_10 : decode cX4_readNumber 10 = .ok (.aload_n 0, 1) := by decide +kernel
theorem dX4_readNumber_11 : decode cX4_readNumber 11 = .ok (.getfield 31, 3) := by decide +kernel
theorem dX4_readNumber_14 : decode cX4_readNumber 14 = .ok (.invokevirtual 67, 3) := by decide +kernel
theorem dX4_readNumber_17 : decode cX4_readNumber 17 = .ok (.bipush 48, 2) := by decide +kernel
theorem dX4_readNumber_19 : decode cX4_readNumber 19 = .ok (.bipush 57, 2) := by decide +kernel
theorem dX4_readNumber_21 : decode cX4_readNumber 21 = .ok (.invokestatic 23, 3) := by decide +kernel
theorem dX4_readNumber_24 : decode cX4_readNumber 24 = .ok (.ifCond .eq 36, 3) := by decide +kernel
theorem dX4_readNumber_27 : decode cX4_readNumber 27 = .ok (.iload_n 2, 1) := by decide +kernel
theorem dX4_readNumber_28 : decode cX4_readNumber 28 = .ok (.bipush 10, 2) := by decide +kernel
theorem dX4_readNumber_30 : decode cX4_readNumber 30 = .ok (.imul, 1) := by decide +kernel
theorem dX4_readNumber_31 : decode cX4_readNumber 31 = .ok (.aload_n 0, 1) := by decide +kernel
theorem dX4_readNumber_32 : decode cX4_readNumber 32 = .ok (.aload_n 0, 1) := by decide +kernel
theorem dX4_readNumber_33 : decode cX4_readNumber 33 = .ok (.getfield 31, 3) := by decide +kernel
theorem dX4_readNumber_36 : decode cX4_readNumber 36 = .ok (.invokevirtual 67, 3) := by decide +kernel
theorem dX4_readNumber_39 : decode cX4_readNumber 39 = .ok (.bipush 48, 2) := by decide +kernel
theorem dX4_readNumber_41 : decode cX4_readNumber 41 = .ok (.isub, 1) := by decide +kernel
theorem dX4_readNumber_42 : decode cX4_readNumber 42 = .ok (.iadd, 1) := by decide +kernel
theorem dX4_readNumber_43 : decode cX4_readNumber 43 = .ok (.istore_n 2, 1) := by decide +kernel
theorem dX4_readNumber_44 : decode cX4_readNumber 44 = .ok (.iinc 3 1, 3) := by decide +kernel
theorem dX4_readNumber_47 : decode cX4_readNumber 47 = .ok (.aload_n 0, 1) := by decide +kernel
theorem dX4_readNumber_48 : decode cX4_readNumber 48 = .ok (.dup, 1) := by decide +kernel
theorem dX4_readNumber_49 : decode cX4_readNumber 49 = .ok (.getfield 31, 3) := by decide +kernel
theorem dX4_readNumber_52 : decode cX4_readNumber 52 = .ok (.iconst 1, 1) := by decide +kernel
theorem dX4_readNumber_53 : decode cX4_readNumber 53 = .ok (.iadd, 1) := by decide +kernel
theorem dX4_readNumber_54 : decode cX4_readNumber 54 = .ok (.putfield 31, 3) := by decide +kernel
theorem dX4_readNumber_57 : decode cX4_readNumber 57 = .ok (.goto (-53), 3) := by decide +kernel
theorem dX4_readNumber_60 : decode cX4_readNumber 60 = .ok (.iload_n 1, 1) := by decide +kernel
theorem dX4_readNumber_61 : decode cX4_readNumber 61 = .ok (.ifCond .lt 19, 3) := by decide +kernel
theorem dX4_readNumber_64 : decode cX4_readNumber 64 = .ok (.iload_n 1, 1) := by decide +kernel
theorem dX4_readNumber_65 : decode cX4_readNumber 65 = .ok (.aload_n 0, 1) := by decide +kernel
theorem dX4_readNumber_66 : decode cX4_readNumber 66 = .ok (.getfield 15, 3) := by decide +kernel
theorem dX4_readNumber_69 : decode cX4_readNumber 69 = .ok (.arraylength, 1) := by decide +kernel
theorem dX4_readNumber_70 : decode cX4_readNumber 70 = .ok (.if_icmp .ge 10, 3) := by decide +kernel
theorem dX4_readNumber_73 : decode cX4_readNumber 73 = .ok (.aload_n 0, 1) := by decide +kernel
theorem dX4_readNumber_74 : decode cX4_readNumber 74 = .ok (.getfield 15, 3) := by decide +kernel
theorem dX4_readNumber_77 : decode cX4_readNumber 77 = .ok (.iload_n 1, 1) := by decide +kernel
theorem dX4_readNumber_78 : decode cX4_readNumber 78 = .ok (.iload_n 2, 1) := by decide +kernel
theorem dX4_readNumber_79 : decode cX4_readNumber 79 = .ok (.iastore, 1) := by decide +kernel
theorem dX4_readNumber_80 : decode cX4_readNumber 80 = .ok (.iload_n 3, 1) := by decide +kernel
theorem dX4_readNumber_81 : decode cX4_readNumber 81 = .ok (.ifCond .le 7, 3) := by decide +kernel
theorem dX4_readNumber_84 : decode cX4_readNumber 84 = .ok (.iconst 1, 1) := by decide +kernel
theorem dX4_readNumber_85 : decode cX4_readNumber 85 = .ok (.goto 4, 3) := by decide +kernel
theorem dX4_readNumber_88 : decode cX4_readNumber 88 = .ok (.iconst 0, 1) := by decide +kernel
theorem dX4_readNumber_89 : decode cX4_readNumber 89 = .ok (.ireturn, 1) := by decide +kernel
theorem dX4_signAt_0 : decode cX4_signAt 0 = .ok (.iload_n 1, 1) := by decide +kernel
theorem dX4_signAt_1 : decode cX4_signAt 1 = .ok (.ifCond .lt 24, 3) := by decide +kernel
theorem dX4_signAt_4 : decode cX4_signAt 4 = .ok (.iload_n 1, 1) := by decide +kernel
theorem dX4_signAt_5 : decode cX4_signAt 5 = .ok (.aload_n 0, 1) := by decide +kernel
theorem dX4_signAt_6 : decode cX4_signAt 6 = .ok (.getfield 19, 3) := by decide +kernel
theorem dX4_signAt_9 : decode cX4_signAt 9 = .ok (.if_icmp .ge 16, 3) := by decide +kernel
theorem dX4_signAt_12 : decode cX4_signAt 12 = .ok (.iload_n 1, 1) := by decide +kernel
theorem dX4_signAt_13 : decode cX4_signAt 13 = .ok (.aload_n 0, 1) := by decide +kernel
theorem dX4_signAt_14 : decode cX4_signAt 14 = .ok (.getfield 9, 3) := by decide +kernel
theorem dX4_signAt_17 : decode cX4_signAt 17 = .ok (.arraylength, 1) := by decide +kernel
theorem dX4_signAt_18 : decode cX4_signAt 18 = .ok (.if_icmp .ge 7, 3) := by decide +kernel
theorem dX4_signAt_21 : decode cX4_signAt 21 = .ok (.iconst 1, 1) := by decide +kernel
theorem dX4_signAt_22 : decode cX4_signAt 22 = .ok (.goto 4, 3) := by decide +kernel
theorem dX4_signAt_25 : decode cX4_signAt 25 = .ok (.iconst 0, 1) := by decide +kernel
theorem dX4_signAt_26 : decode cX4_signAt 26 = .ok (.istore_n 2, 1) := by decide +kernel
theorem dX4_signAt_27 : decode cX4_signAt 27 = .ok (.iload_n 2, 1) := by decide +kernel
theorem dX4_signAt_28 : decode cX4_signAt 28 = .ok (.ifCond .eq 12, 3) := by decide +kernel
theorem dX4_signAt_31 : decode cX4_signAt 31 = .ok (.aload_n 0, 1) := by decide +kernel
theorem dX4_signAt_32 : decode cX4_signAt 32 = .ok (.getfield 9, 3) := by decide +kernel
theorem dX4_signAt_35 : decode cX4_signAt 35 = .ok (.iload_n 1, 1) := by decide +kernel
theorem dX4_signAt_36 : decode cX4_signAt 36 = .ok (.caload, 1) := by decide +kernel
theorem dX4_signAt_37 : decode cX4_signAt 37 = .ok (.goto 4, 3) := by decide +kernel
theorem dX4_signAt_40 : decode cX4_signAt 40 = .ok (.iconst 0, 1) := by decide +kernel
theorem dX4_signAt_41 : decode cX4_signAt 41 = .ok (.ireturn, 1) := by decide +kernel
