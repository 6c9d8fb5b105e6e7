theorem dX2_beginningWith_0 : decode cX2_beginningWith 0 = .ok (.iconst 0, 1) := by decide +kernel
theorem dX2_beginningWith_1 : decode cX2_beginningWith 1 = .ok (.istore_n 1, 1) := by decide +kernel
theorem dX2_beginningWith_2 : decode cX2_beginningWith 2 = .ok (.iload_n 1, 1) := by decide +kernel
theorem dX2_beginningWith_3 : decode cX2_beginningWith 3 = .ok (.getstatic 49, 3) := by decide +kernel
theorem dX2_beginningWith_6 : decode cX2_beginningWith 6 = .ok (.arraylength, 1) := by decide +kernel
theorem dX2_beginningWith_7 : decode cX2_beginningWith 7 = .ok (.if_icmp .ge 27, 3) := by decide +kernel
theorem dX2_beginningWith_10 : decode cX2_beginningWith 10 = .ok (.getstatic 49, 3) := by decide +kernel
theorem dX2_beginningWith_13 : decode cX2_beginningWith 13 = .ok (.iload_n 1, 1) := by decide +kernel
theorem dX2_beginningWith_14 : decode cX2_beginningWith 14 = .ok (.aaload, 1) := by decide +kernel
theorem dX2_beginningWith_15 : decode cX2_beginningWith 15 = .ok (.getfield 41, 3) := by decide +kernel
theorem dX2_beginningWith_18 : decode cX2_beginningWith 18 = .ok (.iload_n 0, 1) := by decide +kernel
theorem dX2_beginningWith_19 : decode cX2_beginningWith 19 = .ok (.if_icmp .ne 9, 3) := by decide +kernel
theorem dX2_beginningWith_22 : decode cX2_beginningWith 22 = .ok (.getstatic 49, 3) := by decide +kernel
theorem dX2_beginningWith_25 : decode cX2_beginningWith 25 = .ok (.iload_n 1, 1) := by decide +kernel
theorem dX2_beginningWith_26 : decode cX2_beginningWith 26 = .ok (.aaload, 1) := by decide +kernel
theorem dX2_beginningWith_27 : decode cX2_beginningWith 27 = .ok (.areturn, 1) := by decide +kernel
theorem dX2_beginningWith_28 : decode cX2_beginningWith 28 = .ok (.iinc 1 1, 3) := by decide +kernel
theorem dX2_beginningWith_31 : decode cX2_beginningWith 31 = .ok (.goto (-29), 3) := by decide +kernel
theorem dX2_beginningWith_34 : decode cX2_beginningWith 34 = .ok (.aconst_null, 1) := by decide +kernel
theorem dX2_beginningWith_35 : decode cX2_beginningWith 35 = .ok (.areturn, 1) := by decide +kernel
set_option maxRecDepth 20000 in
theorem ggX4_init_X8_init : GoodIn wsX4_init wsX8_init := goodIn_r _ [12, 13, 2, 3, 14, 15, 16, 17, 18, 19, 20, 21, 22, 23, 24, 25, 26, 27, 28, 29, 30, 31, 32, 33, 37, 38, 39, 40, 41, 42, 43, 44, 45, 46, 47, 48, 49] rfl (by decide +kernel)
set_option maxRecDepth 20000 in
theorem gX4_init_X8_init : GoodIn wsX4_init (wsX8_init) := ggX4_init_X8_init
theorem dX4_init_0 : decode cX4_init 0 = .ok (.aload_n 0, 1) := by decide +kernel
theorem dX4_init_1 : decode cX4_init 1 = .ok (.invokespecial 3, 3) := by decide +kernel
theorem dX4_init_4 : decode cX4_init 4 = .ok (.aload_n 0, 1) := by decide +kernel
theorem dX4_init_5 : decode cX4_init 5 = .ok (.bipush 8, 2) := by decide +kernel
theorem dX4_init_7 : decode cX4_init 7 = .ok (.anewarray 9, 3) := by decide +kernel
theorem dX4_init_10 : decode cX4_init 10 = .ok (.putfield 11, 3) := by decide +kernel
theorem dX4_init_13 : decode cX4_init 13 = .ok (.aload_n 0, 1) := by decide +kernel
theorem dX4_init_14 : decode cX4_init 14 = .ok (.iconst 0, 1) := by decide +kernel
theorem dX4_init_15 : decode cX4_init 15 = .ok (.putfield 17, 3) := by decide +kernel
theorem dX4_init_18 : decode cX4_init 18 = .ok (.aload_n 0, 1) := by decide +kernel
theorem dX4_init_19 : decode cX4_init 19 = .ok (.iconst 0, 1) := by decide +kernel
theorem dX4_init_20 : decode cX4_init 20 = .ok (.putfield 21, 3) := by decide +kernel
theorem dX4_init_23 : decode cX4_init 23 = .ok (.iconst 0, 1) := by decide +kernel
theorem dX4_init_24 : decode cX4_init 24 = .ok (.istore_n 2, 1) := by decide +kernel
theorem dX4_init_25 : decode cX4_init 25 = .ok (.iload_n 2, 1) := by decide +kernel
theorem dX4_init_26 : decode cX4_init 26 = .ok (.bipush 8, 2) := by decide +kernel
theorem dX4_init_28 : decode cX4_init 28 = .ok (.if_icmp .ge 23, 3) := by decide +kernel
theorem dX4_init_31 : decode cX4_init 31 = .ok (.aload_n 0, 1) := by decide +kernel
theorem dX4_init_32 : decode cX4_init 32 = .ok (.getfield 11, 3) := by decide +kernel
theorem dX4_init_35 : decode cX4_init 35 = .ok (.iload_n 2, 1) := by decide +kernel
theorem dX4_init_36 : decode cX4_init 36 = .ok (.new 9, 3) := by decide +kernel
theorem dX4_init_39 : decode cX4_init 39 = .ok (.dup, 1) := by decide +kernel
theorem dX4_init_40 : decode cX4_init 40 = .ok (.aload_n 1, 1) := by decide +kernel
theorem dX4_init_41 : decode cX4_init 41 = .ok (.invokespecial 24, 3) := by decide +kernel
theorem dX4_init_44 : decode cX4_init 44 = .ok (.aastore, 1) := by decide +kernel
theorem dX4_init_45 : decode cX4_init 45 = .ok (.iinc 2 1, 3) := by decide +kernel
theorem dX4_init_48 : decode cX4_init 48 = .ok (.goto (-23), 3) := by decide +kernel
theorem dX4_init_51 : decode cX4_init 51 = .ok (.return_, 1) := by decide +kernel
set_option maxRecDepth 20000 in
theorem ggX4_keep_X8_copyFrom : GoodIn wsX4_keep wsX8_copyFrom := goodIn_r _ [12, 13, 14, 15, 16, 17, 18, 19, 20, 21, 22, 23, 24, 25, 26, 27, 28, 29, 30, 31, 32, 33, 34, 35, 39, 40, 41, 42, 43, 44, 45, 46, 47, 48, 49, 50, 51] rfl (by decide +kernel)
set_option maxRecDepth 20000 in
theorem gX4_keep_X8_copyFrom : GoodIn wsX4_keep (wsV RX4 27 RX8 yX8_copyFrom wsX8_copyFrom) := goodIn_app (goodIn_of _ (by decide +kernel)) ggX4_keep_X8_copyFrom
theorem dX4_keep_0 : decode cX4_keep 0 = .ok (.aload_n 0, 1) := by decide +kernel
theorem dX4_keep_1 : decode cX4_keep 1 = .ok (.aload_n 0, 1) := by decide +kernel
theorem dX4_keep_2 : decode cX4_keep 2 = .ok (.getfield 17, 3) := by decide +kernel
theorem dX4_keep_5 : decode cX4_keep 5 = .ok (.iconst 1, 1) := by decide +kernel
theorem dX4_keep_6 : decode cX4_keep 6 = .ok (.iadd, 1) := by decide +kernel
theorem dX4_keep_7 : decode cX4_keep 7 = .ok (.bipush 8, 2) := by decide +kernel
theorem dX4_keep_9 : decode cX4_keep 9 = .ok (.irem, 1) := by decide +kernel
theorem dX4_keep_10 : decode cX4_keep 10 = .ok (.putfield 17, 3) := by decide +kernel
theorem dX4_keep_13 : decode cX4_keep 13 = .ok (.aload_n 0, 1) := by decide +kernel
theorem dX4_keep_14 : decode cX4_keep 14 = .ok (.getfield 11, 3) := by decide +kernel
theorem dX4_keep_17 : decode cX4_keep 17 = .ok (.aload_n 0, 1) := by decide +kernel
theorem dX4_keep_18 : decode cX4_keep 18 = .ok (.getfield 17, 3) := by decide +kernel
theorem dX4_keep_21 : decode cX4_keep 21 = .ok (.aaload, 1) := by decide +kernel
theorem dX4_keep_22 : decode cX4_keep 22 = .ok (.aload_n 1, 1) := by decide +kernel
theorem dX4_keep_23 : decode cX4_keep 23 = .ok (.invokevirtual 27, 3) := by decide +kernel
theorem dX4_keep_26 : decode cX4_keep 26 = .ok (.aload_n 0, 1) := by decide +kernel
theorem dX4_keep_27 : decode cX4_keep 27 = .ok (.aload_n 0, 1) := by decide +kernel
theorem dX4_keep_28 : decode cX4_keep 28 = .ok (.getfield 21, 3) := by decide +kernel
theorem dX4_keep_31 : decode cX4_keep 31 = .ok (.iconst 1, 1) := by decide +kernel
theorem dX4_keep_32 : decode cX4_keep 32 = .ok (.iadd, 1) := by decide +kernel
theorem dX4_keep_33 : decode cX4_keep 33 = .ok (.bipush 8, 2) := by decide +kernel
theorem dX4_keep_35 : decode cX4_keep 35 = .ok (.invokestatic 31, 3) := by decide +kernel
theorem dX4_keep_38 : decode cX4_keep 38 = .ok (.putfield 21, 3) := by decide +kernel
theorem dX4_keep_41 : decode cX4_keep 41 = .ok (.return_, 1) := by decide +kernel
set_option maxRecDepth 20000 in
theorem ggX4_takeBack_X8_copyFrom : GoodIn wsX4_takeBack wsX8_copyFrom := goodIn_r _ [8, 9, 10, 11, 12, 13, 14, 15, 16, 17, 18, 19, 20, 21, 22, 23, 24, 25, 26, 27, 28, 29, 30, 31, 35, 36, 37, 38, 39, 40, 41, 42, 43, 44, 45, 46, 47] rfl (by decide +kernel)
set_option maxRecDepth 20000 in
theorem gX4_takeBack_X8_copyFrom : GoodIn wsX4_takeBack (wsV RX4 27 RX8 yX8_copyFrom wsX8_copyFrom) := goodIn_app (goodIn_of _ (by decide +kernel)) ggX4_takeBack_X8_copyFrom
theorem dX4_takeBack_0 : decode cX4_takeBack 0 = .ok (.aload_n 0, 1) := by decide +kernel
theorem dX4_takeBack_1 : decode cX4_takeBack 1 = .ok (.getfield 21, 3) := by decide +kernel
theorem dX4_takeBack_4 : decode cX4_takeBack 4 = .ok (.ifCond .le 42, 3) := by decide +kernel
theorem dX4_takeBack_7 : decode cX4_takeBack 7 = .ok (.aload_n 1, 1) := by decide +kernel
theorem dX4_takeBack_8 : decode cX4_takeBack 8 = .ok (.aload_n 0, 1) := by decide +kernel
theorem dX4_takeBack_9 : decode cX4_takeBack 9 = .ok (.getfield 11, 3) := by decide +kernel
theorem dX4_takeBack_12 : decode cX4_takeBack 12 = .ok (.aload_n 0, 1) := by decide +kernel
theorem dX4_takeBack_13 : decode cX4_takeBack 13 = .ok (.getfield 17, 3) := by decide +kernel
theorem dX4_takeBack_16 : decode cX4_takeBack 16 = .ok (.aaload, 1) := by decide +kernel
theorem dX4_takeBack_17 : decode cX4_takeBack 17 = .ok (.invokevirtual 27, 3) := by decide +kernel
theorem dX4_takeBack_20 : decode cX4_takeBack 20 = .ok (.aload_n 0, 1) := by decide +kernel
theorem dX4_takeBack_21 : decode cX4_takeBack 21 = .ok (.aload_n 0, 1) := by decide +kernel
theorem dX4_takeBack_22 : decode cX4_takeBack 22 = .ok (.getfield 17, 3) := by decide +kernel
theorem dX4_takeBack_25 : decode cX4_takeBack 25 = .ok (.bipush 8, 2) := by decide +kernel
theorem dX4_takeBack_27 : decode cX4_takeBack 27 = .ok (.iadd, 1) := by decide +kernel
theorem dX4_takeBack_28 : decode cX4_takeBack 28 = .ok (.iconst 1, 1) := by decide +kernel
theorem dX4_takeBack_29 : decode cX4_takeBack 29 = .ok (.isub, 1) := by decide +kernel
theorem dX4_takeBack_30 : decode cX4_takeBack 30 = .ok (.bipush 8, 2) := by decide +kernel
theorem dX4_takeBack_32 : decode cX4_takeBack 32 = .ok (.irem, 1) := by decide +kernel
theorem dX4_takeBack_33 : decode cX4_takeBack 33 = .ok (.putfield 17, 3) := by decide +kernel
theorem dX4_takeBack_36 : decode cX4_takeBack 36 = .ok (.aload_n 0, 1) := by decide +kernel
theorem dX4_takeBack_37 : decode cX4_takeBack 37 = .ok (.dup, 1) := by decide +kernel
theorem dX4_takeBack_38 : decode cX4_takeBack 38 = .ok (.getfield 21, 3) := by decide +kernel
theorem dX4_takeBack_41 : decode cX4_takeBack 41 = .ok (.iconst 1, 1) := by decide +kernel
theorem dX4_takeBack_42 : decode cX4_takeBack 42 = .ok (.isub, 1) := by decide +kernel
theorem dX4_takeBack_43 : decode cX4_takeBack 43 = .ok (.putfield 21, 3) := by decide +kernel
theorem dX4_takeBack_46 : decode cX4_takeBack 46 = .ok (.return_, 1) := by decide +kernel
theorem dX4_forget_0 : decode cX4_forget 0 = .ok (.aload_n 0, 1) := by decide +kernel
theorem dX4_forget_1 : decode cX4_forget 1 = .ok (.iconst 0, 1) := by decide +kernel
theorem dX4_forget_2 : decode cX4_forget 2 = .ok (.putfield 21, 3) := by decide +kernel
theorem dX4_forget_5 : decode cX4_forget 5 = .ok (.return_, 1) := by decide +kernel
theorem dX7_init_0 : decode cX7_init 0 = .ok (.aload_n 0, 1) := by decide +kernel
theorem dX7_init_1 : decode cX7_init 1 = .ok (.invokespecial 1, 3) := by decide +kernel
theorem dX7_init_4 : decode cX7_init 4 = .ok (.aload_n 0, 1) := by decide +kernel
theorem dX7_init_5 : decode cX7_init 5 = .ok (.iload_n 1, 1) := by decide +kernel
theorem dX7_init_6 : decode cX7_init 6 = .ok (.putfield 7, 3) := by decide +kernel
theorem dX7_init_9 : decode cX7_init 9 = .ok (.aload_n 0, 1) := by decide +kernel
theorem dX7_init_10 : decode cX7_init 10 = .ok (.iload_n 2, 1) := by decide +kernel
theorem dX7_init_11 : decode cX7_init 11 = .ok (.putfield 13, 3) := by decide +kernel
theorem dX7_init_14 : decode cX7_init 14 = .ok (.aload_n 0, 1) := by decide +kernel
theorem dX7_init_15 : decode cX7_init 15 = .ok (.aload_n 3, 1) := by decide +kernel
theorem dX7_init_16 : decode cX7_init 16 = .ok (.putfield 16, 3) := by decide +kernel
theorem dX7_init_19 : decode cX7_init 19 = .ok (.return_, 1) := by decide +kernel
set_option maxRecDepth 20000 in
theorem ggX10_init_X9_init : GoodIn wsX10_init wsX9_init := goodIn_r _ [33, 34, 2, 3, 35, 36, 37, 188, 189] rfl (by decide +kernel)
set_option maxRecDepth 20000 in
theorem gX10_init_X9_init_n11 : GoodIn wsX10_init (wsX9_init) := ggX10_init_X9_init
set_option maxRecDepth 20000 in
theorem ggX10_init_X3_init : GoodIn wsX10_init wsX3_init := goodIn_r _ [39, 40, 2, 3, 41, 42, 43, 44, 45, 46, 35, 47, 200, 201, 202, 203, 204] rfl (by decide +kernel)
set_option maxRecDepth 20000 in
theorem gX10_init_X3_init_n18 : GoodIn wsX10_init (wsX3_init) := ggX10_init_X3_init
set_option maxRecDepth 20000 in
theorem ggX10_init_J4_init_da8c8 : GoodIn wsX10_init wsJ4_init_da8c8 := goodIn_r _ [50, 51, 52, 53, 54, 55, 2, 3, 56, 57, 58, 59, 60, 61, 62, 63, 64, 65, 66, 67, 205, 206, 207, 208] rfl (by decide +kernel)
set_option maxRecDepth 20000 in
theorem gX10_init_J4_init_da8c8 : GoodIn wsX10_init (wsJ4_init_da8c8) := ggX10_init_J4_init_da8c8
set_option maxRecDepth 20000 in
theorem ggX10_init_X1_init : GoodIn wsX10_init wsX1_init := goodIn_r _ [70, 71, 2, 3, 72, 73, 74, 75, 76, 77, 78, 35, 79, 80, 81, 82, 83, 84, 85, 86, 87, 88, 89, 90, 91, 92, 93, 94, 95, 96, 97, 98, 99, 100, 101, 102, 103, 104, 105, 106, 107, 108, 109, 110, 111, 112, 113, 114, 115, 116, 117, 118, 119, 120, 121, 122, 123, 124, 125, 126, 127, 128, 129, 130, 131, 132, 133, 134, 135, 136, 137, 138, 139, 140, 141, 142, 143, 144, 145, 146, 147, 148, 149, 150, 151, 152, 153, 154, 155, 224, 225, 226, 209, 210, 227, 228, 229, 230] rfl (by decide +kernel)
set_option maxRecDepth 20000 in
theorem gX10_init_X1_init : GoodIn wsX10_init (wsX1_init) := ggX10_init_X1_init
set_option maxRecDepth 20000 in
theorem ggX10_init_X8_init : GoodIn wsX10_init wsX8_init := goodIn_r _ [158, 159, 2, 3, 35, 160, 161, 162, 163, 164, 165, 166, 167, 168, 169, 170, 171, 172, 173, 174, 175, 176, 177, 178, 211, 212, 213, 214, 215, 216, 217, 218, 219, 220, 231, 232, 233] rfl (by decide +kernel)
set_option maxRecDepth 20000 in
theorem gX10_init_X8_init : GoodIn wsX10_init (wsX8_init) := ggX10_init_X8_init
set_option maxRecDepth 20000 in
theorem ggX10_init_X4_init : GoodIn wsX10_init wsX4_init := goodIn_r _ [181, 182, 2, 3, 183, 184, 185, 186, 23, 24, 187, 157, 158, 159, 35, 160, 161, 162, 163, 164, 165, 166, 167, 168, 169, 170, 171, 172, 173, 174, 175, 176, 177, 178, 221, 222, 223, 211, 212, 213, 214, 215, 216, 217, 218, 219, 220, 231, 232, 233] rfl (by decide +kernel)
set_option maxRecDepth 20000 in
theorem gX10_init_X4_init : GoodIn wsX10_init (wsX4_init) := ggX10_init_X4_init
theorem dX10_init_0 : decode cX10_init 0 = .ok (.aload_n 0, 1) := by decide +kernel
theorem dX10_init_1 : decode cX10_init 1 = .ok (.invokespecial 3, 3) := by decide +kernel
theorem dX10_init_4 : decode cX10_init 4 = .ok (.aload_n 0, 1) := by decide +kernel
theorem dX10_init_5 : decode cX10_init 5 = .ok (.new 9, 3) := by decide +kernel
theorem dX10_init_8 : decode cX10_init 8 = .ok (.dup, 1) := by decide +kernel
theorem dX10_init_9 : decode cX10_init 9 = .ok (.invokespecial 11, 3) := by decide +kernel
theorem dX10_init_12 : decode cX10_init 12 = .ok (.putfield 12, 3) := by decide +kernel
theorem dX10_init_15 : decode cX10_init 15 = .ok (.aload_n 0, 1) := by decide +kernel
theorem dX10_init_16 : decode cX10_init 16 = .ok (.new 16, 3) := by decide +kernel
theorem dX10_init_19 : decode cX10_init 19 = .ok (.dup, 1) := by decide +kernel
theorem dX10_init_20 : decode cX10_init 20 = .ok (.invokespecial 18, 3) := by decide +kernel
theorem dX10_init_23 : decode cX10_init 23 = .ok (.putfield 19, 3) := by decide +kernel
theorem dX10_init_26 : decode cX10_init 26 = .ok (.aload_n 0, 1) := by decide +kernel
theorem dX10_init_27 : decode cX10_init 27 = .ok (.new 23, 3) := by decide +kernel
theorem dX10_init_30 : decode cX10_init 30 = .ok (.dup, 1) := by decide +kernel
theorem dX10_init_31 : decode cX10_init 31 = .ok (.invokespecial 25, 3) := by decide +kernel
theorem dX10_init_34 : decode cX10_init 34 = .ok (.putfield 26, 3) := by decide +kernel
theorem dX10_init_37 : decode cX10_init 37 = .ok (.aload_n 0, 1) := by decide +kernel
theorem dX10_init_38 : decode cX10_init 38 = .ok (.iconst 0, 1) := by decide +kernel
theorem dX10_init_39 : decode cX10_init 39 = .ok (.putfield 30, 3) := by decide +kernel
theorem dX10_init_42 : decode cX10_init 42 = .ok (.aload_n 0, 1) := by decide +kernel
theorem dX10_init_43 : decode cX10_init 43 = .ok (.iconst (-1), 1) := by decide +kernel
theorem dX10_init_44 : decode cX10_init 44 = .ok (.putfield 34, 3) := by decide +kernel
theorem dX10_init_47 : decode cX10_init 47 = .ok (.aload_n 0, 1) := by decide +kernel
theorem dX10_init_48 : decode cX10_init 48 = .ok (.aconst_null, 1) := by decide +kernel
theorem dX10_init_49 : decode cX10_init 49 = .ok (.putfield 38, 3) := by decide +kernel
theorem dX10_init_52 : decode cX10_init 52 = .ok (.new 42, 3) := by decide +kernel
theorem dX10_init_55 : decode cX10_init 55 = .ok (.dup, 1) := by decide +kernel
theorem dX10_init_56 : decode cX10_init 56 = .ok (.invokespecial 44, 3) := by decide +kernel
theorem dX10_init_59 : decode cX10_init 59 = .ok (.astore_n 1, 1) := by decide +kernel
theorem dX10_init_60 : decode cX10_init 60 = .ok (.aload_n 0, 1) := by decide +kernel
theorem dX10_init_61 : decode cX10_init 61 = .ok (.new 45, 3) := by decide +kernel
theorem dX10_init_64 : decode cX10_init 64 = .ok (.dup, 1) := by decide +kernel
theorem dX10_init_65 : decode cX10_init 65 = .ok (.aload_n 1, 1) := by decide +kernel
theorem dX10_init_66 : decode cX10_init 66 = .ok (.invokespecial 47, 3) := by decide +kernel
theorem dX10_init_69 : decode cX10_init 69 = .ok (.putfield 50, 3) := by decide +kernel
theorem dX10_init_72 : decode cX10_init 72 = .ok (.aload_n 0, 1) := by decide +kernel
theorem dX10_init_73 : decode cX10_init 73 = .ok (.new 45, 3) := by decide +kernel
theorem dX10_init_76 : decode cX10_init 76 = .ok (.dup, 1) := by decide +kernel
theorem dX10_init_77 : decode cX10_init 77 = .ok (.aload_n 1, 1) := by decide +kernel
theorem dX10_init_78 : decode cX10_init 78 = .ok (.invokespecial 47, 3) := by decide +kernel
theorem dX10_init_81 : decode cX10_init 81 = .ok (.putfield 54, 3) := by decide +kernel
theorem dX10_init_84 : decode cX10_init 84 = .ok (.aload_n 0, 1) := by decide +kernel
theorem dX10_init_85 : decode cX10_init 85 = .ok (.new 45, 3) := by decide +kernel
theorem dX10_init_88 : decode cX10_init 88 = .ok (.dup, 1) := by decide +kernel
theorem dX10_init_89 : decode cX10_init 89 = .ok (.aload_n 1, 1) := by decide +kernel
theorem dX10_init_90 : decode cX10_init 90 = .ok (.invokespecial 47, 3) := by decide +kernel
theorem dX10_init_93 : decode cX10_init 93 = .ok (.putfield 57, 3) := by decide +kernel
theorem dX10_init_96 : decode cX10_init 96 = .ok (.aload_n 0, 1) := by decide +kernel
theorem dX10_init_97 : decode cX10_init 97 = .ok (.new 60, 3) := by decide +kernel
theorem dX10_init_100 : decode cX10_init 100 = .ok (.dup, 1) := by decide +kernel
theorem dX10_init_101 : decode cX10_init 101 = .ok (.aload_n 1, 1) := by decide +kernel
theorem dX10_init_102 : decode cX10_init 102 = .ok (.invokespecial 62, 3) := by decide +kernel
theorem dX10_init_105 : decode cX10_init 105 = .ok (.putfield 63, 3) := by decide +kernel
theorem dX10_init_108 : decode cX10_init 108 = .ok (.return_, 1) := by decide +kernel
set_option maxRecDepth 20000 in
theorem ggX10_come_X10_change : GoodIn wsX10_come wsX10_change := goodIn_ca (goodIn_ca (goodIn_r _ [6, 7, 8, 9, 10, 11, 12, 13, 14, 15, 16, 17, 18, 19, 20, 21, 22, 23, 24, 25, 26, 27, 28, 29, 30, 31, 32, 33, 34, 35, 36, 37, 38, 39, 40, 41, 42, 43, 44, 45, 46, 47, 48, 49, 50, 51, 52, 53, 54, 55, 56, 57, 58, 59, 60, 61, 62, 63, 64, 65, 66, 67, 68, 69, 70, 5, 71, 72, 73, 74, 75, 76, 77, 78, 79, 80, 81, 82, 83, 84, 85, 86, 87, 88, 89, 90, 91, 92, 93, 94, 95, 96, 97, 98, 99, 100, 101, 102, 103, 104, 105, 106, 107, 108, 109, 110, 111, 112, 113, 114, 115, 116, 117, 118, 119, 120, 121, 122, 123, 124, 125, 126, 127, 128, 129, 130, 131, 132, 133, 134, 135, 136, 137, 138, 139, 140, 141, 142, 143, 144, 145, 146, 147, 148, 149, 150, 151, 152, 153, 154, 155, 156, 157, 158, 159, 160, 161, 162, 163, 164, 165, 166, 167, 168, 169, 170, 171, 172, 173, 174, 175, 176, 177, 178, 179, 180, 181, 182, 183, 184, 185, 186, 187, 188, 189, 190, 191, 192, 193, 194, 195, 196, 197, 198, 199, 200, 201, 202, 203, 204, 205, 206, 207, 208, 209, 210, 211, 212, 213, 214, 215, 216, 217, 218, 219, 220, 221, 222, 223, 224, 225, 226, 227, 228, 229, 230, 231, 232, 233, 234, 235, 236, 237, 238, 239, 240, 241, 242, 243, 244, 245, 246, 247, 248, 249, 250, 251, 252, 253, 254, 255, 256, 257, 258, 259, 260, 261, 262, 263, 264, 265, 266, 267, 268, 269, 270, 271, 272, 273, 274, 275, 276, 277, 278, 279, 280, 281, 282, 283, 284, 285, 286, 287, 288, 289, 290, 291, 292, 293, 294, 295, 296, 297, 298, 299, 300, 301, 302, 303, 304, 305, 306, 307, 308, 309, 310, 311, 312, 313, 314, 315, 316, 317, 318, 319, 320, 321, 322, 323, 324, 325, 326, 327, 328, 329, 330, 331, 332, 333, 334, 335, 336, 337, 338, 339, 340, 341, 342, 343, 344, 345, 346, 347, 348] rfl (by decide +kernel)) (goodIn_sub (fun _ h => List.mem_cons_of_mem _ (List.mem_append_left _ (List.mem_append_right _ h))) (by decide +kernel))) (goodIn_sub (fun _ h => List.mem_cons_of_mem _ (List.mem_append_right _ h)) (by decide +kernel))
set_option maxRecDepth 20000 in
theorem gX10_come_X10_change : GoodIn wsX10_come (wsV RX10 73 RX10 yX10_change wsX10_change) := goodIn_app (goodIn_of _ (by decide +kernel)) ggX10_come_X10_change
theorem dX10_come_0 : decode cX10_come 0 = .ok (.aload_n 0, 1) := by decide +kernel
theorem dX10_come_1 : decode cX10_come 1 = .ok (.getstatic 67, 3) := by decide +kernel
theorem dX10_come_4 : decode cX10_come 4 = .ok (.iconst 0, 1) := by decide +kernel
theorem dX10_come_5 : decode cX10_come 5 = .ok (.iconst 0, 1) := by decide +kernel
theorem dX10_come_6 : decode cX10_come 6 = .ok (.iconst 0, 1) := by decide +kernel
theorem dX10_come_7 : decode cX10_come 7 = .ok (.invokevirtual 73, 3) := by decide +kernel
theorem dX10_come_10 : decode cX10_come 10 = .ok (.ireturn, 1) := by decide +kernel
set_option maxRecDepth 20000 in
theorem ggX10_canal_X10_change : GoodIn wsX10_canal wsX10_change := goodIn_ca (goodIn_ca (goodIn_r _ [6, 7, 8, 9, 10, 11, 12, 13, 14, 15, 16, 17, 18, 19, 20, 21, 22, 23, 24, 25, 26, 27, 28, 29, 30, 31, 32, 33, 34, 35, 36, 37, 38, 39, 40, 41, 42, 43, 44, 45, 46, 47, 48, 49, 50, 51, 52, 53, 54, 55, 56, 57, 58, 59, 60, 61, 62, 63, 64, 65, 66, 67, 68, 69, 70, 5, 71, 72, 73, 74, 75, 76, 77, 78, 79, 80, 81, 82, 83, 84, 85, 86, 87, 88, 89, 90, 91, 92, 93, 94, 95, 96, 97, 98, 99, 100, 101, 102, 103, 104, 105, 106, 107, 108, 109, 110, 111, 112, 113, 114, 115, 116, 117, 118, 119, 120, 121, 122, 123, 124, 125, 126, 127, 128, 129, 130, 131, 132, 133, 134, 135, 136, 137, 138, 139, 140, 141, 142, 143, 144, 145, 146, 147, 148, 149, 150, 151, 152, 153, 154, 155, 156, 157, 158, 159, 160, 161, 162, 163, 164, 165, 166, 167, 168, 169, 170, 171, 172, 173, 174, 175, 176, 177, 178, 179, 180, 181, 182, 183, 184, 185, 186, 187, 188, 189, 190, 191, 192, 193, 194, 195, 196, 197, 198, 199, 200, 201, 202, 203, 204, 205, 206, 207, 208, 209, 210, 211, 212, 213, 214, 215, 216, 217, 218, 219, 220, 221, 222, 223, 224, 225, 226, 227, 228, 229, 230, 231, 232, 233, 234, 235, 236, 237, 238, 239, 240, 241, 242, 243, 244, 245, 246, 247, 248, 249, 250, 251, 252, 253, 254, 255, 256, 257, 258, 259, 260, 261, 262, 263, 264, 265, 266, 267, 268, 269, 270, 271, 272, 273, 274, 275, 276, 277, 278, 279, 280, 281, 282, 283, 284, 285, 286, 287, 288, 289, 290, 291, 292, 293, 294, 295, 296, 297, 298, 299, 300, 301, 302, 303, 304, 305, 306, 307, 308, 309, 310, 311, 312, 313, 314, 315, 316, 317, 318, 319, 320, 321, 322, 323, 324, 325, 326, 327, 328, 329, 330, 331, 332, 333, 334, 335, 336, 337, 338, 339, 340, 341, 342, 343, 344, 345, 346, 347, 348] rfl (by decide +kernel)) (goodIn_sub (fun _ h => List.mem_cons_of_mem _ (List.mem_append_left _ (List.mem_append_right _ h))) (by decide +kernel))) (goodIn_sub (fun _ h => List.mem_cons_of_mem _ (List.mem_append_right _ h)) (by decide +kernel))
set_option maxRecDepth 20000 in
theorem gX10_canal_X10_change : GoodIn wsX10_canal (wsV RX10 73 RX10 yX10_change wsX10_change) := goodIn_app (goodIn_of _ (by decide +kernel)) ggX10_canal_X10_change
theorem dX10_canal_0 : decode cX10_canal 0 = .ok (.aload_n 0, 1) := by decide +kernel
theorem dX10_canal_1 : decode cX10_canal 1 = .ok (.getstatic 77, 3) := by decide +kernel
theorem dX10_canal_4 : decode cX10_canal 4 = .ok (.iload_n 1, 1) := by decide +kernel
theorem dX10_canal_5 : decode cX10_canal 5 = .ok (.iload_n 2, 1) := by decide +kernel
theorem dX10_canal_6 : decode cX10_canal 6 = .ok (.iload_n 3, 1) := by decide +kernel
theorem dX10_canal_7 : decode cX10_canal 7 = .ok (.invokevirtual 73, 3) := by decide +kernel
theorem dX10_canal_10 : decode cX10_canal 10 = .ok (.ireturn, 1) := by decide +kernel
set_option maxRecDepth 20000 in
theorem ggX10_close_X10_change : GoodIn wsX10_close wsX10_change := goodIn_ca (goodIn_ca (goodIn_r _ [6, 7, 8, 9, 10, 11, 12, 13, 14, 15, 16, 17, 18, 19, 20, 21, 22, 23, 24, 25, 26, 27, 28, 29, 30, 31, 32, 33, 34, 35, 36, 37, 38, 39, 40, 41, 42, 43, 44, 45, 46, 47, 48, 49, 50, 51, 52, 53, 54, 55, 56, 57, 58, 59, 60, 61, 62, 63, 64, 65, 66, 67, 68, 69, 70, 5, 71, 72, 73, 74, 75, 76, 77, 78, 79, 80, 81, 82, 83, 84, 85, 86, 87, 88, 89, 90, 91, 92, 93, 94, 95, 96, 97, 98, 99, 100, 101, 102, 103, 104, 105, 106, 107, 108, 109, 110, 111, 112, 113, 114, 115, 116, 117, 118, 119, 120, 121, 122, 123, 124, 125, 126, 127, 128, 129, 130, 131, 132, 133, 134, 135, 136, 137, 138, 139, 140, 141, 142, 143, 144, 145, 146, 147, 148, 149, 150, 151, 152, 153, 154, 155, 156, 157, 158, 159, 160, 161, 162, 163, 164, 165, 166, 167, 168, 169, 170, 171, 172, 173, 174, 175, 176, 177, 178, 179, 180, 181, 182, 183, 184, 185, 186, 187, 188, 189, 190, 191, 192, 193, 194, 195, 196, 197, 198, 199, 200, 201, 202, 203, 204, 205, 206, 207, 208, 209, 210, 211, 212, 213, 214, 215, 216, 217, 218, 219, 220, 221, 222, 223, 224, 225, 226, 227, 228, 229, 230, 231, 232, 233, 234, 235, 236, 237, 238, 239, 240, 241, 242, 243, 244, 245, 246, 247, 248, 249, 250, 251, 252, 253, 254, 255, 256, 257, 258, 259, 260, 261, 262, 263, 264, 265, 266, 267, 268, 269, 270, 271, 272, 273, 274, 275, 276, 277, 278, 279, 280, 281, 282, 283, 284, 285, 286, 287, 288, 289, 290, 291, 292, 293, 294, 295, 296, 297, 298, 299, 300, 301, 302, 303, 304, 305, 306, 307, 308, 309, 310, 311, 312, 313, 314, 315, 316, 317, 318, 319, 320, 321, 322, 323, 324, 325, 326, 327, 328, 329, 330, 331, 332, 333, 334, 335, 336, 337, 338, 339, 340, 341, 342, 343, 344, 345, 346, 347, 348] rfl (by decide +kernel)) (goodIn_sub (fun _ h => List.mem_cons_of_mem _ (List.mem_append_left _ (List.mem_append_right _ h))) (by decide +kernel))) (goodIn_sub (fun _ h => List.mem_cons_of_mem _ (List.mem_append_right _ h)) (by decide +kernel))
set_option maxRecDepth 20000 in
theorem gX10_close_X10_change : GoodIn wsX10_close (wsV RX10 73 RX10 yX10_change wsX10_change) := goodIn_app (goodIn_of _ (by decide +kernel)) ggX10_close_X10_change
theorem dX10_close_0 : decode cX10_close 0 = .ok (.aload_n 0, 1) := by decide +kernel
theorem dX10_close_1 : decode cX10_close 1 = .ok (.getstatic 80, 3) := by decide +kernel
theorem dX10_close_4 : decode cX10_close 4 = .ok (.iload_n 1, 1) := by decide +kernel
theorem dX10_close_5 : decode cX10_close 5 = .ok (.iload_n 2, 1) := by decide +kernel
theorem dX10_close_6 : decode cX10_close 6 = .ok (.iconst 0, 1) := by decide +kernel
theorem dX10_close_7 : decode cX10_close 7 = .ok (.invokevirtual 73, 3) := by decide +kernel
theorem dX10_close_10 : decode cX10_close 10 = .ok (.ireturn, 1) := by decide +kernel
set_option maxRecDepth 20000 in
theorem ggX10_district_X10_change : GoodIn wsX10_district wsX10_change := goodIn_ca (goodIn_ca (goodIn_r _ [6, 7, 8, 9, 10, 11, 12, 13, 14, 15, 16, 17, 18, 19, 20, 21, 22, 23, 24, 25, 26, 27, 28, 29, 30, 31, 32, 33, 34, 35, 36, 37, 38, 39, 40, 41, 42, 43, 44, 45, 46, 47, 48, 49, 50, 51, 52, 53, 54, 55, 56, 57, 58, 59, 60, 61, 62, 63, 64, 65, 66, 67, 68, 69, 70, 5, 71, 72, 73, 74, 75, 76, 77, 78, 79, 80, 81, 82, 83, 84, 85, 86, 87, 88, 89, 90, 91, 92, 93, 94, 95, 96, 97, 98, 99, 100, 101, 102, 103, 104, 105, 106, 107, 108, 109, 110, 111, 112, 113, 114, 115, 116, 117, 118, 119, 120, 121, 122, 123, 124, 125, 126, 127, 128, 129, 130, 131, 132, 133, 134, 135, 136, 137, 138, 139, 140, 141, 142, 143, 144, 145, 146, 147, 148, 149, 150, 151, 152, 153, 154, 155, 156, 157, 158, 159, 160, 161, 162, 163, 164, 165, 166, 167, 168, 169, 170, 171, 172, 173, 174, 175, 176, 177, 178, 179, 180, 181, 182, 183, 184, 185, 186, 187, 188, 189, 190, 191, 192, 193, 194, 195, 196, 197, 198, 199, 200, 201, 202, 203, 204, 205, 206, 207, 208, 209, 210, 211, 212, 213, 214, 215, 216, 217, 218, 219, 220, 221, 222, 223, 224, 225, 226, 227, 228, 229, 230, 231, 232, 233, 234, 235, 236, 237, 238, 239, 240, 241, 242, 243, 244, 245, 246, 247, 248, 249, 250, 251, 252, 253, 254, 255, 256, 257, 258, 259, 260, 261, 262, 263, 264, 265, 266, 267, 268, 269, 270, 271, 272, 273, 274, 275, 276, 277, 278, 279, 280, 281, 282, 283, 284, 285, 286, 287, 288, 289, 290, 291, 292, 293, 294, 295, 296, 297, 298, 299, 300, 301, 302, 303, 304, 305, 306, 307, 308, 309, 310, 311, 312, 313, 314, 315, 316, 317, 318, 319, 320, 321, 322, 323, 324, 325, 326, 327, 328, 329, 330, 331, 332, 333, 334, 335, 336, 337, 338, 339, 340, 341, 342, 343, 344, 345, 346, 347, 348] rfl (by decide +kernel)) (goodIn_sub (fun _ h => List.mem_cons_of_mem _ (List.mem_append_left _ (List.mem_append_right _ h))) (by decide +kernel))) (goodIn_sub (fun _ h => List.mem_cons_of_mem _ (List.mem_append_right _ h)) (by decide +kernel))
set_option maxRecDepth 20000 in
theorem gX10_district_X10_change : GoodIn wsX10_district (wsV RX10 73 RX10 yX10_change wsX10_change) := goodIn_app (goodIn_of _ (by decide +kernel)) ggX10_district_X10_change
theorem dX10_district_0 : decode cX10_district 0 = .ok (.aload_n 0, 1) := by decide +kernel
theorem dX10_district_1 : decode cX10_district 1 = .ok (.getstatic 83, 3) := by decide +kernel
theorem dX10_district_4 : decode cX10_district 4 = .ok (.iload_n 1, 1) := by decide +kernel
theorem dX10_district_5 : decode cX10_district 5 = .ok (.iload_n 2, 1) := by decide +kernel
theorem dX10_district_6 : decode cX10_district 6 = .ok (.iconst 0, 1) := by decide +kernel
theorem dX10_district_7 : decode cX10_district 7 = .ok (.invokevirtual 73, 3) := by decide +kernel
theorem dX10_district_10 : decode cX10_district 10 = .ok (.ireturn, 1) := by decide +kernel
set_option maxRecDepth 20000 in
theorem ggX10_lose_X10_change : GoodIn wsX10_lose wsX10_change := goodIn_ca (goodIn_ca (goodIn_r _ [6, 7, 8, 9, 10, 11, 12, 13, 14, 15, 16, 17, 18, 19, 20, 21, 22, 23, 24, 25, 26, 27, 28, 29, 30, 31, 32, 33, 34, 35, 36, 37, 38, 39, 40, 41, 42, 43, 44, 45, 46, 47, 48, 49, 50, 51, 52, 53, 54, 55, 56, 57, 58, 59, 60, 61, 62, 63, 64, 65, 66, 67, 68, 69, 70, 5, 71, 72, 73, 74, 75, 76, 77, 78, 79, 80, 81, 82, 83, 84, 85, 86, 87, 88, 89, 90, 91, 92, 93, 94, 95, 96, 97, 98, 99, 100, 101, 102, 103, 104, 105, 106, 107, 108, 109, 110, 111, 112, 113, 114, 115, 116, 117, 118, 119, 120, 121, 122, 123, 124, 125, 126, 127, 128, 129, 130, 131, 132, 133, 134, 135, 136, 137, 138, 139, 140, 141, 142, 143, 144, 145, 146, 147, 148, 149, 150, 151, 152, 153, 154, 155, 156, 157, 158, 159, 160, 161, 162, 163, 164, 165, 166, 167, 168, 169, 170, 171, 172, 173, 174, 175, 176, 177, 178, 179, 180, 181, 182, 183, 184, 185, 186, 187, 188, 189, 190, 191, 192, 193, 194, 195, 196, 197, 198, 199, 200, 201, 202, 203, 204, 205, 206, 207, 208, 209, 210, 211, 212, 213, 214, 215, 216, 217, 218, 219, 220, 221, 222, 223, 224, 225, 226, 227, 228, 229, 230, 231, 232, 233, 234, 235, 236, 237, 238, 239, 240, 241, 242, 243, 244, 245, 246, 247, 248, 249, 250, 251, 252, 253, 254, 255, 256, 257, 258, 259, 260, 261, 262, 263, 264, 265, 266, 267, 268, 269, 270, 271, 272, 273, 274, 275, 276, 277, 278, 279, 280, 281, 282, 283, 284, 285, 286, 287, 288, 289, 290, 291, 292, 293, 294, 295, 296, 297, 298, 299, 300, 301, 302, 303, 304, 305, 306, 307, 308, 309, 310, 311, 312, 313, 314, 315, 316, 317, 318, 319, 320, 321, 322, 323, 324, 325, 326, 327, 328, 329, 330, 331, 332, 333, 334, 335, 336, 337, 338, 339, 340, 341, 342, 343, 344, 345, 346, 347, 348] rfl (by decide +kernel)) (goodIn_sub (fun _ h => List.mem_cons_of_mem _ (List.mem_append_left _ (List.mem_append_right _ h))) (by decide +kernel))) (goodIn_sub (fun _ h => List.mem_cons_of_mem _ (List.mem_append_right _ h)) (by decide +kernel))
set_option maxRecDepth 20000 in
theorem gX10_lose_X10_change : GoodIn wsX10_lose (wsV RX10 73 RX10 yX10_change wsX10_change) := goodIn_app (goodIn_of _ (by decide +kernel)) ggX10_lose_X10_change
theorem dX10_lose_0 : decode cX10_lose 0 = .ok (.aload_n 0, 1) := by decide +kernel
theorem dX10_lose_1 : decode cX10_lose 1 = .ok (.getstatic 86, 3) := by decide +kernel
theorem dX10_lose_4 : decode cX10_lose 4 = .ok (.iconst 0, 1) := by decide +kernel
theorem dX10_lose_5 : decode cX10_lose 5 = .ok (.iconst 0, 1) := by decide +kernel
theorem dX10_lose_6 : decode cX10_lose 6 = .ok (.iconst 0, 1) := by decide +kernel
theorem dX10_lose_7 : decode cX10_lose 7 = .ok (.invokevirtual 73, 3) := by decide +kernel
theorem dX10_lose_10 : decode cX10_lose 10 = .ok (.ireturn, 1) := by decide +kernel
set_option maxRecDepth 20000 in
theorem ggX10_pass_X10_change : GoodIn wsX10_pass wsX10_change := goodIn_ca (goodIn_ca (goodIn_r _ [6, 7, 8, 9, 10, 11, 12, 13, 14, 15, 16, 17, 18, 19, 20, 21, 22, 23, 24, 25, 26, 27, 28, 29, 30, 31, 32, 33, 34, 35, 36, 37, 38, 39, 40, 41, 42, 43, 44, 45, 46, 47, 48, 49, 50, 51, 52, 53, 54, 55, 56, 57, 58, 59, 60, 61, 62, 63, 64, 65, 66, 67, 68, 69, 70, 5, 71, 72, 73, 74, 75, 76, 77, 78, 79, 80, 81, 82, 83, 84, 85, 86, 87, 88, 89, 90, 91, 92, 93, 94, 95, 96, 97, 98, 99, 100, 101, 102, 103, 104, 105, 106, 107, 108, 109, 110, 111, 112, 113, 114, 115, 116, 117, 118, 119, 120, 121, 122, 123, 124, 125, 126, 127, 128, 129, 130, 131, 132, 133, 134, 135, 136, 137, 138, 139, 140, 141, 142, 143, 144, 145, 146, 147, 148, 149, 150, 151, 152, 153, 154, 155, 156, 157, 158, 159, 160, 161, 162, 163, 164, 165, 166, 167, 168, 169, 170, 171, 172, 173, 174, 175, 176, 177, 178, 179, 180, 181, 182, 183, 184, 185, 186, 187, 188, 189, 190, 191, 192, 193, 194, 195, 196, 197, 198, 199, 200, 201, 202, 203, 204, 205, 206, 207, 208, 209, 210, 211, 212, 213, 214, 215, 216, 217, 218, 219, 220, 221, 222, 223, 224, 225, 226, 227, 228, 229, 230, 231, 232, 233, 234, 235, 236, 237, 238, 239, 240, 241, 242, 243, 244, 245, 246, 247, 248, 249, 250, 251, 252, 253, 254, 255, 256, 257, 258, 259, 260, 261, 262, 263, 264, 265, 266, 267, 268, 269, 270, 271, 272, 273, 274, 275, 276, 277, 278, 279, 280, 281, 282, 283, 284, 285, 286, 287, 288, 289, 290, 291, 292, 293, 294, 295, 296, 297, 298, 299, 300, 301, 302, 303, 304, 305, 306, 307, 308, 309, 310, 311, 312, 313, 314, 315, 316, 317, 318, 319, 320, 321, 322, 323, 324, 325, 326, 327, 328, 329, 330, 331, 332, 333, 334, 335, 336, 337, 338, 339, 340, 341, 342, 343, 344, 345, 346, 347, 348] rfl (by decide +kernel)) (goodIn_sub (fun _ h => List.mem_cons_of_mem _ (List.mem_append_left _ (List.mem_append_right _ h))) (by decide +kernel))) (goodIn_sub (fun _ h => List.mem_cons_of_mem _ (List.mem_append_right _ h)) (by decide +kernel))
set_option maxRecDepth 20000 in
theorem gX10_pass_X10_change : GoodIn wsX10_pass (wsV RX10 73 RX10 yX10_change wsX10_change) := goodIn_app (goodIn_of _ (by decide +kernel)) ggX10_pass_X10_change
theorem dX10_pass_0 : decode cX10_pass 0 = .ok (.aload_n 0, 1) := by decide +kernel
theorem dX10_pass_1 : decode cX10_pass 1 = .ok (.getstatic 89, 3) := by decide +kernel
theorem dX10_pass_4 : decode cX10_pass 4 = .ok (.iload_n 1, 1) := by decide +kernel
theorem dX10_pass_5 : decode cX10_pass 5 = .ok (.iconst 0, 1) := by decide +kernel
theorem dX10_pass_6 : decode cX10_pass 6 = .ok (.iconst 0, 1) := by decide +kernel
theorem dX10_pass_7 : decode cX10_pass 7 = .ok (.invokevirtual 73, 3) := by decide +kernel
theorem dX10_pass_10 : decode cX10_pass 10 = .ok (.ireturn, 1) := by decide +kernel
set_option maxRecDepth 20000 in
theorem ggX10_change_X8_against : GoodIn wsX10_change wsX8_against := goodIn_ca (goodIn_r _ [7, 8, 9, 10, 11, 12, 13, 14, 15, 16, 17, 18, 19, 6, 20, 21, 22, 23, 24, 25, 26, 27, 28, 29, 30, 31, 32, 33, 34, 35, 36, 37, 38, 39, 40, 41, 42, 43, 44, 45, 46, 47, 48, 49, 50, 51, 52, 53, 54, 55, 56, 57, 58, 59, 60, 61, 316, 317, 318, 319, 320, 321, 322, 323, 324, 325, 326, 327, 328, 329, 330, 331] rfl (by decide +kernel)) (goodIn_sub (fun _ h => List.mem_cons_of_mem _ (List.mem_append_left _ (List.mem_append_right _ h))) (by decide +kernel))
set_option maxRecDepth 20000 in
theorem gX10_change_X8_against : GoodIn wsX10_change (wsV RX10 92 RX8 yX8_against wsX8_against) := goodIn_app (goodIn_of _ (by decide +kernel)) ggX10_change_X8_against
set_option maxRecDepth 20000 in
theorem ggX10_change_X10_heed : GoodIn wsX10_change wsX10_heed := goodIn_ca (goodIn_r _ [66, 67, 68, 69, 306, 307, 308, 309, 310, 311, 312, 313, 314, 315] rfl (by decide +kernel)) (goodIn_sub (fun _ h => List.mem_cons_of_mem _ (List.mem_append_right _ h)) (by decide +kernel))
set_option maxRecDepth 20000 in
theorem gX10_change_X10_heed : GoodIn wsX10_change (wsV RX10 96 RX10 yX10_heed wsX10_heed) := goodIn_app (goodIn_of _ (by decide +kernel)) ggX10_change_X10_heed
set_option maxRecDepth 20000 in
theorem ggX10_change_X4_keep : GoodIn wsX10_change wsX4_keep := goodIn_r _ [74, 75, 76, 77, 78, 79, 80, 81, 82, 83, 84, 6, 85, 61, 86, 87, 88, 89, 49, 90, 10, 9, 91, 92, 93, 94, 95, 96, 97, 98, 99, 100, 101, 102, 103, 104, 332, 333, 334, 316, 317, 318, 319, 320, 321, 322, 323, 324, 325, 326, 327, 328] rfl (by decide +kernel)
set_option maxRecDepth 20000 in
theorem gX10_change_X4_keep : GoodIn wsX10_change (wsV RX10 100 RX4 yX4_keep wsX4_keep) := goodIn_app (goodIn_of _ (by decide +kernel)) ggX10_change_X4_keep
set_option maxRecDepth 20000 in
theorem ggX10_change_X8_carryOut : GoodIn wsX10_change wsX8_carryOut := goodIn_ca (goodIn_r _ [108, 8, 10, 11, 12, 13, 14, 15, 16, 17, 109, 110, 111, 6, 112, 9, 113, 114, 115, 116, 102, 117, 118, 119, 120, 91, 90, 94, 121, 122, 123, 124, 49, 61, 41, 42, 43, 44, 50, 51, 52, 45, 46, 47, 48, 125, 126, 127, 128, 129, 130, 131, 132, 133, 134, 135, 136, 137, 138, 139, 140, 141, 142, 143, 144, 145, 146, 147, 148, 149, 150, 151, 152, 153, 154, 155, 156, 157, 158, 159, 160, 161, 162, 163, 28, 29, 164, 165, 166, 167, 168, 169, 170, 171, 172, 173, 174, 175, 176, 177, 178, 179, 180, 181, 182, 183, 184, 185, 186, 187, 188, 189, 190, 191, 192, 193, 80, 194, 195, 196, 197, 198, 199, 200, 201, 202, 203, 204, 205, 206, 207, 208, 209, 210, 211, 212, 213, 214, 215, 216, 217, 218, 79, 81, 219, 87, 88, 89, 220, 221, 222, 223, 224, 225, 226, 98, 227, 101, 228, 100, 104, 229, 230, 231, 232, 233, 234, 235, 236, 237, 238, 239, 240, 241, 242, 243, 244, 245, 246, 247, 248, 249, 250, 251, 93, 252, 253, 254, 255, 256, 257, 258, 259, 260, 261, 262, 263, 264, 265, 266, 267, 268, 269, 270, 271, 272, 273, 274, 275, 276, 277, 278, 279, 280, 281, 282, 283, 284, 285, 286, 287, 288, 289, 290, 291, 292, 293, 294, 295, 103, 296, 297, 298, 299, 300, 301, 302, 303, 92, 304, 305, 316, 317, 318, 319, 320, 321, 322, 323, 324, 325, 326, 327, 328, 335, 336, 337, 338, 339, 340, 341, 342, 343] rfl (by decide +kernel)) (goodIn_sub (fun _ h => List.mem_cons_of_mem _ (List.mem_append_left _ (List.mem_append_right _ h))) (by decide +kernel))
set_option maxRecDepth 20000 in
theorem gX10_change_X8_carryOut : GoodIn wsX10_change (wsV RX10 104 RX8 yX8_carryOut wsX8_carryOut) := goodIn_app (goodIn_of _ (by decide +kernel)) ggX10_change_X8_carryOut
theorem dX10_change_0 : decode cX10_change 0 = .ok (.aload_n 0, 1) := by decide +kernel
theorem dX10_change_1 : decode cX10_change 1 = .ok (.aload_n 0, 1) := by decide +kernel
theorem dX10_change_2 : decode cX10_change 2 = .ok (.getfield 50, 3) := by decide +kernel
theorem dX10_change_5 : decode cX10_change 5 = .ok (.aload_n 1, 1) := by decide +kernel
theorem dX10_change_6 : decode cX10_change 6 = .ok (.iload_n 2, 1) := by decide +kernel
theorem dX10_change_7 : decode cX10_change 7 = .ok (.iload_n 3, 1) := by decide +kernel
theorem dX10_change_8 : decode cX10_change 8 = .ok (.iload 4, 2) := by decide +kernel
theorem dX10_change_10 : decode cX10_change 10 = .ok (.invokevirtual 92, 3) := by decide +kernel
theorem dX10_change_13 : decode cX10_change 13 = .ok (.invokevirtual 96, 3) := by decide +kernel
theorem dX10_change_16 : decode cX10_change 16 = .ok (.aload_n 0, 1) := by decide +kernel
theorem dX10_change_17 : decode cX10_change 17 = .ok (.getfield 63, 3) := by decide +kernel
theorem dX10_change_20 : decode cX10_change 20 = .ok (.aload_n 0, 1) := by decide +kernel
theorem dX10_change_21 : decode cX10_change 21 = .ok (.getfield 50, 3) := by decide +kernel
theorem dX10_change_24 : decode cX10_change 24 = .ok (.invokevirtual 100, 3) := by decide +kernel
theorem dX10_change_27 : decode cX10_change 27 = .ok (.aload_n 0, 1) := by decide +kernel
theorem dX10_change_28 : decode cX10_change 28 = .ok (.getfield 50, 3) := by decide +kernel
theorem dX10_change_31 : decode cX10_change 31 = .ok (.aload_n 1, 1) := by decide +kernel
theorem dX10_change_32 : decode cX10_change 32 = .ok (.iload_n 2, 1) := by decide +kernel
theorem dX10_change_33 : decode cX10_change 33 = .ok (.iload_n 3, 1) := by decide +kernel
theorem dX10_change_34 : decode cX10_change 34 = .ok (.iload 4, 2) := by decide +kernel
theorem dX10_change_36 : decode cX10_change 36 = .ok (.invokevirtual 104, 3) := by decide +kernel
theorem dX10_change_39 : decode cX10_change 39 = .ok (.ireturn, 1) := by decide +kernel
theorem dX10_heed_0 : decode cX10_heed 0 = .ok (.aload_n 1, 1) := by decide +kernel
theorem dX10_heed_1 : decode cX10_heed 1 = .ok (.ifnull 18, 3) := by decide +kernel
theorem dX10_heed_4 : decode cX10_heed 4 = .ok (.aload_n 0, 1) := by decide +kernel
theorem dX10_heed_5 : decode cX10_heed 5 = .ok (.aload_n 1, 1) := by decide +kernel
theorem dX10_heed_6 : decode cX10_heed 6 = .ok (.putfield 38, 3) := by decide +kernel
theorem dX10_heed_9 : decode cX10_heed 9 = .ok (.new 107, 3) := by decide +kernel
theorem dX10_heed_12 : decode cX10_heed 12 = .ok (.dup, 1) := by decide +kernel
theorem dX10_heed_13 : decode cX10_heed 13 = .ok (.ldc 109, 2) := by decide +kernel
theorem dX10_heed_15 : decode cX10_heed 15 = .ok (.invokespecial 111, 3) := by decide +kernel
theorem dX10_heed_18 : decode cX10_heed 18 = .ok (.athrow, 1) := by decide +kernel
theorem dX10_heed_19 : decode cX10_heed 19 = .ok (.return_, 1) := by decide +kernel
set_option maxRecDepth 20000 in
theorem ggX10_surveyorOf_X10_needSurveyor : GoodIn wsX10_surveyorOf wsX10_needSurveyor := goodIn_ca (goodIn_r _ [8, 9, 10, 3, 11, 12, 13, 14, 15, 16, 110, 111, 112, 113, 114, 115, 116, 117, 118, 119, 124, 125, 126, 127, 128, 129, 130, 131, 132, 133] rfl (by decide +kernel)) (goodIn_sub (fun _ h => List.mem_cons_of_mem _ (List.mem_append_left _ (List.mem_append_right _ h))) (by decide +kernel))
set_option maxRecDepth 20000 in
theorem gX10_surveyorOf_X10_needSurveyor : GoodIn wsX10_surveyorOf (wsV RX10 114 RX10 yX10_needSurveyor wsX10_needSurveyor) := goodIn_app (goodIn_of _ (by decide +kernel)) ggX10_surveyorOf_X10_needSurveyor
set_option maxRecDepth 20000 in
theorem ggX10_surveyorOf_X8_districtOf : GoodIn wsX10_surveyorOf wsX8_districtOf := goodIn_ca (goodIn_r _ [20, 21, 22, 12, 13, 14, 15, 16, 124, 125, 126, 127, 128, 129, 130, 131, 132, 133] rfl (by decide +kernel)) (goodIn_sub (fun _ h => List.mem_cons_of_mem _ (List.mem_append_right _ h)) (by decide +kernel))
set_option maxRecDepth 20000 in
theorem gX10_surveyorOf_X8_districtOf : GoodIn wsX10_surveyorOf (wsV RX10 118 RX8 yX8_districtOf wsX8_districtOf) := goodIn_app (goodIn_of _ (by decide +kernel)) ggX10_surveyorOf_X8_districtOf
set_option maxRecDepth 20000 in
theorem ggX10_surveyorOf_X8_pageIn : GoodIn wsX10_surveyorOf wsX8_pageIn := goodIn_ca (goodIn_r _ [26, 27, 28, 29, 30, 14, 31, 32, 33, 34, 35, 36, 37, 38, 39, 40, 41, 42, 43, 44, 45, 46, 47, 48, 49, 50, 51, 52, 53, 54, 55, 56, 57, 58, 59, 60, 61, 62, 124, 125, 126, 127, 128, 129, 130, 131, 132, 133, 134, 135, 136, 137, 138] rfl (by decide +kernel)) (goodIn_sub (fun _ h => List.mem_cons_of_mem _ (List.mem_append_right _ h)) (by decide +kernel))
set_option maxRecDepth 20000 in
theorem gX10_surveyorOf_X8_pageIn : GoodIn wsX10_surveyorOf (wsV RX10 122 RX8 yX8_pageIn wsX8_pageIn) := goodIn_app (goodIn_of _ (by decide +kernel)) ggX10_surveyorOf_X8_pageIn
set_option maxRecDepth 20000 in
theorem ggX10_surveyorOf_X8_neighboursOf : GoodIn wsX10_surveyorOf wsX8_neighboursOf := goodIn_ca (goodIn_r _ [66, 16, 67, 68, 69, 14, 70, 71, 21, 22, 12, 13, 15, 29, 30, 31, 124, 125, 126, 127, 128, 129, 130, 131, 132, 133] rfl (by decide +kernel)) (goodIn_sub (fun _ h => List.mem_cons_of_mem _ (List.mem_append_right _ h)) (by decide +kernel))
set_option maxRecDepth 20000 in
theorem gX10_surveyorOf_X8_neighboursOf : GoodIn wsX10_surveyorOf (wsV RX10 131 RX8 yX8_neighboursOf wsX8_neighboursOf) := goodIn_app (goodIn_of _ (by decide +kernel)) ggX10_surveyorOf_X8_neighboursOf
set_option maxRecDepth 20000 in
theorem ggX10_surveyorOf_X8_canalsOf : GoodIn wsX10_surveyorOf wsX8_canalsOf := goodIn_ca (goodIn_r _ [75, 16, 76, 77, 78, 14, 79, 71, 29, 30, 31, 124, 125, 126, 127, 128, 129, 130, 131, 132, 133] rfl (by decide +kernel)) (goodIn_sub (fun _ h => List.mem_cons_of_mem _ (List.mem_append_right _ h)) (by decide +kernel))
set_option maxRecDepth 20000 in
theorem gX10_surveyorOf_X8_canalsOf : GoodIn wsX10_surveyorOf (wsV RX10 134 RX8 yX8_canalsOf wsX8_canalsOf) := goodIn_app (goodIn_of _ (by decide +kernel)) ggX10_surveyorOf_X8_canalsOf
set_option maxRecDepth 20000 in
theorem ggX10_surveyorOf_X8_pagesIn : GoodIn wsX10_surveyorOf wsX8_pagesIn := goodIn_ca (goodIn_r _ [83, 16, 84, 24, 25, 14, 26, 27, 28, 29, 30, 31, 32, 33, 34, 35, 36, 37, 38, 39, 40, 41, 42, 43, 44, 45, 46, 47, 48, 49, 50, 51, 52, 53, 54, 55, 56, 57, 58, 59, 60, 61, 62, 85, 86, 87, 88, 89, 90, 124, 125, 126, 127, 128, 129, 130, 131, 132, 133, 134, 135, 136, 137, 138, 120, 121, 122, 123] rfl (by decide +kernel)) (goodIn_sub (fun _ h => List.mem_cons_of_mem _ (List.mem_append_right _ h)) (by decide +kernel))
set_option maxRecDepth 20000 in
theorem gX10_surveyorOf_X8_pagesIn : GoodIn wsX10_surveyorOf (wsV RX10 137 RX8 yX8_pagesIn wsX8_pagesIn) := goodIn_app (goodIn_of _ (by decide +kernel)) ggX10_surveyorOf_X8_pagesIn
set_option maxRecDepth 20000 in
theorem ggX10_surveyorOf_X5_countTo : GoodIn wsX10_surveyorOf wsX5_countTo := goodIn_ca (goodIn_r _ [95, 96, 97, 98, 99, 94, 100, 101, 102, 103, 104, 105, 106, 107, 108, 109, 139, 140, 141] rfl (by decide +kernel)) (goodIn_sub (fun _ h => List.mem_cons_of_mem _ (List.mem_append_right _ h)) (by decide +kernel))
set_option maxRecDepth 20000 in
theorem gX10_surveyorOf_X5_countTo : GoodIn wsX10_surveyorOf (wsV RX10 144 RX5 yX5_countTo wsX5_countTo) := goodIn_app (goodIn_of _ (by decide +kernel)) ggX10_surveyorOf_X5_countTo
theorem dX10_surveyorOf_0 : decode cX10_surveyorOf 0 = .ok (.aload_n 0, 1) := by decide +kernel
theorem dX10_surveyorOf_1 : decode cX10_surveyorOf 1 = .ok (.iload_n 1, 1) := by decide +kernel
theorem dX10_surveyorOf_2 : decode cX10_surveyorOf 2 = .ok (.invokevirtual 114, 3) := by decide +kernel
theorem dX10_surveyorOf_5 : decode cX10_surveyorOf 5 = .ok (.iload_n 2, 1) := by decide +kernel
theorem dX10_surveyorOf_6 : decode cX10_surveyorOf 6 = .ok (.tableswitch 99 0 5 #[38, 47, 60, 69, 78, 87], 38) := by decide +kernel
theorem dX10_surveyorOf_44 : decode cX10_surveyorOf 44 = .ok (.aload_n 0, 1) := by decide +kernel
theorem dX10_surveyorOf_45 : decode cX10_surveyorOf 45 = .ok (.getfield 50, 3) := by decide +kernel
theorem dX10_surveyorOf_48 : decode cX10_surveyorOf 48 = .ok (.iload_n 1, 1) := by decide +kernel
theorem dX10_surveyorOf_49 : decode cX10_surveyorOf 49 = .ok (.invokevirtual 118, 3) := by decide +kernel
theorem dX10_surveyorOf_52 : decode cX10_surveyorOf 52 = .ok (.ireturn, 1) := by decide +kernel
theorem dX10_surveyorOf_53 : decode cX10_surveyorOf 53 = .ok (.aload_n 0, 1) := by decide +kernel
theorem dX10_surveyorOf_54 : decode cX10_surveyorOf 54 = .ok (.getfield 50, 3) := by decide +kernel
theorem dX10_surveyorOf_57 : decode cX10_surveyorOf 57 = .ok (.iload_n 1, 1) := by decide +kernel
theorem dX10_surveyorOf_58 : decode cX10_surveyorOf 58 = .ok (.iload_n 1, 1) := by decide +kernel
theorem dX10_surveyorOf_59 : decode cX10_surveyorOf 59 = .ok (.invokevirtual 122, 3) := by decide +kernel
theorem dX10_surveyorOf_62 : decode cX10_surveyorOf 62 = .ok (.getfield 126, 3) := by decide +kernel
theorem dX10_surveyorOf_65 : decode cX10_surveyorOf 65 = .ok (.ireturn, 1) := by decide +kernel
theorem dX10_surveyorOf_66 : decode cX10_surveyorOf 66 = .ok (.aload_n 0, 1) := by decide +kernel
theorem dX10_surveyorOf_67 : decode cX10_surveyorOf 67 = .ok (.getfield 50, 3) := by decide +kernel
theorem dX10_surveyorOf_70 : decode cX10_surveyorOf 70 = .ok (.iload_n 1, 1) := by decide +kernel
theorem dX10_surveyorOf_71 : decode cX10_surveyorOf 71 = .ok (.invokevirtual 131, 3) := by decide +kernel
theorem dX10_surveyorOf_74 : decode cX10_surveyorOf 74 = .ok (.ireturn, 1) := by decide +kernel
theorem dX10_surveyorOf_75 : decode cX10_surveyorOf 75 = .ok (.aload_n 0, 1) := by decide +kernel
theorem dX10_surveyorOf_76 : decode cX10_surveyorOf 76 = .ok (.getfield 50, 3) := by decide +kernel
theorem dX10_surveyorOf_79 : decode cX10_surveyorOf 79 = .ok (.iload_n 1, 1) := by decide +kernel
theorem dX10_surveyorOf_80 : decode cX10_surveyorOf 80 = .ok (.invokevirtual 134, 3) := by decide +kernel
theorem dX10_surveyorOf_83 : decode cX10_surveyorOf 83 = .ok (.ireturn, 1) := by decide +kernel
theorem dX10_surveyorOf_84 : decode cX10_surveyorOf 84 = .ok (.aload_n 0, 1) := by decide +kernel
theorem dX10_surveyorOf_85 : decode cX10_surveyorOf 85 = .ok (.getfield 50, 3) := by decide +kernel
theorem dX10_surveyorOf_88 : decode cX10_surveyorOf 88 = .ok (.iload_n 1, 1) := by decide +kernel
theorem dX10_surveyorOf_89 : decode cX10_surveyorOf 89 = .ok (.invokevirtual 137, 3) := by decide +kernel
theorem dX10_surveyorOf_92 : decode cX10_surveyorOf 92 = .ok (.ireturn, 1) := by decide +kernel
theorem dX10_surveyorOf_93 : decode cX10_surveyorOf 93 = .ok (.aload_n 0, 1) := by decide +kernel
theorem dX10_surveyorOf_94 : decode cX10_surveyorOf 94 = .ok (.getfield 50, 3) := by decide +kernel
theorem dX10_surveyorOf_97 : decode cX10_surveyorOf 97 = .ok (.getfield 140, 3) := by decide +kernel
theorem dX10_surveyorOf_100 : decode cX10_surveyorOf 100 = .ok (.iload_n 1, 1) := by decide +kernel
theorem dX10_surveyorOf_101 : decode cX10_surveyorOf 101 = .ok (.invokevirtual 144, 3) := by decide +kernel
theorem dX10_surveyorOf_104 : decode cX10_surveyorOf 104 = .ok (.ireturn, 1) := by decide +kernel
theorem dX10_surveyorOf_105 : decode cX10_surveyorOf 105 = .ok (.new 149, 3) := by decide +kernel
theorem dX10_surveyorOf_108 : decode cX10_surveyorOf 108 = .ok (.dup, 1) := by decide +kernel
theorem dX10_surveyorOf_109 : decode cX10_surveyorOf 109 = .ok (.ldc 151, 2) := by decide +kernel
theorem dX10_surveyorOf_111 : decode cX10_surveyorOf 111 = .ok (.invokespecial 153, 3) := by decide +kernel
theorem dX10_surveyorOf_114 : decode cX10_surveyorOf 114 = .ok (.athrow, 1) := by decide +kernel
set_option maxRecDepth 20000 in
theorem ggX10_cost_X10_needSurveyor : GoodIn wsX10_cost wsX10_needSurveyor := goodIn_ca (goodIn_r _ [8, 9, 10, 3, 11, 12, 13, 14, 15, 16, 25, 26, 27, 28, 29, 30, 31, 32, 33, 34, 35, 36, 37, 38, 39, 40, 41, 42, 43, 44] rfl (by decide +kernel)) (goodIn_sub (fun _ h => List.mem_cons_of_mem _ (List.mem_append_left _ (List.mem_append_right _ h))) (by decide +kernel))
set_option maxRecDepth 20000 in
theorem gX10_cost_X10_needSurveyor : GoodIn wsX10_cost (wsV RX10 114 RX10 yX10_needSurveyor wsX10_needSurveyor) := goodIn_app (goodIn_of _ (by decide +kernel)) ggX10_cost_X10_needSurveyor
set_option maxRecDepth 20000 in
theorem ggX10_cost_X8_costBetween : GoodIn wsX10_cost wsX8_costBetween := goodIn_ca (goodIn_r _ [20, 21, 22, 23, 14, 24, 35, 36, 37, 38, 39, 40, 41, 42, 43, 44] rfl (by decide +kernel)) (goodIn_sub (fun _ h => List.mem_cons_of_mem _ (List.mem_append_right _ h)) (by decide +kernel))
set_option maxRecDepth 20000 in
theorem gX10_cost_X8_costBetween : GoodIn wsX10_cost (wsV RX10 154 RX8 yX8_costBetween wsX8_costBetween) := goodIn_app (goodIn_of _ (by decide +kernel)) ggX10_cost_X8_costBetween
theorem dX10_cost_0 : decode cX10_cost 0 = .ok (.aload_n 0, 1) := by decide +kernel
theorem dX10_cost_1 : decode cX10_cost 1 = .ok (.iload_n 1, 1) := by decide +kernel
theorem dX10_cost_2 : decode cX10_cost 2 = .ok (.invokevirtual 114, 3) := by decide +kernel
theorem dX10_cost_5 : decode cX10_cost 5 = .ok (.aload_n 0, 1) := by decide +kernel
theorem dX10_cost_6 : decode cX10_cost 6 = .ok (.iload_n 2, 1) := by decide +kernel
theorem dX10_cost_7 : decode cX10_cost 7 = .ok (.invokevirtual 114, 3) := by decide +kernel
theorem dX10_cost_10 : decode cX10_cost 10 = .ok (.aload_n 0, 1) := by decide +kernel
theorem dX10_cost_11 : decode cX10_cost 11 = .ok (.getfield 50, 3) := by decide +kernel
theorem dX10_cost_14 : decode cX10_cost 14 = .ok (.iload_n 1, 1) := by decide +kernel
theorem dX10_cost_15 : decode cX10_cost 15 = .ok (.iload_n 2, 1) := by decide +kernel
theorem dX10_cost_16 : decode cX10_cost 16 = .ok (.invokevirtual 154, 3) := by decide +kernel
theorem dX10_cost_19 : decode cX10_cost 19 = .ok (.istore_n 3, 1) := by decide +kernel
theorem dX10_cost_20 : decode cX10_cost 20 = .ok (.iload_n 3, 1) := by decide +kernel
theorem dX10_cost_21 : decode cX10_cost 21 = .ok (.ifCond .ne 13, 3) := by decide +kernel
theorem dX10_cost_24 : decode cX10_cost 24 = .ok (.new 158, 3) := by decide +kernel
theorem dX10_cost_27 : decode cX10_cost 27 = .ok (.dup, 1) := by decide +kernel
theorem dX10_cost_28 : decode cX10_cost 28 = .ok (.ldc 160, 2) := by decide +kernel
theorem dX10_cost_30 : decode cX10_cost 30 = .ok (.invokespecial 162, 3) := by decide +kernel
theorem dX10_cost_33 : decode cX10_cost 33 = .ok (.athrow, 1) := by decide +kernel
theorem dX10_cost_34 : decode cX10_cost 34 = .ok (.iload_n 3, 1) := by decide +kernel
theorem dX10_cost_35 : decode cX10_cost 35 = .ok (.ireturn, 1) := by decide +kernel
set_option maxRecDepth 20000 in
theorem ggX10_page_X10_needSurveyor : GoodIn wsX10_page wsX10_needSurveyor := goodIn_ca (goodIn_r _ [10, 11, 12, 5, 13, 14, 15, 16, 17, 18, 75, 76, 77, 78, 79, 80, 81, 82, 83, 84, 89, 90, 91, 92, 93, 94, 95, 96, 97, 98] rfl (by decide +kernel)) (goodIn_sub (fun _ h => List.mem_cons_of_mem _ (List.mem_append_left _ (List.mem_append_right _ h))) (by decide +kernel))
set_option maxRecDepth 20000 in
theorem gX10_page_X10_needSurveyor : GoodIn wsX10_page (wsV RX10 114 RX10 yX10_needSurveyor wsX10_needSurveyor) := goodIn_app (goodIn_of _ (by decide +kernel)) ggX10_page_X10_needSurveyor
set_option maxRecDepth 20000 in
theorem ggX10_page_X8_pageIn : GoodIn wsX10_page wsX8_pageIn := goodIn_ca (goodIn_r _ [22, 23, 24, 25, 26, 16, 27, 28, 29, 30, 31, 32, 33, 34, 35, 36, 37, 38, 39, 40, 41, 42, 43, 44, 45, 46, 47, 48, 49, 50, 51, 52, 53, 54, 55, 56, 57, 58, 89, 90, 91, 92, 93, 94, 95, 96, 97, 98, 99, 100, 101, 102, 103] rfl (by decide +kernel)) (goodIn_sub (fun _ h => List.mem_cons_of_mem _ (List.mem_append_right _ h)) (by decide +kernel))
set_option maxRecDepth 20000 in
theorem gX10_page_X8_pageIn : GoodIn wsX10_page (wsV RX10 122 RX8 yX8_pageIn wsX8_pageIn) := goodIn_app (goodIn_of _ (by decide +kernel)) ggX10_page_X8_pageIn
set_option maxRecDepth 20000 in
theorem ggX10_page_X6_isBlank : GoodIn wsX10_page wsX6_isBlank := goodIn_r _ [63, 64, 85, 86, 87, 88] rfl (by decide +kernel)
set_option maxRecDepth 20000 in
theorem gX10_page_X6_isBlank : GoodIn wsX10_page (wsV RX10 165 RX6 yX6_isBlank wsX6_isBlank) := goodIn_app (goodIn_of _ (by decide +kernel)) ggX10_page_X6_isBlank
set_option maxRecDepth 20000 in
theorem ggX10_page_X8_ageOf : GoodIn wsX10_page wsX8_ageOf := goodIn_r _ [68, 69, 89, 90, 91, 92, 93, 94, 95, 96, 97, 98, 85, 86, 87, 88] rfl (by decide +kernel)
set_option maxRecDepth 20000 in
theorem gX10_page_X8_ageOf : GoodIn wsX10_page (wsV RX10 171 RX8 yX8_ageOf wsX8_ageOf) := goodIn_app (goodIn_of _ (by decide +kernel)) ggX10_page_X8_ageOf
set_option maxRecDepth 20000 in
theorem ggX10_page_X6_costsTold : GoodIn wsX10_page wsX6_costsTold := goodIn_ca (goodIn_r _ [73, 74, 85, 86, 87, 88] rfl (by decide +kernel)) (goodIn_sub (fun _ h => List.mem_cons_of_mem _ (List.mem_append_right _ h)) (by decide +kernel))
set_option maxRecDepth 20000 in
theorem gX10_page_X6_costsTold : GoodIn wsX10_page (wsV RX10 175 RX6 yX6_costsTold wsX6_costsTold) := goodIn_app (goodIn_of _ (by decide +kernel)) ggX10_page_X6_costsTold
theorem dX10_page_0 : decode cX10_page 0 = .ok (.aload_n 0, 1) := by decide +kernel
theorem dX10_page_1 : decode cX10_page 1 = .ok (.iload_n 1, 1) := by decide +kernel
theorem dX10_page_2 : decode cX10_page 2 = .ok (.invokevirtual 114, 3) := by decide +kernel
theorem dX10_page_5 : decode cX10_page 5 = .ok (.aload_n 0, 1) := by decide +kernel
theorem dX10_page_6 : decode cX10_page 6 = .ok (.iload_n 2, 1) := by decide +kernel
theorem dX10_page_7 : decode cX10_page 7 = .ok (.invokevirtual 114, 3) := by decide +kernel
theorem dX10_page_10 : decode cX10_page 10 = .ok (.iload_n 3, 1) := by decide +kernel
theorem dX10_page_11 : decode cX10_page 11 = .ok (.ifCond .lt 8, 3) := by decide +kernel
theorem dX10_page_14 : decode cX10_page 14 = .ok (.iload_n 3, 1) := by decide +kernel
theorem dX10_page_15 : decode cX10_page 15 = .ok (.iconst 2, 1) := by decide +kernel
theorem dX10_page_16 : decode cX10_page 16 = .ok (.if_icmp .le 13, 3) := by decide +kernel
theorem dX10_page_19 : decode cX10_page 19 = .ok (.new 149, 3) := by decide +kernel
theorem dX10_page_22 : decode cX10_page 22 = .ok (.dup, 1) := by decide +kernel
theorem dX10_page_23 : decode cX10_page 23 = .ok (.ldc 163, 2) := by decide +kernel
theorem dX10_page_25 : decode cX10_page 25 = .ok (.invokespecial 153, 3) := by decide +kernel
theorem dX10_page_28 : decode cX10_page 28 = .ok (.athrow, 1) := by decide +kernel
theorem dX10_page_29 : decode cX10_page 29 = .ok (.aload_n 0, 1) := by decide +kernel
theorem dX10_page_30 : decode cX10_page 30 = .ok (.getfield 50, 3) := by decide +kernel
theorem dX10_page_33 : decode cX10_page 33 = .ok (.iload_n 1, 1) := by decide +kernel
theorem dX10_page_34 : decode cX10_page 34 = .ok (.iload_n 2, 1) := by decide +kernel
theorem dX10_page_35 : decode cX10_page 35 = .ok (.invokevirtual 122, 3) := by decide +kernel
theorem dX10_page_38 : decode cX10_page 38 = .ok (.astore 4, 2) := by decide +kernel
theorem dX10_page_40 : decode cX10_page 40 = .ok (.aload 4, 2) := by decide +kernel
theorem dX10_page_42 : decode cX10_page 42 = .ok (.invokevirtual 165, 3) := by decide +kernel
theorem dX10_page_45 : decode cX10_page 45 = .ok (.ifCond .eq 13, 3) := by decide +kernel
theorem dX10_page_48 : decode cX10_page 48 = .ok (.new 158, 3) := by decide +kernel
theorem dX10_page_51 : decode cX10_page 51 = .ok (.dup, 1) := by decide +kernel
theorem dX10_page_52 : decode cX10_page 52 = .ok (.ldc 169, 2) := by decide +kernel
theorem dX10_page_54 : decode cX10_page 54 = .ok (.invokespecial 162, 3) := by decide +kernel
theorem dX10_page_57 : decode cX10_page 57 = .ok (.athrow, 1) := by decide +kernel
theorem dX10_page_58 : decode cX10_page 58 = .ok (.iload_n 3, 1) := by decide +kernel
theorem dX10_page_59 : decode cX10_page 59 = .ok (.ifCond .ne 9, 3) := by decide +kernel
theorem dX10_page_62 : decode cX10_page 62 = .ok (.aload 4, 2) := by decide +kernel
theorem dX10_page_64 : decode cX10_page 64 = .ok (.getfield 126, 3) := by decide +kernel
theorem dX10_page_67 : decode cX10_page 67 = .ok (.ireturn, 1) := by decide +kernel
theorem dX10_page_68 : decode cX10_page 68 = .ok (.iload_n 3, 1) := by decide +kernel
theorem dX10_page_69 : decode cX10_page 69 = .ok (.iconst 1, 1) := by decide +kernel
theorem dX10_page_70 : decode cX10_page 70 = .ok (.if_icmp .ne 15, 3) := by decide +kernel
theorem dX10_page_73 : decode cX10_page 73 = .ok (.aload_n 0, 1) := by decide +kernel
theorem dX10_page_74 : decode cX10_page 74 = .ok (.getfield 50, 3) := by decide +kernel
theorem dX10_page_77 : decode cX10_page 77 = .ok (.aload 4, 2) := by decide +kernel
theorem dX10_page_79 : decode cX10_page 79 = .ok (.invokevirtual 171, 3) := by decide +kernel
theorem dX10_page_82 : decode cX10_page 82 = .ok (.goto 8, 3) := by decide +kernel
theorem dX10_page_85 : decode cX10_page 85 = .ok (.aload 4, 2) := by decide +kernel
theorem dX10_page_87 : decode cX10_page 87 = .ok (.invokevirtual 175, 3) := by decide +kernel
theorem dX10_page_90 : decode cX10_page 90 = .ok (.ireturn, 1) := by decide +kernel
set_option maxRecDepth 20000 in
theorem ggX10_told_X10_needSurveyor : GoodIn wsX10_told wsX10_needSurveyor := goodIn_ca (goodIn_r _ [8, 9, 10, 3, 11, 12, 13, 14, 15, 16, 63, 64, 65, 66, 67, 68, 69, 70, 71, 72, 73, 74, 75, 76, 77, 78, 79, 80, 81, 82] rfl (by decide +kernel)) (goodIn_sub (fun _ h => List.mem_cons_of_mem _ (List.mem_append_left _ (List.mem_append_right _ h))) (by decide +kernel))
set_option maxRecDepth 20000 in
theorem gX10_told_X10_needSurveyor : GoodIn wsX10_told (wsV RX10 114 RX10 yX10_needSurveyor wsX10_needSurveyor) := goodIn_app (goodIn_of _ (by decide +kernel)) ggX10_told_X10_needSurveyor
set_option maxRecDepth 20000 in
theorem ggX10_told_X8_pageIn : GoodIn wsX10_told wsX8_pageIn := goodIn_ca (goodIn_r _ [20, 21, 22, 23, 24, 14, 25, 26, 27, 28, 29, 30, 31, 32, 33, 34, 35, 36, 37, 38, 39, 40, 41, 42, 43, 44, 45, 46, 47, 48, 49, 50, 51, 52, 53, 54, 55, 56, 73, 74, 75, 76, 77, 78, 79, 80, 81, 82, 83, 84, 85, 86, 87] rfl (by decide +kernel)) (goodIn_sub (fun _ h => List.mem_cons_of_mem _ (List.mem_append_right _ h)) (by decide +kernel))
set_option maxRecDepth 20000 in
theorem gX10_told_X8_pageIn : GoodIn wsX10_told (wsV RX10 122 RX8 yX8_pageIn wsX8_pageIn) := goodIn_app (goodIn_of _ (by decide +kernel)) ggX10_told_X8_pageIn
set_option maxRecDepth 20000 in
theorem ggX10_told_X6_costTo : GoodIn wsX10_told wsX6_costTo := goodIn_ca (goodIn_r _ [61, 62, 88, 89, 90, 91] rfl (by decide +kernel)) (goodIn_sub (fun _ h => List.mem_cons_of_mem _ (List.mem_append_right _ h)) (by decide +kernel))
set_option maxRecDepth 20000 in
theorem gX10_told_X6_costTo : GoodIn wsX10_told (wsV RX10 179 RX6 yX6_costTo wsX6_costTo) := goodIn_app (goodIn_of _ (by decide +kernel)) ggX10_told_X6_costTo
theorem dX10_told_0 : decode cX10_told 0 = .ok (.aload_n 0, 1) := by decide +kernel
theorem dX10_told_1 : decode cX10_told 1 = .ok (.iload_n 1, 1) := by decide +kernel
theorem dX10_told_2 : decode cX10_told 2 = .ok (.invokevirtual 114, 3) := by decide +kernel
theorem dX10_told_5 : decode cX10_told 5 = .ok (.aload_n 0, 1) := by decide +kernel
theorem dX10_told_6 : decode cX10_told 6 = .ok (.iload_n 2, 1) := by decide +kernel
theorem dX10_told_7 : decode cX10_told 7 = .ok (.invokevirtual 114, 3) := by decide +kernel
theorem dX10_told_10 : decode cX10_told 10 = .ok (.aload_n 0, 1) := by decide +kernel
theorem dX10_told_11 : decode cX10_told 11 = .ok (.iload_n 3, 1) := by decide +kernel
theorem dX10_told_12 : decode cX10_told 12 = .ok (.invokevirtual 114, 3) := by decide +kernel
theorem dX10_told_15 : decode cX10_told 15 = .ok (.aload_n 0, 1) := by decide +kernel
theorem dX10_told_16 : decode cX10_told 16 = .ok (.getfield 50, 3) := by decide +kernel
theorem dX10_told_19 : decode cX10_told 19 = .ok (.iload_n 1, 1) := by decide +kernel
theorem dX10_told_20 : decode cX10_told 20 = .ok (.iload_n 2, 1) := by decide +kernel
theorem dX10_told_21 : decode cX10_told 21 = .ok (.invokevirtual 122, 3) := by decide +kernel
theorem dX10_told_24 : decode cX10_told 24 = .ok (.iload_n 3, 1) := by decide +kernel
theorem dX10_told_25 : decode cX10_told 25 = .ok (.invokevirtual 179, 3) := by decide +kernel
theorem dX10_told_28 : decode cX10_told 28 = .ok (.istore 4, 2) := by decide +kernel
theorem dX10_told_30 : decode cX10_told 30 = .ok (.iload 4, 2) := by decide +kernel
theorem dX10_told_32 : decode cX10_told 32 = .ok (.ifCond .ne 13, 3) := by decide +kernel
theorem dX10_told_35 : decode cX10_told 35 = .ok (.new 158, 3) := by decide +kernel
theorem dX10_told_38 : decode cX10_told 38 = .ok (.dup, 1) := by decide +kernel
theorem dX10_told_39 : decode cX10_told 39 = .ok (.ldc 182, 2) := by decide +kernel
theorem dX10_told_41 : decode cX10_told 41 = .ok (.invokespecial 162, 3) := by decide +kernel
theorem dX10_told_44 : decode cX10_told 44 = .ok (.athrow, 1) := by decide +kernel
theorem dX10_told_45 : decode cX10_told 45 = .ok (.iload 4, 2) := by decide +kernel
theorem dX10_told_47 : decode cX10_told 47 = .ok (.ireturn, 1) := by decide +kernel
set_option maxRecDepth 20000 in
theorem ggX10_letter_X5_has : GoodIn wsX10_letter wsX5_has := goodIn_r _ [10, 11, 92, 93, 94] rfl (by decide +kernel)
set_option maxRecDepth 20000 in
theorem gX10_letter_X5_has : GoodIn wsX10_letter (wsV RX10 186 RX5 yX5_has wsX5_has) := goodIn_app (goodIn_of _ (by decide +kernel)) ggX10_letter_X5_has
set_option maxRecDepth 20000 in
theorem ggX10_letter_X5_senderOf : GoodIn wsX10_letter wsX5_senderOf := goodIn_ca (goodIn_r _ [15, 16, 17, 7, 8, 9, 10, 11, 18, 19, 20, 21, 92, 93, 94] rfl (by decide +kernel)) (goodIn_sub (fun _ h => List.mem_cons_of_mem _ (List.mem_append_right _ h)) (by decide +kernel))
set_option maxRecDepth 20000 in
theorem gX10_letter_X5_senderOf : GoodIn wsX10_letter (wsV RX10 192 RX5 yX5_senderOf wsX5_senderOf) := goodIn_app (goodIn_of _ (by decide +kernel)) ggX10_letter_X5_senderOf
set_option maxRecDepth 20000 in
theorem ggX10_letter_X5_receiverOf : GoodIn wsX10_letter wsX5_receiverOf := goodIn_ca (goodIn_r _ [25, 16, 17, 7, 8, 9, 10, 11, 18, 19, 20, 21, 92, 93, 94] rfl (by decide +kernel)) (goodIn_sub (fun _ h => List.mem_cons_of_mem _ (List.mem_append_right _ h)) (by decide +kernel))
set_option maxRecDepth 20000 in
theorem gX10_letter_X5_receiverOf : GoodIn wsX10_letter (wsV RX10 195 RX5 yX5_receiverOf wsX5_receiverOf) := goodIn_app (goodIn_of _ (by decide +kernel)) ggX10_letter_X5_receiverOf
set_option maxRecDepth 20000 in
theorem ggX10_letter_X8_pageOfLetter : GoodIn wsX10_letter wsX8_pageOfLetter := goodIn_ca (goodIn_r _ [30, 31, 32, 33, 34, 35, 9, 36, 16, 17, 7, 8, 10, 11, 37, 38, 39, 40, 41, 42, 43, 44, 45, 46, 47, 48, 49, 50, 51, 52, 53, 54, 55, 56, 57, 58, 59, 60, 61, 62, 63, 64, 65, 66, 67, 78, 79, 80, 81, 82, 83, 84, 85, 86, 87, 92, 93, 94, 95, 96, 97, 98, 99] rfl (by decide +kernel)) (goodIn_sub (fun _ h => List.mem_cons_of_mem _ (List.mem_append_right _ h)) (by decide +kernel))
set_option maxRecDepth 20000 in
theorem gX10_letter_X8_pageOfLetter : GoodIn wsX10_letter (wsV RX10 198 RX8 yX8_pageOfLetter wsX8_pageOfLetter) := goodIn_app (goodIn_of _ (by decide +kernel)) ggX10_letter_X8_pageOfLetter
theorem dX10_letter_0 : decode cX10_letter 0 = .ok (.iload_n 2, 1) := by decide +kernel
theorem dX10_letter_1 : decode cX10_letter 1 = .ok (.ifCond .lt 8, 3) := by decide +kernel
theorem dX10_letter_4 : decode cX10_letter 4 = .ok (.iload_n 2, 1) := by decide +kernel
theorem dX10_letter_5 : decode cX10_letter 5 = .ok (.iconst 3, 1) := by decide +kernel
theorem dX10_letter_6 : decode cX10_letter 6 = .ok (.if_icmp .le 13, 3) := by decide +kernel
theorem dX10_letter_9 : decode cX10_letter 9 = .ok (.new 149, 3) := by decide +kernel
theorem dX10_letter_12 : decode cX10_letter 12 = .ok (.dup, 1) := by decide +kernel
theorem dX10_letter_13 : decode cX10_letter 13 = .ok (.ldc 184, 2) := by decide +kernel
theorem dX10_letter_15 : decode cX10_letter 15 = .ok (.invokespecial 153, 3) := by decide +kernel
theorem dX10_letter_18 : decode cX10_letter 18 = .ok (.athrow, 1) := by decide +kernel
theorem dX10_letter_19 : decode cX10_letter 19 = .ok (.aload_n 0, 1) := by decide +kernel
theorem dX10_letter_20 : decode cX10_letter 20 = .ok (.getfield 50, 3) := by decide +kernel
theorem dX10_letter_23 : decode cX10_letter 23 = .ok (.getfield 140, 3) := by decide +kernel
theorem dX10_letter_26 : decode cX10_letter 26 = .ok (.iload_n 1, 1) := by decide +kernel
theorem dX10_letter_27 : decode cX10_letter 27 = .ok (.invokevirtual 186, 3) := by decide +kernel
theorem dX10_letter_30 : decode cX10_letter 30 = .ok (.ifCond .ne 13, 3) := by decide +kernel
theorem dX10_letter_33 : decode cX10_letter 33 = .ok (.new 158, 3) := by decide +kernel
theorem dX10_letter_36 : decode cX10_letter 36 = .ok (.dup, 1) := by decide +kernel
theorem dX10_letter_37 : decode cX10_letter 37 = .ok (.ldc 190, 2) := by decide +kernel
theorem dX10_letter_39 : decode cX10_letter 39 = .ok (.invokespecial 162, 3) := by decide +kernel
theorem dX10_letter_42 : decode cX10_letter 42 = .ok (.athrow, 1) := by decide +kernel
theorem dX10_letter_43 : decode cX10_letter 43 = .ok (.iload_n 2, 1) := by decide +kernel
theorem dX10_letter_44 : decode cX10_letter 44 = .ok (.tableswitch 64 0 2 #[28, 40, 52], 28) := by decide +kernel
theorem dX10_letter_72 : decode cX10_letter 72 = .ok (.aload_n 0, 1) := by decide +kernel
theorem dX10_letter_73 : decode cX10_letter 73 = .ok (.getfield 50, 3) := by decide +kernel
theorem dX10_letter_76 : decode cX10_letter 76 = .ok (.getfield 140, 3) := by decide +kernel
theorem dX10_letter_79 : decode cX10_letter 79 = .ok (.iload_n 1, 1) := by decide +kernel
theorem dX10_letter_80 : decode cX10_letter 80 = .ok (.invokevirtual 192, 3) := by decide +kernel
theorem dX10_letter_83 : decode cX10_letter 83 = .ok (.ireturn, 1) := by decide +kernel
theorem dX10_letter_84 : decode cX10_letter 84 = .ok (.aload_n 0, 1) := by decide +kernel
theorem dX10_letter_85 : decode cX10_letter 85 = .ok (.getfield 50, 3) := by decide +kernel
theorem dX10_letter_88 : decode cX10_letter 88 = .ok (.getfield 140, 3) := by decide +kernel
theorem dX10_letter_91 : decode cX10_letter 91 = .ok (.iload_n 1, 1) := by decide +kernel
theorem dX10_letter_92 : decode cX10_letter 92 = .ok (.invokevirtual 195, 3) := by decide +kernel
theorem dX10_letter_95 : decode cX10_letter 95 = .ok (.ireturn, 1) := by decide +kernel
theorem dX10_letter_96 : decode cX10_letter 96 = .ok (.aload_n 0, 1) := by decide +kernel
theorem dX10_letter_97 : decode cX10_letter 97 = .ok (.getfield 50, 3) := by decide +kernel
theorem dX10_letter_100 : decode cX10_letter 100 = .ok (.iload_n 1, 1) := by decide +kernel
theorem dX10_letter_101 : decode cX10_letter 101 = .ok (.invokevirtual 198, 3) := by decide +kernel
theorem dX10_letter_104 : decode cX10_letter 104 = .ok (.getfield 202, 3) := by decide +kernel
theorem dX10_letter_107 : decode cX10_letter 107 = .ok (.ireturn, 1) := by decide +kernel
theorem dX10_letter_108 : decode cX10_letter 108 = .ok (.aload_n 0, 1) := by decide +kernel
theorem dX10_letter_109 : decode cX10_letter 109 = .ok (.getfield 50, 3) := by decide +kernel
theorem dX10_letter_112 : decode cX10_letter 112 = .ok (.iload_n 1, 1) := by decide +kernel
theorem dX10_letter_113 : decode cX10_letter 113 = .ok (.invokevirtual 198, 3) := by decide +kernel
theorem dX10_letter_116 : decode cX10_letter 116 = .ok (.getfield 126, 3) := by decide +kernel
theorem dX10_letter_119 : decode cX10_letter 119 = .ok (.ireturn, 1) := by decide +kernel
set_option maxRecDepth 20000 in
theorem ggX10_distance_X10_needSurveyor : GoodIn wsX10_distance wsX10_needSurveyor := goodIn_ca (goodIn_r _ [7, 8, 9, 2, 10, 11, 12, 13, 14, 15, 100, 101, 102, 103, 104, 105, 106, 107, 108, 109, 110, 111, 112, 113, 114, 115, 116, 117, 118, 119] rfl (by decide +kernel)) (goodIn_sub (fun _ h => List.mem_cons_of_mem _ (List.mem_append_left _ (List.mem_append_left _ (List.mem_append_right _ h)))) (by decide +kernel))
set_option maxRecDepth 20000 in
theorem gX10_distance_X10_needSurveyor : GoodIn wsX10_distance (wsV RX10 114 RX10 yX10_needSurveyor wsX10_needSurveyor) := goodIn_app (goodIn_of _ (by decide +kernel)) ggX10_distance_X10_needSurveyor
set_option maxRecDepth 20000 in
theorem ggX10_distance_X9_takeMap : GoodIn wsX10_distance wsX9_takeMap := goodIn_ca (goodIn_r _ [20, 21, 22, 23, 24, 13, 25, 26, 27, 28, 29, 30, 31, 32, 33, 34, 35, 36, 37, 38, 39, 40, 41, 42, 43, 44, 45, 46, 47, 48, 49, 50, 51, 52, 53, 54, 55, 56, 57, 58, 59, 60, 61, 62, 63, 64, 65, 66, 67, 120, 121, 110, 111, 112, 113, 114, 115, 116, 117, 118, 119, 122, 123, 124, 125, 126, 127, 128, 129, 130] rfl (by decide +kernel)) (goodIn_sub (fun _ h => List.mem_cons_of_mem _ (List.mem_append_left _ (List.mem_append_right _ h))) (by decide +kernel))
set_option maxRecDepth 20000 in
theorem gX10_distance_X9_takeMap : GoodIn wsX10_distance (wsV RX10 205 RX9 yX9_takeMap wsX9_takeMap) := goodIn_app (goodIn_of _ (by decide +kernel)) ggX10_distance_X9_takeMap
set_option maxRecDepth 20000 in
theorem ggX10_distance_X9_nearestFirst : GoodIn wsX10_distance wsX9_nearestFirst := goodIn_ca (goodIn_r _ [71, 72, 73, 74, 19, 75, 76, 77, 78, 79, 80, 81, 82, 83, 84, 85, 86, 87, 88, 89, 21, 120, 121] rfl (by decide +kernel)) (goodIn_sub (fun _ h => List.mem_cons_of_mem _ (List.mem_append_left _ (List.mem_append_right _ h))) (by decide +kernel))
set_option maxRecDepth 20000 in
theorem gX10_distance_X9_nearestFirst : GoodIn wsX10_distance (wsV RX10 209 RX9 yX9_nearestFirst wsX9_nearestFirst) := goodIn_app (goodIn_of _ (by decide +kernel)) ggX10_distance_X9_nearestFirst
set_option maxRecDepth 20000 in
theorem ggX10_distance_X9_distanceTo : GoodIn wsX10_distance wsX9_distanceTo := goodIn_ca (goodIn_r _ [93, 76, 77, 120, 121] rfl (by decide +kernel)) (goodIn_sub (fun _ h => List.mem_cons_of_mem _ (List.mem_append_left _ (List.mem_append_right _ h))) (by decide +kernel))
set_option maxRecDepth 20000 in
theorem gX10_distance_X9_distanceTo : GoodIn wsX10_distance (wsV RX10 212 RX9 yX9_distanceTo wsX9_distanceTo) := goodIn_app (goodIn_of _ (by decide +kernel)) ggX10_distance_X9_distanceTo
set_option maxRecDepth 20000 in
theorem ggX10_distance_X10_needWay : GoodIn wsX10_distance wsX10_needWay := goodIn_ca (goodIn_r _ [96, 97, 98, 99] rfl (by decide +kernel)) (goodIn_sub (fun _ h => List.mem_cons_of_mem _ (List.mem_append_right _ h)) (by decide +kernel))
set_option maxRecDepth 20000 in
theorem gX10_distance_X10_needWay : GoodIn wsX10_distance (va_wsS RX10 215 yX10_needWay wsX10_needWay) := goodIn_app (goodIn_of _ (by decide +kernel)) ggX10_distance_X10_needWay
theorem dX10_distance_0 : decode cX10_distance 0 = .ok (.aload_n 0, 1) := by decide +kernel
theorem dX10_distance_1 : decode cX10_distance 1 = .ok (.iload_n 1, 1) := by decide +kernel
theorem dX10_distance_2 : decode cX10_distance 2 = .ok (.invokevirtual 114, 3) := by decide +kernel
theorem dX10_distance_5 : decode cX10_distance 5 = .ok (.aload_n 0, 1) := by decide +kernel
theorem dX10_distance_6 : decode cX10_distance 6 = .ok (.iload_n 2, 1) := by decide +kernel
theorem dX10_distance_7 : decode cX10_distance 7 = .ok (.invokevirtual 114, 3) := by decide +kernel
theorem dX10_distance_10 : decode cX10_distance 10 = .ok (.aload_n 0, 1) := by decide +kernel
theorem dX10_distance_11 : decode cX10_distance 11 = .ok (.getfield 12, 3) := by decide +kernel
theorem dX10_distance_14 : decode cX10_distance 14 = .ok (.aload_n 0, 1) := by decide +kernel
theorem dX10_distance_15 : decode cX10_distance 15 = .ok (.getfield 50, 3) := by decide +kernel
theorem dX10_distance_18 : decode cX10_distance 18 = .ok (.iload_n 1, 1) := by decide +kernel
theorem dX10_distance_19 : decode cX10_distance 19 = .ok (.invokevirtual 205, 3) := by decide +kernel
theorem dX10_distance_22 : decode cX10_distance 22 = .ok (.aload_n 0, 1) := by decide +kernel
theorem dX10_distance_23 : decode cX10_distance 23 = .ok (.getfield 12, 3) := by decide +kernel
theorem dX10_distance_26 : decode cX10_distance 26 = .ok (.iload_n 1, 1) := by decide +kernel
theorem dX10_distance_27 : decode cX10_distance 27 = .ok (.invokevirtual 209, 3) := by decide +kernel
theorem dX10_distance_30 : decode cX10_distance 30 = .ok (.aload_n 0, 1) := by decide +kernel
theorem dX10_distance_31 : decode cX10_distance 31 = .ok (.getfield 12, 3) := by decide +kernel
theorem dX10_distance_34 : decode cX10_distance 34 = .ok (.iload_n 2, 1) := by decide +kernel
theorem dX10_distance_35 : decode cX10_distance 35 = .ok (.invokevirtual 212, 3) := by decide +kernel
theorem dX10_distance_38 : decode cX10_distance 38 = .ok (.invokestatic 215, 3) := by decide +kernel
theorem dX10_distance_41 : decode cX10_distance 41 = .ok (.ireturn, 1) := by decide +kernel
set_option maxRecDepth 20000 in
theorem ggX10_distanceAgain_X10_needSurveyor : GoodIn wsX10_distanceAgain wsX10_needSurveyor := goodIn_ca (goodIn_r _ [7, 8, 9, 2, 10, 11, 12, 13, 14, 15, 96, 97, 98, 99, 100, 101, 102, 103, 104, 105, 106, 107, 108, 109, 110, 111, 112, 113, 114, 115] rfl (by decide +kernel)) (goodIn_sub (fun _ h => List.mem_cons_of_mem _ (List.mem_append_left _ (List.mem_append_left _ (List.mem_append_right _ h)))) (by decide +kernel))
set_option maxRecDepth 20000 in
theorem gX10_distanceAgain_X10_needSurveyor : GoodIn wsX10_distanceAgain (wsV RX10 114 RX10 yX10_needSurveyor wsX10_needSurveyor) := goodIn_app (goodIn_of _ (by decide +kernel)) ggX10_distanceAgain_X10_needSurveyor
set_option maxRecDepth 20000 in
theorem ggX10_distanceAgain_X9_takeMap : GoodIn wsX10_distanceAgain wsX9_takeMap := goodIn_ca (goodIn_r _ [20, 21, 22, 23, 24, 13, 25, 26, 27, 28, 29, 30, 31, 32, 33, 34, 35, 36, 37, 38, 39, 40, 41, 42, 43, 44, 45, 46, 47, 48, 49, 50, 51, 52, 53, 54, 55, 56, 57, 58, 59, 60, 61, 62, 63, 64, 65, 66, 67, 116, 117, 106, 107, 108, 109, 110, 111, 112, 113, 114, 115, 118, 119, 120, 121, 122, 123, 124, 125, 126] rfl (by decide +kernel)) (goodIn_sub (fun _ h => List.mem_cons_of_mem _ (List.mem_append_left _ (List.mem_append_right _ h))) (by decide +kernel))
set_option maxRecDepth 20000 in
theorem gX10_distanceAgain_X9_takeMap : GoodIn wsX10_distanceAgain (wsV RX10 205 RX9 yX9_takeMap wsX9_takeMap) := goodIn_app (goodIn_of _ (by decide +kernel)) ggX10_distanceAgain_X9_takeMap
set_option maxRecDepth 20000 in
theorem ggX10_distanceAgain_X9_canalByCanal : GoodIn wsX10_distanceAgain wsX9_canalByCanal := goodIn_ca (goodIn_r _ [71, 72, 73, 74, 19, 75, 76, 77, 78, 79, 80, 81, 82, 83, 84, 85, 21, 116, 117] rfl (by decide +kernel)) (goodIn_sub (fun _ h => List.mem_cons_of_mem _ (List.mem_append_left _ (List.mem_append_right _ h))) (by decide +kernel))
set_option maxRecDepth 20000 in
theorem gX10_distanceAgain_X9_canalByCanal : GoodIn wsX10_distanceAgain (wsV RX10 218 RX9 yX9_canalByCanal wsX9_canalByCanal) := goodIn_app (goodIn_of _ (by decide +kernel)) ggX10_distanceAgain_X9_canalByCanal
set_option maxRecDepth 20000 in
theorem ggX10_distanceAgain_X9_distanceTo : GoodIn wsX10_distanceAgain wsX9_distanceTo := goodIn_ca (goodIn_r _ [89, 76, 77, 116, 117] rfl (by decide +kernel)) (goodIn_sub (fun _ h => List.mem_cons_of_mem _ (List.mem_append_left _ (List.mem_append_right _ h))) (by decide +kernel))
set_option maxRecDepth 20000 in
theorem gX10_distanceAgain_X9_distanceTo : GoodIn wsX10_distanceAgain (wsV RX10 212 RX9 yX9_distanceTo wsX9_distanceTo) := goodIn_app (goodIn_of _ (by decide +kernel)) ggX10_distanceAgain_X9_distanceTo
set_option maxRecDepth 20000 in
theorem ggX10_distanceAgain_X10_needWay : GoodIn wsX10_distanceAgain wsX10_needWay := goodIn_ca (goodIn_r _ [92, 93, 94, 95] rfl (by decide +kernel)) (goodIn_sub (fun _ h => List.mem_cons_of_mem _ (List.mem_append_right _ h)) (by decide +kernel))
set_option maxRecDepth 20000 in
theorem gX10_distanceAgain_X10_needWay : GoodIn wsX10_distanceAgain (va_wsS RX10 215 yX10_needWay wsX10_needWay) := goodIn_app (goodIn_of _ (by decide +kernel)) ggX10_distanceAgain_X10_needWay
theorem dX10_distanceAgain_0 : decode cX10_distanceAgain 0 = .ok (.aload_n 0, 1) := by decide +kernel
theorem dX10_distanceAgain_1 : decode cX10_distanceAgain 1 = .ok (.iload_n 1, 1) := by decide +kernel
theorem dX10_distanceAgain_2 : decode cX10_distanceAgain 2 = .ok (.invokevirtual 114, 3) := by decide +kernel
theorem dX10_distanceAgain_5 : decode cX10_distanceAgain 5 = .ok (.aload_n 0, 1) := by decide +kernel
theorem dX10_distanceAgain_6 : decode cX10_distanceAgain 6 = .ok (.iload_n 2, 1) := by decide +kernel
theorem dX10_distanceAgain_7 : decode cX10_distanceAgain 7 = .ok (.invokevirtual 114, 3) := by decide +kernel
theorem dX10_distanceAgain_10 : decode cX10_distanceAgain 10 = .ok (.aload_n 0, 1) := by decide +kernel
theorem dX10_distanceAgain_11 : decode cX10_distanceAgain 11 = .ok (.getfield 12, 3) := by decide +kernel
theorem dX10_distanceAgain_14 : decode cX10_distanceAgain 14 = .ok (.aload_n 0, 1) := by decide +kernel
theorem dX10_distanceAgain_15 : decode cX10_distanceAgain 15 = .ok (.getfield 50, 3) := by decide +kernel
theorem dX10_distanceAgain_18 : decode cX10_distanceAgain 18 = .ok (.iload_n 1, 1) := by decide +kernel
theorem dX10_distanceAgain_19 : decode cX10_distanceAgain 19 = .ok (.invokevirtual 205, 3) := by decide +kernel
theorem dX10_distanceAgain_22 : decode cX10_distanceAgain 22 = .ok (.aload_n 0, 1) := by decide +kernel
theorem dX10_distanceAgain_23 : decode cX10_distanceAgain 23 = .ok (.getfield 12, 3) := by decide +kernel
theorem dX10_distanceAgain_26 : decode cX10_distanceAgain 26 = .ok (.iload_n 1, 1) := by decide +kernel
theorem dX10_distanceAgain_27 : decode cX10_distanceAgain 27 = .ok (.invokevirtual 218, 3) := by decide +kernel
theorem dX10_distanceAgain_30 : decode cX10_distanceAgain 30 = .ok (.aload_n 0, 1) := by decide +kernel
theorem dX10_distanceAgain_31 : decode cX10_distanceAgain 31 = .ok (.getfield 12, 3) := by decide +kernel
theorem dX10_distanceAgain_34 : decode cX10_distanceAgain 34 = .ok (.iload_n 2, 1) := by decide +kernel
theorem dX10_distanceAgain_35 : decode cX10_distanceAgain 35 = .ok (.invokevirtual 212, 3) := by decide +kernel
theorem dX10_distanceAgain_38 : decode cX10_distanceAgain 38 = .ok (.invokestatic 215, 3) := by decide +kernel
theorem dX10_distanceAgain_41 : decode cX10_distanceAgain 41 = .ok (.ireturn, 1) := by decide +kernel
set_option maxRecDepth 20000 in
theorem ggX10_next_X10_needSurveyor : GoodIn wsX10_next wsX10_needSurveyor := goodIn_ca (goodIn_r _ [7, 8, 9, 10, 11, 12, 13, 14, 15, 16, 104, 105, 106, 107, 108, 109, 110, 111, 112, 113, 114, 115, 116, 117, 118, 119, 120, 121, 122, 123] rfl (by decide +kernel)) (goodIn_sub (fun _ h => List.mem_cons_of_mem _ (List.mem_append_left _ (List.mem_append_right _ h))) (by decide +kernel))
set_option maxRecDepth 20000 in
theorem gX10_next_X10_needSurveyor : GoodIn wsX10_next (wsV RX10 114 RX10 yX10_needSurveyor wsX10_needSurveyor) := goodIn_app (goodIn_of _ (by decide +kernel)) ggX10_next_X10_needSurveyor
set_option maxRecDepth 20000 in
theorem ggX10_next_X10_nextByMap : GoodIn wsX10_next wsX10_nextByMap := goodIn_ca (goodIn_r _ [20, 21, 10, 22, 23, 24, 25, 26, 27, 28, 29, 30, 14, 31, 32, 33, 34, 35, 36, 37, 38, 39, 40, 41, 42, 43, 44, 45, 46, 47, 48, 49, 50, 51, 52, 53, 54, 55, 56, 57, 58, 59, 60, 61, 62, 63, 64, 65, 66, 67, 68, 69, 70, 71, 72, 73, 74, 75, 76, 77, 78, 79, 80, 81, 82, 83, 84, 85, 86, 87, 88, 89, 90, 91, 92, 93, 94, 95, 96, 97, 98, 99, 100, 101, 102, 103, 104, 105, 106, 107, 108, 109, 110, 111, 112, 113, 124, 125, 114, 115, 116, 117, 118, 119, 120, 121, 122, 123, 126, 127, 128, 129, 130, 131, 132, 133, 134] rfl (by decide +kernel)) (goodIn_sub (fun _ h => List.mem_cons_of_mem _ (List.mem_append_right _ h)) (by decide +kernel))
set_option maxRecDepth 20000 in
theorem gX10_next_X10_nextByMap : GoodIn wsX10_next (wsV RX10 221 RX10 yX10_nextByMap wsX10_nextByMap) := goodIn_app (goodIn_of _ (by decide +kernel)) ggX10_next_X10_nextByMap
theorem dX10_next_0 : decode cX10_next 0 = .ok (.aload_n 0, 1) := by decide +kernel
theorem dX10_next_1 : decode cX10_next 1 = .ok (.iload_n 1, 1) := by decide +kernel
theorem dX10_next_2 : decode cX10_next 2 = .ok (.invokevirtual 114, 3) := by decide +kernel
theorem dX10_next_5 : decode cX10_next 5 = .ok (.aload_n 0, 1) := by decide +kernel
theorem dX10_next_6 : decode cX10_next 6 = .ok (.iload_n 2, 1) := by decide +kernel
theorem dX10_next_7 : decode cX10_next 7 = .ok (.invokevirtual 114, 3) := by decide +kernel
theorem dX10_next_10 : decode cX10_next 10 = .ok (.aload_n 0, 1) := by decide +kernel
theorem dX10_next_11 : decode cX10_next 11 = .ok (.iload_n 1, 1) := by decide +kernel
theorem dX10_next_12 : decode cX10_next 12 = .ok (.iload_n 2, 1) := by decide +kernel
theorem dX10_next_13 : decode cX10_next 13 = .ok (.invokevirtual 221, 3) := by decide +kernel
theorem dX10_next_16 : decode cX10_next 16 = .ok (.istore_n 3, 1) := by decide +kernel
theorem dX10_next_17 : decode cX10_next 17 = .ok (.iload_n 3, 1) := by decide +kernel
theorem dX10_next_18 : decode cX10_next 18 = .ok (.iconst (-1), 1) := by decide +kernel
theorem dX10_next_19 : decode cX10_next 19 = .ok (.if_icmp .ne 13, 3) := by decide +kernel
theorem dX10_next_22 : decode cX10_next 22 = .ok (.new 158, 3) := by decide +kernel
theorem dX10_next_25 : decode cX10_next 25 = .ok (.dup, 1) := by decide +kernel
theorem dX10_next_26 : decode cX10_next 26 = .ok (.ldc 224, 2) := by decide +kernel
theorem dX10_next_28 : decode cX10_next 28 = .ok (.invokespecial 162, 3) := by decide +kernel
theorem dX10_next_31 : decode cX10_next 31 = .ok (.athrow, 1) := by decide +kernel
theorem dX10_next_32 : decode cX10_next 32 = .ok (.iload_n 3, 1) := by decide +kernel
theorem dX10_next_33 : decode cX10_next 33 = .ok (.ireturn, 1) := by decide +kernel
set_option maxRecDepth 20000 in
theorem ggX10_reached_X10_needSurveyor : GoodIn wsX10_reached wsX10_needSurveyor := goodIn_ca (goodIn_r _ [8, 9, 10, 2, 11, 12, 13, 14, 15, 16, 95, 96, 97, 98, 99, 100, 101, 102, 103, 104, 105, 106, 107, 108, 109, 110, 111, 112, 113, 114] rfl (by decide +kernel)) (goodIn_sub (fun _ h => List.mem_cons_of_mem _ (List.mem_append_left _ (List.mem_append_right _ h))) (by decide +kernel))
set_option maxRecDepth 20000 in
theorem gX10_reached_X10_needSurveyor : GoodIn wsX10_reached (wsV RX10 114 RX10 yX10_needSurveyor wsX10_needSurveyor) := goodIn_app (goodIn_of _ (by decide +kernel)) ggX10_reached_X10_needSurveyor
set_option maxRecDepth 20000 in
theorem ggX10_reached_X9_takeMap : GoodIn wsX10_reached wsX9_takeMap := goodIn_ca (goodIn_r _ [21, 22, 23, 24, 25, 14, 26, 27, 28, 29, 30, 31, 32, 33, 34, 35, 36, 37, 38, 39, 40, 41, 42, 43, 44, 45, 46, 47, 48, 49, 50, 51, 52, 53, 54, 55, 56, 57, 58, 59, 60, 61, 62, 63, 64, 65, 66, 67, 68, 115, 116, 105, 106, 107, 108, 109, 110, 111, 112, 113, 114, 117, 118, 119, 120, 121, 122, 123, 124, 125] rfl (by decide +kernel)) (goodIn_sub (fun _ h => List.mem_cons_of_mem _ (List.mem_append_right _ h)) (by decide +kernel))
set_option maxRecDepth 20000 in
theorem gX10_reached_X9_takeMap : GoodIn wsX10_reached (wsV RX10 205 RX9 yX9_takeMap wsX9_takeMap) := goodIn_app (goodIn_of _ (by decide +kernel)) ggX10_reached_X9_takeMap
set_option maxRecDepth 20000 in
theorem ggX10_reached_X9_nearestFirst : GoodIn wsX10_reached wsX9_nearestFirst := goodIn_ca (goodIn_r _ [72, 73, 74, 75, 20, 76, 77, 78, 79, 80, 81, 82, 83, 84, 85, 86, 87, 88, 89, 90, 22, 115, 116] rfl (by decide +kernel)) (goodIn_sub (fun _ h => List.mem_cons_of_mem _ (List.mem_append_right _ h)) (by decide +kernel))
set_option maxRecDepth 20000 in
theorem gX10_reached_X9_nearestFirst : GoodIn wsX10_reached (wsV RX10 209 RX9 yX9_nearestFirst wsX9_nearestFirst) := goodIn_app (goodIn_of _ (by decide +kernel)) ggX10_reached_X9_nearestFirst
set_option maxRecDepth 20000 in
theorem ggX10_reached_X9_distanceTo : GoodIn wsX10_reached wsX9_distanceTo := goodIn_ca (goodIn_r _ [94, 77, 78, 115, 116] rfl (by decide +kernel)) (goodIn_sub (fun _ h => List.mem_cons_of_mem _ (List.mem_append_right _ h)) (by decide +kernel))
set_option maxRecDepth 20000 in
theorem gX10_reached_X9_distanceTo : GoodIn wsX10_reached (wsV RX10 212 RX9 yX9_distanceTo wsX9_distanceTo) := goodIn_app (goodIn_of _ (by decide +kernel)) ggX10_reached_X9_distanceTo
theorem dX10_reached_0 : decode cX10_reached 0 = .ok (.aload_n 0, 1) := by decide +kernel
theorem dX10_reached_1 : decode cX10_reached 1 = .ok (.iload_n 1, 1) := by decide +kernel
theorem dX10_reached_2 : decode cX10_reached 2 = .ok (.invokevirtual 114, 3) := by decide +kernel
theorem dX10_reached_5 : decode cX10_reached 5 = .ok (.aload_n 0, 1) := by decide +kernel
theorem dX10_reached_6 : decode cX10_reached 6 = .ok (.getfield 12, 3) := by decide +kernel
theorem dX10_reached_9 : decode cX10_reached 9 = .ok (.aload_n 0, 1) := by decide +kernel
theorem dX10_reached_10 : decode cX10_reached 10 = .ok (.getfield 50, 3) := by decide +kernel
theorem dX10_reached_13 : decode cX10_reached 13 = .ok (.iload_n 1, 1) := by decide +kernel
theorem dX10_reached_14 : decode cX10_reached 14 = .ok (.invokevirtual 205, 3) := by decide +kernel
theorem dX10_reached_17 : decode cX10_reached 17 = .ok (.aload_n 0, 1) := by decide +kernel
theorem dX10_reached_18 : decode cX10_reached 18 = .ok (.getfield 12, 3) := by decide +kernel
theorem dX10_reached_21 : decode cX10_reached 21 = .ok (.iload_n 1, 1) := by decide +kernel
theorem dX10_reached_22 : decode cX10_reached 22 = .ok (.invokevirtual 209, 3) := by decide +kernel
theorem dX10_reached_25 : decode cX10_reached 25 = .ok (.iconst 0, 1) := by decide +kernel
theorem dX10_reached_26 : decode cX10_reached 26 = .ok (.istore_n 2, 1) := by decide +kernel
theorem dX10_reached_27 : decode cX10_reached 27 = .ok (.iconst 0, 1) := by decide +kernel
theorem dX10_reached_28 : decode cX10_reached 28 = .ok (.istore_n 3, 1) := by decide +kernel
theorem dX10_reached_29 : decode cX10_reached 29 = .ok (.iload_n 3, 1) := by decide +kernel
theorem dX10_reached_30 : decode cX10_reached 30 = .ok (.bipush 6, 2) := by decide +kernel
theorem dX10_reached_32 : decode cX10_reached 32 = .ok (.if_icmp .ge 28, 3) := by decide +kernel
theorem dX10_reached_35 : decode cX10_reached 35 = .ok (.aload_n 0, 1) := by decide +kernel
theorem dX10_reached_36 : decode cX10_reached 36 = .ok (.getfield 12, 3) := by decide +kernel
theorem dX10_reached_39 : decode cX10_reached 39 = .ok (.iload_n 3, 1) := by decide +kernel
theorem dX10_reached_40 : decode cX10_reached 40 = .ok (.invokevirtual 212, 3) := by decide +kernel
theorem dX10_reached_43 : decode cX10_reached 43 = .ok (.ldc 226, 2) := by decide +kernel
theorem dX10_reached_45 : decode cX10_reached 45 = .ok (.if_icmp .ge 9, 3) := by decide +kernel
theorem dX10_reached_48 : decode cX10_reached 48 = .ok (.iload_n 2, 1) := by decide +kernel
theorem dX10_reached_49 : decode cX10_reached 49 = .ok (.iconst 1, 1) := by decide +kernel
theorem dX10_reached_50 : decode cX10_reached 50 = .ok (.iload_n 3, 1) := by decide +kernel
theorem dX10_reached_51 : decode cX10_reached 51 = .ok (.ishl, 1) := by decide +kernel
theorem dX10_reached_52 : decode cX10_reached 52 = .ok (.ior, 1) := by decide +kernel
theorem dX10_reached_53 : decode cX10_reached 53 = .ok (.istore_n 2, 1) := by decide +kernel
theorem dX10_reached_54 : decode cX10_reached 54 = .ok (.iinc 3 1, 3) := by decide +kernel
theorem dX10_reached_57 : decode cX10_reached 57 = .ok (.goto (-28), 3) := by decide +kernel
theorem dX10_reached_60 : decode cX10_reached 60 = .ok (.iload_n 2, 1) := by decide +kernel
theorem dX10_reached_61 : decode cX10_reached 61 = .ok (.ireturn, 1) := by decide +kernel
set_option maxRecDepth 20000 in
theorem ggX10_follow_X10_needSurveyor : GoodIn wsX10_follow wsX10_needSurveyor := goodIn_ca (goodIn_r _ [8, 9, 10, 3, 11, 12, 13, 14, 15, 16, 109, 110, 111, 112, 113, 114, 115, 116, 117, 118, 119, 120, 121, 122, 123, 124, 125, 126, 127, 128] rfl (by decide +kernel)) (goodIn_sub (fun _ h => List.mem_cons_of_mem _ (List.mem_append_left _ (List.mem_append_right _ h))) (by decide +kernel))
set_option maxRecDepth 20000 in
theorem gX10_follow_X10_needSurveyor : GoodIn wsX10_follow (wsV RX10 114 RX10 yX10_needSurveyor wsX10_needSurveyor) := goodIn_app (goodIn_of _ (by decide +kernel)) ggX10_follow_X10_needSurveyor
set_option maxRecDepth 20000 in
theorem ggX10_follow_X10_nextByMap : GoodIn wsX10_follow wsX10_nextByMap := goodIn_ca (goodIn_r _ [20, 21, 3, 22, 23, 24, 25, 26, 27, 28, 29, 30, 14, 31, 32, 33, 34, 35, 36, 37, 38, 39, 40, 41, 42, 43, 44, 45, 46, 47, 48, 49, 50, 51, 52, 53, 54, 55, 56, 57, 58, 59, 60, 61, 62, 63, 64, 65, 66, 67, 68, 69, 70, 71, 72, 73, 74, 75, 76, 77, 78, 79, 80, 81, 82, 83, 84, 85, 86, 87, 88, 89, 90, 91, 92, 93, 94, 95, 96, 97, 98, 99, 100, 101, 102, 103, 109, 110, 111, 112, 113, 114, 115, 116, 117, 118, 129, 130, 119, 120, 121, 122, 123, 124, 125, 126, 127, 128, 131, 132, 133, 134, 135, 136, 137, 138, 139] rfl (by decide +kernel)) (goodIn_sub (fun _ h => List.mem_cons_of_mem _ (List.mem_append_right _ h)) (by decide +kernel))
set_option maxRecDepth 20000 in
theorem gX10_follow_X10_nextByMap : GoodIn wsX10_follow (wsV RX10 221 RX10 yX10_nextByMap wsX10_nextByMap) := goodIn_app (goodIn_of _ (by decide +kernel)) ggX10_follow_X10_nextByMap
set_option maxRecDepth 20000 in
theorem ggX10_follow_X8_costBetween : GoodIn wsX10_follow wsX8_costBetween := goodIn_ca (goodIn_r _ [107, 108, 34, 35, 14, 36, 119, 120, 121, 122, 123, 124, 125, 126, 127, 128] rfl (by decide +kernel)) (goodIn_sub (fun _ h => List.mem_cons_of_mem _ (List.mem_append_right _ h)) (by decide +kernel))
set_option maxRecDepth 20000 in
theorem gX10_follow_X8_costBetween : GoodIn wsX10_follow (wsV RX10 154 RX8 yX8_costBetween wsX8_costBetween) := goodIn_app (goodIn_of _ (by decide +kernel)) ggX10_follow_X8_costBetween
theorem dX10_follow_0 : decode cX10_follow 0 = .ok (.aload_n 0, 1) := by decide +kernel
theorem dX10_follow_1 : decode cX10_follow 1 = .ok (.iload_n 1, 1) := by decide +kernel
theorem dX10_follow_2 : decode cX10_follow 2 = .ok (.invokevirtual 114, 3) := by decide +kernel
theorem dX10_follow_5 : decode cX10_follow 5 = .ok (.aload_n 0, 1) := by decide +kernel
theorem dX10_follow_6 : decode cX10_follow 6 = .ok (.iload_n 2, 1) := by decide +kernel
theorem dX10_follow_7 : decode cX10_follow 7 = .ok (.invokevirtual 114, 3) := by decide +kernel
theorem dX10_follow_10 : decode cX10_follow 10 = .ok (.iload_n 1, 1) := by decide +kernel
theorem dX10_follow_11 : decode cX10_follow 11 = .ok (.istore_n 3, 1) := by decide +kernel
theorem dX10_follow_12 : decode cX10_follow 12 = .ok (.iconst 1, 1) := by decide +kernel
theorem dX10_follow_13 : decode cX10_follow 13 = .ok (.iload_n 1, 1) := by decide +kernel
theorem dX10_follow_14 : decode cX10_follow 14 = .ok (.ishl, 1) := by decide +kernel
theorem dX10_follow_15 : decode cX10_follow 15 = .ok (.istore 4, 2) := by decide +kernel
theorem dX10_follow_17 : decode cX10_follow 17 = .ok (.iconst 0, 1) := by decide +kernel
theorem dX10_follow_18 : decode cX10_follow 18 = .ok (.istore 5, 2) := by decide +kernel
theorem dX10_follow_20 : decode cX10_follow 20 = .ok (.iconst 0, 1) := by decide +kernel
theorem dX10_follow_21 : decode cX10_follow 21 = .ok (.istore 6, 2) := by decide +kernel
theorem dX10_follow_23 : decode cX10_follow 23 = .ok (.iload 6, 2) := by decide +kernel
theorem dX10_follow_25 : decode cX10_follow 25 = .ok (.bipush 6, 2) := by decide +kernel
theorem dX10_follow_27 : decode cX10_follow 27 = .ok (.if_icmp .ge 88, 3) := by decide +kernel
theorem dX10_follow_30 : decode cX10_follow 30 = .ok (.iload_n 3, 1) := by decide +kernel
theorem dX10_follow_31 : decode cX10_follow 31 = .ok (.iload_n 2, 1) := by decide +kernel
theorem dX10_follow_32 : decode cX10_follow 32 = .ok (.if_icmp .eq 83, 3) := by decide +kernel
theorem dX10_follow_35 : decode cX10_follow 35 = .ok (.aload_n 0, 1) := by decide +kernel
theorem dX10_follow_36 : decode cX10_follow 36 = .ok (.iload_n 3, 1) := by decide +kernel
theorem dX10_follow_37 : decode cX10_follow 37 = .ok (.iload_n 2, 1) := by decide +kernel
theorem dX10_follow_38 : decode cX10_follow 38 = .ok (.invokevirtual 221, 3) := by decide +kernel
theorem dX10_follow_41 : decode cX10_follow 41 = .ok (.istore 7, 2) := by decide +kernel
theorem dX10_follow_43 : decode cX10_follow 43 = .ok (.iload 7, 2) := by decide +kernel
theorem dX10_follow_45 : decode cX10_follow 45 = .ok (.iconst (-1), 1) := by decide +kernel
theorem dX10_follow_46 : decode cX10_follow 46 = .ok (.if_icmp .ne 7, 3) := by decide +kernel
theorem dX10_follow_49 : decode cX10_follow 49 = .ok (.iconst 0, 1) := by decide +kernel
theorem dX10_follow_50 : decode cX10_follow 50 = .ok (.goto 13, 3) := by decide +kernel
theorem dX10_follow_53 : decode cX10_follow 53 = .ok (.aload_n 0, 1) := by decide +kernel
theorem dX10_follow_54 : decode cX10_follow 54 = .ok (.getfield 50, 3) := by decide +kernel
theorem dX10_follow_57 : decode cX10_follow 57 = .ok (.iload_n 3, 1) := by decide +kernel
theorem dX10_follow_58 : decode cX10_follow 58 = .ok (.iload 7, 2) := by decide +kernel
theorem dX10_follow_60 : decode cX10_follow 60 = .ok (.invokevirtual 154, 3) := by decide +kernel
theorem dX10_follow_63 : decode cX10_follow 63 = .ok (.istore 8, 2) := by decide +kernel
theorem dX10_follow_65 : decode cX10_follow 65 = .ok (.iload 8, 2) := by decide +kernel
theorem dX10_follow_67 : decode cX10_follow 67 = .ok (.ifCond .eq 13, 3) := by decide +kernel
theorem dX10_follow_70 : decode cX10_follow 70 = .ok (.iload 4, 2) := by decide +kernel
theorem dX10_follow_72 : decode cX10_follow 72 = .ok (.iconst 1, 1) := by decide +kernel
theorem dX10_follow_73 : decode cX10_follow 73 = .ok (.iload 7, 2) := by decide +kernel
theorem dX10_follow_75 : decode cX10_follow 75 = .ok (.ishl, 1) := by decide +kernel
theorem dX10_follow_76 : decode cX10_follow 76 = .ok (.iand, 1) := by decide +kernel
theorem dX10_follow_77 : decode cX10_follow 77 = .ok (.ifCond .eq 13, 3) := by decide +kernel
theorem dX10_follow_80 : decode cX10_follow 80 = .ok (.new 158, 3) := by decide +kernel
theorem dX10_follow_83 : decode cX10_follow 83 = .ok (.dup, 1) := by decide +kernel
theorem dX10_follow_84 : decode cX10_follow 84 = .ok (.ldc 227, 2) := by decide +kernel
theorem dX10_follow_86 : decode cX10_follow 86 = .ok (.invokespecial 162, 3) := by decide +kernel
theorem dX10_follow_89 : decode cX10_follow 89 = .ok (.athrow, 1) := by decide +kernel
theorem dX10_follow_90 : decode cX10_follow 90 = .ok (.iload 4, 2) := by decide +kernel
theorem dX10_follow_92 : decode cX10_follow 92 = .ok (.iconst 1, 1) := by decide +kernel
theorem dX10_follow_93 : decode cX10_follow 93 = .ok (.iload 7, 2) := by decide +kernel
theorem dX10_follow_95 : decode cX10_follow 95 = .ok (.ishl, 1) := by decide +kernel
theorem dX10_follow_96 : decode cX10_follow 96 = .ok (.ior, 1) := by decide +kernel
theorem dX10_follow_97 : decode cX10_follow 97 = .ok (.istore 4, 2) := by decide +kernel
theorem dX10_follow_99 : decode cX10_follow 99 = .ok (.iload 5, 2) := by decide +kernel
theorem dX10_follow_101 : decode cX10_follow 101 = .ok (.iload 8, 2) := by decide +kernel
theorem dX10_follow_103 : decode cX10_follow 103 = .ok (.iadd, 1) := by decide +kernel
theorem dX10_follow_104 : decode cX10_follow 104 = .ok (.istore 5, 2) := by decide +kernel
theorem dX10_follow_106 : decode cX10_follow 106 = .ok (.iload 7, 2) := by decide +kernel
theorem dX10_follow_108 : decode cX10_follow 108 = .ok (.istore_n 3, 1) := by decide +kernel
theorem dX10_follow_109 : decode cX10_follow 109 = .ok (.iinc 6 1, 3) := by decide +kernel
theorem dX10_follow_112 : decode cX10_follow 112 = .ok (.goto (-89), 3) := by decide +kernel
theorem dX10_follow_115 : decode cX10_follow 115 = .ok (.iload 5, 2) := by decide +kernel
theorem dX10_follow_117 : decode cX10_follow 117 = .ok (.ireturn, 1) := by decide +kernel
set_option maxRecDepth 20000 in
theorem ggX10_real_X10_needSurveyor : GoodIn wsX10_real wsX10_needSurveyor := goodIn_ca (goodIn_r _ [7, 8, 9, 2, 10, 11, 12, 13, 14, 15, 68, 69, 70, 71, 72, 73, 74, 75, 76, 77, 78, 79, 80, 81, 82, 83, 84, 85, 86, 87] rfl (by decide +kernel)) (goodIn_sub (fun _ h => List.mem_cons_of_mem _ (List.mem_append_left _ (List.mem_append_left _ (List.mem_append_right _ h)))) (by decide +kernel))
set_option maxRecDepth 20000 in
theorem gX10_real_X10_needSurveyor : GoodIn wsX10_real (wsV RX10 114 RX10 yX10_needSurveyor wsX10_needSurveyor) := goodIn_app (goodIn_of _ (by decide +kernel)) ggX10_real_X10_needSurveyor
set_option maxRecDepth 20000 in
theorem ggX10_real_X9_takeCanals : GoodIn wsX10_real wsX9_takeCanals := goodIn_ca (goodIn_r _ [20, 21, 22, 23, 24, 13, 25, 26, 27, 28, 11, 12, 14, 15, 29, 30, 31, 32, 33, 34, 35, 88, 89, 78, 79, 80, 81, 82, 83, 84, 85, 86, 87] rfl (by decide +kernel)) (goodIn_sub (fun _ h => List.mem_cons_of_mem _ (List.mem_append_left _ (List.mem_append_right _ h))) (by decide +kernel))
set_option maxRecDepth 20000 in
theorem gX10_real_X9_takeCanals : GoodIn wsX10_real (wsV RX10 229 RX9 yX9_takeCanals wsX9_takeCanals) := goodIn_app (goodIn_of _ (by decide +kernel)) ggX10_real_X9_takeCanals
set_option maxRecDepth 20000 in
theorem ggX10_real_X9_nearestFirst : GoodIn wsX10_real wsX9_nearestFirst := goodIn_ca (goodIn_r _ [39, 40, 41, 42, 19, 43, 44, 45, 46, 47, 48, 49, 50, 51, 52, 53, 54, 55, 56, 57, 21, 88, 89] rfl (by decide +kernel)) (goodIn_sub (fun _ h => List.mem_cons_of_mem _ (List.mem_append_left _ (List.mem_append_right _ h))) (by decide +kernel))
set_option maxRecDepth 20000 in
theorem gX10_real_X9_nearestFirst : GoodIn wsX10_real (wsV RX10 209 RX9 yX9_nearestFirst wsX9_nearestFirst) := goodIn_app (goodIn_of _ (by decide +kernel)) ggX10_real_X9_nearestFirst
set_option maxRecDepth 20000 in
theorem ggX10_real_X9_distanceTo : GoodIn wsX10_real wsX9_distanceTo := goodIn_ca (goodIn_r _ [61, 44, 45, 88, 89] rfl (by decide +kernel)) (goodIn_sub (fun _ h => List.mem_cons_of_mem _ (List.mem_append_left _ (List.mem_append_right _ h))) (by decide +kernel))
set_option maxRecDepth 20000 in
theorem gX10_real_X9_distanceTo : GoodIn wsX10_real (wsV RX10 212 RX9 yX9_distanceTo wsX9_distanceTo) := goodIn_app (goodIn_of _ (by decide +kernel)) ggX10_real_X9_distanceTo
set_option maxRecDepth 20000 in
theorem ggX10_real_X10_needWay : GoodIn wsX10_real wsX10_needWay := goodIn_ca (goodIn_r _ [64, 65, 66, 67] rfl (by decide +kernel)) (goodIn_sub (fun _ h => List.mem_cons_of_mem _ (List.mem_append_right _ h)) (by decide +kernel))
set_option maxRecDepth 20000 in
theorem gX10_real_X10_needWay : GoodIn wsX10_real (va_wsS RX10 215 yX10_needWay wsX10_needWay) := goodIn_app (goodIn_of _ (by decide +kernel)) ggX10_real_X10_needWay
theorem dX10_real_0 : decode cX10_real 0 = .ok (.aload_n 0, 1) := by decide +kernel
theorem dX10_real_1 : decode cX10_real 1 = .ok (.iload_n 1, 1) := by decide +kernel
theorem dX10_real_2 : decode cX10_real 2 = .ok (.invokevirtual 114, 3) := by decide +kernel
theorem dX10_real_5 : decode cX10_real 5 = .ok (.aload_n 0, 1) := by decide +kernel
theorem dX10_real_6 : decode cX10_real 6 = .ok (.iload_n 2, 1) := by decide +kernel
theorem dX10_real_7 : decode cX10_real 7 = .ok (.invokevirtual 114, 3) := by decide +kernel
theorem dX10_real_10 : decode cX10_real 10 = .ok (.aload_n 0, 1) := by decide +kernel
theorem dX10_real_11 : decode cX10_real 11 = .ok (.getfield 12, 3) := by decide +kernel
theorem dX10_real_14 : decode cX10_real 14 = .ok (.aload_n 0, 1) := by decide +kernel
theorem dX10_real_15 : decode cX10_real 15 = .ok (.getfield 50, 3) := by decide +kernel
theorem dX10_real_18 : decode cX10_real 18 = .ok (.invokevirtual 229, 3) := by decide +kernel
theorem dX10_real_21 : decode cX10_real 21 = .ok (.aload_n 0, 1) := by decide +kernel
theorem dX10_real_22 : decode cX10_real 22 = .ok (.getfield 12, 3) := by decide +kernel
theorem dX10_real_25 : decode cX10_real 25 = .ok (.iload_n 1, 1) := by decide +kernel
theorem dX10_real_26 : decode cX10_real 26 = .ok (.invokevirtual 209, 3) := by decide +kernel
theorem dX10_real_29 : decode cX10_real 29 = .ok (.aload_n 0, 1) := by decide +kernel
theorem dX10_real_30 : decode cX10_real 30 = .ok (.getfield 12, 3) := by decide +kernel
theorem dX10_real_33 : decode cX10_real 33 = .ok (.iload_n 2, 1) := by decide +kernel
theorem dX10_real_34 : decode cX10_real 34 = .ok (.invokevirtual 212, 3) := by decide +kernel
theorem dX10_real_37 : decode cX10_real 37 = .ok (.invokestatic 215, 3) := by decide +kernel
theorem dX10_real_40 : decode cX10_real 40 = .ok (.ireturn, 1) := by decide +kernel
set_option maxRecDepth 20000 in
theorem ggX10_isRight_X10_needSurveyor : GoodIn wsX10_isRight wsX10_needSurveyor := goodIn_ca (goodIn_r _ [8, 9, 10, 3, 11, 12, 13, 14, 15, 16, 110, 111, 112, 113, 114, 115, 116, 117, 118, 119, 120, 121, 122, 123, 124, 125, 126, 127, 128, 129] rfl (by decide +kernel)) (goodIn_sub (fun _ h => List.mem_cons_of_mem _ (List.mem_append_right _ h)) (by decide +kernel))
set_option maxRecDepth 20000 in
theorem gX10_isRight_X10_needSurveyor : GoodIn wsX10_isRight (wsV RX10 114 RX10 yX10_needSurveyor wsX10_needSurveyor) := goodIn_app (goodIn_of _ (by decide +kernel)) ggX10_isRight_X10_needSurveyor
set_option maxRecDepth 20000 in
theorem ggX10_isRight_X9_takeMap : GoodIn wsX10_isRight wsX9_takeMap := goodIn_ca (goodIn_r _ [21, 22, 23, 24, 25, 14, 26, 27, 28, 29, 30, 31, 32, 33, 34, 35, 36, 37, 38, 39, 40, 41, 42, 43, 44, 45, 46, 47, 48, 49, 50, 51, 52, 53, 54, 55, 56, 57, 58, 59, 60, 61, 62, 63, 64, 65, 66, 67, 68, 130, 131, 120, 121, 122, 123, 124, 125, 126, 127, 128, 129, 132, 133, 134, 135, 136, 137, 138, 139, 140] rfl (by decide +kernel)) (goodIn_sub (fun _ h => List.mem_cons_of_mem _ (List.mem_append_left _ (List.mem_append_right _ h))) (by decide +kernel))
set_option maxRecDepth 20000 in
theorem gX10_isRight_X9_takeMap : GoodIn wsX10_isRight (wsV RX10 205 RX9 yX9_takeMap wsX9_takeMap) := goodIn_app (goodIn_of _ (by decide +kernel)) ggX10_isRight_X9_takeMap
set_option maxRecDepth 20000 in
theorem ggX10_isRight_X9_nearestFirst : GoodIn wsX10_isRight wsX9_nearestFirst := goodIn_ca (goodIn_r _ [72, 73, 74, 75, 20, 76, 77, 78, 79, 80, 81, 82, 83, 84, 85, 86, 87, 88, 89, 90, 22, 130, 131] rfl (by decide +kernel)) (goodIn_sub (fun _ h => List.mem_cons_of_mem _ (List.mem_append_left _ (List.mem_append_right _ h))) (by decide +kernel))
set_option maxRecDepth 20000 in
theorem gX10_isRight_X9_nearestFirst : GoodIn wsX10_isRight (wsV RX10 209 RX9 yX9_nearestFirst wsX9_nearestFirst) := goodIn_app (goodIn_of _ (by decide +kernel)) ggX10_isRight_X9_nearestFirst
set_option maxRecDepth 20000 in
theorem ggX10_isRight_X9_distanceTo : GoodIn wsX10_isRight wsX9_distanceTo := goodIn_ca (goodIn_r _ [94, 77, 78, 130, 131] rfl (by decide +kernel)) (goodIn_sub (fun _ h => List.mem_cons_of_mem _ (List.mem_append_left _ (List.mem_append_right _ h))) (by decide +kernel))
set_option maxRecDepth 20000 in
theorem gX10_isRight_X9_distanceTo : GoodIn wsX10_isRight (wsV RX10 212 RX9 yX9_distanceTo wsX9_distanceTo) := goodIn_app (goodIn_of _ (by decide +kernel)) ggX10_isRight_X9_distanceTo
set_option maxRecDepth 20000 in
theorem ggX10_isRight_X9_takeCanals : GoodIn wsX10_isRight wsX9_takeCanals := goodIn_ca (goodIn_r _ [98, 22, 99, 100, 101, 14, 102, 103, 104, 105, 12, 13, 15, 16, 29, 30, 31, 106, 107, 108, 109, 130, 131, 120, 121, 122, 123, 124, 125, 126, 127, 128, 129] rfl (by decide +kernel)) (goodIn_sub (fun _ h => List.mem_cons_of_mem _ (List.mem_append_left _ (List.mem_append_right _ h))) (by decide +kernel))
set_option maxRecDepth 20000 in
theorem gX10_isRight_X9_takeCanals : GoodIn wsX10_isRight (wsV RX10 229 RX9 yX9_takeCanals wsX9_takeCanals) := goodIn_app (goodIn_of _ (by decide +kernel)) ggX10_isRight_X9_takeCanals
theorem dX10_isRight_0 : decode cX10_isRight 0 = .ok (.aload_n 0, 1) := by decide +kernel
theorem dX10_isRight_1 : decode cX10_isRight 1 = .ok (.iload_n 1, 1) := by decide +kernel
theorem dX10_isRight_2 : decode cX10_isRight 2 = .ok (.invokevirtual 114, 3) := by decide +kernel
theorem dX10_isRight_5 : decode cX10_isRight 5 = .ok (.bipush 6, 2) := by decide +kernel
theorem dX10_isRight_7 : decode cX10_isRight 7 = .ok (.newarray .int, 2) := by decide +kernel
theorem dX10_isRight_9 : decode cX10_isRight 9 = .ok (.astore_n 2, 1) := by decide +kernel
theorem dX10_isRight_10 : decode cX10_isRight 10 = .ok (.aload_n 0, 1) := by decide +kernel
theorem dX10_isRight_11 : decode cX10_isRight 11 = .ok (.getfield 12, 3) := by decide +kernel
theorem dX10_isRight_14 : decode cX10_isRight 14 = .ok (.aload_n 0, 1) := by decide +kernel
theorem dX10_isRight_15 : decode cX10_isRight 15 = .ok (.getfield 50, 3) := by decide +kernel
theorem dX10_isRight_18 : decode cX10_isRight 18 = .ok (.iload_n 1, 1) := by decide +kernel
theorem dX10_isRight_19 : decode cX10_isRight 19 = .ok (.invokevirtual 205, 3) := by decide +kernel
theorem dX10_isRight_22 : decode cX10_isRight 22 = .ok (.aload_n 0, 1) := by decide +kernel
theorem dX10_isRight_23 : decode cX10_isRight 23 = .ok (.getfield 12, 3) := by decide +kernel
theorem dX10_isRight_26 : decode cX10_isRight 26 = .ok (.iload_n 1, 1) := by decide +kernel
theorem dX10_isRight_27 : decode cX10_isRight 27 = .ok (.invokevirtual 209, 3) := by decide +kernel
theorem dX10_isRight_30 : decode cX10_isRight 30 = .ok (.iconst 0, 1) := by decide +kernel
theorem dX10_isRight_31 : decode cX10_isRight 31 = .ok (.istore_n 3, 1) := by decide +kernel
theorem dX10_isRight_32 : decode cX10_isRight 32 = .ok (.iload_n 3, 1) := by decide +kernel
theorem dX10_isRight_33 : decode cX10_isRight 33 = .ok (.bipush 6, 2) := by decide +kernel
theorem dX10_isRight_35 : decode cX10_isRight 35 = .ok (.if_icmp .ge 20, 3) := by decide +kernel
theorem dX10_isRight_38 : decode cX10_isRight 38 = .ok (.aload_n 2, 1) := by decide +kernel
theorem dX10_isRight_39 : decode cX10_isRight 39 = .ok (.iload_n 3, 1) := by decide +kernel
theorem dX10_isRight_40 : decode cX10_isRight 40 = .ok (.aload_n 0, 1) := by decide +kernel
theorem dX10_isRight_41 : decode cX10_isRight 41 = .ok (.getfield 12, 3) := by decide +kernel
theorem dX10_isRight_44 : decode cX10_isRight 44 = .ok (.iload_n 3, 1) := by decide +kernel
theorem dX10_isRight_45 : decode cX10_isRight 45 = .ok (.invokevirtual 212, 3) := by decide +kernel
theorem dX10_isRight_48 : decode cX10_isRight 48 = .ok (.iastore, 1) := by decide +kernel
theorem dX10_isRight_49 : decode cX10_isRight 49 = .ok (.iinc 3 1, 3) := by decide +kernel
theorem dX10_isRight_52 : decode cX10_isRight 52 = .ok (.goto (-20), 3) := by decide +kernel
theorem dX10_isRight_55 : decode cX10_isRight 55 = .ok (.aload_n 0, 1) := by decide +kernel
theorem dX10_isRight_56 : decode cX10_isRight 56 = .ok (.getfield 12, 3) := by decide +kernel
theorem dX10_isRight_59 : decode cX10_isRight 59 = .ok (.aload_n 0, 1) := by decide +kernel
theorem dX10_isRight_60 : decode cX10_isRight 60 = .ok (.getfield 50, 3) := by decide +kernel
theorem dX10_isRight_63 : decode cX10_isRight 63 = .ok (.invokevirtual 229, 3) := by decide +kernel
theorem dX10_isRight_66 : decode cX10_isRight 66 = .ok (.aload_n 0, 1) := by decide +kernel
theorem dX10_isRight_67 : decode cX10_isRight 67 = .ok (.getfield 12, 3) := by decide +kernel
theorem dX10_isRight_70 : decode cX10_isRight 70 = .ok (.iload_n 1, 1) := by decide +kernel
theorem dX10_isRight_71 : decode cX10_isRight 71 = .ok (.invokevirtual 209, 3) := by decide +kernel
theorem dX10_isRight_74 : decode cX10_isRight 74 = .ok (.iconst 0, 1) := by decide +kernel
theorem dX10_isRight_75 : decode cX10_isRight 75 = .ok (.istore_n 3, 1) := by decide +kernel
theorem dX10_isRight_76 : decode cX10_isRight 76 = .ok (.iload_n 3, 1) := by decide +kernel
theorem dX10_isRight_77 : decode cX10_isRight 77 = .ok (.bipush 6, 2) := by decide +kernel
theorem dX10_isRight_79 : decode cX10_isRight 79 = .ok (.if_icmp .ge 25, 3) := by decide +kernel
theorem dX10_isRight_82 : decode cX10_isRight 82 = .ok (.aload_n 2, 1) := by decide +kernel
theorem dX10_isRight_83 : decode cX10_isRight 83 = .ok (.iload_n 3, 1) := by decide +kernel
theorem dX10_isRight_84 : decode cX10_isRight 84 = .ok (.iaload, 1) := by decide +kernel
theorem dX10_isRight_85 : decode cX10_isRight 85 = .ok (.aload_n 0, 1) := by decide +kernel
theorem dX10_isRight_86 : decode cX10_isRight 86 = .ok (.getfield 12, 3) := by decide +kernel
theorem dX10_isRight_89 : decode cX10_isRight 89 = .ok (.iload_n 3, 1) := by decide +kernel
theorem dX10_isRight_90 : decode cX10_isRight 90 = .ok (.invokevirtual 212, 3) := by decide +kernel
theorem dX10_isRight_93 : decode cX10_isRight 93 = .ok (.if_icmp .eq 5, 3) := by decide +kernel
theorem dX10_isRight_96 : decode cX10_isRight 96 = .ok (.iconst 0, 1) := by decide +kernel
theorem dX10_isRight_97 : decode cX10_isRight 97 = .ok (.ireturn, 1) := by decide +kernel
theorem dX10_isRight_98 : decode cX10_isRight 98 = .ok (.iinc 3 1, 3) := by decide +kernel
theorem dX10_isRight_101 : decode cX10_isRight 101 = .ok (.goto (-25), 3) := by decide +kernel
theorem dX10_isRight_104 : decode cX10_isRight 104 = .ok (.iconst 1, 1) := by decide +kernel
theorem dX10_isRight_105 : decode cX10_isRight 105 = .ok (.ireturn, 1) := by decide +kernel
set_option maxRecDepth 20000 in
theorem ggX10_nextByMap_X9_takeMap : GoodIn wsX10_nextByMap wsX9_takeMap := goodIn_ca (goodIn_r _ [7, 8, 9, 10, 11, 12, 13, 14, 15, 16, 17, 18, 19, 20, 21, 22, 23, 24, 25, 26, 27, 28, 29, 30, 31, 32, 33, 34, 35, 36, 37, 38, 39, 40, 41, 42, 43, 44, 45, 46, 47, 48, 49, 50, 51, 52, 53, 54, 55, 96, 97, 98, 99, 100, 101, 102, 103, 104, 105, 106, 107, 108, 109, 110, 111, 112, 113, 114, 115, 116] rfl (by decide +kernel)) (goodIn_sub (fun _ h => List.mem_cons_of_mem _ (List.mem_append_right _ h)) (by decide +kernel))
set_option maxRecDepth 20000 in
theorem gX10_nextByMap_X9_takeMap : GoodIn wsX10_nextByMap (wsV RX10 205 RX9 yX9_takeMap wsX9_takeMap) := goodIn_app (goodIn_of _ (by decide +kernel)) ggX10_nextByMap_X9_takeMap
set_option maxRecDepth 20000 in
theorem ggX10_nextByMap_X9_firstStep : GoodIn wsX10_nextByMap wsX9_firstStep := goodIn_ca (goodIn_r _ [59, 60, 8, 61, 62, 63, 6, 64, 65, 66, 67, 68, 69, 70, 71, 72, 73, 74, 75, 76, 77, 78, 79, 80, 81, 82, 83, 84, 85, 96, 97] rfl (by decide +kernel)) (goodIn_sub (fun _ h => List.mem_cons_of_mem _ (List.mem_append_right _ h)) (by decide +kernel))
set_option maxRecDepth 20000 in
theorem gX10_nextByMap_X9_firstStep : GoodIn wsX10_nextByMap (wsV RX10 232 RX9 yX9_firstStep wsX9_firstStep) := goodIn_app (goodIn_of _ (by decide +kernel)) ggX10_nextByMap_X9_firstStep
theorem dX10_nextByMap_0 : decode cX10_nextByMap 0 = .ok (.aload_n 0, 1) := by decide +kernel
theorem dX10_nextByMap_1 : decode cX10_nextByMap 1 = .ok (.getfield 12, 3) := by decide +kernel
theorem dX10_nextByMap_4 : decode cX10_nextByMap 4 = .ok (.aload_n 0, 1) := by decide +kernel
theorem dX10_nextByMap_5 : decode cX10_nextByMap 5 = .ok (.getfield 50, 3) := by decide +kernel
theorem dX10_nextByMap_8 : decode cX10_nextByMap 8 = .ok (.iload_n 1, 1) := by decide +kernel
theorem dX10_nextByMap_9 : decode cX10_nextByMap 9 = .ok (.invokevirtual 205, 3) := by decide +kernel
theorem dX10_nextByMap_12 : decode cX10_nextByMap 12 = .ok (.aload_n 0, 1) := by decide +kernel
theorem dX10_nextByMap_13 : decode cX10_nextByMap 13 = .ok (.getfield 12, 3) := by decide +kernel
theorem dX10_nextByMap_16 : decode cX10_nextByMap 16 = .ok (.iload_n 1, 1) := by decide +kernel
theorem dX10_nextByMap_17 : decode cX10_nextByMap 17 = .ok (.iload_n 2, 1) := by decide +kernel
theorem dX10_nextByMap_18 : decode cX10_nextByMap 18 = .ok (.invokevirtual 232, 3) := by decide +kernel
theorem dX10_nextByMap_21 : decode cX10_nextByMap 21 = .ok (.ireturn, 1) := by decide +kernel
set_option maxRecDepth 20000 in
theorem ggX10_agree_X10_needDistrict : GoodIn wsX10_agree wsX10_needDistrict := goodIn_ca (goodIn_r _ [5, 6, 7] rfl (by decide +kernel)) (goodIn_sub (fun _ h => List.mem_cons_of_mem _ (List.mem_append_left _ (List.mem_append_right _ h))) (by decide +kernel))
set_option maxRecDepth 20000 in
theorem gX10_agree_X10_needDistrict : GoodIn wsX10_agree (va_wsS RX10 235 yX10_needDistrict wsX10_needDistrict) := goodIn_app (goodIn_of _ (by decide +kernel)) ggX10_agree_X10_needDistrict
set_option maxRecDepth 20000 in
theorem ggX10_agree_X8_districtOf : GoodIn wsX10_agree wsX8_districtOf := goodIn_ca (goodIn_r _ [12, 13, 14, 15, 16, 11, 17, 18, 73, 74, 75, 76, 77, 78, 79, 80, 81, 82] rfl (by decide +kernel)) (goodIn_sub (fun _ h => List.mem_cons_of_mem _ (List.mem_append_right _ h)) (by decide +kernel))
set_option maxRecDepth 20000 in
theorem gX10_agree_X8_districtOf : GoodIn wsX10_agree (wsV RX10 118 RX8 yX8_districtOf wsX8_districtOf) := goodIn_app (goodIn_of _ (by decide +kernel)) ggX10_agree_X8_districtOf
set_option maxRecDepth 20000 in
theorem ggX10_agree_X8_haveSamePages : GoodIn wsX10_agree wsX8_haveSamePages := goodIn_ca (goodIn_r _ [22, 18, 13, 23, 24, 25, 11, 26, 27, 28, 29, 30, 31, 32, 33, 34, 35, 36, 37, 38, 39, 40, 41, 42, 43, 44, 45, 46, 47, 48, 49, 50, 51, 52, 53, 54, 55, 56, 57, 58, 59, 60, 61, 62, 73, 74, 75, 76, 77, 78, 79, 80, 81, 82, 83, 84, 85, 86, 87, 88, 89, 90, 91] rfl (by decide +kernel)) (goodIn_sub (fun _ h => List.mem_cons_of_mem _ (List.mem_append_right _ h)) (by decide +kernel))
set_option maxRecDepth 20000 in
theorem gX10_agree_X8_haveSamePages : GoodIn wsX10_agree (wsV RX10 241 RX8 yX8_haveSamePages wsX8_haveSamePages) := goodIn_app (goodIn_of _ (by decide +kernel)) ggX10_agree_X8_haveSamePages
theorem dX10_agree_0 : decode cX10_agree 0 = .ok (.iload_n 1, 1) := by decide +kernel
theorem dX10_agree_1 : decode cX10_agree 1 = .ok (.invokestatic 235, 3) := by decide +kernel
theorem dX10_agree_4 : decode cX10_agree 4 = .ok (.iconst 0, 1) := by decide +kernel
theorem dX10_agree_5 : decode cX10_agree 5 = .ok (.istore_n 2, 1) := by decide +kernel
theorem dX10_agree_6 : decode cX10_agree 6 = .ok (.iload_n 2, 1) := by decide +kernel
theorem dX10_agree_7 : decode cX10_agree 7 = .ok (.aload_n 0, 1) := by decide +kernel
theorem dX10_agree_8 : decode cX10_agree 8 = .ok (.getfield 50, 3) := by decide +kernel
theorem dX10_agree_11 : decode cX10_agree 11 = .ok (.getfield 238, 3) := by decide +kernel
theorem dX10_agree_14 : decode cX10_agree 14 = .ok (.if_icmp .ge 61, 3) := by decide +kernel
theorem dX10_agree_17 : decode cX10_agree 17 = .ok (.iconst 0, 1) := by decide +kernel
theorem dX10_agree_18 : decode cX10_agree 18 = .ok (.istore_n 3, 1) := by decide +kernel
theorem dX10_agree_19 : decode cX10_agree 19 = .ok (.iload_n 3, 1) := by decide +kernel
theorem dX10_agree_20 : decode cX10_agree 20 = .ok (.iload_n 2, 1) := by decide +kernel
theorem dX10_agree_21 : decode cX10_agree 21 = .ok (.if_icmp .ge 48, 3) := by decide +kernel
theorem dX10_agree_24 : decode cX10_agree 24 = .ok (.aload_n 0, 1) := by decide +kernel
theorem dX10_agree_25 : decode cX10_agree 25 = .ok (.getfield 50, 3) := by decide +kernel
theorem dX10_agree_28 : decode cX10_agree 28 = .ok (.iload_n 2, 1) := by decide +kernel
theorem dX10_agree_29 : decode cX10_agree 29 = .ok (.invokevirtual 118, 3) := by decide +kernel
theorem dX10_agree_32 : decode cX10_agree 32 = .ok (.iload_n 1, 1) := by decide +kernel
theorem dX10_agree_33 : decode cX10_agree 33 = .ok (.if_icmp .ne 30, 3) := by decide +kernel
theorem dX10_agree_36 : decode cX10_agree 36 = .ok (.aload_n 0, 1) := by decide +kernel
theorem dX10_agree_37 : decode cX10_agree 37 = .ok (.getfield 50, 3) := by decide +kernel
theorem dX10_agree_40 : decode cX10_agree 40 = .ok (.iload_n 3, 1) := by decide +kernel
theorem dX10_agree_41 : decode cX10_agree 41 = .ok (.invokevirtual 118, 3) := by decide +kernel
theorem dX10_agree_44 : decode cX10_agree 44 = .ok (.iload_n 1, 1) := by decide +kernel
theorem dX10_agree_45 : decode cX10_agree 45 = .ok (.if_icmp .ne 18, 3) := by decide +kernel
theorem dX10_agree_48 : decode cX10_agree 48 = .ok (.aload_n 0, 1) := by decide +kernel
theorem dX10_agree_49 : decode cX10_agree 49 = .ok (.getfield 50, 3) := by decide +kernel
theorem dX10_agree_52 : decode cX10_agree 52 = .ok (.iload_n 2, 1) := by decide +kernel
theorem dX10_agree_53 : decode cX10_agree 53 = .ok (.iload_n 3, 1) := by decide +kernel
theorem dX10_agree_54 : decode cX10_agree 54 = .ok (.iload_n 1, 1) := by decide +kernel
theorem dX10_agree_55 : decode cX10_agree 55 = .ok (.invokevirtual 241, 3) := by decide +kernel
theorem dX10_agree_58 : decode cX10_agree 58 = .ok (.ifCond .ne 5, 3) := by decide +kernel
theorem dX10_agree_61 : decode cX10_agree 61 = .ok (.iconst 0, 1) := by decide +kernel
theorem dX10_agree_62 : decode cX10_agree 62 = .ok (.ireturn, 1) := by decide +kernel
theorem dX10_agree_63 : decode cX10_agree 63 = .ok (.iinc 3 1, 3) := by decide +kernel
theorem dX10_agree_66 : decode cX10_agree 66 = .ok (.goto (-47), 3) := by decide +kernel
theorem dX10_agree_69 : decode cX10_agree 69 = .ok (.iinc 2 1, 3) := by decide +kernel
theorem dX10_agree_72 : decode cX10_agree 72 = .ok (.goto (-66), 3) := by decide +kernel
theorem dX10_agree_75 : decode cX10_agree 75 = .ok (.iconst 1, 1) := by decide +kernel
theorem dX10_agree_76 : decode cX10_agree 76 = .ok (.ireturn, 1) := by decide +kernel
set_option maxRecDepth 20000 in
theorem ggX10_agreeAgain_X10_needDistrict : GoodIn wsX10_agreeAgain wsX10_needDistrict := goodIn_ca (goodIn_r _ [5, 6, 7] rfl (by decide +kernel)) (goodIn_sub (fun _ h => List.mem_cons_of_mem _ (List.mem_append_left _ (List.mem_append_right _ h))) (by decide +kernel))
set_option maxRecDepth 20000 in
theorem gX10_agreeAgain_X10_needDistrict : GoodIn wsX10_agreeAgain (va_wsS RX10 235 yX10_needDistrict wsX10_needDistrict) := goodIn_app (goodIn_of _ (by decide +kernel)) ggX10_agreeAgain_X10_needDistrict
set_option maxRecDepth 20000 in
theorem ggX10_agreeAgain_X8_districtOf : GoodIn wsX10_agreeAgain wsX8_districtOf := goodIn_ca (goodIn_r _ [12, 13, 14, 15, 16, 11, 17, 18, 77, 78, 79, 80, 81, 82, 83, 84, 85, 86] rfl (by decide +kernel)) (goodIn_sub (fun _ h => List.mem_cons_of_mem _ (List.mem_append_right _ h)) (by decide +kernel))
set_option maxRecDepth 20000 in
theorem gX10_agreeAgain_X8_districtOf : GoodIn wsX10_agreeAgain (wsV RX10 118 RX8 yX8_districtOf wsX8_districtOf) := goodIn_app (goodIn_of _ (by decide +kernel)) ggX10_agreeAgain_X8_districtOf
set_option maxRecDepth 20000 in
theorem ggX10_agreeAgain_X8_allHaveGreatest : GoodIn wsX10_agreeAgain wsX8_allHaveGreatest := goodIn_ca (goodIn_r _ [22, 18, 13, 23, 24, 25, 26, 27, 28, 29, 11, 30, 31, 32, 33, 34, 35, 36, 37, 38, 39, 40, 41, 42, 43, 44, 45, 46, 47, 48, 49, 50, 51, 52, 53, 54, 55, 56, 57, 58, 59, 60, 61, 62, 63, 64, 65, 66, 77, 78, 79, 80, 81, 82, 83, 84, 85, 86, 87, 88, 89, 90, 91, 92, 93, 94, 95] rfl (by decide +kernel)) (goodIn_sub (fun _ h => List.mem_cons_of_mem _ (List.mem_append_right _ h)) (by decide +kernel))
set_option maxRecDepth 20000 in
theorem gX10_agreeAgain_X8_allHaveGreatest : GoodIn wsX10_agreeAgain (wsV RX10 245 RX8 yX8_allHaveGreatest wsX8_allHaveGreatest) := goodIn_app (goodIn_of _ (by decide +kernel)) ggX10_agreeAgain_X8_allHaveGreatest
theorem dX10_agreeAgain_0 : decode cX10_agreeAgain 0 = .ok (.iload_n 1, 1) := by decide +kernel
theorem dX10_agreeAgain_1 : decode cX10_agreeAgain 1 = .ok (.invokestatic 235, 3) := by decide +kernel
theorem dX10_agreeAgain_4 : decode cX10_agreeAgain 4 = .ok (.iconst 0, 1) := by decide +kernel
theorem dX10_agreeAgain_5 : decode cX10_agreeAgain 5 = .ok (.istore_n 2, 1) := by decide +kernel
theorem dX10_agreeAgain_6 : decode cX10_agreeAgain 6 = .ok (.iload_n 2, 1) := by decide +kernel
theorem dX10_agreeAgain_7 : decode cX10_agreeAgain 7 = .ok (.aload_n 0, 1) := by decide +kernel
theorem dX10_agreeAgain_8 : decode cX10_agreeAgain 8 = .ok (.getfield 50, 3) := by decide +kernel
theorem dX10_agreeAgain_11 : decode cX10_agreeAgain 11 = .ok (.getfield 238, 3) := by decide +kernel
theorem dX10_agreeAgain_14 : decode cX10_agreeAgain 14 = .ok (.if_icmp .ge 35, 3) := by decide +kernel
theorem dX10_agreeAgain_17 : decode cX10_agreeAgain 17 = .ok (.aload_n 0, 1) := by decide +kernel
theorem dX10_agreeAgain_18 : decode cX10_agreeAgain 18 = .ok (.getfield 50, 3) := by decide +kernel
theorem dX10_agreeAgain_21 : decode cX10_agreeAgain 21 = .ok (.iload_n 2, 1) := by decide +kernel
theorem dX10_agreeAgain_22 : decode cX10_agreeAgain 22 = .ok (.invokevirtual 118, 3) := by decide +kernel
theorem dX10_agreeAgain_25 : decode cX10_agreeAgain 25 = .ok (.iload_n 1, 1) := by decide +kernel
theorem dX10_agreeAgain_26 : decode cX10_agreeAgain 26 = .ok (.if_icmp .ne 17, 3) := by decide +kernel
theorem dX10_agreeAgain_29 : decode cX10_agreeAgain 29 = .ok (.aload_n 0, 1) := by decide +kernel
theorem dX10_agreeAgain_30 : decode cX10_agreeAgain 30 = .ok (.getfield 50, 3) := by decide +kernel
theorem dX10_agreeAgain_33 : decode cX10_agreeAgain 33 = .ok (.iload_n 2, 1) := by decide +kernel
