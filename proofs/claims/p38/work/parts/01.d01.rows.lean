theorem dX10_agreeAgain_34 : decode cX10_agreeAgain 34 = .ok (.iload_n 1, 1) := by decide +kernel
theorem dX10_agreeAgain_35 : decode cX10_agreeAgain 35 = .ok (.invokevirtual 245, 3) := by decide +kernel
theorem dX10_agreeAgain_38 : decode cX10_agreeAgain 38 = .ok (.ifCond .ne 5, 3) := by decide +kernel
theorem dX10_agreeAgain_41 : decode cX10_agreeAgain 41 = .ok (.iconst 0, 1) := by decide +kernel
theorem dX10_agreeAgain_42 : decode cX10_agreeAgain 42 = .ok (.ireturn, 1) := by decide +kernel
theorem dX10_agreeAgain_43 : decode cX10_agreeAgain 43 = .ok (.iinc 2 1, 3) := by decide +kernel
theorem dX10_agreeAgain_46 : decode cX10_agreeAgain 46 = .ok (.goto (-40), 3) := by decide +kernel
theorem dX10_agreeAgain_49 : decode cX10_agreeAgain 49 = .ok (.iconst 1, 1) := by decide +kernel
theorem dX10_agreeAgain_50 : decode cX10_agreeAgain 50 = .ok (.ireturn, 1) := by decide +kernel
set_option maxRecDepth 20000 in
theorem ggX10_settledIn_X8_copyFrom : GoodIn wsX10_settledIn wsX8_copyFrom := goodIn_r _ [9, 10, 11, 12, 13, 14, 15, 16, 17, 18, 19, 20, 21, 22, 23, 24, 25, 26, 27, 28, 29, 30, 31, 32, 228, 229, 230, 231, 232, 233, 234, 235, 236, 237, 238, 239, 240] rfl (by decide +kernel)
set_option maxRecDepth 20000 in
theorem gX10_settledIn_X8_copyFrom : GoodIn wsX10_settledIn (wsV RX10 252 RX8 yX8_copyFrom wsX8_copyFrom) := goodIn_app (goodIn_of _ (by decide +kernel)) ggX10_settledIn_X8_copyFrom
set_option maxRecDepth 20000 in
theorem ggX10_settledIn_X8_tickOnce : GoodIn wsX10_settledIn wsX8_tickOnce := goodIn_ca (goodIn_r _ [36, 17, 19, 18, 37, 38, 39, 8, 40, 16, 41, 42, 43, 44, 45, 46, 47, 48, 49, 50, 51, 52, 53, 54, 55, 56, 57, 58, 59, 60, 61, 62, 63, 64, 65, 66, 67, 68, 69, 70, 71, 72, 73, 74, 75, 76, 77, 78, 79, 80, 81, 82, 83, 84, 85, 86, 87, 30, 88, 89, 90, 22, 91, 92, 93, 94, 15, 10, 95, 96, 97, 98, 99, 100, 101, 102, 103, 104, 105, 106, 107, 108, 109, 110, 111, 112, 113, 114, 115, 116, 117, 118, 119, 120, 121, 122, 123, 124, 125, 126, 127, 128, 129, 130, 131, 132, 133, 134, 135, 136, 137, 138, 139, 140, 141, 142, 143, 144, 145, 146, 147, 148, 149, 150, 151, 152, 153, 154, 155, 156, 157, 158, 159, 160, 161, 162, 163, 164, 165, 166, 167, 12, 13, 14, 168, 169, 170, 171, 172, 173, 174, 26, 175, 29, 176, 28, 32, 177, 178, 179, 180, 181, 182, 183, 184, 185, 186, 187, 188, 189, 21, 20, 190, 191, 192, 193, 194, 195, 196, 197, 198, 199, 200, 201, 202, 203, 204, 205, 206, 207, 208, 209, 210, 211, 212, 213, 214, 215, 216, 217, 31, 228, 229, 230, 231, 232, 233, 234, 235, 236, 237, 238, 239, 240, 241, 242, 243, 244, 245, 246, 247, 248, 249] rfl (by decide +kernel)) (goodIn_sub (fun _ h => List.mem_cons_of_mem _ (List.mem_append_right _ h)) (by decide +kernel))
set_option maxRecDepth 20000 in
theorem gX10_settledIn_X8_tickOnce : GoodIn wsX10_settledIn (wsV RX10 255 RX8 yX8_tickOnce wsX8_tickOnce) := goodIn_app (goodIn_of _ (by decide +kernel)) ggX10_settledIn_X8_tickOnce
theorem dX10_settledIn_0 : decode cX10_settledIn 0 = .ok (.aload_n 0, 1) := by decide +kernel
theorem dX10_settledIn_1 : decode cX10_settledIn 1 = .ok (.getfield 50, 3) := by decide +kernel
theorem dX10_settledIn_4 : decode cX10_settledIn 4 = .ok (.getfield 140, 3) := by decide +kernel
theorem dX10_settledIn_7 : decode cX10_settledIn 7 = .ok (.getfield 249, 3) := by decide +kernel
theorem dX10_settledIn_10 : decode cX10_settledIn 10 = .ok (.ifCond .ne 5, 3) := by decide +kernel
theorem dX10_settledIn_13 : decode cX10_settledIn 13 = .ok (.iconst 0, 1) := by decide +kernel
theorem dX10_settledIn_14 : decode cX10_settledIn 14 = .ok (.ireturn, 1) := by decide +kernel
theorem dX10_settledIn_15 : decode cX10_settledIn 15 = .ok (.aload_n 0, 1) := by decide +kernel
theorem dX10_settledIn_16 : decode cX10_settledIn 16 = .ok (.getfield 54, 3) := by decide +kernel
theorem dX10_settledIn_19 : decode cX10_settledIn 19 = .ok (.aload_n 0, 1) := by decide +kernel
theorem dX10_settledIn_20 : decode cX10_settledIn 20 = .ok (.getfield 50, 3) := by decide +kernel
theorem dX10_settledIn_23 : decode cX10_settledIn 23 = .ok (.invokevirtual 252, 3) := by decide +kernel
theorem dX10_settledIn_26 : decode cX10_settledIn 26 = .ok (.iconst 1, 1) := by decide +kernel
theorem dX10_settledIn_27 : decode cX10_settledIn 27 = .ok (.istore_n 1, 1) := by decide +kernel
theorem dX10_settledIn_28 : decode cX10_settledIn 28 = .ok (.iload_n 1, 1) := by decide +kernel
theorem dX10_settledIn_29 : decode cX10_settledIn 29 = .ok (.bipush 99, 2) := by decide +kernel
theorem dX10_settledIn_31 : decode cX10_settledIn 31 = .ok (.if_icmp .gt 31, 3) := by decide +kernel
theorem dX10_settledIn_34 : decode cX10_settledIn 34 = .ok (.aload_n 0, 1) := by decide +kernel
theorem dX10_settledIn_35 : decode cX10_settledIn 35 = .ok (.getfield 54, 3) := by decide +kernel
theorem dX10_settledIn_38 : decode cX10_settledIn 38 = .ok (.invokevirtual 255, 3) := by decide +kernel
theorem dX10_settledIn_41 : decode cX10_settledIn 41 = .ok (.aload_n 0, 1) := by decide +kernel
theorem dX10_settledIn_42 : decode cX10_settledIn 42 = .ok (.getfield 54, 3) := by decide +kernel
theorem dX10_settledIn_45 : decode cX10_settledIn 45 = .ok (.getfield 140, 3) := by decide +kernel
theorem dX10_settledIn_48 : decode cX10_settledIn 48 = .ok (.getfield 249, 3) := by decide +kernel
theorem dX10_settledIn_51 : decode cX10_settledIn 51 = .ok (.ifCond .ne 5, 3) := by decide +kernel
theorem dX10_settledIn_54 : decode cX10_settledIn 54 = .ok (.iload_n 1, 1) := by decide +kernel
theorem dX10_settledIn_55 : decode cX10_settledIn 55 = .ok (.ireturn, 1) := by decide +kernel
theorem dX10_settledIn_56 : decode cX10_settledIn 56 = .ok (.iinc 1 1, 3) := by decide +kernel
theorem dX10_settledIn_59 : decode cX10_settledIn 59 = .ok (.goto (-31), 3) := by decide +kernel
theorem dX10_settledIn_62 : decode cX10_settledIn 62 = .ok (.new 158, 3) := by decide +kernel
theorem dX10_settledIn_65 : decode cX10_settledIn 65 = .ok (.dup, 1) := by decide +kernel
theorem dX10_settledIn_66 : decode cX10_settledIn 66 = .ok (.ldc_w 258, 3) := by decide +kernel
theorem dX10_settledIn_69 : decode cX10_settledIn 69 = .ok (.invokespecial 162, 3) := by decide +kernel
theorem dX10_settledIn_72 : decode cX10_settledIn 72 = .ok (.athrow, 1) := by decide +kernel
set_option maxRecDepth 20000 in
theorem ggX10_members_X10_needDistrict : GoodIn wsX10_members wsX10_needDistrict := goodIn_ca (goodIn_r _ [5, 6, 7] rfl (by decide +kernel)) (goodIn_sub (fun _ h => List.mem_cons_of_mem _ (List.mem_append_left _ (List.mem_append_right _ h))) (by decide +kernel))
set_option maxRecDepth 20000 in
theorem gX10_members_X10_needDistrict : GoodIn wsX10_members (va_wsS RX10 235 yX10_needDistrict wsX10_needDistrict) := goodIn_app (goodIn_of _ (by decide +kernel)) ggX10_members_X10_needDistrict
set_option maxRecDepth 20000 in
theorem ggX10_members_X8_districtOf : GoodIn wsX10_members wsX8_districtOf := goodIn_ca (goodIn_r _ [12, 13, 14, 15, 16, 11, 17, 18, 29, 30, 31, 32, 33, 34, 35, 36, 37, 38] rfl (by decide +kernel)) (goodIn_sub (fun _ h => List.mem_cons_of_mem _ (List.mem_append_right _ h)) (by decide +kernel))
set_option maxRecDepth 20000 in
theorem gX10_members_X8_districtOf : GoodIn wsX10_members (wsV RX10 118 RX8 yX8_districtOf wsX8_districtOf) := goodIn_app (goodIn_of _ (by decide +kernel)) ggX10_members_X8_districtOf
theorem dX10_members_0 : decode cX10_members 0 = .ok (.iload_n 1, 1) := by decide +kernel
theorem dX10_members_1 : decode cX10_members 1 = .ok (.invokestatic 235, 3) := by decide +kernel
theorem dX10_members_4 : decode cX10_members 4 = .ok (.iconst 0, 1) := by decide +kernel
theorem dX10_members_5 : decode cX10_members 5 = .ok (.istore_n 2, 1) := by decide +kernel
theorem dX10_members_6 : decode cX10_members 6 = .ok (.iconst 0, 1) := by decide +kernel
theorem dX10_members_7 : decode cX10_members 7 = .ok (.istore_n 3, 1) := by decide +kernel
theorem dX10_members_8 : decode cX10_members 8 = .ok (.iload_n 3, 1) := by decide +kernel
theorem dX10_members_9 : decode cX10_members 9 = .ok (.aload_n 0, 1) := by decide +kernel
theorem dX10_members_10 : decode cX10_members 10 = .ok (.getfield 50, 3) := by decide +kernel
theorem dX10_members_13 : decode cX10_members 13 = .ok (.getfield 238, 3) := by decide +kernel
theorem dX10_members_16 : decode cX10_members 16 = .ok (.if_icmp .ge 27, 3) := by decide +kernel
theorem dX10_members_19 : decode cX10_members 19 = .ok (.aload_n 0, 1) := by decide +kernel
theorem dX10_members_20 : decode cX10_members 20 = .ok (.getfield 50, 3) := by decide +kernel
theorem dX10_members_23 : decode cX10_members 23 = .ok (.iload_n 3, 1) := by decide +kernel
theorem dX10_members_24 : decode cX10_members 24 = .ok (.invokevirtual 118, 3) := by decide +kernel
theorem dX10_members_27 : decode cX10_members 27 = .ok (.iload_n 1, 1) := by decide +kernel
theorem dX10_members_28 : decode cX10_members 28 = .ok (.if_icmp .ne 9, 3) := by decide +kernel
theorem dX10_members_31 : decode cX10_members 31 = .ok (.iload_n 2, 1) := by decide +kernel
theorem dX10_members_32 : decode cX10_members 32 = .ok (.iconst 1, 1) := by decide +kernel
theorem dX10_members_33 : decode cX10_members 33 = .ok (.iload_n 3, 1) := by decide +kernel
theorem dX10_members_34 : decode cX10_members 34 = .ok (.ishl, 1) := by decide +kernel
theorem dX10_members_35 : decode cX10_members 35 = .ok (.ior, 1) := by decide +kernel
theorem dX10_members_36 : decode cX10_members 36 = .ok (.istore_n 2, 1) := by decide +kernel
theorem dX10_members_37 : decode cX10_members 37 = .ok (.iinc 3 1, 3) := by decide +kernel
theorem dX10_members_40 : decode cX10_members 40 = .ok (.goto (-32), 3) := by decide +kernel
theorem dX10_members_43 : decode cX10_members 43 = .ok (.iload_n 2, 1) := by decide +kernel
theorem dX10_members_44 : decode cX10_members 44 = .ok (.ireturn, 1) := by decide +kernel
set_option maxRecDepth 20000 in
theorem ggX10_busiest_X8_countAhead : GoodIn wsX10_busiest wsX8_countAhead := goodIn_ca (goodIn_r _ [8, 9, 10, 11, 12, 7, 13, 14, 15, 16, 17, 18, 19, 20, 21, 22, 23, 24, 25, 26, 27, 28, 29, 30, 31, 32, 33, 34, 35, 36, 37, 38, 39, 40, 41, 42, 43, 44, 45, 46, 47, 48, 49, 50, 51, 52, 53, 54, 55, 56, 57, 58, 59, 60, 61, 62, 63, 74, 75, 76, 77, 78, 79, 80, 81, 82, 83, 84, 85, 86, 87, 88, 89, 90, 91, 92] rfl (by decide +kernel)) (goodIn_sub (fun _ h => List.mem_cons_of_mem _ (List.mem_append_right _ h)) (by decide +kernel))
set_option maxRecDepth 20000 in
theorem gX10_busiest_X8_countAhead : GoodIn wsX10_busiest (wsV RX10 260 RX8 yX8_countAhead wsX8_countAhead) := goodIn_app (goodIn_of _ (by decide +kernel)) ggX10_busiest_X8_countAhead
theorem dX10_busiest_0 : decode cX10_busiest 0 = .ok (.iconst 0, 1) := by decide +kernel
theorem dX10_busiest_1 : decode cX10_busiest 1 = .ok (.istore_n 2, 1) := by decide +kernel
theorem dX10_busiest_2 : decode cX10_busiest 2 = .ok (.iload_n 2, 1) := by decide +kernel
theorem dX10_busiest_3 : decode cX10_busiest 3 = .ok (.aload_n 0, 1) := by decide +kernel
theorem dX10_busiest_4 : decode cX10_busiest 4 = .ok (.getfield 50, 3) := by decide +kernel
theorem dX10_busiest_7 : decode cX10_busiest 7 = .ok (.getfield 238, 3) := by decide +kernel
theorem dX10_busiest_10 : decode cX10_busiest 10 = .ok (.if_icmp .ge 23, 3) := by decide +kernel
theorem dX10_busiest_13 : decode cX10_busiest 13 = .ok (.aload_n 0, 1) := by decide +kernel
theorem dX10_busiest_14 : decode cX10_busiest 14 = .ok (.getfield 50, 3) := by decide +kernel
theorem dX10_busiest_17 : decode cX10_busiest 17 = .ok (.iload_n 2, 1) := by decide +kernel
theorem dX10_busiest_18 : decode cX10_busiest 18 = .ok (.invokevirtual 260, 3) := by decide +kernel
theorem dX10_busiest_21 : decode cX10_busiest 21 = .ok (.iload_n 1, 1) := by decide +kernel
theorem dX10_busiest_22 : decode cX10_busiest 22 = .ok (.if_icmp .ne 5, 3) := by decide +kernel
theorem dX10_busiest_25 : decode cX10_busiest 25 = .ok (.iload_n 2, 1) := by decide +kernel
theorem dX10_busiest_26 : decode cX10_busiest 26 = .ok (.ireturn, 1) := by decide +kernel
theorem dX10_busiest_27 : decode cX10_busiest 27 = .ok (.iinc 2 1, 3) := by decide +kernel
theorem dX10_busiest_30 : decode cX10_busiest 30 = .ok (.goto (-28), 3) := by decide +kernel
theorem dX10_busiest_33 : decode cX10_busiest 33 = .ok (.new 158, 3) := by decide +kernel
theorem dX10_busiest_36 : decode cX10_busiest 36 = .ok (.dup, 1) := by decide +kernel
theorem dX10_busiest_37 : decode cX10_busiest 37 = .ok (.ldc_w 263, 3) := by decide +kernel
theorem dX10_busiest_40 : decode cX10_busiest 40 = .ok (.invokespecial 162, 3) := by decide +kernel
theorem dX10_busiest_43 : decode cX10_busiest 43 = .ok (.athrow, 1) := by decide +kernel
set_option maxRecDepth 20000 in
theorem ggX10_append_X3_isFull : GoodIn wsX10_append wsX3_isFull := goodIn_r _ [8, 9, 26, 27, 28, 29, 30] rfl (by decide +kernel)
set_option maxRecDepth 20000 in
theorem gX10_append_X3_isFull : GoodIn wsX10_append (wsV RX10 265 RX3 yX3_isFull wsX3_isFull) := goodIn_app (goodIn_of _ (by decide +kernel)) ggX10_append_X3_isFull
set_option maxRecDepth 20000 in
theorem ggX10_append_X3_write : GoodIn wsX10_append wsX3_write := goodIn_ca (goodIn_r _ [13, 14, 9, 15, 5, 6, 7, 8, 26, 27, 28, 29, 30] rfl (by decide +kernel)) (goodIn_sub (fun _ h => List.mem_cons_of_mem _ (List.mem_append_right _ h)) (by decide +kernel))
set_option maxRecDepth 20000 in
theorem gX10_append_X3_write : GoodIn wsX10_append (wsV RX10 273 RX3 yX3_write wsX3_write) := goodIn_app (goodIn_of _ (by decide +kernel)) ggX10_append_X3_write
theorem dX10_append_0 : decode cX10_append 0 = .ok (.aload_n 0, 1) := by decide +kernel
theorem dX10_append_1 : decode cX10_append 1 = .ok (.getfield 19, 3) := by decide +kernel
theorem dX10_append_4 : decode cX10_append 4 = .ok (.invokevirtual 265, 3) := by decide +kernel
theorem dX10_append_7 : decode cX10_append 7 = .ok (.ifCond .eq 14, 3) := by decide +kernel
theorem dX10_append_10 : decode cX10_append 10 = .ok (.new 268, 3) := by decide +kernel
theorem dX10_append_13 : decode cX10_append 13 = .ok (.dup, 1) := by decide +kernel
theorem dX10_append_14 : decode cX10_append 14 = .ok (.ldc_w 270, 3) := by decide +kernel
theorem dX10_append_17 : decode cX10_append 17 = .ok (.invokespecial 272, 3) := by decide +kernel
theorem dX10_append_20 : decode cX10_append 20 = .ok (.athrow, 1) := by decide +kernel
theorem dX10_append_21 : decode cX10_append 21 = .ok (.aload_n 0, 1) := by decide +kernel
theorem dX10_append_22 : decode cX10_append 22 = .ok (.getfield 19, 3) := by decide +kernel
theorem dX10_append_25 : decode cX10_append 25 = .ok (.iload_n 1, 1) := by decide +kernel
theorem dX10_append_26 : decode cX10_append 26 = .ok (.invokevirtual 273, 3) := by decide +kernel
theorem dX10_append_29 : decode cX10_append 29 = .ok (.aload_n 0, 1) := by decide +kernel
theorem dX10_append_30 : decode cX10_append 30 = .ok (.getfield 19, 3) := by decide +kernel
theorem dX10_append_33 : decode cX10_append 33 = .ok (.getfield 277, 3) := by decide +kernel
theorem dX10_append_36 : decode cX10_append 36 = .ok (.ireturn, 1) := by decide +kernel
set_option maxRecDepth 20000 in
theorem ggX10_commands_X3_findFault : GoodIn wsX10_commands wsX3_findFault := goodIn_ca (goodIn_r _ [12, 13, 14, 15, 16, 17, 11, 18, 19, 20, 21, 22, 23, 24, 25, 26, 27, 28, 29, 30, 31, 32, 33, 34, 35, 36, 37, 38, 39, 40, 41, 42, 43, 44, 45, 46, 47, 48, 49, 50, 51, 52, 53, 54, 55, 56, 57, 58, 59, 60, 61, 62, 63, 64, 65, 66, 67, 68, 69, 70, 71, 72, 73, 74, 75, 76, 77, 78, 79, 80, 81, 82, 83, 84, 85, 86, 87, 88, 89, 90, 91, 92, 424, 425, 426, 427, 428, 429, 430, 431, 432] rfl (by decide +kernel)) (goodIn_sub (fun _ h => List.mem_cons_of_mem _ (List.mem_append_left _ (List.mem_append_right _ h))) (by decide +kernel))
set_option maxRecDepth 20000 in
theorem gX10_commands_X3_findFault : GoodIn wsX10_commands (wsV RX10 280 RX3 yX3_findFault wsX3_findFault) := goodIn_app (goodIn_of _ (by decide +kernel)) ggX10_commands_X3_findFault
set_option maxRecDepth 20000 in
theorem ggX10_commands_X3_clear : GoodIn wsX10_commands wsX3_clear := goodIn_r _ [96, 14, 424, 425, 426, 427, 428] rfl (by decide +kernel)
set_option maxRecDepth 20000 in
theorem gX10_commands_X3_clear : GoodIn wsX10_commands (wsV RX10 283 RX3 yX3_clear wsX3_clear) := goodIn_app (goodIn_of _ (by decide +kernel)) ggX10_commands_X3_clear
set_option maxRecDepth 20000 in
theorem ggX10_commands_X3_countCommands : GoodIn wsX10_commands wsX3_countCommands := goodIn_ca (goodIn_r _ [100, 14, 23, 424, 425, 426, 427, 428] rfl (by decide +kernel)) (goodIn_sub (fun _ h => List.mem_cons_of_mem _ (List.mem_append_left _ (List.mem_append_right _ h))) (by decide +kernel))
set_option maxRecDepth 20000 in
theorem gX10_commands_X3_countCommands : GoodIn wsX10_commands (wsV RX10 288 RX3 yX3_countCommands wsX3_countCommands) := goodIn_app (goodIn_of _ (by decide +kernel)) ggX10_commands_X3_countCommands
set_option maxRecDepth 20000 in
theorem ggX10_commands_X8_copyFrom : GoodIn wsX10_commands wsX8_copyFrom := goodIn_r _ [105, 106, 107, 108, 109, 110, 111, 112, 113, 114, 115, 116, 117, 118, 119, 120, 121, 122, 123, 124, 125, 126, 127, 128, 433, 434, 435, 436, 437, 438, 439, 440, 441, 442, 443, 444, 445] rfl (by decide +kernel)
set_option maxRecDepth 20000 in
theorem gX10_commands_X8_copyFrom : GoodIn wsX10_commands (wsV RX10 252 RX8 yX8_copyFrom wsX8_copyFrom) := goodIn_app (goodIn_of _ (by decide +kernel)) ggX10_commands_X8_copyFrom
set_option maxRecDepth 20000 in
theorem ggX10_commands_X10_tryCommands : GoodIn wsX10_commands wsX10_tryCommands := goodIn_ca (goodIn_r _ [133, 3, 5, 134, 135, 136, 137, 16, 17, 11, 18, 13, 138, 20, 21, 22, 14, 23, 24, 25, 26, 27, 28, 29, 30, 31, 32, 33, 34, 35, 36, 37, 38, 39, 40, 41, 42, 43, 44, 45, 46, 47, 48, 49, 50, 51, 52, 53, 54, 55, 56, 57, 58, 59, 60, 61, 62, 63, 64, 65, 66, 67, 68, 69, 70, 71, 72, 73, 74, 75, 76, 77, 78, 79, 80, 81, 82, 83, 84, 85, 86, 87, 88, 139, 140, 141, 142, 143, 144, 145, 104, 146, 147, 114, 113, 148, 149, 150, 151, 152, 153, 154, 155, 156, 157, 158, 159, 160, 161, 162, 163, 164, 165, 166, 167, 168, 169, 170, 171, 172, 173, 174, 175, 176, 177, 178, 179, 180, 181, 182, 183, 111, 184, 185, 186, 187, 188, 189, 190, 191, 192, 193, 194, 106, 195, 196, 197, 198, 199, 200, 201, 202, 203, 204, 205, 206, 207, 126, 208, 209, 210, 211, 115, 112, 118, 212, 213, 214, 215, 216, 217, 218, 219, 220, 221, 222, 223, 224, 225, 226, 227, 228, 229, 230, 231, 232, 233, 234, 235, 236, 237, 238, 239, 240, 241, 242, 243, 244, 245, 246, 247, 248, 249, 250, 251, 252, 253, 254, 255, 256, 257, 258, 259, 260, 261, 262, 263, 264, 265, 266, 267, 268, 269, 270, 271, 272, 273, 274, 275, 276, 277, 278, 279, 280, 281, 282, 283, 284, 285, 286, 287, 288, 289, 290, 291, 292, 293, 294, 295, 296, 297, 298, 299, 300, 301, 302, 303, 304, 305, 306, 307, 308, 309, 108, 109, 110, 310, 311, 312, 313, 314, 315, 316, 122, 317, 125, 318, 124, 128, 319, 320, 321, 322, 323, 324, 325, 326, 327, 328, 329, 330, 331, 332, 333, 334, 335, 336, 337, 338, 339, 340, 341, 117, 342, 343, 344, 345, 346, 347, 348, 349, 350, 351, 352, 353, 354, 355, 356, 357, 358, 359, 360, 361, 362, 363, 364, 365, 366, 367, 368, 369, 370, 371, 372, 373, 374, 375, 376, 377, 378, 379, 380, 381, 382, 383, 384, 385, 127, 386, 387, 388, 389, 390, 391, 392, 393, 116, 394, 395, 396, 90, 91, 92, 414, 415, 416, 417, 418, 419, 420, 421, 422, 423, 424, 425, 426, 427, 428, 446, 447, 448, 429, 430, 431, 432, 433, 434, 435, 436, 437, 438, 439, 440, 441, 442, 443, 444, 445, 449, 450, 451, 452, 453, 454, 455, 456, 457] rfl (by decide +kernel)) (goodIn_sub (fun _ h => List.mem_cons_of_mem _ (List.mem_append_left _ (List.mem_append_right _ h))) (by decide +kernel))
set_option maxRecDepth 20000 in
theorem gX10_commands_X10_tryCommands : GoodIn wsX10_commands (wsV RX10 291 RX10 yX10_tryCommands wsX10_tryCommands) := goodIn_app (goodIn_of _ (by decide +kernel)) ggX10_commands_X10_tryCommands
set_option maxRecDepth 20000 in
theorem ggX10_commands_X10_heed : GoodIn wsX10_commands wsX10_heed := goodIn_ca (goodIn_r _ [400, 401, 402, 403, 414, 415, 416, 417, 418, 419, 420, 421, 422, 423] rfl (by decide +kernel)) (goodIn_sub (fun _ h => List.mem_cons_of_mem _ (List.mem_append_right _ h)) (by decide +kernel))
set_option maxRecDepth 20000 in
theorem gX10_commands_X10_heed : GoodIn wsX10_commands (wsV RX10 96 RX10 yX10_heed wsX10_heed) := goodIn_app (goodIn_of _ (by decide +kernel)) ggX10_commands_X10_heed
set_option maxRecDepth 20000 in
theorem ggX10_commands_X4_keep : GoodIn wsX10_commands wsX4_keep := goodIn_r _ [408, 409, 410, 411, 412, 307, 282, 308, 413, 102, 103, 104, 105, 106, 107, 108, 109, 110, 111, 112, 113, 114, 115, 116, 117, 118, 119, 120, 121, 122, 123, 124, 125, 126, 127, 128, 458, 459, 460, 433, 434, 435, 436, 437, 438, 439, 440, 441, 442, 443, 444, 445] rfl (by decide +kernel)
set_option maxRecDepth 20000 in
theorem gX10_commands_X4_keep : GoodIn wsX10_commands (wsV RX10 100 RX4 yX4_keep wsX4_keep) := goodIn_app (goodIn_of _ (by decide +kernel)) ggX10_commands_X4_keep
theorem dX10_commands_0 : decode cX10_commands 0 = .ok (.aload_n 0, 1) := by decide +kernel
theorem dX10_commands_1 : decode cX10_commands 1 = .ok (.aload_n 0, 1) := by decide +kernel
theorem dX10_commands_2 : decode cX10_commands 2 = .ok (.getfield 19, 3) := by decide +kernel
theorem dX10_commands_5 : decode cX10_commands 5 = .ok (.invokevirtual 280, 3) := by decide +kernel
theorem dX10_commands_8 : decode cX10_commands 8 = .ok (.putfield 34, 3) := by decide +kernel
theorem dX10_commands_11 : decode cX10_commands 11 = .ok (.aload_n 0, 1) := by decide +kernel
theorem dX10_commands_12 : decode cX10_commands 12 = .ok (.getfield 34, 3) := by decide +kernel
theorem dX10_commands_15 : decode cX10_commands 15 = .ok (.iconst (-1), 1) := by decide +kernel
theorem dX10_commands_16 : decode cX10_commands 16 = .ok (.if_icmp .eq 21, 3) := by decide +kernel
theorem dX10_commands_19 : decode cX10_commands 19 = .ok (.aload_n 0, 1) := by decide +kernel
theorem dX10_commands_20 : decode cX10_commands 20 = .ok (.getfield 19, 3) := by decide +kernel
theorem dX10_commands_23 : decode cX10_commands 23 = .ok (.invokevirtual 283, 3) := by decide +kernel
theorem dX10_commands_26 : decode cX10_commands 26 = .ok (.new 149, 3) := by decide +kernel
theorem dX10_commands_29 : decode cX10_commands 29 = .ok (.dup, 1) := by decide +kernel
theorem dX10_commands_30 : decode cX10_commands 30 = .ok (.ldc_w 286, 3) := by decide +kernel
theorem dX10_commands_33 : decode cX10_commands 33 = .ok (.invokespecial 153, 3) := by decide +kernel
theorem dX10_commands_36 : decode cX10_commands 36 = .ok (.athrow, 1) := by decide +kernel
theorem dX10_commands_37 : decode cX10_commands 37 = .ok (.aload_n 0, 1) := by decide +kernel
theorem dX10_commands_38 : decode cX10_commands 38 = .ok (.getfield 19, 3) := by decide +kernel
theorem dX10_commands_41 : decode cX10_commands 41 = .ok (.invokevirtual 288, 3) := by decide +kernel
theorem dX10_commands_44 : decode cX10_commands 44 = .ok (.istore_n 1, 1) := by decide +kernel
theorem dX10_commands_45 : decode cX10_commands 45 = .ok (.aload_n 0, 1) := by decide +kernel
theorem dX10_commands_46 : decode cX10_commands 46 = .ok (.getfield 54, 3) := by decide +kernel
theorem dX10_commands_49 : decode cX10_commands 49 = .ok (.aload_n 0, 1) := by decide +kernel
theorem dX10_commands_50 : decode cX10_commands 50 = .ok (.getfield 50, 3) := by decide +kernel
theorem dX10_commands_53 : decode cX10_commands 53 = .ok (.invokevirtual 252, 3) := by decide +kernel
theorem dX10_commands_56 : decode cX10_commands 56 = .ok (.aload_n 0, 1) := by decide +kernel
theorem dX10_commands_57 : decode cX10_commands 57 = .ok (.iload_n 1, 1) := by decide +kernel
theorem dX10_commands_58 : decode cX10_commands 58 = .ok (.invokevirtual 291, 3) := by decide +kernel
theorem dX10_commands_61 : decode cX10_commands 61 = .ok (.astore_n 2, 1) := by decide +kernel
theorem dX10_commands_62 : decode cX10_commands 62 = .ok (.aload_n 0, 1) := by decide +kernel
theorem dX10_commands_63 : decode cX10_commands 63 = .ok (.getfield 19, 3) := by decide +kernel
theorem dX10_commands_66 : decode cX10_commands 66 = .ok (.invokevirtual 283, 3) := by decide +kernel
theorem dX10_commands_69 : decode cX10_commands 69 = .ok (.aload_n 0, 1) := by decide +kernel
theorem dX10_commands_70 : decode cX10_commands 70 = .ok (.aload_n 2, 1) := by decide +kernel
theorem dX10_commands_71 : decode cX10_commands 71 = .ok (.invokevirtual 96, 3) := by decide +kernel
theorem dX10_commands_74 : decode cX10_commands 74 = .ok (.aload_n 0, 1) := by decide +kernel
theorem dX10_commands_75 : decode cX10_commands 75 = .ok (.getfield 63, 3) := by decide +kernel
theorem dX10_commands_78 : decode cX10_commands 78 = .ok (.aload_n 0, 1) := by decide +kernel
theorem dX10_commands_79 : decode cX10_commands 79 = .ok (.getfield 50, 3) := by decide +kernel
theorem dX10_commands_82 : decode cX10_commands 82 = .ok (.invokevirtual 100, 3) := by decide +kernel
theorem dX10_commands_85 : decode cX10_commands 85 = .ok (.aload_n 0, 1) := by decide +kernel
theorem dX10_commands_86 : decode cX10_commands 86 = .ok (.getfield 50, 3) := by decide +kernel
theorem dX10_commands_89 : decode cX10_commands 89 = .ok (.aload_n 0, 1) := by decide +kernel
theorem dX10_commands_90 : decode cX10_commands 90 = .ok (.getfield 54, 3) := by decide +kernel
theorem dX10_commands_93 : decode cX10_commands 93 = .ok (.invokevirtual 252, 3) := by decide +kernel
theorem dX10_commands_96 : decode cX10_commands 96 = .ok (.iload_n 1, 1) := by decide +kernel
theorem dX10_commands_97 : decode cX10_commands 97 = .ok (.ireturn, 1) := by decide +kernel
set_option maxRecDepth 20000 in
theorem ggX10_tryCommands_X3_toStart : GoodIn wsX10_tryCommands wsX3_toStart := goodIn_r _ [10, 11, 373, 374, 375, 376, 377] rfl (by decide +kernel)
set_option maxRecDepth 20000 in
theorem gX10_tryCommands_X3_toStart : GoodIn wsX10_tryCommands (wsV RX10 295 RX3 yX3_toStart wsX3_toStart) := goodIn_app (goodIn_of _ (by decide +kernel)) ggX10_tryCommands_X3_toStart
set_option maxRecDepth 20000 in
theorem ggX10_tryCommands_X3_readCommand : GoodIn wsX10_tryCommands wsX3_readCommand := goodIn_ca (goodIn_r _ [15, 11, 16, 17, 18, 19, 20, 21, 22, 23, 24, 25, 26, 27, 28, 29, 30, 31, 32, 33, 34, 35, 36, 37, 38, 39, 40, 41, 42, 43, 44, 45, 46, 47, 48, 49, 50, 51, 52, 53, 54, 55, 56, 57, 58, 59, 60, 61, 62, 63, 64, 65, 66, 67, 68, 69, 70, 71, 72, 73, 74, 75, 76, 77, 78, 79, 80, 81, 9, 82, 373, 374, 375, 376, 377, 381, 382, 383, 384] rfl (by decide +kernel)) (goodIn_sub (fun _ h => List.mem_cons_of_mem _ (List.mem_append_right _ h)) (by decide +kernel))
set_option maxRecDepth 20000 in
theorem gX10_tryCommands_X3_readCommand : GoodIn wsX10_tryCommands (wsV RX10 298 RX3 yX3_readCommand wsX3_readCommand) := goodIn_app (goodIn_of _ (by decide +kernel)) ggX10_tryCommands_X3_readCommand
set_option maxRecDepth 20000 in
theorem ggX10_tryCommands_X3_number : GoodIn wsX10_tryCommands wsX3_number := goodIn_ca (goodIn_r _ [86, 19, 373, 374, 375, 376, 377] rfl (by decide +kernel)) (goodIn_sub (fun _ h => List.mem_cons_of_mem _ (List.mem_append_right _ h)) (by decide +kernel))
set_option maxRecDepth 20000 in
theorem gX10_tryCommands_X3_number : GoodIn wsX10_tryCommands (wsV RX10 303 RX3 yX3_number wsX3_number) := goodIn_app (goodIn_of _ (by decide +kernel)) ggX10_tryCommands_X3_number
set_option maxRecDepth 20000 in
theorem ggX10_tryCommands_X8_against : GoodIn wsX10_tryCommands wsX8_against := goodIn_ca (goodIn_r _ [91, 92, 93, 94, 95, 96, 97, 98, 99, 100, 101, 102, 103, 90, 104, 105, 4, 5, 106, 107, 108, 109, 110, 111, 112, 113, 114, 115, 116, 117, 118, 119, 120, 121, 122, 123, 124, 125, 126, 127, 128, 129, 130, 131, 132, 133, 134, 135, 136, 137, 138, 139, 140, 141, 142, 143, 385, 386, 387, 388, 389, 390, 391, 392, 393, 394, 395, 396, 397, 378, 379, 380] rfl (by decide +kernel)) (goodIn_sub (fun _ h => List.mem_cons_of_mem _ (List.mem_append_right _ h)) (by decide +kernel))
set_option maxRecDepth 20000 in
theorem gX10_tryCommands_X8_against : GoodIn wsX10_tryCommands (wsV RX10 92 RX8 yX8_against wsX8_against) := goodIn_app (goodIn_of _ (by decide +kernel)) ggX10_tryCommands_X8_against
set_option maxRecDepth 20000 in
theorem ggX10_tryCommands_X7_init : GoodIn wsX10_tryCommands wsX7_init := goodIn_r _ [108, 109, 110, 111, 112, 113, 114, 378, 379, 380] rfl (by decide +kernel)
set_option maxRecDepth 20000 in
theorem gX10_tryCommands_X7_init : GoodIn wsX10_tryCommands (wsX7_init) := ggX10_tryCommands_X7_init
set_option maxRecDepth 20000 in
theorem ggX10_tryCommands_X8_carryOut : GoodIn wsX10_tryCommands wsX8_carryOut := goodIn_ca (goodIn_r _ [148, 92, 94, 95, 96, 97, 98, 99, 100, 101, 149, 150, 151, 90, 152, 93, 153, 154, 155, 156, 157, 158, 159, 160, 161, 162, 163, 164, 165, 166, 167, 168, 131, 143, 123, 124, 125, 126, 132, 133, 134, 127, 128, 129, 130, 169, 170, 171, 172, 173, 174, 175, 176, 177, 178, 179, 180, 181, 182, 183, 184, 185, 186, 187, 188, 189, 190, 191, 192, 193, 194, 195, 59, 60, 61, 196, 197, 198, 199, 200, 201, 202, 203, 204, 110, 111, 205, 206, 207, 208, 209, 210, 211, 212, 213, 214, 215, 216, 217, 218, 219, 220, 221, 222, 223, 224, 225, 226, 227, 228, 229, 230, 231, 232, 233, 234, 235, 236, 237, 238, 239, 240, 241, 242, 243, 244, 245, 246, 247, 248, 28, 249, 250, 251, 252, 253, 254, 255, 256, 257, 258, 259, 260, 261, 262, 263, 264, 265, 266, 267, 268, 269, 270, 271, 272, 273, 274, 275, 276, 277, 278, 279, 280, 281, 282, 283, 284, 285, 286, 287, 288, 289, 290, 291, 292, 293, 294, 295, 296, 297, 298, 299, 300, 301, 302, 303, 304, 305, 306, 307, 308, 309, 310, 311, 312, 313, 314, 315, 316, 317, 318, 319, 320, 321, 322, 323, 324, 325, 326, 327, 328, 329, 330, 331, 332, 333, 334, 335, 336, 337, 338, 339, 340, 341, 342, 343, 344, 345, 346, 347, 348, 349, 350, 351, 352, 353, 354, 355, 356, 357, 358, 385, 386, 387, 388, 389, 390, 391, 392, 393, 394, 395, 396, 397, 398, 399, 400, 401, 402, 403, 404, 405, 406] rfl (by decide +kernel)) (goodIn_sub (fun _ h => List.mem_cons_of_mem _ (List.mem_append_right _ h)) (by decide +kernel))
set_option maxRecDepth 20000 in
theorem gX10_tryCommands_X8_carryOut : GoodIn wsX10_tryCommands (wsV RX10 104 RX8 yX8_carryOut wsX8_carryOut) := goodIn_app (goodIn_of _ (by decide +kernel)) ggX10_tryCommands_X8_carryOut
set_option maxRecDepth 20000 in
theorem ggX10_tryCommands_X3_skipSign : GoodIn wsX10_tryCommands wsX3_skipSign := goodIn_r _ [362, 11, 373, 374, 375, 376, 377] rfl (by decide +kernel)
set_option maxRecDepth 20000 in
theorem gX10_tryCommands_X3_skipSign : GoodIn wsX10_tryCommands (wsV RX10 311 RX3 yX3_skipSign wsX3_skipSign) := goodIn_app (goodIn_of _ (by decide +kernel)) ggX10_tryCommands_X3_skipSign
theorem dX10_tryCommands_0 : decode cX10_tryCommands 0 = .ok (.aload_n 0, 1) := by decide +kernel
theorem dX10_tryCommands_1 : decode cX10_tryCommands 1 = .ok (.getfield 19, 3) := by decide +kernel
theorem dX10_tryCommands_4 : decode cX10_tryCommands 4 = .ok (.invokevirtual 295, 3) := by decide +kernel
theorem dX10_tryCommands_7 : decode cX10_tryCommands 7 = .ok (.iconst 0, 1) := by decide +kernel
theorem dX10_tryCommands_8 : decode cX10_tryCommands 8 = .ok (.istore_n 2, 1) := by decide +kernel
theorem dX10_tryCommands_9 : decode cX10_tryCommands 9 = .ok (.iload_n 2, 1) := by decide +kernel
theorem dX10_tryCommands_10 : decode cX10_tryCommands 10 = .ok (.iload_n 1, 1) := by decide +kernel
theorem dX10_tryCommands_11 : decode cX10_tryCommands 11 = .ok (.if_icmp .ge 119, 3) := by decide +kernel
theorem dX10_tryCommands_14 : decode cX10_tryCommands 14 = .ok (.aload_n 0, 1) := by decide +kernel
theorem dX10_tryCommands_15 : decode cX10_tryCommands 15 = .ok (.getfield 19, 3) := by decide +kernel
theorem dX10_tryCommands_18 : decode cX10_tryCommands 18 = .ok (.invokevirtual 298, 3) := by decide +kernel
theorem dX10_tryCommands_21 : decode cX10_tryCommands 21 = .ok (.ifCond .eq 109, 3) := by decide +kernel
theorem dX10_tryCommands_24 : decode cX10_tryCommands 24 = .ok (.aload_n 0, 1) := by decide +kernel
theorem dX10_tryCommands_25 : decode cX10_tryCommands 25 = .ok (.getfield 19, 3) := by decide +kernel
theorem dX10_tryCommands_28 : decode cX10_tryCommands 28 = .ok (.getfield 301, 3) := by decide +kernel
theorem dX10_tryCommands_31 : decode cX10_tryCommands 31 = .ok (.astore_n 3, 1) := by decide +kernel
theorem dX10_tryCommands_32 : decode cX10_tryCommands 32 = .ok (.aload_n 0, 1) := by decide +kernel
theorem dX10_tryCommands_33 : decode cX10_tryCommands 33 = .ok (.getfield 54, 3) := by decide +kernel
theorem dX10_tryCommands_36 : decode cX10_tryCommands 36 = .ok (.aload_n 3, 1) := by decide +kernel
theorem dX10_tryCommands_37 : decode cX10_tryCommands 37 = .ok (.aload_n 0, 1) := by decide +kernel
theorem dX10_tryCommands_38 : decode cX10_tryCommands 38 = .ok (.getfield 19, 3) := by decide +kernel
theorem dX10_tryCommands_41 : decode cX10_tryCommands 41 = .ok (.iconst 0, 1) := by decide +kernel
theorem dX10_tryCommands_42 : decode cX10_tryCommands 42 = .ok (.invokevirtual 303, 3) := by decide +kernel
theorem dX10_tryCommands_45 : decode cX10_tryCommands 45 = .ok (.aload_n 0, 1) := by decide +kernel
theorem dX10_tryCommands_46 : decode cX10_tryCommands 46 = .ok (.getfield 19, 3) := by decide +kernel
theorem dX10_tryCommands_49 : decode cX10_tryCommands 49 = .ok (.iconst 1, 1) := by decide +kernel
theorem dX10_tryCommands_50 : decode cX10_tryCommands 50 = .ok (.invokevirtual 303, 3) := by decide +kernel
theorem dX10_tryCommands_53 : decode cX10_tryCommands 53 = .ok (.aload_n 0, 1) := by decide +kernel
theorem dX10_tryCommands_54 : decode cX10_tryCommands 54 = .ok (.getfield 19, 3) := by decide +kernel
theorem dX10_tryCommands_57 : decode cX10_tryCommands 57 = .ok (.iconst 2, 1) := by decide +kernel
theorem dX10_tryCommands_58 : decode cX10_tryCommands 58 = .ok (.invokevirtual 303, 3) := by decide +kernel
theorem dX10_tryCommands_61 : decode cX10_tryCommands 61 = .ok (.invokevirtual 92, 3) := by decide +kernel
theorem dX10_tryCommands_64 : decode cX10_tryCommands 64 = .ok (.astore 4, 2) := by decide +kernel
theorem dX10_tryCommands_66 : decode cX10_tryCommands 66 = .ok (.aload 4, 2) := by decide +kernel
theorem dX10_tryCommands_68 : decode cX10_tryCommands 68 = .ok (.ifnull 16, 3) := by decide +kernel
theorem dX10_tryCommands_71 : decode cX10_tryCommands 71 = .ok (.new 306, 3) := by decide +kernel
theorem dX10_tryCommands_74 : decode cX10_tryCommands 74 = .ok (.dup, 1) := by decide +kernel
theorem dX10_tryCommands_75 : decode cX10_tryCommands 75 = .ok (.bipush 8, 2) := by decide +kernel
theorem dX10_tryCommands_77 : decode cX10_tryCommands 77 = .ok (.iload_n 2, 1) := by decide +kernel
theorem dX10_tryCommands_78 : decode cX10_tryCommands 78 = .ok (.aload 4, 2) := by decide +kernel
theorem dX10_tryCommands_80 : decode cX10_tryCommands 80 = .ok (.invokespecial 308, 3) := by decide +kernel
theorem dX10_tryCommands_83 : decode cX10_tryCommands 83 = .ok (.areturn, 1) := by decide +kernel
theorem dX10_tryCommands_84 : decode cX10_tryCommands 84 = .ok (.aload_n 0, 1) := by decide +kernel
theorem dX10_tryCommands_85 : decode cX10_tryCommands 85 = .ok (.getfield 54, 3) := by decide +kernel
theorem dX10_tryCommands_88 : decode cX10_tryCommands 88 = .ok (.aload_n 3, 1) := by decide +kernel
theorem dX10_tryCommands_89 : decode cX10_tryCommands 89 = .ok (.aload_n 0, 1) := by decide +kernel
theorem dX10_tryCommands_90 : decode cX10_tryCommands 90 = .ok (.getfield 19, 3) := by decide +kernel
theorem dX10_tryCommands_93 : decode cX10_tryCommands 93 = .ok (.iconst 0, 1) := by decide +kernel
theorem dX10_tryCommands_94 : decode cX10_tryCommands 94 = .ok (.invokevirtual 303, 3) := by decide +kernel
theorem dX10_tryCommands_97 : decode cX10_tryCommands 97 = .ok (.aload_n 0, 1) := by decide +kernel
theorem dX10_tryCommands_98 : decode cX10_tryCommands 98 = .ok (.getfield 19, 3) := by decide +kernel
theorem dX10_tryCommands_101 : decode cX10_tryCommands 101 = .ok (.iconst 1, 1) := by decide +kernel
theorem dX10_tryCommands_102 : decode cX10_tryCommands 102 = .ok (.invokevirtual 303, 3) := by decide +kernel
theorem dX10_tryCommands_105 : decode cX10_tryCommands 105 = .ok (.aload_n 0, 1) := by decide +kernel
theorem dX10_tryCommands_106 : decode cX10_tryCommands 106 = .ok (.getfield 19, 3) := by decide +kernel
theorem dX10_tryCommands_109 : decode cX10_tryCommands 109 = .ok (.iconst 2, 1) := by decide +kernel
theorem dX10_tryCommands_110 : decode cX10_tryCommands 110 = .ok (.invokevirtual 303, 3) := by decide +kernel
theorem dX10_tryCommands_113 : decode cX10_tryCommands 113 = .ok (.invokevirtual 104, 3) := by decide +kernel
theorem dX10_tryCommands_116 : decode cX10_tryCommands 116 = .ok (.pop, 1) := by decide +kernel
theorem dX10_tryCommands_117 : decode cX10_tryCommands 117 = .ok (.aload_n 0, 1) := by decide +kernel
theorem dX10_tryCommands_118 : decode cX10_tryCommands 118 = .ok (.getfield 19, 3) := by decide +kernel
theorem dX10_tryCommands_121 : decode cX10_tryCommands 121 = .ok (.invokevirtual 311, 3) := by decide +kernel
theorem dX10_tryCommands_124 : decode cX10_tryCommands 124 = .ok (.iinc 2 1, 3) := by decide +kernel
theorem dX10_tryCommands_127 : decode cX10_tryCommands 127 = .ok (.goto (-118), 3) := by decide +kernel
theorem dX10_tryCommands_130 : decode cX10_tryCommands 130 = .ok (.aconst_null, 1) := by decide +kernel
theorem dX10_tryCommands_131 : decode cX10_tryCommands 131 = .ok (.areturn, 1) := by decide +kernel
theorem dX10_faultPosition_0 : decode cX10_faultPosition 0 = .ok (.aload_n 0, 1) := by decide +kernel
theorem dX10_faultPosition_1 : decode cX10_faultPosition 1 = .ok (.getfield 34, 3) := by decide +kernel
theorem dX10_faultPosition_4 : decode cX10_faultPosition 4 = .ok (.ireturn, 1) := by decide +kernel
theorem dX10_reason_0 : decode cX10_reason 0 = .ok (.aload_n 0, 1) := by decide +kernel
theorem dX10_reason_1 : decode cX10_reason 1 = .ok (.getfield 38, 3) := by decide +kernel
theorem dX10_reason_4 : decode cX10_reason 4 = .ok (.astore_n 3, 1) := by decide +kernel
theorem dX10_reason_5 : decode cX10_reason 5 = .ok (.iload_n 1, 1) := by decide +kernel
theorem dX10_reason_6 : decode cX10_reason 6 = .ok (.ifCond .eq 12, 3) := by decide +kernel
theorem dX10_reason_9 : decode cX10_reason 9 = .ok (.aload_n 3, 1) := by decide +kernel
theorem dX10_reason_10 : decode cX10_reason 10 = .ok (.ifnull 8, 3) := by decide +kernel
theorem dX10_reason_13 : decode cX10_reason 13 = .ok (.aload_n 3, 1) := by decide +kernel
theorem dX10_reason_14 : decode cX10_reason 14 = .ok (.getfield 314, 3) := by decide +kernel
theorem dX10_reason_17 : decode cX10_reason 17 = .ok (.astore_n 3, 1) := by decide +kernel
theorem dX10_reason_18 : decode cX10_reason 18 = .ok (.aload_n 3, 1) := by decide +kernel
theorem dX10_reason_19 : decode cX10_reason 19 = .ok (.ifnonnull 14, 3) := by decide +kernel
theorem dX10_reason_22 : decode cX10_reason 22 = .ok (.new 158, 3) := by decide +kernel
theorem dX10_reason_25 : decode cX10_reason 25 = .ok (.dup, 1) := by decide +kernel
theorem dX10_reason_26 : decode cX10_reason 26 = .ok (.ldc_w 317, 3) := by decide +kernel
theorem dX10_reason_29 : decode cX10_reason 29 = .ok (.invokespecial 162, 3) := by decide +kernel
theorem dX10_reason_32 : decode cX10_reason 32 = .ok (.athrow, 1) := by decide +kernel
theorem dX10_reason_33 : decode cX10_reason 33 = .ok (.iload_n 2, 1) := by decide +kernel
theorem dX10_reason_34 : decode cX10_reason 34 = .ok (.ifCond .eq 10, 3) := by decide +kernel
theorem dX10_reason_37 : decode cX10_reason 37 = .ok (.aload_n 3, 1) := by decide +kernel
theorem dX10_reason_38 : decode cX10_reason 38 = .ok (.getfield 319, 3) := by decide +kernel
theorem dX10_reason_41 : decode cX10_reason 41 = .ok (.goto 7, 3) := by decide +kernel
theorem dX10_reason_44 : decode cX10_reason 44 = .ok (.aload_n 3, 1) := by decide +kernel
theorem dX10_reason_45 : decode cX10_reason 45 = .ok (.getfield 322, 3) := by decide +kernel
theorem dX10_reason_48 : decode cX10_reason 48 = .ok (.ireturn, 1) := by decide +kernel
set_option maxRecDepth 20000 in
theorem ggX10_line_X10_needSurveyor : GoodIn wsX10_line wsX10_needSurveyor := goodIn_ca (goodIn_r _ [7, 8, 9, 2, 10, 11, 12, 13, 14, 15, 257, 258, 259, 260, 261, 262, 263, 264, 265, 266, 267, 268, 269, 270, 271, 272, 273, 274, 275, 276] rfl (by decide +kernel)) (goodIn_sub (fun _ h => List.mem_cons_of_mem _ (List.mem_append_left _ (List.mem_append_right _ h))) (by decide +kernel))
set_option maxRecDepth 20000 in
theorem gX10_line_X10_needSurveyor : GoodIn wsX10_line (wsV RX10 114 RX10 yX10_needSurveyor wsX10_needSurveyor) := goodIn_app (goodIn_of _ (by decide +kernel)) ggX10_line_X10_needSurveyor
set_option maxRecDepth 20000 in
theorem ggX10_line_J4_setLength_d00df : GoodIn wsX10_line wsJ4_setLength_d00df := goodIn_r _ [20, 21, 22, 23, 24, 25, 26, 27, 28, 29, 30, 31, 32, 33, 34, 35, 36, 37, 38, 39, 40, 41, 42, 43, 44, 45, 46, 47, 48, 49, 50, 51, 52, 53, 54, 55, 56, 57, 58, 59, 60, 61, 62, 63, 64, 65, 66, 67, 68, 69, 70, 71, 72, 73, 74, 75, 76, 77, 78, 79, 80, 81, 82, 83, 84, 85, 86, 87, 88, 89, 90, 91, 92, 19, 93, 94, 95, 96, 97, 98, 99, 100, 277, 278, 279, 280, 281, 282, 283, 284, 285, 286, 287, 288, 289, 290, 291, 292] rfl (by decide +kernel)
set_option maxRecDepth 20000 in
theorem gX10_line_J4_setLength_d00df : GoodIn wsX10_line (wsV RX10 325 RJ4 yJ4_setLength_d00df wsJ4_setLength_d00df) := goodIn_app (goodIn_of _ (by decide +kernel)) ggX10_line_J4_setLength_d00df
set_option maxRecDepth 20000 in
theorem ggX10_line_X8_pageIn : GoodIn wsX10_line wsX8_pageIn := goodIn_ca (goodIn_r _ [104, 105, 106, 107, 108, 13, 109, 110, 111, 112, 113, 114, 115, 116, 117, 118, 119, 120, 121, 122, 123, 124, 125, 126, 127, 128, 129, 130, 131, 132, 133, 134, 135, 136, 137, 138, 139, 140, 267, 268, 269, 270, 271, 272, 273, 274, 275, 276, 293, 294, 295, 296, 297] rfl (by decide +kernel)) (goodIn_sub (fun _ h => List.mem_cons_of_mem _ (List.mem_append_right _ h)) (by decide +kernel))
set_option maxRecDepth 20000 in
theorem gX10_line_X8_pageIn : GoodIn wsX10_line (wsV RX10 122 RX8 yX8_pageIn wsX8_pageIn) := goodIn_app (goodIn_of _ (by decide +kernel)) ggX10_line_X8_pageIn
set_option maxRecDepth 20000 in
theorem ggX10_line_X6_isBlank : GoodIn wsX10_line wsX6_isBlank := goodIn_r _ [145, 146, 298, 299, 300, 301] rfl (by decide +kernel)
set_option maxRecDepth 20000 in
theorem gX10_line_X6_isBlank : GoodIn wsX10_line (wsV RX10 165 RX6 yX6_isBlank wsX6_isBlank) := goodIn_app (goodIn_of _ (by decide +kernel)) ggX10_line_X6_isBlank
set_option maxRecDepth 20000 in
theorem ggX10_line_X10_writePage : GoodIn wsX10_line wsX10_writePage := goodIn_ca (goodIn_r _ [150, 1, 151, 152, 153, 19, 154, 155, 156, 23, 157, 25, 158, 30, 159, 160, 161, 162, 163, 164, 165, 166, 31, 33, 34, 35, 36, 37, 38, 39, 40, 41, 42, 43, 44, 45, 46, 47, 48, 49, 50, 51, 52, 53, 54, 55, 56, 57, 58, 59, 60, 61, 62, 63, 64, 65, 66, 67, 68, 69, 70, 71, 72, 73, 74, 75, 76, 77, 78, 79, 80, 167, 168, 83, 169, 170, 171, 172, 173, 174, 175, 176, 98, 177, 178, 179, 180, 181, 182, 183, 184, 185, 186, 187, 188, 189, 190, 191, 192, 193, 194, 195, 196, 197, 198, 199, 200, 134, 201, 202, 203, 204, 205, 206, 207, 208, 209, 210, 211, 212, 213, 214, 215, 216, 217, 133, 135, 218, 219, 220, 221, 222, 223, 224, 225, 226, 227, 228, 229, 230, 231, 232, 233, 234, 235, 236, 237, 238, 239, 240, 241, 242, 243, 244, 245, 246, 247, 248, 249, 250, 251, 252, 253, 254, 144, 255, 256, 257, 258, 259, 260, 261, 262, 263, 264, 265, 266, 298, 299, 300, 301, 283, 284, 285, 286] rfl (by decide +kernel)) (goodIn_sub (fun _ h => List.mem_cons_of_mem _ (List.mem_append_right _ h)) (by decide +kernel))
set_option maxRecDepth 20000 in
theorem gX10_line_X10_writePage : GoodIn wsX10_line (wsV RX10 328 RX10 yX10_writePage wsX10_writePage) := goodIn_app (goodIn_of _ (by decide +kernel)) ggX10_line_X10_writePage
set_option maxRecDepth 20000 in
theorem ggX10_line_J4_length_8abf5 : GoodIn wsX10_line wsJ4_length_8abf5 := goodIn_r _ [154, 155, 156, 23, 157, 25, 158, 30, 283, 284, 285, 286] rfl (by decide +kernel)
set_option maxRecDepth 20000 in
theorem gX10_line_J4_length_8abf5 : GoodIn wsX10_line (wsV RX10 332 RJ4 yJ4_length_8abf5 wsJ4_length_8abf5) := goodIn_app (goodIn_of _ (by decide +kernel)) ggX10_line_J4_length_8abf5
theorem dX10_line_0 : decode cX10_line 0 = .ok (.aload_n 0, 1) := by decide +kernel
theorem dX10_line_1 : decode cX10_line 1 = .ok (.iload_n 1, 1) := by decide +kernel
theorem dX10_line_2 : decode cX10_line 2 = .ok (.invokevirtual 114, 3) := by decide +kernel
theorem dX10_line_5 : decode cX10_line 5 = .ok (.aload_n 0, 1) := by decide +kernel
theorem dX10_line_6 : decode cX10_line 6 = .ok (.getfield 26, 3) := by decide +kernel
theorem dX10_line_9 : decode cX10_line 9 = .ok (.iconst 0, 1) := by decide +kernel
theorem dX10_line_10 : decode cX10_line 10 = .ok (.invokevirtual 325, 3) := by decide +kernel
theorem dX10_line_13 : decode cX10_line 13 = .ok (.iconst 0, 1) := by decide +kernel
theorem dX10_line_14 : decode cX10_line 14 = .ok (.istore_n 2, 1) := by decide +kernel
theorem dX10_line_15 : decode cX10_line 15 = .ok (.iload_n 2, 1) := by decide +kernel
theorem dX10_line_16 : decode cX10_line 16 = .ok (.aload_n 0, 1) := by decide +kernel
theorem dX10_line_17 : decode cX10_line 17 = .ok (.getfield 50, 3) := by decide +kernel
theorem dX10_line_20 : decode cX10_line 20 = .ok (.getfield 238, 3) := by decide +kernel
theorem dX10_line_23 : decode cX10_line 23 = .ok (.if_icmp .ge 31, 3) := by decide +kernel
theorem dX10_line_26 : decode cX10_line 26 = .ok (.aload_n 0, 1) := by decide +kernel
theorem dX10_line_27 : decode cX10_line 27 = .ok (.getfield 50, 3) := by decide +kernel
theorem dX10_line_30 : decode cX10_line 30 = .ok (.iload_n 1, 1) := by decide +kernel
theorem dX10_line_31 : decode cX10_line 31 = .ok (.iload_n 2, 1) := by decide +kernel
theorem dX10_line_32 : decode cX10_line 32 = .ok (.invokevirtual 122, 3) := by decide +kernel
theorem dX10_line_35 : decode cX10_line 35 = .ok (.astore_n 3, 1) := by decide +kernel
theorem dX10_line_36 : decode cX10_line 36 = .ok (.aload_n 3, 1) := by decide +kernel
theorem dX10_line_37 : decode cX10_line 37 = .ok (.invokevirtual 165, 3) := by decide +kernel
theorem dX10_line_40 : decode cX10_line 40 = .ok (.ifCond .ne 8, 3) := by decide +kernel
theorem dX10_line_43 : decode cX10_line 43 = .ok (.aload_n 0, 1) := by decide +kernel
theorem dX10_line_44 : decode cX10_line 44 = .ok (.aload_n 3, 1) := by decide +kernel
theorem dX10_line_45 : decode cX10_line 45 = .ok (.invokevirtual 328, 3) := by decide +kernel
theorem dX10_line_48 : decode cX10_line 48 = .ok (.iinc 2 1, 3) := by decide +kernel
theorem dX10_line_51 : decode cX10_line 51 = .ok (.goto (-36), 3) := by decide +kernel
theorem dX10_line_54 : decode cX10_line 54 = .ok (.aload_n 0, 1) := by decide +kernel
theorem dX10_line_55 : decode cX10_line 55 = .ok (.getfield 26, 3) := by decide +kernel
theorem dX10_line_58 : decode cX10_line 58 = .ok (.invokevirtual 332, 3) := by decide +kernel
theorem dX10_line_61 : decode cX10_line 61 = .ok (.ireturn, 1) := by decide +kernel
set_option maxRecDepth 20000 in
theorem ggX10_writePage_J4_length_8abf5 : GoodIn wsX10_writePage wsJ4_length_8abf5 := goodIn_r _ [6, 7, 8, 9, 10, 11, 12, 13, 181, 182, 183, 184] rfl (by decide +kernel)
set_option maxRecDepth 20000 in
theorem gX10_writePage_J4_length_8abf5 : GoodIn wsX10_writePage (wsV RX10 332 RJ4 yJ4_length_8abf5 wsJ4_length_8abf5) := goodIn_app (goodIn_of _ (by decide +kernel)) ggX10_writePage_J4_length_8abf5
set_option maxRecDepth 20000 in
theorem ggX10_writePage_J4_append_cf468 : GoodIn wsX10_writePage wsJ4_append_cf468 := goodIn_r _ [17, 18, 19, 9, 20, 11, 21, 13, 22, 23, 24, 25, 26, 27, 28, 29, 30, 31, 32, 33, 34, 35, 36, 37, 38, 39, 40, 41, 42, 43, 44, 45, 46, 47, 48, 49, 50, 51, 52, 53, 54, 55, 56, 57, 58, 59, 60, 61, 62, 63, 64, 65, 66, 67, 68, 69, 70, 71, 72, 73, 74, 75, 76, 77, 78, 79, 80, 81, 82, 83, 84, 85, 86, 87, 88, 89, 90, 91, 92, 93, 94, 95, 96, 97, 98, 99, 100, 101, 102, 103, 104, 105, 106, 107, 108, 109, 110, 111, 112, 113, 114, 115, 116, 117, 118, 119, 120, 121, 122, 123, 124, 125, 126, 181, 182, 183, 184] rfl (by decide +kernel)
set_option maxRecDepth 20000 in
theorem gX10_writePage_J4_append_cf468 : GoodIn wsX10_writePage (wsV RX10 334 RJ4 yJ4_append_cf468 wsJ4_append_cf468) := goodIn_app (goodIn_of _ (by decide +kernel)) ggX10_writePage_J4_append_cf468
set_option maxRecDepth 20000 in
theorem ggX10_writePage_J4_append_bf812 : GoodIn wsX10_writePage wsJ4_append_bf812 := goodIn_r _ [130, 131, 132, 9, 133, 11, 134, 13, 22, 135, 136, 137, 138, 23, 24, 25, 26, 27, 28, 29, 30, 31, 32, 33, 34, 35, 36, 37, 38, 39, 40, 41, 42, 43, 44, 45, 46, 47, 48, 49, 50, 51, 52, 53, 54, 55, 56, 57, 58, 59, 60, 61, 62, 63, 64, 65, 66, 67, 68, 69, 70, 139, 140, 141, 142, 143, 144, 145, 82, 146, 112, 147, 148, 149, 97, 98, 99, 150, 151, 102, 152, 104, 153, 154, 107, 155, 156, 157, 158, 159, 160, 109, 110, 111, 113, 114, 181, 182, 183, 184] rfl (by decide +kernel)
set_option maxRecDepth 20000 in
theorem gX10_writePage_J4_append_bf812 : GoodIn wsX10_writePage (wsV RX10 338 RJ4 yJ4_append_bf812 wsJ4_append_bf812) := goodIn_app (goodIn_of _ (by decide +kernel)) ggX10_writePage_J4_append_bf812
set_option maxRecDepth 20000 in
theorem ggX10_writePage_X6_costTo : GoodIn wsX10_writePage wsX6_costTo := goodIn_ca (goodIn_r _ [165, 166, 177, 178, 179, 180] rfl (by decide +kernel)) (goodIn_sub (fun _ h => List.mem_cons_of_mem _ (List.mem_append_right _ h)) (by decide +kernel))
set_option maxRecDepth 20000 in
theorem gX10_writePage_X6_costTo : GoodIn wsX10_writePage (wsV RX10 179 RX6 yX6_costTo wsX6_costTo) := goodIn_app (goodIn_of _ (by decide +kernel)) ggX10_writePage_X6_costTo
theorem dX10_writePage_0 : decode cX10_writePage 0 = .ok (.aload_n 0, 1) := by decide +kernel
theorem dX10_writePage_1 : decode cX10_writePage 1 = .ok (.getfield 26, 3) := by decide +kernel
theorem dX10_writePage_4 : decode cX10_writePage 4 = .ok (.invokevirtual 332, 3) := by decide +kernel
theorem dX10_writePage_7 : decode cX10_writePage 7 = .ok (.ifCond .le 13, 3) := by decide +kernel
theorem dX10_writePage_10 : decode cX10_writePage 10 = .ok (.aload_n 0, 1) := by decide +kernel
theorem dX10_writePage_11 : decode cX10_writePage 11 = .ok (.getfield 26, 3) := by decide +kernel
theorem dX10_writePage_14 : decode cX10_writePage 14 = .ok (.bipush 32, 2) := by decide +kernel
theorem dX10_writePage_16 : decode cX10_writePage 16 = .ok (.invokevirtual 334, 3) := by decide +kernel
theorem dX10_writePage_19 : decode cX10_writePage 19 = .ok (.pop, 1) := by decide +kernel
theorem dX10_writePage_20 : decode cX10_writePage 20 = .ok (.aload_n 0, 1) := by decide +kernel
theorem dX10_writePage_21 : decode cX10_writePage 21 = .ok (.getfield 26, 3) := by decide +kernel
theorem dX10_writePage_24 : decode cX10_writePage 24 = .ok (.aload_n 1, 1) := by decide +kernel
theorem dX10_writePage_25 : decode cX10_writePage 25 = .ok (.getfield 202, 3) := by decide +kernel
theorem dX10_writePage_28 : decode cX10_writePage 28 = .ok (.invokevirtual 338, 3) := by decide +kernel
theorem dX10_writePage_31 : decode cX10_writePage 31 = .ok (.bipush 58, 2) := by decide +kernel
theorem dX10_writePage_33 : decode cX10_writePage 33 = .ok (.invokevirtual 334, 3) := by decide +kernel
theorem dX10_writePage_36 : decode cX10_writePage 36 = .ok (.aload_n 1, 1) := by decide +kernel
theorem dX10_writePage_37 : decode cX10_writePage 37 = .ok (.getfield 126, 3) := by decide +kernel
theorem dX10_writePage_40 : decode cX10_writePage 40 = .ok (.invokevirtual 338, 3) := by decide +kernel
theorem dX10_writePage_43 : decode cX10_writePage 43 = .ok (.pop, 1) := by decide +kernel
theorem dX10_writePage_44 : decode cX10_writePage 44 = .ok (.iconst 0, 1) := by decide +kernel
theorem dX10_writePage_45 : decode cX10_writePage 45 = .ok (.istore_n 2, 1) := by decide +kernel
theorem dX10_writePage_46 : decode cX10_writePage 46 = .ok (.iload_n 2, 1) := by decide +kernel
theorem dX10_writePage_47 : decode cX10_writePage 47 = .ok (.bipush 6, 2) := by decide +kernel
theorem dX10_writePage_49 : decode cX10_writePage 49 = .ok (.if_icmp .ge 42, 3) := by decide +kernel
theorem dX10_writePage_52 : decode cX10_writePage 52 = .ok (.aload_n 1, 1) := by decide +kernel
theorem dX10_writePage_53 : decode cX10_writePage 53 = .ok (.iload_n 2, 1) := by decide +kernel
theorem dX10_writePage_54 : decode cX10_writePage 54 = .ok (.invokevirtual 179, 3) := by decide +kernel
theorem dX10_writePage_57 : decode cX10_writePage 57 = .ok (.istore_n 3, 1) := by decide +kernel
theorem dX10_writePage_58 : decode cX10_writePage 58 = .ok (.iload_n 3, 1) := by decide +kernel
theorem dX10_writePage_59 : decode cX10_writePage 59 = .ok (.ifCond .le 26, 3) := by decide +kernel
theorem dX10_writePage_62 : decode cX10_writePage 62 = .ok (.aload_n 0, 1) := by decide +kernel
theorem dX10_writePage_63 : decode cX10_writePage 63 = .ok (.getfield 26, 3) := by decide +kernel
theorem dX10_writePage_66 : decode cX10_writePage 66 = .ok (.bipush 44, 2) := by decide +kernel
theorem dX10_writePage_68 : decode cX10_writePage 68 = .ok (.invokevirtual 334, 3) := by decide +kernel
theorem dX10_writePage_71 : decode cX10_writePage 71 = .ok (.iload_n 2, 1) := by decide +kernel
theorem dX10_writePage_72 : decode cX10_writePage 72 = .ok (.invokevirtual 338, 3) := by decide +kernel
theorem dX10_writePage_75 : decode cX10_writePage 75 = .ok (.bipush 61, 2) := by decide +kernel
theorem dX10_writePage_77 : decode cX10_writePage 77 = .ok (.invokevirtual 334, 3) := by decide +kernel
theorem dX10_writePage_80 : decode cX10_writePage 80 = .ok (.iload_n 3, 1) := by decide +kernel
theorem dX10_writePage_81 : decode cX10_writePage 81 = .ok (.invokevirtual 338, 3) := by decide +kernel
theorem dX10_writePage_84 : decode cX10_writePage 84 = .ok (.pop, 1) := by decide +kernel
theorem dX10_writePage_85 : decode cX10_writePage 85 = .ok (.iinc 2 1, 3) := by decide +kernel
theorem dX10_writePage_88 : decode cX10_writePage 88 = .ok (.goto (-42), 3) := by decide +kernel
theorem dX10_writePage_91 : decode cX10_writePage 91 = .ok (.return_, 1) := by decide +kernel
set_option maxRecDepth 20000 in
theorem ggX10_character_J4_length_8abf5 : GoodIn wsX10_character wsJ4_length_8abf5 := goodIn_r _ [8, 9, 10, 11, 12, 13, 14, 15, 59, 60, 61, 62] rfl (by decide +kernel)
set_option maxRecDepth 20000 in
theorem gX10_character_J4_length_8abf5 : GoodIn wsX10_character (wsV RX10 332 RJ4 yJ4_length_8abf5 wsJ4_length_8abf5) := goodIn_app (goodIn_of _ (by decide +kernel)) ggX10_character_J4_length_8abf5
set_option maxRecDepth 20000 in
theorem ggX10_character_J4_charAt_5068e : GoodIn wsX10_character wsJ4_charAt_5068e := goodIn_r _ [19, 20, 21, 11, 22, 13, 23, 24, 25, 15, 26, 27, 28, 29, 30, 31, 32, 33, 34, 35, 36, 37, 38, 39, 40, 41, 42, 43, 44, 45, 46, 47, 48, 59, 60, 61, 62] rfl (by decide +kernel)
set_option maxRecDepth 20000 in
theorem gX10_character_J4_charAt_5068e : GoodIn wsX10_character (wsV RX10 346 RJ4 yJ4_charAt_5068e wsJ4_charAt_5068e) := goodIn_app (goodIn_of _ (by decide +kernel)) ggX10_character_J4_charAt_5068e
theorem dX10_character_0 : decode cX10_character 0 = .ok (.iload_n 1, 1) := by decide +kernel
theorem dX10_character_1 : decode cX10_character 1 = .ok (.ifCond .lt 14, 3) := by decide +kernel
theorem dX10_character_4 : decode cX10_character 4 = .ok (.iload_n 1, 1) := by decide +kernel
theorem dX10_character_5 : decode cX10_character 5 = .ok (.aload_n 0, 1) := by decide +kernel
theorem dX10_character_6 : decode cX10_character 6 = .ok (.getfield 26, 3) := by decide +kernel
theorem dX10_character_9 : decode cX10_character 9 = .ok (.invokevirtual 332, 3) := by decide +kernel
theorem dX10_character_12 : decode cX10_character 12 = .ok (.if_icmp .lt 14, 3) := by decide +kernel
theorem dX10_character_15 : decode cX10_character 15 = .ok (.new 341, 3) := by decide +kernel
theorem dX10_character_18 : decode cX10_character 18 = .ok (.dup, 1) := by decide +kernel
theorem dX10_character_19 : decode cX10_character 19 = .ok (.ldc_w 343, 3) := by decide +kernel
theorem dX10_character_22 : decode cX10_character 22 = .ok (.invokespecial 345, 3) := by decide +kernel
theorem dX10_character_25 : decode cX10_character 25 = .ok (.athrow, 1) := by decide +kernel
theorem dX10_character_26 : decode cX10_character 26 = .ok (.aload_n 0, 1) := by decide +kernel
theorem dX10_character_27 : decode cX10_character 27 = .ok (.getfield 26, 3) := by decide +kernel
theorem dX10_character_30 : decode cX10_character 30 = .ok (.iload_n 1, 1) := by decide +kernel
theorem dX10_character_31 : decode cX10_character 31 = .ok (.invokevirtual 346, 3) := by decide +kernel
theorem dX10_character_34 : decode cX10_character 34 = .ok (.ireturn, 1) := by decide +kernel
set_option maxRecDepth 20000 in
theorem ggX10_meanCost_X8_countCanals : GoodIn wsX10_meanCost wsX8_countCanals := goodIn_ca (goodIn_r _ [8, 9, 10, 11, 12, 7, 13, 14, 15, 16, 17, 18, 19, 20, 21, 36, 37, 38, 39, 40, 41, 42, 43, 44, 45] rfl (by decide +kernel)) (goodIn_sub (fun _ h => List.mem_cons_of_mem _ (List.mem_append_right _ h)) (by decide +kernel))
set_option maxRecDepth 20000 in
theorem gX10_meanCost_X8_countCanals : GoodIn wsX10_meanCost (wsV RX10 350 RX8 yX8_countCanals wsX8_countCanals) := goodIn_app (goodIn_of _ (by decide +kernel)) ggX10_meanCost_X8_countCanals
set_option maxRecDepth 20000 in
theorem ggX10_meanCost_X8_sumOfCosts : GoodIn wsX10_meanCost wsX8_sumOfCosts := goodIn_ca (goodIn_r _ [25, 9, 14, 15, 16, 7, 17, 18, 19, 20, 21, 36, 37, 38, 39, 40, 41, 42, 43, 44, 45] rfl (by decide +kernel)) (goodIn_sub (fun _ h => List.mem_cons_of_mem _ (List.mem_append_right _ h)) (by decide +kernel))
set_option maxRecDepth 20000 in
theorem gX10_meanCost_X8_sumOfCosts : GoodIn wsX10_meanCost (wsV RX10 358 RX8 yX8_sumOfCosts wsX8_sumOfCosts) := goodIn_app (goodIn_of _ (by decide +kernel)) ggX10_meanCost_X8_sumOfCosts
theorem dX10_meanCost_0 : decode cX10_meanCost 0 = .ok (.aload_n 0, 1) := by decide +kernel
theorem dX10_meanCost_1 : decode cX10_meanCost 1 = .ok (.getfield 50, 3) := by decide +kernel
theorem dX10_meanCost_4 : decode cX10_meanCost 4 = .ok (.invokevirtual 350, 3) := by decide +kernel
theorem dX10_meanCost_7 : decode cX10_meanCost 7 = .ok (.istore_n 1, 1) := by decide +kernel
theorem dX10_meanCost_8 : decode cX10_meanCost 8 = .ok (.iload_n 1, 1) := by decide +kernel
theorem dX10_meanCost_9 : decode cX10_meanCost 9 = .ok (.ifCond .ne 14, 3) := by decide +kernel
theorem dX10_meanCost_12 : decode cX10_meanCost 12 = .ok (.new 353, 3) := by decide +kernel
theorem dX10_meanCost_15 : decode cX10_meanCost 15 = .ok (.dup, 1) := by decide +kernel
theorem dX10_meanCost_16 : decode cX10_meanCost 16 = .ok (.ldc_w 355, 3) := by decide +kernel
theorem dX10_meanCost_19 : decode cX10_meanCost 19 = .ok (.invokespecial 357, 3) := by decide +kernel
theorem dX10_meanCost_22 : decode cX10_meanCost 22 = .ok (.athrow, 1) := by decide +kernel
theorem dX10_meanCost_23 : decode cX10_meanCost 23 = .ok (.aload_n 0, 1) := by decide +kernel
theorem dX10_meanCost_24 : decode cX10_meanCost 24 = .ok (.getfield 50, 3) := by decide +kernel
theorem dX10_meanCost_27 : decode cX10_meanCost 27 = .ok (.invokevirtual 358, 3) := by decide +kernel
theorem dX10_meanCost_30 : decode cX10_meanCost 30 = .ok (.i2d, 1) := by decide +kernel
theorem dX10_meanCost_31 : decode cX10_meanCost 31 = .ok (.iload_n 1, 1) := by decide +kernel
theorem dX10_meanCost_32 : decode cX10_meanCost 32 = .ok (.i2d, 1) := by decide +kernel
theorem dX10_meanCost_33 : decode cX10_meanCost 33 = .ok (.ddiv, 1) := by decide +kernel
theorem dX10_meanCost_34 : decode cX10_meanCost 34 = .ok (.dreturn, 1) := by decide +kernel
theorem dX10_lostShare_0 : decode cX10_lostShare 0 = .ok (.aload_n 0, 1) := by decide +kernel
theorem dX10_lostShare_1 : decode cX10_lostShare 1 = .ok (.getfield 50, 3) := by decide +kernel
theorem dX10_lostShare_4 : decode cX10_lostShare 4 = .ok (.getfield 140, 3) := by decide +kernel
theorem dX10_lostShare_7 : decode cX10_lostShare 7 = .ok (.getfield 361, 3) := by decide +kernel
theorem dX10_lostShare_10 : decode cX10_lostShare 10 = .ok (.ifCond .ne 14, 3) := by decide +kernel
theorem dX10_lostShare_13 : decode cX10_lostShare 13 = .ok (.new 353, 3) := by decide +kernel
theorem dX10_lostShare_16 : decode cX10_lostShare 16 = .ok (.dup, 1) := by decide +kernel
theorem dX10_lostShare_17 : decode cX10_lostShare 17 = .ok (.ldc_w 364, 3) := by decide +kernel
theorem dX10_lostShare_20 : decode cX10_lostShare 20 = .ok (.invokespecial 357, 3) := by decide +kernel
theorem dX10_lostShare_23 : decode cX10_lostShare 23 = .ok (.athrow, 1) := by decide +kernel
theorem dX10_lostShare_24 : decode cX10_lostShare 24 = .ok (.aload_n 0, 1) := by decide +kernel
theorem dX10_lostShare_25 : decode cX10_lostShare 25 = .ok (.getfield 50, 3) := by decide +kernel
theorem dX10_lostShare_28 : decode cX10_lostShare 28 = .ok (.getfield 366, 3) := by decide +kernel
theorem dX10_lostShare_31 : decode cX10_lostShare 31 = .ok (.i2f, 1) := by decide +kernel
theorem dX10_lostShare_32 : decode cX10_lostShare 32 = .ok (.aload_n 0, 1) := by decide +kernel
theorem dX10_lostShare_33 : decode cX10_lostShare 33 = .ok (.getfield 50, 3) := by decide +kernel
theorem dX10_lostShare_36 : decode cX10_lostShare 36 = .ok (.getfield 140, 3) := by decide +kernel
theorem dX10_lostShare_39 : decode cX10_lostShare 39 = .ok (.getfield 361, 3) := by decide +kernel
theorem dX10_lostShare_42 : decode cX10_lostShare 42 = .ok (.i2f, 1) := by decide +kernel
theorem dX10_lostShare_43 : decode cX10_lostShare 43 = .ok (.fdiv, 1) := by decide +kernel
theorem dX10_lostShare_44 : decode cX10_lostShare 44 = .ok (.freturn, 1) := by decide +kernel
set_option maxRecDepth 20000 in
theorem ggX10_account_X8_countCanals : GoodIn wsX10_account wsX8_countCanals := goodIn_ca (goodIn_r _ [10, 11, 12, 13, 14, 9, 15, 16, 17, 18, 19, 20, 21, 22, 23, 85, 86, 87, 88, 89, 90, 91, 92, 93, 94] rfl (by decide +kernel)) (goodIn_sub (fun _ h => List.mem_cons_of_mem _ (List.mem_append_right _ h)) (by decide +kernel))
set_option maxRecDepth 20000 in
theorem gX10_account_X8_countCanals : GoodIn wsX10_account (wsV RX10 350 RX8 yX8_countCanals wsX8_countCanals) := goodIn_app (goodIn_of _ (by decide +kernel)) ggX10_account_X8_countCanals
set_option maxRecDepth 20000 in
theorem ggX10_account_X8_countPages : GoodIn wsX10_account wsX8_countPages := goodIn_ca (goodIn_r _ [27, 11, 28, 29, 30, 9, 31, 32, 33, 34, 35, 36, 37, 21, 22, 23, 38, 39, 40, 41, 42, 43, 44, 45, 46, 47, 48, 49, 50, 51, 52, 53, 54, 55, 56, 57, 58, 59, 60, 61, 62, 63, 64, 65, 66, 67, 68, 69, 70, 71, 72, 73, 74, 85, 86, 87, 88, 89, 90, 91, 92, 93, 94, 106, 107, 108, 109, 110, 111, 112, 113, 114] rfl (by decide +kernel)) (goodIn_sub (fun _ h => List.mem_cons_of_mem _ (List.mem_append_right _ h)) (by decide +kernel))
set_option maxRecDepth 20000 in
theorem gX10_account_X8_countPages : GoodIn wsX10_account (wsV RX10 378 RX8 yX8_countPages wsX8_countPages) := goodIn_app (goodIn_of _ (by decide +kernel)) ggX10_account_X8_countPages
theorem dX10_account_0 : decode cX10_account 0 = .ok (.iload_n 1, 1) := by decide +kernel
theorem dX10_account_1 : decode cX10_account 1 = .ok (.tableswitch 153 0 10 #[59, 67, 75, 83, 94, 105, 113, 121, 129, 137, 145], 59) := by decide +kernel
theorem dX10_account_60 : decode cX10_account 60 = .ok (.aload_n 0, 1) := by decide +kernel
theorem dX10_account_61 : decode cX10_account 61 = .ok (.getfield 50, 3) := by decide +kernel
theorem dX10_account_64 : decode cX10_account 64 = .ok (.getfield 369, 3) := by decide +kernel
theorem dX10_account_67 : decode cX10_account 67 = .ok (.ireturn, 1) := by decide +kernel
theorem dX10_account_68 : decode cX10_account 68 = .ok (.aload_n 0, 1) := by decide +kernel
theorem dX10_account_69 : decode cX10_account 69 = .ok (.getfield 50, 3) := by decide +kernel
theorem dX10_account_72 : decode cX10_account 72 = .ok (.getfield 238, 3) := by decide +kernel
theorem dX10_account_75 : decode cX10_account 75 = .ok (.ireturn, 1) := by decide +kernel
theorem dX10_account_76 : decode cX10_account 76 = .ok (.aload_n 0, 1) := by decide +kernel
theorem dX10_account_77 : decode cX10_account 77 = .ok (.getfield 50, 3) := by decide +kernel
theorem dX10_account_80 : decode cX10_account 80 = .ok (.invokevirtual 350, 3) := by decide +kernel
theorem dX10_account_83 : decode cX10_account 83 = .ok (.ireturn, 1) := by decide +kernel
theorem dX10_account_84 : decode cX10_account 84 = .ok (.aload_n 0, 1) := by decide +kernel
theorem dX10_account_85 : decode cX10_account 85 = .ok (.getfield 50, 3) := by decide +kernel
theorem dX10_account_88 : decode cX10_account 88 = .ok (.getfield 140, 3) := by decide +kernel
theorem dX10_account_91 : decode cX10_account 91 = .ok (.getfield 249, 3) := by decide +kernel
theorem dX10_account_94 : decode cX10_account 94 = .ok (.ireturn, 1) := by decide +kernel
theorem dX10_account_95 : decode cX10_account 95 = .ok (.aload_n 0, 1) := by decide +kernel
theorem dX10_account_96 : decode cX10_account 96 = .ok (.getfield 50, 3) := by decide +kernel
theorem dX10_account_99 : decode cX10_account 99 = .ok (.getfield 140, 3) := by decide +kernel
theorem dX10_account_102 : decode cX10_account 102 = .ok (.getfield 361, 3) := by decide +kernel
theorem dX10_account_105 : decode cX10_account 105 = .ok (.ireturn, 1) := by decide +kernel
theorem dX10_account_106 : decode cX10_account 106 = .ok (.aload_n 0, 1) := by decide +kernel
theorem dX10_account_107 : decode cX10_account 107 = .ok (.getfield 50, 3) := by decide +kernel
theorem dX10_account_110 : decode cX10_account 110 = .ok (.getfield 372, 3) := by decide +kernel
theorem dX10_account_113 : decode cX10_account 113 = .ok (.ireturn, 1) := by decide +kernel
theorem dX10_account_114 : decode cX10_account 114 = .ok (.aload_n 0, 1) := by decide +kernel
theorem dX10_account_115 : decode cX10_account 115 = .ok (.getfield 50, 3) := by decide +kernel
theorem dX10_account_118 : decode cX10_account 118 = .ok (.getfield 366, 3) := by decide +kernel
theorem dX10_account_121 : decode cX10_account 121 = .ok (.ireturn, 1) := by decide +kernel
theorem dX10_account_122 : decode cX10_account 122 = .ok (.aload_n 0, 1) := by decide +kernel
theorem dX10_account_123 : decode cX10_account 123 = .ok (.getfield 50, 3) := by decide +kernel
theorem dX10_account_126 : decode cX10_account 126 = .ok (.getfield 375, 3) := by decide +kernel
theorem dX10_account_129 : decode cX10_account 129 = .ok (.ireturn, 1) := by decide +kernel
theorem dX10_account_130 : decode cX10_account 130 = .ok (.aload_n 0, 1) := by decide +kernel
theorem dX10_account_131 : decode cX10_account 131 = .ok (.getfield 50, 3) := by decide +kernel
theorem dX10_account_134 : decode cX10_account 134 = .ok (.invokevirtual 378, 3) := by decide +kernel
theorem dX10_account_137 : decode cX10_account 137 = .ok (.ireturn, 1) := by decide +kernel
theorem dX10_account_138 : decode cX10_account 138 = .ok (.aload_n 0, 1) := by decide +kernel
theorem dX10_account_139 : decode cX10_account 139 = .ok (.getfield 63, 3) := by decide +kernel
theorem dX10_account_142 : decode cX10_account 142 = .ok (.getfield 381, 3) := by decide +kernel
theorem dX10_account_145 : decode cX10_account 145 = .ok (.ireturn, 1) := by decide +kernel
theorem dX10_account_146 : decode cX10_account 146 = .ok (.aload_n 0, 1) := by decide +kernel
theorem dX10_account_147 : decode cX10_account 147 = .ok (.getfield 19, 3) := by decide +kernel
theorem dX10_account_150 : decode cX10_account 150 = .ok (.getfield 277, 3) := by decide +kernel
theorem dX10_account_153 : decode cX10_account 153 = .ok (.ireturn, 1) := by decide +kernel
theorem dX10_account_154 : decode cX10_account 154 = .ok (.new 149, 3) := by decide +kernel
theorem dX10_account_157 : decode cX10_account 157 = .ok (.dup, 1) := by decide +kernel
theorem dX10_account_158 : decode cX10_account 158 = .ok (.ldc_w 382, 3) := by decide +kernel
theorem dX10_account_161 : decode cX10_account 161 = .ok (.invokespecial 153, 3) := by decide +kernel
theorem dX10_account_164 : decode cX10_account 164 = .ok (.athrow, 1) := by decide +kernel
set_option maxRecDepth 20000 in
theorem ggX10_undo_X4_takeBack : GoodIn wsX10_undo wsX4_takeBack := goodIn_r _ [9, 10, 11, 12, 13, 14, 15, 16, 17, 18, 19, 20, 21, 22, 23, 24, 25, 26, 27, 28, 29, 30, 31, 32, 33, 34, 35, 36, 37, 38, 39, 40, 51, 52, 53, 54, 55, 56, 57, 58, 59, 60, 61, 62, 63, 64, 65, 66] rfl (by decide +kernel)
set_option maxRecDepth 20000 in
theorem gX10_undo_X4_takeBack : GoodIn wsX10_undo (wsV RX10 386 RX4 yX4_takeBack wsX4_takeBack) := goodIn_app (goodIn_of _ (by decide +kernel)) ggX10_undo_X4_takeBack
theorem dX10_undo_0 : decode cX10_undo 0 = .ok (.aload_n 0, 1) := by decide +kernel
theorem dX10_undo_1 : decode cX10_undo 1 = .ok (.getfield 63, 3) := by decide +kernel
theorem dX10_undo_4 : decode cX10_undo 4 = .ok (.getfield 381, 3) := by decide +kernel
theorem dX10_undo_7 : decode cX10_undo 7 = .ok (.ifCond .ne 14, 3) := by decide +kernel
theorem dX10_undo_10 : decode cX10_undo 10 = .ok (.new 268, 3) := by decide +kernel
theorem dX10_undo_13 : decode cX10_undo 13 = .ok (.dup, 1) := by decide +kernel
theorem dX10_undo_14 : decode cX10_undo 14 = .ok (.ldc_w 384, 3) := by decide +kernel
theorem dX10_undo_17 : decode cX10_undo 17 = .ok (.invokespecial 272, 3) := by decide +kernel
theorem dX10_undo_20 : decode cX10_undo 20 = .ok (.athrow, 1) := by decide +kernel
theorem dX10_undo_21 : decode cX10_undo 21 = .ok (.aload_n 0, 1) := by decide +kernel
theorem dX10_undo_22 : decode cX10_undo 22 = .ok (.getfield 63, 3) := by decide +kernel
theorem dX10_undo_25 : decode cX10_undo 25 = .ok (.aload_n 0, 1) := by decide +kernel
theorem dX10_undo_26 : decode cX10_undo 26 = .ok (.getfield 50, 3) := by decide +kernel
theorem dX10_undo_29 : decode cX10_undo 29 = .ok (.invokevirtual 386, 3) := by decide +kernel
theorem dX10_undo_32 : decode cX10_undo 32 = .ok (.aload_n 0, 1) := by decide +kernel
theorem dX10_undo_33 : decode cX10_undo 33 = .ok (.getfield 63, 3) := by decide +kernel
theorem dX10_undo_36 : decode cX10_undo 36 = .ok (.getfield 381, 3) := by decide +kernel
theorem dX10_undo_39 : decode cX10_undo 39 = .ok (.ireturn, 1) := by decide +kernel
set_option maxRecDepth 20000 in
theorem ggX10_save_X8_copyFrom : GoodIn wsX10_save wsX8_copyFrom := goodIn_r _ [8, 9, 10, 11, 12, 13, 14, 15, 16, 17, 18, 19, 20, 21, 22, 23, 24, 25, 26, 27, 28, 29, 30, 31, 42, 43, 44, 45, 46, 47, 48, 49, 50, 51, 52, 53, 54] rfl (by decide +kernel)
set_option maxRecDepth 20000 in
theorem gX10_save_X8_copyFrom : GoodIn wsX10_save (wsV RX10 252 RX8 yX8_copyFrom wsX8_copyFrom) := goodIn_app (goodIn_of _ (by decide +kernel)) ggX10_save_X8_copyFrom
theorem dX10_save_0 : decode cX10_save 0 = .ok (.aload_n 0, 1) := by decide +kernel
theorem dX10_save_1 : decode cX10_save 1 = .ok (.getfield 57, 3) := by decide +kernel
theorem dX10_save_4 : decode cX10_save 4 = .ok (.aload_n 0, 1) := by decide +kernel
theorem dX10_save_5 : decode cX10_save 5 = .ok (.getfield 50, 3) := by decide +kernel
theorem dX10_save_8 : decode cX10_save 8 = .ok (.invokevirtual 252, 3) := by decide +kernel
theorem dX10_save_11 : decode cX10_save 11 = .ok (.aload_n 0, 1) := by decide +kernel
theorem dX10_save_12 : decode cX10_save 12 = .ok (.iconst 1, 1) := by decide +kernel
theorem dX10_save_13 : decode cX10_save 13 = .ok (.putfield 30, 3) := by decide +kernel
theorem dX10_save_16 : decode cX10_save 16 = .ok (.aload_n 0, 1) := by decide +kernel
theorem dX10_save_17 : decode cX10_save 17 = .ok (.getfield 50, 3) := by decide +kernel
theorem dX10_save_20 : decode cX10_save 20 = .ok (.getfield 238, 3) := by decide +kernel
theorem dX10_save_23 : decode cX10_save 23 = .ok (.ireturn, 1) := by decide +kernel
set_option maxRecDepth 20000 in
theorem ggX10_restore_X8_copyFrom : GoodIn wsX10_restore wsX8_copyFrom := goodIn_r _ [11, 12, 13, 14, 15, 16, 17, 18, 19, 20, 21, 22, 23, 24, 25, 26, 27, 28, 29, 30, 31, 32, 33, 34, 51, 52, 53, 54, 55, 56, 57, 58, 59, 60, 61, 62, 63] rfl (by decide +kernel)
set_option maxRecDepth 20000 in
theorem gX10_restore_X8_copyFrom : GoodIn wsX10_restore (wsV RX10 252 RX8 yX8_copyFrom wsX8_copyFrom) := goodIn_app (goodIn_of _ (by decide +kernel)) ggX10_restore_X8_copyFrom
set_option maxRecDepth 20000 in
theorem ggX10_restore_X4_forget : GoodIn wsX10_restore wsX4_forget := goodIn_r _ [39, 40, 64, 65, 66] rfl (by decide +kernel)
set_option maxRecDepth 20000 in
theorem gX10_restore_X4_forget : GoodIn wsX10_restore (wsV RX10 391 RX4 yX4_forget wsX4_forget) := goodIn_app (goodIn_of _ (by decide +kernel)) ggX10_restore_X4_forget
theorem dX10_restore_0 : decode cX10_restore 0 = .ok (.aload_n 0, 1) := by decide +kernel
theorem dX10_restore_1 : decode cX10_restore 1 = .ok (.getfield 30, 3) := by decide +kernel
theorem dX10_restore_4 : decode cX10_restore 4 = .ok (.ifCond .ne 14, 3) := by decide +kernel
theorem dX10_restore_7 : decode cX10_restore 7 = .ok (.new 268, 3) := by decide +kernel
theorem dX10_restore_10 : decode cX10_restore 10 = .ok (.dup, 1) := by decide +kernel
theorem dX10_restore_11 : decode cX10_restore 11 = .ok (.ldc_w 389, 3) := by decide +kernel
theorem dX10_restore_14 : decode cX10_restore 14 = .ok (.invokespecial 272, 3) := by decide +kernel
theorem dX10_restore_17 : decode cX10_restore 17 = .ok (.athrow, 1) := by decide +kernel
theorem dX10_restore_18 : decode cX10_restore 18 = .ok (.aload_n 0, 1) := by decide +kernel
theorem dX10_restore_19 : decode cX10_restore 19 = .ok (.getfield 50, 3) := by decide +kernel
theorem dX10_restore_22 : decode cX10_restore 22 = .ok (.aload_n 0, 1) := by decide +kernel
theorem dX10_restore_23 : decode cX10_restore 23 = .ok (.getfield 57, 3) := by decide +kernel
theorem dX10_restore_26 : decode cX10_restore 26 = .ok (.invokevirtual 252, 3) := by decide +kernel
theorem dX10_restore_29 : decode cX10_restore 29 = .ok (.aload_n 0, 1) := by decide +kernel
theorem dX10_restore_30 : decode cX10_restore 30 = .ok (.getfield 63, 3) := by decide +kernel
theorem dX10_restore_33 : decode cX10_restore 33 = .ok (.invokevirtual 391, 3) := by decide +kernel
theorem dX10_restore_36 : decode cX10_restore 36 = .ok (.aload_n 0, 1) := by decide +kernel
theorem dX10_restore_37 : decode cX10_restore 37 = .ok (.getfield 50, 3) := by decide +kernel
theorem dX10_restore_40 : decode cX10_restore 40 = .ok (.getfield 238, 3) := by decide +kernel
theorem dX10_restore_43 : decode cX10_restore 43 = .ok (.ireturn, 1) := by decide +kernel
set_option maxRecDepth 20000 in
theorem ggX10_needSurveyor_X8_has : GoodIn wsX10_needSurveyor wsX8_has := goodIn_r _ [8, 9, 20, 21, 22, 23, 24, 25, 26, 27, 28, 29] rfl (by decide +kernel)
set_option maxRecDepth 20000 in
theorem gX10_needSurveyor_X8_has : GoodIn wsX10_needSurveyor (wsV RX10 394 RX8 yX8_has wsX8_has) := goodIn_app (goodIn_of _ (by decide +kernel)) ggX10_needSurveyor_X8_has
theorem dX10_needSurveyor_0 : decode cX10_needSurveyor 0 = .ok (.aload_n 0, 1) := by decide +kernel
theorem dX10_needSurveyor_1 : decode cX10_needSurveyor 1 = .ok (.getfield 50, 3) := by decide +kernel
theorem dX10_needSurveyor_4 : decode cX10_needSurveyor 4 = .ok (.iload_n 1, 1) := by decide +kernel
theorem dX10_needSurveyor_5 : decode cX10_needSurveyor 5 = .ok (.invokevirtual 394, 3) := by decide +kernel
theorem dX10_needSurveyor_8 : decode cX10_needSurveyor 8 = .ok (.ifCond .ne 14, 3) := by decide +kernel
theorem dX10_needSurveyor_11 : decode cX10_needSurveyor 11 = .ok (.new 341, 3) := by decide +kernel
theorem dX10_needSurveyor_14 : decode cX10_needSurveyor 14 = .ok (.dup, 1) := by decide +kernel
theorem dX10_needSurveyor_15 : decode cX10_needSurveyor 15 = .ok (.ldc_w 395, 3) := by decide +kernel
theorem dX10_needSurveyor_18 : decode cX10_needSurveyor 18 = .ok (.invokespecial 345, 3) := by decide +kernel
theorem dX10_needSurveyor_21 : decode cX10_needSurveyor 21 = .ok (.athrow, 1) := by decide +kernel
theorem dX10_needSurveyor_22 : decode cX10_needSurveyor 22 = .ok (.return_, 1) := by decide +kernel
theorem dX10_needDistrict_0 : decode cX10_needDistrict 0 = .ok (.iload_n 0, 1) := by decide +kernel
theorem dX10_needDistrict_1 : decode cX10_needDistrict 1 = .ok (.ifCond .lt 8, 3) := by decide +kernel
theorem dX10_needDistrict_4 : decode cX10_needDistrict 4 = .ok (.iload_n 0, 1) := by decide +kernel
theorem dX10_needDistrict_5 : decode cX10_needDistrict 5 = .ok (.iconst 3, 1) := by decide +kernel
theorem dX10_needDistrict_6 : decode cX10_needDistrict 6 = .ok (.if_icmp .lt 14, 3) := by decide +kernel
theorem dX10_needDistrict_9 : decode cX10_needDistrict 9 = .ok (.new 149, 3) := by decide +kernel
theorem dX10_needDistrict_12 : decode cX10_needDistrict 12 = .ok (.dup, 1) := by decide +kernel
theorem dX10_needDistrict_13 : decode cX10_needDistrict 13 = .ok (.ldc_w 397, 3) := by decide +kernel
theorem dX10_needDistrict_16 : decode cX10_needDistrict 16 = .ok (.invokespecial 153, 3) := by decide +kernel
theorem dX10_needDistrict_19 : decode cX10_needDistrict 19 = .ok (.athrow, 1) := by decide +kernel
theorem dX10_needDistrict_20 : decode cX10_needDistrict 20 = .ok (.return_, 1) := by decide +kernel
theorem dX10_needWay_0 : decode cX10_needWay 0 = .ok (.iload_n 0, 1) := by decide +kernel
theorem dX10_needWay_1 : decode cX10_needWay 1 = .ok (.ldc 226, 2) := by decide +kernel
theorem dX10_needWay_3 : decode cX10_needWay 3 = .ok (.if_icmp .lt 14, 3) := by decide +kernel
theorem dX10_needWay_6 : decode cX10_needWay 6 = .ok (.new 158, 3) := by decide +kernel
theorem dX10_needWay_9 : decode cX10_needWay 9 = .ok (.dup, 1) := by decide +kernel
theorem dX10_needWay_10 : decode cX10_needWay 10 = .ok (.ldc_w 399, 3) := by decide +kernel
theorem dX10_needWay_13 : decode cX10_needWay 13 = .ok (.invokespecial 162, 3) := by decide +kernel
theorem dX10_needWay_16 : decode cX10_needWay 16 = .ok (.athrow, 1) := by decide +kernel
theorem dX10_needWay_17 : decode cX10_needWay 17 = .ok (.iload_n 0, 1) := by decide +kernel
theorem dX10_needWay_18 : decode cX10_needWay 18 = .ok (.ireturn, 1) := by decide +kernel
set_option maxRecDepth 20000 in
theorem ggJ5_init_d00df_J2_newBytesFor_77867 : GoodIn wsJ5_init_d00df wsJ2_newBytesFor_77867 := goodIn_r _ [11, 5, 12, 13, 10, 14, 15] rfl (by decide +kernel)
set_option maxRecDepth 20000 in
theorem gJ5_init_d00df_J2_newBytesFor_77867 : GoodIn wsJ5_init_d00df (va_wsS RJ5 26 yJ2_newBytesFor_77867 wsJ2_newBytesFor_77867) := goodIn_app (goodIn_of _ (by decide +kernel)) ggJ5_init_d00df_J2_newBytesFor_77867
theorem dJ5_init_d00df_0 : decode cJ5_init_d00df 0 = .ok (.aload_n 0, 1) := by decide +kernel
theorem dJ5_init_d00df_1 : decode cJ5_init_d00df 1 = .ok (.invokespecial 3, 3) := by decide +kernel
theorem dJ5_init_d00df_4 : decode cJ5_init_d00df 4 = .ok (.getstatic 18, 3) := by decide +kernel
theorem dJ5_init_d00df_7 : decode cJ5_init_d00df 7 = .ok (.ifCond .eq 18, 3) := by decide +kernel
theorem dJ5_init_d00df_10 : decode cJ5_init_d00df 10 = .ok (.aload_n 0, 1) := by decide +kernel
theorem dJ5_init_d00df_11 : decode cJ5_init_d00df 11 = .ok (.iload_n 1, 1) := by decide +kernel
theorem dJ5_init_d00df_12 : decode cJ5_init_d00df 12 = .ok (.newarray .byte, 2) := by decide +kernel
theorem dJ5_init_d00df_14 : decode cJ5_init_d00df 14 = .ok (.putfield 15, 3) := by decide +kernel
theorem dJ5_init_d00df_17 : decode cJ5_init_d00df 17 = .ok (.aload_n 0, 1) := by decide +kernel
theorem dJ5_init_d00df_18 : decode cJ5_init_d00df 18 = .ok (.iconst 0, 1) := by decide +kernel
theorem dJ5_init_d00df_19 : decode cJ5_init_d00df 19 = .ok (.putfield 22, 3) := by decide +kernel
theorem dJ5_init_d00df_22 : decode cJ5_init_d00df 22 = .ok (.goto 16, 3) := by decide +kernel
theorem dJ5_init_d00df_25 : decode cJ5_init_d00df 25 = .ok (.aload_n 0, 1) := by decide +kernel
theorem dJ5_init_d00df_26 : decode cJ5_init_d00df 26 = .ok (.iload_n 1, 1) := by decide +kernel
theorem dJ5_init_d00df_27 : decode cJ5_init_d00df 27 = .ok (.invokestatic 26, 3) := by decide +kernel
theorem dJ5_init_d00df_30 : decode cJ5_init_d00df 30 = .ok (.putfield 15, 3) := by decide +kernel
theorem dJ5_init_d00df_33 : decode cJ5_init_d00df 33 = .ok (.aload_n 0, 1) := by decide +kernel
theorem dJ5_init_d00df_34 : decode cJ5_init_d00df 34 = .ok (.iconst 1, 1) := by decide +kernel
theorem dJ5_init_d00df_35 : decode cJ5_init_d00df 35 = .ok (.putfield 22, 3) := by decide +kernel
theorem dJ5_init_d00df_38 : decode cJ5_init_d00df 38 = .ok (.return_, 1) := by decide +kernel
theorem dJ5_length_8abf5_0 : decode cJ5_length_8abf5 0 = .ok (.aload_n 0, 1) := by decide +kernel
theorem dJ5_length_8abf5_1 : decode cJ5_length_8abf5 1 = .ok (.getfield 79, 3) := by decide +kernel
theorem dJ5_length_8abf5_4 : decode cJ5_length_8abf5 4 = .ok (.ireturn, 1) := by decide +kernel
set_option maxRecDepth 20000 in
theorem ggJ5_ensureCapacityInternal_d00df_J5_newCapacity_0f7a4 : GoodIn wsJ5_ensureCapacityInternal_d00df wsJ5_newCapacity_0f7a4 := goodIn_r _ [8, 1, 2, 9, 10, 11, 12, 13, 14, 15, 16, 17, 18, 19, 20, 21, 40, 41, 42, 43] rfl (by decide +kernel)
set_option maxRecDepth 20000 in
theorem gJ5_ensureCapacityInternal_d00df_J5_newCapacity_0f7a4_u104J4 : GoodIn wsJ5_ensureCapacityInternal_d00df (va_wsU RJ5 104 RJ4 "java/lang/AbstractStringBuilder" ⟨"java/lang/AbstractStringBuilder", "newCapacity", "(I)I"⟩ yJ5_newCapacity_0f7a4 wsJ5_newCapacity_0f7a4) := goodIn_app (goodIn_of _ (by decide +kernel)) ggJ5_ensureCapacityInternal_d00df_J5_newCapacity_0f7a4
set_option maxRecDepth 20000 in
theorem ggJ5_ensureCapacityInternal_d00df_J7_copyOf_9075b : GoodIn wsJ5_ensureCapacityInternal_d00df wsJ7_copyOf_9075b := goodIn_r _ [25, 26, 27, 28, 29, 30, 31, 32, 33, 34, 16, 35, 36, 37, 38, 39] rfl (by decide +kernel)
set_option maxRecDepth 20000 in
theorem gJ5_ensureCapacityInternal_d00df_J7_copyOf_9075b : GoodIn wsJ5_ensureCapacityInternal_d00df (va_wsS RJ5 108 yJ7_copyOf_9075b wsJ7_copyOf_9075b) := goodIn_app (goodIn_of _ (by decide +kernel)) ggJ5_ensureCapacityInternal_d00df_J7_copyOf_9075b
theorem dJ5_ensureCapacityInternal_d00df_0 : decode cJ5_ensureCapacityInternal_d00df 0 = .ok (.aload_n 0, 1) := by decide +kernel
theorem dJ5_ensureCapacityInternal_d00df_1 : decode cJ5_ensureCapacityInternal_d00df 1 = .ok (.getfield 15, 3) := by decide +kernel
theorem dJ5_ensureCapacityInternal_d00df_4 : decode cJ5_ensureCapacityInternal_d00df 4 = .ok (.arraylength, 1) := by decide +kernel
theorem dJ5_ensureCapacityInternal_d00df_5 : decode cJ5_ensureCapacityInternal_d00df 5 = .ok (.aload_n 0, 1) := by decide +kernel
theorem dJ5_ensureCapacityInternal_d00df_6 : decode cJ5_ensureCapacityInternal_d00df 6 = .ok (.getfield 22, 3) := by decide +kernel
theorem dJ5_ensureCapacityInternal_d00df_9 : decode cJ5_ensureCapacityInternal_d00df 9 = .ok (.ishr, 1) := by decide +kernel
theorem dJ5_ensureCapacityInternal_d00df_10 : decode cJ5_ensureCapacityInternal_d00df 10 = .ok (.istore_n 2, 1) := by decide +kernel
theorem dJ5_ensureCapacityInternal_d00df_11 : decode cJ5_ensureCapacityInternal_d00df 11 = .ok (.iload_n 1, 1) := by decide +kernel
theorem dJ5_ensureCapacityInternal_d00df_12 : decode cJ5_ensureCapacityInternal_d00df 12 = .ok (.iload_n 2, 1) := by decide +kernel
theorem dJ5_ensureCapacityInternal_d00df_13 : decode cJ5_ensureCapacityInternal_d00df 13 = .ok (.isub, 1) := by decide +kernel
theorem dJ5_ensureCapacityInternal_d00df_14 : decode cJ5_ensureCapacityInternal_d00df 14 = .ok (.ifCond .le 24, 3) := by decide +kernel
theorem dJ5_ensureCapacityInternal_d00df_17 : decode cJ5_ensureCapacityInternal_d00df 17 = .ok (.aload_n 0, 1) := by decide +kernel
theorem dJ5_ensureCapacityInternal_d00df_18 : decode cJ5_ensureCapacityInternal_d00df 18 = .ok (.aload_n 0, 1) := by decide +kernel
theorem dJ5_ensureCapacityInternal_d00df_19 : decode cJ5_ensureCapacityInternal_d00df 19 = .ok (.getfield 15, 3) := by decide +kernel
theorem dJ5_ensureCapacityInternal_d00df_22 : decode cJ5_ensureCapacityInternal_d00df 22 = .ok (.aload_n 0, 1) := by decide +kernel
theorem dJ5_ensureCapacityInternal_d00df_23 : decode cJ5_ensureCapacityInternal_d00df 23 = .ok (.iload_n 1, 1) := by decide +kernel
theorem dJ5_ensureCapacityInternal_d00df_24 : decode cJ5_ensureCapacityInternal_d00df 24 = .ok (.invokevirtual 104, 3) := by decide +kernel
theorem dJ5_ensureCapacityInternal_d00df_27 : decode cJ5_ensureCapacityInternal_d00df 27 = .ok (.aload_n 0, 1) := by decide +kernel
theorem dJ5_ensureCapacityInternal_d00df_28 : decode cJ5_ensureCapacityInternal_d00df 28 = .ok (.getfield 22, 3) := by decide +kernel
theorem dJ5_ensureCapacityInternal_d00df_31 : decode cJ5_ensureCapacityInternal_d00df 31 = .ok (.ishl, 1) := by decide +kernel
theorem dJ5_ensureCapacityInternal_d00df_32 : decode cJ5_ensureCapacityInternal_d00df 32 = .ok (.invokestatic 108, 3) := by decide +kernel
theorem dJ5_ensureCapacityInternal_d00df_35 : decode cJ5_ensureCapacityInternal_d00df 35 = .ok (.putfield 15, 3) := by decide +kernel
theorem dJ5_ensureCapacityInternal_d00df_38 : decode cJ5_ensureCapacityInternal_d00df 38 = .ok (.return_, 1) := by decide +kernel
set_option maxRecDepth 20000 in
theorem ggJ5_newCapacity_0f7a4_J8_newLength_cabcc : GoodIn wsJ5_newCapacity_0f7a4 wsJ8_newLength_cabcc := goodIn_r _ [7, 8, 9, 10, 11, 12, 13, 14, 6, 15] rfl (by decide +kernel)
set_option maxRecDepth 20000 in
theorem gJ5_newCapacity_0f7a4_J8_newLength_cabcc : GoodIn wsJ5_newCapacity_0f7a4 (va_wsS RJ5 114 yJ8_newLength_cabcc wsJ8_newLength_cabcc) := goodIn_app (goodIn_of _ (by decide +kernel)) ggJ5_newCapacity_0f7a4_J8_newLength_cabcc
theorem dJ5_newCapacity_0f7a4_0 : decode cJ5_newCapacity_0f7a4 0 = .ok (.aload_n 0, 1) := by decide +kernel
theorem dJ5_newCapacity_0f7a4_1 : decode cJ5_newCapacity_0f7a4 1 = .ok (.getfield 15, 3) := by decide +kernel
theorem dJ5_newCapacity_0f7a4_4 : decode cJ5_newCapacity_0f7a4 4 = .ok (.arraylength, 1) := by decide +kernel
theorem dJ5_newCapacity_0f7a4_5 : decode cJ5_newCapacity_0f7a4 5 = .ok (.istore_n 2, 1) := by decide +kernel
theorem dJ5_newCapacity_0f7a4_6 : decode cJ5_newCapacity_0f7a4 6 = .ok (.iload_n 1, 1) := by decide +kernel
theorem dJ5_newCapacity_0f7a4_7 : decode cJ5_newCapacity_0f7a4 7 = .ok (.aload_n 0, 1) := by decide +kernel
theorem dJ5_newCapacity_0f7a4_8 : decode cJ5_newCapacity_0f7a4 8 = .ok (.getfield 22, 3) := by decide +kernel
theorem dJ5_newCapacity_0f7a4_11 : decode cJ5_newCapacity_0f7a4 11 = .ok (.ishl, 1) := by decide +kernel
theorem dJ5_newCapacity_0f7a4_12 : decode cJ5_newCapacity_0f7a4 12 = .ok (.istore_n 3, 1) := by decide +kernel
theorem dJ5_newCapacity_0f7a4_13 : decode cJ5_newCapacity_0f7a4 13 = .ok (.iload_n 3, 1) := by decide +kernel
theorem dJ5_newCapacity_0f7a4_14 : decode cJ5_newCapacity_0f7a4 14 = .ok (.iload_n 2, 1) := by decide +kernel
theorem dJ5_newCapacity_0f7a4_15 : decode cJ5_newCapacity_0f7a4 15 = .ok (.isub, 1) := by decide +kernel
theorem dJ5_newCapacity_0f7a4_16 : decode cJ5_newCapacity_0f7a4 16 = .ok (.istore 4, 2) := by decide +kernel
theorem dJ5_newCapacity_0f7a4_18 : decode cJ5_newCapacity_0f7a4 18 = .ok (.iload_n 2, 1) := by decide +kernel
theorem dJ5_newCapacity_0f7a4_19 : decode cJ5_newCapacity_0f7a4 19 = .ok (.iload 4, 2) := by decide +kernel
theorem dJ5_newCapacity_0f7a4_21 : decode cJ5_newCapacity_0f7a4 21 = .ok (.iload_n 2, 1) := by decide +kernel
theorem dJ5_newCapacity_0f7a4_22 : decode cJ5_newCapacity_0f7a4 22 = .ok (.iconst 2, 1) := by decide +kernel
theorem dJ5_newCapacity_0f7a4_23 : decode cJ5_newCapacity_0f7a4 23 = .ok (.aload_n 0, 1) := by decide +kernel
theorem dJ5_newCapacity_0f7a4_24 : decode cJ5_newCapacity_0f7a4 24 = .ok (.getfield 22, 3) := by decide +kernel
theorem dJ5_newCapacity_0f7a4_27 : decode cJ5_newCapacity_0f7a4 27 = .ok (.ishl, 1) := by decide +kernel
theorem dJ5_newCapacity_0f7a4_28 : decode cJ5_newCapacity_0f7a4 28 = .ok (.iadd, 1) := by decide +kernel
theorem dJ5_newCapacity_0f7a4_29 : decode cJ5_newCapacity_0f7a4 29 = .ok (.invokestatic 114, 3) := by decide +kernel
theorem dJ5_newCapacity_0f7a4_32 : decode cJ5_newCapacity_0f7a4 32 = .ok (.istore 5, 2) := by decide +kernel
theorem dJ5_newCapacity_0f7a4_34 : decode cJ5_newCapacity_0f7a4 34 = .ok (.iload 5, 2) := by decide +kernel
theorem dJ5_newCapacity_0f7a4_36 : decode cJ5_newCapacity_0f7a4 36 = .ok (.ldc 39, 2) := by decide +kernel
theorem dJ5_newCapacity_0f7a4_38 : decode cJ5_newCapacity_0f7a4 38 = .ok (.if_icmp .ne 13, 3) := by decide +kernel
theorem dJ5_newCapacity_0f7a4_41 : decode cJ5_newCapacity_0f7a4 41 = .ok (.new 120, 3) := by decide +kernel
theorem dJ5_newCapacity_0f7a4_44 : decode cJ5_newCapacity_0f7a4 44 = .ok (.dup, 1) := by decide +kernel
theorem dJ5_newCapacity_0f7a4_45 : decode cJ5_newCapacity_0f7a4 45 = .ok (.ldc 122, 2) := by decide +kernel
theorem dJ5_newCapacity_0f7a4_47 : decode cJ5_newCapacity_0f7a4 47 = .ok (.invokespecial 124, 3) := by decide +kernel
theorem dJ5_newCapacity_0f7a4_50 : decode cJ5_newCapacity_0f7a4 50 = .ok (.athrow, 1) := by decide +kernel
theorem dJ5_newCapacity_0f7a4_51 : decode cJ5_newCapacity_0f7a4 51 = .ok (.iload 5, 2) := by decide +kernel
theorem dJ5_newCapacity_0f7a4_53 : decode cJ5_newCapacity_0f7a4 53 = .ok (.aload_n 0, 1) := by decide +kernel
theorem dJ5_newCapacity_0f7a4_54 : decode cJ5_newCapacity_0f7a4 54 = .ok (.getfield 22, 3) := by decide +kernel
theorem dJ5_newCapacity_0f7a4_57 : decode cJ5_newCapacity_0f7a4 57 = .ok (.ishr, 1) := by decide +kernel
theorem dJ5_newCapacity_0f7a4_58 : decode cJ5_newCapacity_0f7a4 58 = .ok (.ireturn, 1) := by decide +kernel
set_option maxRecDepth 20000 in
theorem ggJ5_inflate_da8c8_J5_isLatin1_aae02 : GoodIn wsJ5_inflate_da8c8 wsJ5_isLatin1_aae02 := goodIn_r _ [9, 10, 3, 48, 49, 50, 51] rfl (by decide +kernel)
set_option maxRecDepth 20000 in
theorem gJ5_inflate_da8c8_J5_isLatin1_aae02_u83J4 : GoodIn wsJ5_inflate_da8c8 (va_wsU RJ5 83 RJ4 "java/lang/AbstractStringBuilder" ⟨"java/lang/AbstractStringBuilder", "isLatin1", "()Z"⟩ yJ5_isLatin1_aae02 wsJ5_isLatin1_aae02) := goodIn_app (goodIn_of _ (by decide +kernel)) ggJ5_inflate_da8c8_J5_isLatin1_aae02
set_option maxRecDepth 20000 in
theorem ggJ5_inflate_da8c8_J2_newBytesFor_77867 : GoodIn wsJ5_inflate_da8c8 wsJ2_newBytesFor_77867 := goodIn_r _ [14, 15, 16, 17, 13, 18, 19] rfl (by decide +kernel)
set_option maxRecDepth 20000 in
theorem gJ5_inflate_da8c8_J2_newBytesFor_77867 : GoodIn wsJ5_inflate_da8c8 (va_wsS RJ5 26 yJ2_newBytesFor_77867 wsJ2_newBytesFor_77867) := goodIn_app (goodIn_of _ (by decide +kernel)) ggJ5_inflate_da8c8_J2_newBytesFor_77867
set_option maxRecDepth 20000 in
theorem ggJ5_inflate_da8c8_J1_inflate_0e8fd : GoodIn wsJ5_inflate_da8c8 wsJ1_inflate_0e8fd := goodIn_r _ [23, 24, 25, 13, 26, 27, 28, 29, 30, 31, 32, 33, 34, 35, 36, 37, 38, 39, 40, 41, 42, 43, 44, 45, 46, 47] rfl (by decide +kernel)
set_option maxRecDepth 20000 in
theorem gJ5_inflate_da8c8_J1_inflate_0e8fd : GoodIn wsJ5_inflate_da8c8 (va_wsS RJ5 125 yJ1_inflate_0e8fd wsJ1_inflate_0e8fd) := goodIn_app (goodIn_of _ (by decide +kernel)) ggJ5_inflate_da8c8_J1_inflate_0e8fd
theorem dJ5_inflate_da8c8_0 : decode cJ5_inflate_da8c8 0 = .ok (.aload_n 0, 1) := by decide +kernel
theorem dJ5_inflate_da8c8_1 : decode cJ5_inflate_da8c8 1 = .ok (.invokevirtual 83, 3) := by decide +kernel
theorem dJ5_inflate_da8c8_4 : decode cJ5_inflate_da8c8 4 = .ok (.ifCond .ne 4, 3) := by decide +kernel
theorem dJ5_inflate_da8c8_7 : decode cJ5_inflate_da8c8 7 = .ok (.return_, 1) := by decide +kernel
theorem dJ5_inflate_da8c8_8 : decode cJ5_inflate_da8c8 8 = .ok (.aload_n 0, 1) := by decide +kernel
theorem dJ5_inflate_da8c8_9 : decode cJ5_inflate_da8c8 9 = .ok (.getfield 15, 3) := by decide +kernel
theorem dJ5_inflate_da8c8_12 : decode cJ5_inflate_da8c8 12 = .ok (.arraylength, 1) := by decide +kernel
theorem dJ5_inflate_da8c8_13 : decode cJ5_inflate_da8c8 13 = .ok (.invokestatic 26, 3) := by decide +kernel
theorem dJ5_inflate_da8c8_16 : decode cJ5_inflate_da8c8 16 = .ok (.astore_n 1, 1) := by decide +kernel
theorem dJ5_inflate_da8c8_17 : decode cJ5_inflate_da8c8 17 = .ok (.aload_n 0, 1) := by decide +kernel
theorem dJ5_inflate_da8c8_18 : decode cJ5_inflate_da8c8 18 = .ok (.getfield 15, 3) := by decide +kernel
theorem dJ5_inflate_da8c8_21 : decode cJ5_inflate_da8c8 21 = .ok (.iconst 0, 1) := by decide +kernel
theorem dJ5_inflate_da8c8_22 : decode cJ5_inflate_da8c8 22 = .ok (.aload_n 1, 1) := by decide +kernel
theorem dJ5_inflate_da8c8_23 : decode cJ5_inflate_da8c8 23 = .ok (.iconst 0, 1) := by decide +kernel
theorem dJ5_inflate_da8c8_24 : decode cJ5_inflate_da8c8 24 = .ok (.aload_n 0, 1) := by decide +kernel
theorem dJ5_inflate_da8c8_25 : decode cJ5_inflate_da8c8 25 = .ok (.getfield 79, 3) := by decide +kernel
theorem dJ5_inflate_da8c8_28 : decode cJ5_inflate_da8c8 28 = .ok (.invokestatic 125, 3) := by decide +kernel
theorem dJ5_inflate_da8c8_31 : decode cJ5_inflate_da8c8 31 = .ok (.aload_n 0, 1) := by decide +kernel
theorem dJ5_inflate_da8c8_32 : decode cJ5_inflate_da8c8 32 = .ok (.aload_n 1, 1) := by decide +kernel
theorem dJ5_inflate_da8c8_33 : decode cJ5_inflate_da8c8 33 = .ok (.putfield 15, 3) := by decide +kernel
theorem dJ5_inflate_da8c8_36 : decode cJ5_inflate_da8c8 36 = .ok (.aload_n 0, 1) := by decide +kernel
theorem dJ5_inflate_da8c8_37 : decode cJ5_inflate_da8c8 37 = .ok (.iconst 1, 1) := by decide +kernel
theorem dJ5_inflate_da8c8_38 : decode cJ5_inflate_da8c8 38 = .ok (.putfield 22, 3) := by decide +kernel
theorem dJ5_inflate_da8c8_41 : decode cJ5_inflate_da8c8 41 = .ok (.return_, 1) := by decide +kernel
set_option maxRecDepth 20000 in
theorem ggJ5_setLength_d00df_J5_ensureCapacityInternal_d00df : GoodIn wsJ5_setLength_d00df wsJ5_ensureCapacityInternal_d00df := goodIn_r _ [12, 5, 13, 14, 15, 16, 17, 11, 18, 19, 20, 21, 22, 23, 24, 25, 26, 27, 28, 29, 30, 31, 32, 33, 34, 35, 36, 37, 38, 39, 40, 41, 42, 43, 44, 45, 46, 47, 48, 49, 83, 84, 85, 86] rfl (by decide +kernel)
set_option maxRecDepth 20000 in
theorem gJ5_setLength_d00df_J5_ensureCapacityInternal_d00df_u100J4 : GoodIn wsJ5_setLength_d00df (va_wsU RJ5 100 RJ4 "java/lang/AbstractStringBuilder" ⟨"java/lang/AbstractStringBuilder", "ensureCapacityInternal", "(I)V"⟩ yJ5_ensureCapacityInternal_d00df wsJ5_ensureCapacityInternal_d00df) := goodIn_app (goodIn_of _ (by decide +kernel)) ggJ5_setLength_d00df_J5_ensureCapacityInternal_d00df
set_option maxRecDepth 20000 in
theorem ggJ5_setLength_d00df_J5_isLatin1_aae02 : GoodIn wsJ5_setLength_d00df wsJ5_isLatin1_aae02 := goodIn_r _ [54, 55, 13, 83, 84, 85, 86] rfl (by decide +kernel)
set_option maxRecDepth 20000 in
theorem gJ5_setLength_d00df_J5_isLatin1_aae02_u83J4 : GoodIn wsJ5_setLength_d00df (va_wsU RJ5 83 RJ4 "java/lang/AbstractStringBuilder" ⟨"java/lang/AbstractStringBuilder", "isLatin1", "()Z"⟩ yJ5_isLatin1_aae02 wsJ5_isLatin1_aae02) := goodIn_app (goodIn_of _ (by decide +kernel)) ggJ5_setLength_d00df_J5_isLatin1_aae02
set_option maxRecDepth 20000 in
theorem ggJ5_setLength_d00df_J1_fillNull_b72d1 : GoodIn wsJ5_setLength_d00df wsJ1_fillNull_b72d1 := goodIn_r _ [59, 60, 61, 34, 62, 63, 64, 65, 66, 67, 68, 69, 70, 71, 83, 84, 85, 86, 87, 88, 89, 90, 91, 92] rfl (by decide +kernel)
set_option maxRecDepth 20000 in
theorem gJ5_setLength_d00df_J1_fillNull_b72d1 : GoodIn wsJ5_setLength_d00df (va_wsS RJ5 133 yJ1_fillNull_b72d1 wsJ1_fillNull_b72d1) := goodIn_app (goodIn_of _ (by decide +kernel)) ggJ5_setLength_d00df_J1_fillNull_b72d1
set_option maxRecDepth 20000 in
theorem ggJ5_setLength_d00df_J2_fillNull_b72d1 : GoodIn wsJ5_setLength_d00df wsJ2_fillNull_b72d1 := goodIn_r _ [75, 76, 61, 34, 62, 63, 64, 65, 66, 67, 68, 69, 70, 71, 83, 84, 85, 86, 87, 88, 89, 90, 91, 92] rfl (by decide +kernel)
set_option maxRecDepth 20000 in
theorem gJ5_setLength_d00df_J2_fillNull_b72d1 : GoodIn wsJ5_setLength_d00df (va_wsS RJ5 137 yJ2_fillNull_b72d1 wsJ2_fillNull_b72d1) := goodIn_app (goodIn_of _ (by decide +kernel)) ggJ5_setLength_d00df_J2_fillNull_b72d1
theorem dJ5_setLength_d00df_0 : decode cJ5_setLength_d00df 0 = .ok (.iload_n 1, 1) := by decide +kernel
theorem dJ5_setLength_d00df_1 : decode cJ5_setLength_d00df 1 = .ok (.ifCond .ge 12, 3) := by decide +kernel
theorem dJ5_setLength_d00df_4 : decode cJ5_setLength_d00df 4 = .ok (.new 129, 3) := by decide +kernel
theorem dJ5_setLength_d00df_7 : decode cJ5_setLength_d00df 7 = .ok (.dup, 1) := by decide +kernel
theorem dJ5_setLength_d00df_8 : decode cJ5_setLength_d00df 8 = .ok (.iload_n 1, 1) := by decide +kernel
theorem dJ5_setLength_d00df_9 : decode cJ5_setLength_d00df 9 = .ok (.invokespecial 131, 3) := by decide +kernel
theorem dJ5_setLength_d00df_12 : decode cJ5_setLength_d00df 12 = .ok (.athrow, 1) := by decide +kernel
theorem dJ5_setLength_d00df_13 : decode cJ5_setLength_d00df 13 = .ok (.aload_n 0, 1) := by decide +kernel
theorem dJ5_setLength_d00df_14 : decode cJ5_setLength_d00df 14 = .ok (.iload_n 1, 1) := by decide +kernel
theorem dJ5_setLength_d00df_15 : decode cJ5_setLength_d00df 15 = .ok (.invokevirtual 100, 3) := by decide +kernel
theorem dJ5_setLength_d00df_18 : decode cJ5_setLength_d00df 18 = .ok (.aload_n 0, 1) := by decide +kernel
theorem dJ5_setLength_d00df_19 : decode cJ5_setLength_d00df 19 = .ok (.getfield 79, 3) := by decide +kernel
theorem dJ5_setLength_d00df_22 : decode cJ5_setLength_d00df 22 = .ok (.iload_n 1, 1) := by decide +kernel
theorem dJ5_setLength_d00df_23 : decode cJ5_setLength_d00df 23 = .ok (.if_icmp .ge 40, 3) := by decide +kernel
theorem dJ5_setLength_d00df_26 : decode cJ5_setLength_d00df 26 = .ok (.aload_n 0, 1) := by decide +kernel
theorem dJ5_setLength_d00df_27 : decode cJ5_setLength_d00df 27 = .ok (.invokevirtual 83, 3) := by decide +kernel
theorem dJ5_setLength_d00df_30 : decode cJ5_setLength_d00df 30 = .ok (.ifCond .eq 18, 3) := by decide +kernel
theorem dJ5_setLength_d00df_33 : decode cJ5_setLength_d00df 33 = .ok (.aload_n 0, 1) := by decide +kernel
theorem dJ5_setLength_d00df_34 : decode cJ5_setLength_d00df 34 = .ok (.getfield 15, 3) := by decide +kernel
theorem dJ5_setLength_d00df_37 : decode cJ5_setLength_d00df 37 = .ok (.aload_n 0, 1) := by decide +kernel
theorem dJ5_setLength_d00df_38 : decode cJ5_setLength_d00df 38 = .ok (.getfield 79, 3) := by decide +kernel
theorem dJ5_setLength_d00df_41 : decode cJ5_setLength_d00df 41 = .ok (.iload_n 1, 1) := by decide +kernel
theorem dJ5_setLength_d00df_42 : decode cJ5_setLength_d00df 42 = .ok (.invokestatic 133, 3) := by decide +kernel
theorem dJ5_setLength_d00df_45 : decode cJ5_setLength_d00df 45 = .ok (.goto 31, 3) := by decide +kernel
theorem dJ5_setLength_d00df_48 : decode cJ5_setLength_d00df 48 = .ok (.aload_n 0, 1) := by decide +kernel
theorem dJ5_setLength_d00df_49 : decode cJ5_setLength_d00df 49 = .ok (.getfield 15, 3) := by decide +kernel
theorem dJ5_setLength_d00df_52 : decode cJ5_setLength_d00df 52 = .ok (.aload_n 0, 1) := by decide +kernel
theorem dJ5_setLength_d00df_53 : decode cJ5_setLength_d00df 53 = .ok (.getfield 79, 3) := by decide +kernel
theorem dJ5_setLength_d00df_56 : decode cJ5_setLength_d00df 56 = .ok (.iload_n 1, 1) := by decide +kernel
theorem dJ5_setLength_d00df_57 : decode cJ5_setLength_d00df 57 = .ok (.invokestatic 137, 3) := by decide +kernel
theorem dJ5_setLength_d00df_60 : decode cJ5_setLength_d00df 60 = .ok (.goto 16, 3) := by decide +kernel
theorem dJ5_setLength_d00df_63 : decode cJ5_setLength_d00df 63 = .ok (.aload_n 0, 1) := by decide +kernel
theorem dJ5_setLength_d00df_64 : decode cJ5_setLength_d00df 64 = .ok (.getfield 79, 3) := by decide +kernel
theorem dJ5_setLength_d00df_67 : decode cJ5_setLength_d00df 67 = .ok (.iload_n 1, 1) := by decide +kernel
theorem dJ5_setLength_d00df_68 : decode cJ5_setLength_d00df 68 = .ok (.if_icmp .le 8, 3) := by decide +kernel
theorem dJ5_setLength_d00df_71 : decode cJ5_setLength_d00df 71 = .ok (.aload_n 0, 1) := by decide +kernel
theorem dJ5_setLength_d00df_72 : decode cJ5_setLength_d00df 72 = .ok (.iconst 1, 1) := by decide +kernel
theorem dJ5_setLength_d00df_73 : decode cJ5_setLength_d00df 73 = .ok (.putfield 73, 3) := by decide +kernel
theorem dJ5_setLength_d00df_76 : decode cJ5_setLength_d00df 76 = .ok (.aload_n 0, 1) := by decide +kernel
theorem dJ5_setLength_d00df_77 : decode cJ5_setLength_d00df 77 = .ok (.iload_n 1, 1) := by decide +kernel
theorem dJ5_setLength_d00df_78 : decode cJ5_setLength_d00df 78 = .ok (.putfield 79, 3) := by decide +kernel
theorem dJ5_setLength_d00df_81 : decode cJ5_setLength_d00df 81 = .ok (.return_, 1) := by decide +kernel
set_option maxRecDepth 20000 in
theorem ggJ5_charAt_5068e_J0_checkIndex_df160 : GoodIn wsJ5_charAt_5068e wsJ0_checkIndex_df160 := goodIn_r _ [11, 12, 13, 14, 15, 16] rfl (by decide +kernel)
set_option maxRecDepth 20000 in
theorem gJ5_charAt_5068e_J0_checkIndex_df160 : GoodIn wsJ5_charAt_5068e (va_wsS RJ5 144 yJ0_checkIndex_df160 wsJ0_checkIndex_df160) := goodIn_app (goodIn_of _ (by decide +kernel)) ggJ5_charAt_5068e_J0_checkIndex_df160
set_option maxRecDepth 20000 in
theorem ggJ5_charAt_5068e_J2_getChar_3b067 : GoodIn wsJ5_charAt_5068e wsJ2_getChar_3b067 := goodIn_r _ [20, 21, 22, 23, 24, 25, 19, 26] rfl (by decide +kernel)
set_option maxRecDepth 20000 in
theorem gJ5_charAt_5068e_J2_getChar_3b067 : GoodIn wsJ5_charAt_5068e (va_wsS RJ5 148 yJ2_getChar_3b067 wsJ2_getChar_3b067) := goodIn_app (goodIn_of _ (by decide +kernel)) ggJ5_charAt_5068e_J2_getChar_3b067
theorem dJ5_charAt_5068e_0 : decode cJ5_charAt_5068e 0 = .ok (.aload_n 0, 1) := by decide +kernel
theorem dJ5_charAt_5068e_1 : decode cJ5_charAt_5068e 1 = .ok (.getfield 22, 3) := by decide +kernel
theorem dJ5_charAt_5068e_4 : decode cJ5_charAt_5068e 4 = .ok (.istore_n 2, 1) := by decide +kernel
theorem dJ5_charAt_5068e_5 : decode cJ5_charAt_5068e 5 = .ok (.aload_n 0, 1) := by decide +kernel
theorem dJ5_charAt_5068e_6 : decode cJ5_charAt_5068e 6 = .ok (.getfield 15, 3) := by decide +kernel
theorem dJ5_charAt_5068e_9 : decode cJ5_charAt_5068e 9 = .ok (.astore_n 3, 1) := by decide +kernel
theorem dJ5_charAt_5068e_10 : decode cJ5_charAt_5068e 10 = .ok (.aload_n 0, 1) := by decide +kernel
theorem dJ5_charAt_5068e_11 : decode cJ5_charAt_5068e 11 = .ok (.getfield 79, 3) := by decide +kernel
theorem dJ5_charAt_5068e_14 : decode cJ5_charAt_5068e 14 = .ok (.aload_n 3, 1) := by decide +kernel
theorem dJ5_charAt_5068e_15 : decode cJ5_charAt_5068e 15 = .ok (.arraylength, 1) := by decide +kernel
theorem dJ5_charAt_5068e_16 : decode cJ5_charAt_5068e 16 = .ok (.iload_n 2, 1) := by decide +kernel
theorem dJ5_charAt_5068e_17 : decode cJ5_charAt_5068e 17 = .ok (.ishr, 1) := by decide +kernel
theorem dJ5_charAt_5068e_18 : decode cJ5_charAt_5068e 18 = .ok (.invokestatic 138, 3) := by decide +kernel
theorem dJ5_charAt_5068e_21 : decode cJ5_charAt_5068e 21 = .ok (.istore 4, 2) := by decide +kernel
theorem dJ5_charAt_5068e_23 : decode cJ5_charAt_5068e 23 = .ok (.iload_n 1, 1) := by decide +kernel
theorem dJ5_charAt_5068e_24 : decode cJ5_charAt_5068e 24 = .ok (.iload 4, 2) := by decide +kernel
theorem dJ5_charAt_5068e_26 : decode cJ5_charAt_5068e 26 = .ok (.invokestatic 144, 3) := by decide +kernel
theorem dJ5_charAt_5068e_29 : decode cJ5_charAt_5068e 29 = .ok (.iload_n 2, 1) := by decide +kernel
theorem dJ5_charAt_5068e_30 : decode cJ5_charAt_5068e 30 = .ok (.ifCond .ne 12, 3) := by decide +kernel
theorem dJ5_charAt_5068e_33 : decode cJ5_charAt_5068e 33 = .ok (.aload_n 3, 1) := by decide +kernel
theorem dJ5_charAt_5068e_34 : decode cJ5_charAt_5068e 34 = .ok (.iload_n 1, 1) := by decide +kernel
theorem dJ5_charAt_5068e_35 : decode cJ5_charAt_5068e 35 = .ok (.baload, 1) := by decide +kernel
theorem dJ5_charAt_5068e_36 : decode cJ5_charAt_5068e 36 = .ok (.sipush 255, 3) := by decide +kernel
theorem dJ5_charAt_5068e_39 : decode cJ5_charAt_5068e 39 = .ok (.iand, 1) := by decide +kernel
theorem dJ5_charAt_5068e_40 : decode cJ5_charAt_5068e 40 = .ok (.i2c, 1) := by decide +kernel
theorem dJ5_charAt_5068e_41 : decode cJ5_charAt_5068e 41 = .ok (.ireturn, 1) := by decide +kernel
theorem dJ5_charAt_5068e_42 : decode cJ5_charAt_5068e 42 = .ok (.aload_n 3, 1) := by decide +kernel
theorem dJ5_charAt_5068e_43 : decode cJ5_charAt_5068e 43 = .ok (.iload_n 1, 1) := by decide +kernel
theorem dJ5_charAt_5068e_44 : decode cJ5_charAt_5068e 44 = .ok (.invokestatic 148, 3) := by decide +kernel
theorem dJ5_charAt_5068e_47 : decode cJ5_charAt_5068e 47 = .ok (.ireturn, 1) := by decide +kernel
set_option maxRecDepth 20000 in
theorem ggJ5_append_cf1ce_J5_appendNull_278bc : GoodIn wsJ5_append_cf1ce wsJ5_appendNull_278bc := goodIn_r _ [7, 1, 8, 9, 10, 11, 12, 6, 13, 14, 15, 16, 17, 18, 19, 20, 21, 22, 23, 24, 25, 26, 27, 28, 29, 30, 31, 32, 33, 34, 35, 36, 37, 38, 39, 40, 41, 42, 43, 44, 45, 46, 47, 48, 49, 50, 51, 52, 53, 54, 55, 56, 57, 58, 59, 60, 61, 62, 63, 64, 65, 66, 67, 68, 69, 70, 71, 72, 73, 74, 75, 76, 77, 78, 79, 80, 81, 138, 139, 140, 141] rfl (by decide +kernel)
set_option maxRecDepth 20000 in
theorem gJ5_append_cf1ce_J5_appendNull_278bc_u204J4 : GoodIn wsJ5_append_cf1ce (va_wsU RJ5 204 RJ4 "java/lang/AbstractStringBuilder" ⟨"java/lang/AbstractStringBuilder", "appendNull", "()Ljava/lang/AbstractStringBuilder;"⟩ yJ5_appendNull_278bc wsJ5_appendNull_278bc) := goodIn_app (goodIn_of _ (by decide +kernel)) ggJ5_append_cf1ce_J5_appendNull_278bc
set_option maxRecDepth 20000 in
theorem ggJ5_append_cf1ce_J0_length_8abf5 : GoodIn wsJ5_append_cf1ce wsJ0_length_8abf5 := goodIn_r _ [85, 86, 87, 88, 89, 70, 90, 91, 92, 142, 143, 144, 145] rfl (by decide +kernel)
set_option maxRecDepth 20000 in
theorem gJ5_append_cf1ce_J0_length_8abf5 : GoodIn wsJ5_append_cf1ce (wsV RJ5 32 RJ0 yJ0_length_8abf5 wsJ0_length_8abf5) := goodIn_app (goodIn_of _ (by decide +kernel)) ggJ5_append_cf1ce_J0_length_8abf5
set_option maxRecDepth 20000 in
theorem ggJ5_append_cf1ce_J5_ensureCapacityInternal_d00df : GoodIn wsJ5_append_cf1ce wsJ5_ensureCapacityInternal_d00df := goodIn_r _ [13, 8, 14, 15, 16, 17, 18, 6, 19, 20, 21, 22, 23, 24, 25, 26, 27, 28, 29, 30, 31, 32, 33, 34, 35, 36, 37, 38, 39, 40, 41, 42, 43, 44, 45, 46, 47, 48, 49, 50, 138, 139, 140, 141] rfl (by decide +kernel)
set_option maxRecDepth 20000 in
theorem gJ5_append_cf1ce_J5_ensureCapacityInternal_d00df_u100J4 : GoodIn wsJ5_append_cf1ce (va_wsU RJ5 100 RJ4 "java/lang/AbstractStringBuilder" ⟨"java/lang/AbstractStringBuilder", "ensureCapacityInternal", "(I)V"⟩ yJ5_ensureCapacityInternal_d00df wsJ5_ensureCapacityInternal_d00df) := goodIn_app (goodIn_of _ (by decide +kernel)) ggJ5_append_cf1ce_J5_ensureCapacityInternal_d00df
set_option maxRecDepth 20000 in
theorem ggJ5_append_cf1ce_J5_putStringAt_47b60 : GoodIn wsJ5_append_cf1ce wsJ5_putStringAt_47b60 := goodIn_r _ [97, 8, 14, 98, 99, 100, 101, 6, 102, 56, 103, 88, 89, 70, 90, 91, 92, 104, 105, 106, 107, 108, 1, 51, 52, 53, 54, 55, 109, 110, 59, 111, 43, 112, 113, 114, 115, 116, 117, 118, 119, 120, 121, 122, 123, 124, 125, 65, 66, 67, 126, 127, 128, 72, 129, 130, 75, 131, 77, 78, 79, 61, 80, 81, 132, 133, 134, 135, 86, 136, 48, 49, 50, 87, 137, 138, 139, 140, 141, 142, 143, 144, 145] rfl (by decide +kernel)
set_option maxRecDepth 20000 in
theorem gJ5_append_cf1ce_J5_putStringAt_47b60_u208J4 : GoodIn wsJ5_append_cf1ce (va_wsU RJ5 208 RJ4 "java/lang/AbstractStringBuilder" ⟨"java/lang/AbstractStringBuilder", "putStringAt", "(ILjava/lang/String;)V"⟩ yJ5_putStringAt_47b60 wsJ5_putStringAt_47b60) := goodIn_app (goodIn_of _ (by decide +kernel)) ggJ5_append_cf1ce_J5_putStringAt_47b60
theorem dJ5_append_cf1ce_0 : decode cJ5_append_cf1ce 0 = .ok (.aload_n 1, 1) := by decide +kernel
theorem dJ5_append_cf1ce_1 : decode cJ5_append_cf1ce 1 = .ok (.ifnonnull 8, 3) := by decide +kernel
theorem dJ5_append_cf1ce_4 : decode cJ5_append_cf1ce 4 = .ok (.aload_n 0, 1) := by decide +kernel
theorem dJ5_append_cf1ce_5 : decode cJ5_append_cf1ce 5 = .ok (.invokevirtual 204, 3) := by decide +kernel
theorem dJ5_append_cf1ce_8 : decode cJ5_append_cf1ce 8 = .ok (.areturn, 1) := by decide +kernel
theorem dJ5_append_cf1ce_9 : decode cJ5_append_cf1ce 9 = .ok (.aload_n 1, 1) := by decide +kernel
theorem dJ5_append_cf1ce_10 : decode cJ5_append_cf1ce 10 = .ok (.invokevirtual 32, 3) := by decide +kernel
theorem dJ5_append_cf1ce_13 : decode cJ5_append_cf1ce 13 = .ok (.istore_n 2, 1) := by decide +kernel
theorem dJ5_append_cf1ce_14 : decode cJ5_append_cf1ce 14 = .ok (.aload_n 0, 1) := by decide +kernel
theorem dJ5_append_cf1ce_15 : decode cJ5_append_cf1ce 15 = .ok (.aload_n 0, 1) := by decide +kernel
theorem dJ5_append_cf1ce_16 : decode cJ5_append_cf1ce 16 = .ok (.getfield 79, 3) := by decide +kernel
theorem dJ5_append_cf1ce_19 : decode cJ5_append_cf1ce 19 = .ok (.iload_n 2, 1) := by decide +kernel
theorem dJ5_append_cf1ce_20 : decode cJ5_append_cf1ce 20 = .ok (.iadd, 1) := by decide +kernel
theorem dJ5_append_cf1ce_21 : decode cJ5_append_cf1ce 21 = .ok (.invokevirtual 100, 3) := by decide +kernel
theorem dJ5_append_cf1ce_24 : decode cJ5_append_cf1ce 24 = .ok (.aload_n 0, 1) := by decide +kernel
theorem dJ5_append_cf1ce_25 : decode cJ5_append_cf1ce 25 = .ok (.aload_n 0, 1) := by decide +kernel
theorem dJ5_append_cf1ce_26 : decode cJ5_append_cf1ce 26 = .ok (.getfield 79, 3) := by decide +kernel
theorem dJ5_append_cf1ce_29 : decode cJ5_append_cf1ce 29 = .ok (.aload_n 1, 1) := by decide +kernel
theorem dJ5_append_cf1ce_30 : decode cJ5_append_cf1ce 30 = .ok (.invokevirtual 208, 3) := by decide +kernel
theorem dJ5_append_cf1ce_33 : decode cJ5_append_cf1ce 33 = .ok (.aload_n 0, 1) := by decide +kernel
theorem dJ5_append_cf1ce_34 : decode cJ5_append_cf1ce 34 = .ok (.dup, 1) := by decide +kernel
theorem dJ5_append_cf1ce_35 : decode cJ5_append_cf1ce 35 = .ok (.getfield 79, 3) := by decide +kernel
theorem dJ5_append_cf1ce_38 : decode cJ5_append_cf1ce 38 = .ok (.iload_n 2, 1) := by decide +kernel
theorem dJ5_append_cf1ce_39 : decode cJ5_append_cf1ce 39 = .ok (.iadd, 1) := by decide +kernel
theorem dJ5_append_cf1ce_40 : decode cJ5_append_cf1ce 40 = .ok (.putfield 79, 3) := by decide +kernel
theorem dJ5_append_cf1ce_43 : decode cJ5_append_cf1ce 43 = .ok (.aload_n 0, 1) := by decide +kernel
theorem dJ5_append_cf1ce_44 : decode cJ5_append_cf1ce 44 = .ok (.areturn, 1) := by decide +kernel
set_option maxRecDepth 20000 in
theorem ggJ5_appendNull_278bc_J5_ensureCapacityInternal_d00df : GoodIn wsJ5_appendNull_278bc wsJ5_ensureCapacityInternal_d00df := goodIn_r _ [8, 2, 9, 10, 11, 12, 13, 7, 14, 15, 16, 17, 18, 19, 20, 21, 22, 23, 24, 25, 26, 27, 28, 29, 30, 31, 32, 33, 34, 35, 36, 37, 38, 39, 40, 41, 42, 43, 44, 45, 77, 78, 79, 80] rfl (by decide +kernel)
set_option maxRecDepth 20000 in
theorem gJ5_appendNull_278bc_J5_ensureCapacityInternal_d00df_u100J4 : GoodIn wsJ5_appendNull_278bc (va_wsU RJ5 100 RJ4 "java/lang/AbstractStringBuilder" ⟨"java/lang/AbstractStringBuilder", "ensureCapacityInternal", "(I)V"⟩ yJ5_ensureCapacityInternal_d00df wsJ5_ensureCapacityInternal_d00df) := goodIn_app (goodIn_of _ (by decide +kernel)) ggJ5_appendNull_278bc_J5_ensureCapacityInternal_d00df
set_option maxRecDepth 20000 in
theorem ggJ5_appendNull_278bc_J5_isLatin1_aae02 : GoodIn wsJ5_appendNull_278bc wsJ5_isLatin1_aae02 := goodIn_r _ [50, 51, 9, 77, 78, 79, 80] rfl (by decide +kernel)
set_option maxRecDepth 20000 in
theorem gJ5_appendNull_278bc_J5_isLatin1_aae02_u83J4 : GoodIn wsJ5_appendNull_278bc (va_wsU RJ5 83 RJ4 "java/lang/AbstractStringBuilder" ⟨"java/lang/AbstractStringBuilder", "isLatin1", "()Z"⟩ yJ5_isLatin1_aae02 wsJ5_isLatin1_aae02) := goodIn_app (goodIn_of _ (by decide +kernel)) ggJ5_appendNull_278bc_J5_isLatin1_aae02
set_option maxRecDepth 20000 in
theorem ggJ5_appendNull_278bc_J2_putCharsAt_cd4e5 : GoodIn wsJ5_appendNull_278bc wsJ2_putCharsAt_cd4e5 := goodIn_r _ [55, 56, 57, 58, 54, 59, 60, 61, 62, 63, 64, 65, 66, 67, 68, 69, 70, 71, 72, 73, 74, 75, 76] rfl (by decide +kernel)
set_option maxRecDepth 20000 in
theorem gJ5_appendNull_278bc_J2_putCharsAt_cd4e5 : GoodIn wsJ5_appendNull_278bc (va_wsS RJ5 226 yJ2_putCharsAt_cd4e5 wsJ2_putCharsAt_cd4e5) := goodIn_app (goodIn_of _ (by decide +kernel)) ggJ5_appendNull_278bc_J2_putCharsAt_cd4e5
theorem dJ5_appendNull_278bc_0 : decode cJ5_appendNull_278bc 0 = .ok (.aload_n 0, 1) := by decide +kernel
theorem dJ5_appendNull_278bc_1 : decode cJ5_appendNull_278bc 1 = .ok (.aload_n 0, 1) := by decide +kernel
theorem dJ5_appendNull_278bc_2 : decode cJ5_appendNull_278bc 2 = .ok (.getfield 79, 3) := by decide +kernel
theorem dJ5_appendNull_278bc_5 : decode cJ5_appendNull_278bc 5 = .ok (.iconst 4, 1) := by decide +kernel
theorem dJ5_appendNull_278bc_6 : decode cJ5_appendNull_278bc 6 = .ok (.iadd, 1) := by decide +kernel
theorem dJ5_appendNull_278bc_7 : decode cJ5_appendNull_278bc 7 = .ok (.invokevirtual 100, 3) := by decide +kernel
theorem dJ5_appendNull_278bc_10 : decode cJ5_appendNull_278bc 10 = .ok (.aload_n 0, 1) := by decide +kernel
theorem dJ5_appendNull_278bc_11 : decode cJ5_appendNull_278bc 11 = .ok (.getfield 79, 3) := by decide +kernel
theorem dJ5_appendNull_278bc_14 : decode cJ5_appendNull_278bc 14 = .ok (.istore_n 1, 1) := by decide +kernel
theorem dJ5_appendNull_278bc_15 : decode cJ5_appendNull_278bc 15 = .ok (.aload_n 0, 1) := by decide +kernel
theorem dJ5_appendNull_278bc_16 : decode cJ5_appendNull_278bc 16 = .ok (.getfield 15, 3) := by decide +kernel
theorem dJ5_appendNull_278bc_19 : decode cJ5_appendNull_278bc 19 = .ok (.astore_n 2, 1) := by decide +kernel
theorem dJ5_appendNull_278bc_20 : decode cJ5_appendNull_278bc 20 = .ok (.aload_n 0, 1) := by decide +kernel
theorem dJ5_appendNull_278bc_21 : decode cJ5_appendNull_278bc 21 = .ok (.invokevirtual 83, 3) := by decide +kernel
theorem dJ5_appendNull_278bc_24 : decode cJ5_appendNull_278bc 24 = .ok (.ifCond .eq 38, 3) := by decide +kernel
theorem dJ5_appendNull_278bc_27 : decode cJ5_appendNull_278bc 27 = .ok (.aload_n 2, 1) := by decide +kernel
theorem dJ5_appendNull_278bc_28 : decode cJ5_appendNull_278bc 28 = .ok (.iload_n 1, 1) := by decide +kernel
theorem dJ5_appendNull_278bc_29 : decode cJ5_appendNull_278bc 29 = .ok (.iinc 1 1, 3) := by decide +kernel
theorem dJ5_appendNull_278bc_32 : decode cJ5_appendNull_278bc 32 = .ok (.bipush 110, 2) := by decide +kernel
theorem dJ5_appendNull_278bc_34 : decode cJ5_appendNull_278bc 34 = .ok (.bastore, 1) := by decide +kernel
theorem dJ5_appendNull_278bc_35 : decode cJ5_appendNull_278bc 35 = .ok (.aload_n 2, 1) := by decide +kernel
theorem dJ5_appendNull_278bc_36 : decode cJ5_appendNull_278bc 36 = .ok (.iload_n 1, 1) := by decide +kernel
theorem dJ5_appendNull_278bc_37 : decode cJ5_appendNull_278bc 37 = .ok (.iinc 1 1, 3) := by decide +kernel
theorem dJ5_appendNull_278bc_40 : decode cJ5_appendNull_278bc 40 = .ok (.bipush 117, 2) := by decide +kernel
theorem dJ5_appendNull_278bc_42 : decode cJ5_appendNull_278bc 42 = .ok (.bastore, 1) := by decide +kernel
theorem dJ5_appendNull_278bc_43 : decode cJ5_appendNull_278bc 43 = .ok (.aload_n 2, 1) := by decide +kernel
theorem dJ5_appendNull_278bc_44 : decode cJ5_appendNull_278bc 44 = .ok (.iload_n 1, 1) := by decide +kernel
theorem dJ5_appendNull_278bc_45 : decode cJ5_appendNull_278bc 45 = .ok (.iinc 1 1, 3) := by decide +kernel
theorem dJ5_appendNull_278bc_48 : decode cJ5_appendNull_278bc 48 = .ok (.bipush 108, 2) := by decide +kernel
theorem dJ5_appendNull_278bc_50 : decode cJ5_appendNull_278bc 50 = .ok (.bastore, 1) := by decide +kernel
theorem dJ5_appendNull_278bc_51 : decode cJ5_appendNull_278bc 51 = .ok (.aload_n 2, 1) := by decide +kernel
theorem dJ5_appendNull_278bc_52 : decode cJ5_appendNull_278bc 52 = .ok (.iload_n 1, 1) := by decide +kernel
theorem dJ5_appendNull_278bc_53 : decode cJ5_appendNull_278bc 53 = .ok (.iinc 1 1, 3) := by decide +kernel
theorem dJ5_appendNull_278bc_56 : decode cJ5_appendNull_278bc 56 = .ok (.bipush 108, 2) := by decide +kernel
theorem dJ5_appendNull_278bc_58 : decode cJ5_appendNull_278bc 58 = .ok (.bastore, 1) := by decide +kernel
theorem dJ5_appendNull_278bc_59 : decode cJ5_appendNull_278bc 59 = .ok (.goto 17, 3) := by decide +kernel
theorem dJ5_appendNull_278bc_62 : decode cJ5_appendNull_278bc 62 = .ok (.aload_n 2, 1) := by decide +kernel
theorem dJ5_appendNull_278bc_63 : decode cJ5_appendNull_278bc 63 = .ok (.iload_n 1, 1) := by decide +kernel
theorem dJ5_appendNull_278bc_64 : decode cJ5_appendNull_278bc 64 = .ok (.bipush 110, 2) := by decide +kernel
theorem dJ5_appendNull_278bc_66 : decode cJ5_appendNull_278bc 66 = .ok (.bipush 117, 2) := by decide +kernel
theorem dJ5_appendNull_278bc_68 : decode cJ5_appendNull_278bc 68 = .ok (.bipush 108, 2) := by decide +kernel
theorem dJ5_appendNull_278bc_70 : decode cJ5_appendNull_278bc 70 = .ok (.bipush 108, 2) := by decide +kernel
theorem dJ5_appendNull_278bc_72 : decode cJ5_appendNull_278bc 72 = .ok (.invokestatic 226, 3) := by decide +kernel
theorem dJ5_appendNull_278bc_75 : decode cJ5_appendNull_278bc 75 = .ok (.istore_n 1, 1) := by decide +kernel
theorem dJ5_appendNull_278bc_76 : decode cJ5_appendNull_278bc 76 = .ok (.aload_n 0, 1) := by decide +kernel
theorem dJ5_appendNull_278bc_77 : decode cJ5_appendNull_278bc 77 = .ok (.iload_n 1, 1) := by decide +kernel
theorem dJ5_appendNull_278bc_78 : decode cJ5_appendNull_278bc 78 = .ok (.putfield 79, 3) := by decide +kernel
theorem dJ5_appendNull_278bc_81 : decode cJ5_appendNull_278bc 81 = .ok (.aload_n 0, 1) := by decide +kernel
theorem dJ5_appendNull_278bc_82 : decode cJ5_appendNull_278bc 82 = .ok (.areturn, 1) := by decide +kernel
set_option maxRecDepth 20000 in
theorem ggJ5_append_3fe6f_J5_ensureCapacityInternal_d00df : GoodIn wsJ5_append_3fe6f wsJ5_ensureCapacityInternal_d00df := goodIn_r _ [8, 2, 9, 10, 11, 12, 13, 7, 14, 15, 16, 17, 18, 19, 20, 21, 22, 23, 24, 25, 26, 27, 28, 29, 30, 31, 32, 33, 34, 35, 36, 37, 38, 39, 40, 41, 42, 43, 44, 45, 108, 109, 110, 111] rfl (by decide +kernel)
set_option maxRecDepth 20000 in
theorem gJ5_append_3fe6f_J5_ensureCapacityInternal_d00df_u100J4 : GoodIn wsJ5_append_3fe6f (va_wsU RJ5 100 RJ4 "java/lang/AbstractStringBuilder" ⟨"java/lang/AbstractStringBuilder", "ensureCapacityInternal", "(I)V"⟩ yJ5_ensureCapacityInternal_d00df wsJ5_ensureCapacityInternal_d00df) := goodIn_app (goodIn_of _ (by decide +kernel)) ggJ5_append_3fe6f_J5_ensureCapacityInternal_d00df
