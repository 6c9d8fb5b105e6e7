theorem dX8_addSurveyor_10 : decode cX8_addSurveyor 10 = .ok (.iconst 1, 1) := by decide +kernel
theorem dX8_addSurveyor_11 : decode cX8_addSurveyor 11 = .ok (.iadd, 1) := by decide +kernel
theorem dX8_addSurveyor_12 : decode cX8_addSurveyor 12 = .ok (.putfield 28, 3) := by decide +kernel
theorem dX8_addSurveyor_15 : decode cX8_addSurveyor 15 = .ok (.aload_n 0, 1) := by decide +kernel
theorem dX8_addSurveyor_16 : decode cX8_addSurveyor 16 = .ok (.iload_n 1, 1) := by decide +kernel
theorem dX8_addSurveyor_17 : decode cX8_addSurveyor 17 = .ok (.invokevirtual 165, 3) := by decide +kernel
theorem dX8_addSurveyor_20 : decode cX8_addSurveyor 20 = .ok (.iload_n 1, 1) := by decide +kernel
theorem dX8_addSurveyor_21 : decode cX8_addSurveyor 21 = .ok (.ireturn, 1) := by decide +kernel
set_option maxRecDepth 20000 in
theorem ggX8_setCanal_X8_costBetween : GoodIn wsX8_setCanal wsX8_costBetween := goodIn_ca (goodIn_r _ [13, 1, 14, 15, 12, 16, 164, 165, 166, 167, 168, 169, 170, 171, 172, 173] rfl (by decide +kernel)) (goodIn_sub (fun _ h => List.mem_cons_of_mem _ (List.mem_append_right _ h)) (by decide +kernel))
set_option maxRecDepth 20000 in
theorem gX8_setCanal_X8_costBetween : GoodIn wsX8_setCanal (wsV RX8 85 RX8 yX8_costBetween wsX8_costBetween) := goodIn_app (goodIn_of _ (by decide +kernel)) ggX8_setCanal_X8_costBetween
set_option maxRecDepth 20000 in
theorem ggX8_setCanal_X8_pair : GoodIn wsX8_setCanal wsX8_pair := goodIn_r _ [16] rfl (by decide +kernel)
set_option maxRecDepth 20000 in
theorem gX8_setCanal_X8_pair : GoodIn wsX8_setCanal (va_wsS RX8 62 yX8_pair wsX8_pair) := goodIn_app (goodIn_of _ (by decide +kernel)) ggX8_setCanal_X8_pair
set_option maxRecDepth 20000 in
theorem ggX8_setCanal_X8_districtOf : GoodIn wsX8_setCanal wsX8_districtOf := goodIn_ca (goodIn_r _ [20, 21, 22, 23, 24, 12, 25, 26, 164, 165, 166, 167, 168, 169, 170, 171, 172, 173] rfl (by decide +kernel)) (goodIn_sub (fun _ h => List.mem_cons_of_mem _ (List.mem_append_right _ h)) (by decide +kernel))
set_option maxRecDepth 20000 in
theorem gX8_setCanal_X8_districtOf : GoodIn wsX8_setCanal (wsV RX8 169 RX8 yX8_districtOf wsX8_districtOf) := goodIn_app (goodIn_of _ (by decide +kernel)) ggX8_setCanal_X8_districtOf
set_option maxRecDepth 20000 in
theorem ggX8_setCanal_X8_renew : GoodIn wsX8_setCanal wsX8_renew := goodIn_ca (goodIn_r _ [30, 31, 26, 32, 33, 34, 35, 36, 37, 38, 39, 40, 41, 12, 42, 1, 21, 22, 23, 24, 25, 14, 15, 16, 9, 10, 11, 13, 43, 44, 45, 46, 47, 48, 49, 50, 51, 52, 53, 54, 55, 56, 57, 58, 59, 60, 61, 62, 63, 64, 65, 66, 67, 68, 69, 70, 71, 72, 73, 74, 75, 76, 77, 78, 79, 80, 81, 82, 83, 84, 85, 86, 87, 88, 89, 90, 91, 92, 93, 94, 95, 96, 97, 98, 99, 100, 101, 102, 103, 104, 105, 106, 107, 108, 109, 110, 111, 112, 7, 4, 8, 113, 114, 115, 116, 117, 118, 119, 120, 121, 122, 123, 124, 125, 126, 127, 128, 129, 130, 131, 132, 133, 134, 135, 136, 3, 5, 137, 138, 139, 140, 141, 142, 143, 144, 145, 146, 147, 148, 149, 150, 151, 152, 153, 154, 155, 156, 157, 158, 159, 160, 161, 162, 163, 164, 165, 166, 167, 168, 169, 170, 171, 172, 173, 174, 175, 176, 177, 178, 179, 180, 181, 182, 183, 184, 185] rfl (by decide +kernel)) (goodIn_sub (fun _ h => List.mem_cons_of_mem _ (List.mem_append_right _ h)) (by decide +kernel))
set_option maxRecDepth 20000 in
theorem gX8_setCanal_X8_renew : GoodIn wsX8_setCanal (wsV RX8 165 RX8 yX8_renew wsX8_renew) := goodIn_app (goodIn_of _ (by decide +kernel)) ggX8_setCanal_X8_renew
theorem dX8_setCanal_0 : decode cX8_setCanal 0 = .ok (.aload_n 0, 1) := by decide +kernel
theorem dX8_setCanal_1 : decode cX8_setCanal 1 = .ok (.iload_n 1, 1) := by decide +kernel
theorem dX8_setCanal_2 : decode cX8_setCanal 2 = .ok (.iload_n 2, 1) := by decide +kernel
theorem dX8_setCanal_3 : decode cX8_setCanal 3 = .ok (.invokevirtual 85, 3) := by decide +kernel
theorem dX8_setCanal_6 : decode cX8_setCanal 6 = .ok (.istore 4, 2) := by decide +kernel
theorem dX8_setCanal_8 : decode cX8_setCanal 8 = .ok (.aload_n 0, 1) := by decide +kernel
theorem dX8_setCanal_9 : decode cX8_setCanal 9 = .ok (.getfield 15, 3) := by decide +kernel
theorem dX8_setCanal_12 : decode cX8_setCanal 12 = .ok (.iload_n 1, 1) := by decide +kernel
theorem dX8_setCanal_13 : decode cX8_setCanal 13 = .ok (.iload_n 2, 1) := by decide +kernel
theorem dX8_setCanal_14 : decode cX8_setCanal 14 = .ok (.invokestatic 62, 3) := by decide +kernel
theorem dX8_setCanal_17 : decode cX8_setCanal 17 = .ok (.iload_n 3, 1) := by decide +kernel
theorem dX8_setCanal_18 : decode cX8_setCanal 18 = .ok (.iastore, 1) := by decide +kernel
theorem dX8_setCanal_19 : decode cX8_setCanal 19 = .ok (.aload_n 0, 1) := by decide +kernel
theorem dX8_setCanal_20 : decode cX8_setCanal 20 = .ok (.getfield 15, 3) := by decide +kernel
theorem dX8_setCanal_23 : decode cX8_setCanal 23 = .ok (.iload_n 2, 1) := by decide +kernel
theorem dX8_setCanal_24 : decode cX8_setCanal 24 = .ok (.iload_n 1, 1) := by decide +kernel
theorem dX8_setCanal_25 : decode cX8_setCanal 25 = .ok (.invokestatic 62, 3) := by decide +kernel
theorem dX8_setCanal_28 : decode cX8_setCanal 28 = .ok (.iload_n 3, 1) := by decide +kernel
theorem dX8_setCanal_29 : decode cX8_setCanal 29 = .ok (.iastore, 1) := by decide +kernel
theorem dX8_setCanal_30 : decode cX8_setCanal 30 = .ok (.aload_n 0, 1) := by decide +kernel
theorem dX8_setCanal_31 : decode cX8_setCanal 31 = .ok (.iload_n 1, 1) := by decide +kernel
theorem dX8_setCanal_32 : decode cX8_setCanal 32 = .ok (.invokevirtual 169, 3) := by decide +kernel
theorem dX8_setCanal_35 : decode cX8_setCanal 35 = .ok (.aload_n 0, 1) := by decide +kernel
theorem dX8_setCanal_36 : decode cX8_setCanal 36 = .ok (.iload_n 2, 1) := by decide +kernel
theorem dX8_setCanal_37 : decode cX8_setCanal 37 = .ok (.invokevirtual 169, 3) := by decide +kernel
theorem dX8_setCanal_40 : decode cX8_setCanal 40 = .ok (.if_icmp .ne 21, 3) := by decide +kernel
theorem dX8_setCanal_43 : decode cX8_setCanal 43 = .ok (.aload_n 0, 1) := by decide +kernel
theorem dX8_setCanal_44 : decode cX8_setCanal 44 = .ok (.iload_n 1, 1) := by decide +kernel
theorem dX8_setCanal_45 : decode cX8_setCanal 45 = .ok (.iload_n 2, 1) := by decide +kernel
theorem dX8_setCanal_46 : decode cX8_setCanal 46 = .ok (.invokestatic 172, 3) := by decide +kernel
theorem dX8_setCanal_49 : decode cX8_setCanal 49 = .ok (.invokevirtual 165, 3) := by decide +kernel
theorem dX8_setCanal_52 : decode cX8_setCanal 52 = .ok (.aload_n 0, 1) := by decide +kernel
theorem dX8_setCanal_53 : decode cX8_setCanal 53 = .ok (.iload_n 1, 1) := by decide +kernel
theorem dX8_setCanal_54 : decode cX8_setCanal 54 = .ok (.iload_n 2, 1) := by decide +kernel
theorem dX8_setCanal_55 : decode cX8_setCanal 55 = .ok (.invokestatic 108, 3) := by decide +kernel
theorem dX8_setCanal_58 : decode cX8_setCanal 58 = .ok (.invokevirtual 165, 3) := by decide +kernel
theorem dX8_setCanal_61 : decode cX8_setCanal 61 = .ok (.iload 4, 2) := by decide +kernel
theorem dX8_setCanal_63 : decode cX8_setCanal 63 = .ok (.ireturn, 1) := by decide +kernel
set_option maxRecDepth 20000 in
theorem ggX8_moveTo_X8_districtOf : GoodIn wsX8_moveTo wsX8_districtOf := goodIn_ca (goodIn_r _ [9, 1, 10, 11, 12, 8, 13, 4, 191, 192, 193, 194, 195, 196, 197, 198, 199, 200] rfl (by decide +kernel)) (goodIn_sub (fun _ h => List.mem_cons_of_mem _ (List.mem_append_right _ h)) (by decide +kernel))
set_option maxRecDepth 20000 in
theorem gX8_moveTo_X8_districtOf : GoodIn wsX8_moveTo (wsV RX8 169 RX8 yX8_districtOf wsX8_districtOf) := goodIn_app (goodIn_of _ (by decide +kernel)) ggX8_moveTo_X8_districtOf
set_option maxRecDepth 20000 in
theorem ggX8_moveTo_X8_has : GoodIn wsX8_moveTo wsX8_has := goodIn_r _ [13, 4, 191, 192, 193, 194, 195, 196, 197, 198, 199, 200] rfl (by decide +kernel)
set_option maxRecDepth 20000 in
theorem gX8_moveTo_X8_has : GoodIn wsX8_moveTo (wsV RX8 58 RX8 yX8_has wsX8_has) := goodIn_app (goodIn_of _ (by decide +kernel)) ggX8_moveTo_X8_has
set_option maxRecDepth 20000 in
theorem ggX8_moveTo_X5_removeOf : GoodIn wsX8_moveTo wsX5_removeOf := goodIn_ca (goodIn_r _ [18, 19, 20, 21, 22, 23, 17, 24, 25, 26, 27, 28, 29, 30, 31, 32, 33, 34, 35, 36, 201, 202, 203] rfl (by decide +kernel)) (goodIn_sub (fun _ h => List.mem_cons_of_mem _ (List.mem_append_right _ h)) (by decide +kernel))
set_option maxRecDepth 20000 in
theorem gX8_moveTo_X5_removeOf : GoodIn wsX8_moveTo (wsV RX8 175 RX5 yX5_removeOf wsX5_removeOf) := goodIn_app (goodIn_of _ (by decide +kernel)) ggX8_moveTo_X5_removeOf
set_option maxRecDepth 20000 in
theorem ggX8_moveTo_X8_forget : GoodIn wsX8_moveTo wsX8_forget := goodIn_ca (goodIn_r _ [40, 4, 41, 42, 43, 44, 8, 45, 46, 47, 48, 49, 50, 51, 52, 53, 54, 55, 56, 57, 58, 59, 60, 61, 62, 63, 64, 65, 66, 67, 68, 69, 70, 71, 72, 73, 74, 75, 76, 77, 78, 79, 80, 81, 82, 83, 84, 85, 191, 192, 193, 194, 195, 196, 197, 198, 199, 200, 204, 205, 206, 207, 208, 209, 210, 211, 212] rfl (by decide +kernel)) (goodIn_sub (fun _ h => List.mem_cons_of_mem _ (List.mem_append_right _ h)) (by decide +kernel))
set_option maxRecDepth 20000 in
theorem gX8_moveTo_X8_forget : GoodIn wsX8_moveTo (wsV RX8 178 RX8 yX8_forget wsX8_forget) := goodIn_app (goodIn_of _ (by decide +kernel)) ggX8_moveTo_X8_forget
set_option maxRecDepth 20000 in
theorem ggX8_moveTo_X8_costBetween : GoodIn wsX8_moveTo wsX8_costBetween := goodIn_ca (goodIn_r _ [89, 90, 47, 48, 8, 49, 191, 192, 193, 194, 195, 196, 197, 198, 199, 200] rfl (by decide +kernel)) (goodIn_sub (fun _ h => List.mem_cons_of_mem _ (List.mem_append_right _ h)) (by decide +kernel))
set_option maxRecDepth 20000 in
theorem gX8_moveTo_X8_costBetween : GoodIn wsX8_moveTo (wsV RX8 85 RX8 yX8_costBetween wsX8_costBetween) := goodIn_app (goodIn_of _ (by decide +kernel)) ggX8_moveTo_X8_costBetween
set_option maxRecDepth 20000 in
theorem ggX8_moveTo_X8_renew : GoodIn wsX8_moveTo wsX8_renew := goodIn_ca (goodIn_r _ [94, 95, 4, 46, 96, 97, 98, 85, 41, 99, 100, 101, 102, 8, 103, 90, 1, 10, 11, 12, 13, 47, 48, 49, 86, 87, 88, 89, 42, 43, 44, 45, 50, 51, 52, 53, 54, 55, 56, 57, 58, 59, 60, 61, 62, 63, 64, 65, 66, 67, 68, 69, 70, 71, 72, 73, 74, 75, 76, 77, 78, 79, 80, 104, 105, 106, 107, 108, 109, 110, 111, 112, 113, 114, 115, 116, 117, 118, 119, 120, 121, 122, 123, 124, 125, 126, 127, 128, 129, 130, 131, 132, 133, 134, 135, 136, 137, 138, 139, 140, 141, 142, 143, 144, 145, 146, 147, 148, 149, 150, 151, 152, 153, 154, 155, 156, 157, 158, 159, 160, 161, 162, 163, 164, 165, 166, 167, 168, 169, 170, 171, 172, 173, 174, 175, 3, 176, 177, 178, 17, 179, 19, 180, 20, 181, 182, 183, 184, 185, 186, 187, 188, 189, 190, 191, 192, 193, 194, 195, 196, 197, 198, 199, 200, 209, 210, 211, 212, 204, 205, 206, 207, 208, 201, 202, 203] rfl (by decide +kernel)) (goodIn_sub (fun _ h => List.mem_cons_of_mem _ (List.mem_append_right _ h)) (by decide +kernel))
set_option maxRecDepth 20000 in
theorem gX8_moveTo_X8_renew : GoodIn wsX8_moveTo (wsV RX8 165 RX8 yX8_renew wsX8_renew) := goodIn_app (goodIn_of _ (by decide +kernel)) ggX8_moveTo_X8_renew
theorem dX8_moveTo_0 : decode cX8_moveTo 0 = .ok (.aload_n 0, 1) := by decide +kernel
theorem dX8_moveTo_1 : decode cX8_moveTo 1 = .ok (.iload_n 1, 1) := by decide +kernel
theorem dX8_moveTo_2 : decode cX8_moveTo 2 = .ok (.invokevirtual 169, 3) := by decide +kernel
theorem dX8_moveTo_5 : decode cX8_moveTo 5 = .ok (.istore_n 3, 1) := by decide +kernel
theorem dX8_moveTo_6 : decode cX8_moveTo 6 = .ok (.aload_n 0, 1) := by decide +kernel
theorem dX8_moveTo_7 : decode cX8_moveTo 7 = .ok (.iload_n 1, 1) := by decide +kernel
theorem dX8_moveTo_8 : decode cX8_moveTo 8 = .ok (.invokevirtual 58, 3) := by decide +kernel
theorem dX8_moveTo_11 : decode cX8_moveTo 11 = .ok (.ifCond .ne 5, 3) := by decide +kernel
theorem dX8_moveTo_14 : decode cX8_moveTo 14 = .ok (.iload_n 3, 1) := by decide +kernel
theorem dX8_moveTo_15 : decode cX8_moveTo 15 = .ok (.ireturn, 1) := by decide +kernel
theorem dX8_moveTo_16 : decode cX8_moveTo 16 = .ok (.aload_n 0, 1) := by decide +kernel
theorem dX8_moveTo_17 : decode cX8_moveTo 17 = .ok (.getfield 9, 3) := by decide +kernel
theorem dX8_moveTo_20 : decode cX8_moveTo 20 = .ok (.iload_n 1, 1) := by decide +kernel
theorem dX8_moveTo_21 : decode cX8_moveTo 21 = .ok (.iload_n 2, 1) := by decide +kernel
theorem dX8_moveTo_22 : decode cX8_moveTo 22 = .ok (.iastore, 1) := by decide +kernel
theorem dX8_moveTo_23 : decode cX8_moveTo 23 = .ok (.aload_n 0, 1) := by decide +kernel
theorem dX8_moveTo_24 : decode cX8_moveTo 24 = .ok (.dup, 1) := by decide +kernel
theorem dX8_moveTo_25 : decode cX8_moveTo 25 = .ok (.getfield 38, 3) := by decide +kernel
theorem dX8_moveTo_28 : decode cX8_moveTo 28 = .ok (.aload_n 0, 1) := by decide +kernel
theorem dX8_moveTo_29 : decode cX8_moveTo 29 = .ok (.getfield 24, 3) := by decide +kernel
theorem dX8_moveTo_32 : decode cX8_moveTo 32 = .ok (.iload_n 1, 1) := by decide +kernel
theorem dX8_moveTo_33 : decode cX8_moveTo 33 = .ok (.invokevirtual 175, 3) := by decide +kernel
theorem dX8_moveTo_36 : decode cX8_moveTo 36 = .ok (.iadd, 1) := by decide +kernel
theorem dX8_moveTo_37 : decode cX8_moveTo 37 = .ok (.putfield 38, 3) := by decide +kernel
theorem dX8_moveTo_40 : decode cX8_moveTo 40 = .ok (.aload_n 0, 1) := by decide +kernel
theorem dX8_moveTo_41 : decode cX8_moveTo 41 = .ok (.iload_n 1, 1) := by decide +kernel
theorem dX8_moveTo_42 : decode cX8_moveTo 42 = .ok (.iconst 0, 1) := by decide +kernel
theorem dX8_moveTo_43 : decode cX8_moveTo 43 = .ok (.invokevirtual 178, 3) := by decide +kernel
theorem dX8_moveTo_46 : decode cX8_moveTo 46 = .ok (.iconst 0, 1) := by decide +kernel
theorem dX8_moveTo_47 : decode cX8_moveTo 47 = .ok (.istore 4, 2) := by decide +kernel
theorem dX8_moveTo_49 : decode cX8_moveTo 49 = .ok (.iload 4, 2) := by decide +kernel
theorem dX8_moveTo_51 : decode cX8_moveTo 51 = .ok (.aload_n 0, 1) := by decide +kernel
theorem dX8_moveTo_52 : decode cX8_moveTo 52 = .ok (.getfield 28, 3) := by decide +kernel
theorem dX8_moveTo_55 : decode cX8_moveTo 55 = .ok (.if_icmp .ge 31, 3) := by decide +kernel
theorem dX8_moveTo_58 : decode cX8_moveTo 58 = .ok (.iload 4, 2) := by decide +kernel
theorem dX8_moveTo_60 : decode cX8_moveTo 60 = .ok (.iload_n 1, 1) := by decide +kernel
theorem dX8_moveTo_61 : decode cX8_moveTo 61 = .ok (.if_icmp .eq 13, 3) := by decide +kernel
theorem dX8_moveTo_64 : decode cX8_moveTo 64 = .ok (.aload_n 0, 1) := by decide +kernel
theorem dX8_moveTo_65 : decode cX8_moveTo 65 = .ok (.iload_n 1, 1) := by decide +kernel
theorem dX8_moveTo_66 : decode cX8_moveTo 66 = .ok (.iload 4, 2) := by decide +kernel
theorem dX8_moveTo_68 : decode cX8_moveTo 68 = .ok (.invokevirtual 85, 3) := by decide +kernel
theorem dX8_moveTo_71 : decode cX8_moveTo 71 = .ok (.ifCond .le 9, 3) := by decide +kernel
theorem dX8_moveTo_74 : decode cX8_moveTo 74 = .ok (.aload_n 0, 1) := by decide +kernel
theorem dX8_moveTo_75 : decode cX8_moveTo 75 = .ok (.iload 4, 2) := by decide +kernel
theorem dX8_moveTo_77 : decode cX8_moveTo 77 = .ok (.invokevirtual 165, 3) := by decide +kernel
theorem dX8_moveTo_80 : decode cX8_moveTo 80 = .ok (.iinc 4 1, 3) := by decide +kernel
theorem dX8_moveTo_83 : decode cX8_moveTo 83 = .ok (.goto (-34), 3) := by decide +kernel
theorem dX8_moveTo_86 : decode cX8_moveTo 86 = .ok (.iload_n 3, 1) := by decide +kernel
theorem dX8_moveTo_87 : decode cX8_moveTo 87 = .ok (.ireturn, 1) := by decide +kernel
set_option maxRecDepth 20000 in
theorem ggX8_loseFirst_X8_pageOfLetter : GoodIn wsX8_loseFirst wsX8_pageOfLetter := goodIn_ca (goodIn_r _ [7, 8, 1, 9, 10, 11, 12, 13, 14, 15, 16, 17, 18, 19, 20, 21, 22, 23, 24, 25, 26, 27, 28, 29, 30, 31, 32, 33, 34, 35, 36, 37, 38, 39, 40, 41, 42, 43, 44, 45, 46, 47, 48, 49, 50, 63, 64, 65, 66, 67, 68, 69, 70, 71, 72, 73, 74, 75, 76, 77, 78, 79, 80] rfl (by decide +kernel)) (goodIn_sub (fun _ h => List.mem_cons_of_mem _ (List.mem_append_right _ h)) (by decide +kernel))
set_option maxRecDepth 20000 in
theorem gX8_loseFirst_X8_pageOfLetter : GoodIn wsX8_loseFirst (wsV RX8 182 RX8 yX8_pageOfLetter wsX8_pageOfLetter) := goodIn_app (goodIn_of _ (by decide +kernel)) ggX8_loseFirst_X8_pageOfLetter
set_option maxRecDepth 20000 in
theorem ggX8_loseFirst_X5_removeFirst : GoodIn wsX8_loseFirst wsX5_removeFirst := goodIn_r _ [54, 19, 14, 55, 56, 57, 58, 73, 74, 75] rfl (by decide +kernel)
set_option maxRecDepth 20000 in
theorem gX8_loseFirst_X5_removeFirst : GoodIn wsX8_loseFirst (wsV RX8 188 RX5 yX5_removeFirst wsX5_removeFirst) := goodIn_app (goodIn_of _ (by decide +kernel)) ggX8_loseFirst_X5_removeFirst
theorem dX8_loseFirst_0 : decode cX8_loseFirst 0 = .ok (.aload_n 0, 1) := by decide +kernel
theorem dX8_loseFirst_1 : decode cX8_loseFirst 1 = .ok (.iconst 0, 1) := by decide +kernel
theorem dX8_loseFirst_2 : decode cX8_loseFirst 2 = .ok (.invokevirtual 182, 3) := by decide +kernel
theorem dX8_loseFirst_5 : decode cX8_loseFirst 5 = .ok (.getfield 185, 3) := by decide +kernel
theorem dX8_loseFirst_8 : decode cX8_loseFirst 8 = .ok (.istore_n 1, 1) := by decide +kernel
theorem dX8_loseFirst_9 : decode cX8_loseFirst 9 = .ok (.aload_n 0, 1) := by decide +kernel
theorem dX8_loseFirst_10 : decode cX8_loseFirst 10 = .ok (.getfield 24, 3) := by decide +kernel
theorem dX8_loseFirst_13 : decode cX8_loseFirst 13 = .ok (.iconst 1, 1) := by decide +kernel
theorem dX8_loseFirst_14 : decode cX8_loseFirst 14 = .ok (.invokevirtual 188, 3) := by decide +kernel
theorem dX8_loseFirst_17 : decode cX8_loseFirst 17 = .ok (.aload_n 0, 1) := by decide +kernel
theorem dX8_loseFirst_18 : decode cX8_loseFirst 18 = .ok (.dup, 1) := by decide +kernel
theorem dX8_loseFirst_19 : decode cX8_loseFirst 19 = .ok (.getfield 38, 3) := by decide +kernel
theorem dX8_loseFirst_22 : decode cX8_loseFirst 22 = .ok (.iconst 1, 1) := by decide +kernel
theorem dX8_loseFirst_23 : decode cX8_loseFirst 23 = .ok (.iadd, 1) := by decide +kernel
theorem dX8_loseFirst_24 : decode cX8_loseFirst 24 = .ok (.putfield 38, 3) := by decide +kernel
theorem dX8_loseFirst_27 : decode cX8_loseFirst 27 = .ok (.iload_n 1, 1) := by decide +kernel
theorem dX8_loseFirst_28 : decode cX8_loseFirst 28 = .ok (.ireturn, 1) := by decide +kernel
set_option maxRecDepth 20000 in
theorem ggX8_tickOnce_X8_forget : GoodIn wsX8_tickOnce wsX8_forget := goodIn_ca (goodIn_r _ [8, 3, 9, 10, 11, 12, 7, 13, 14, 15, 16, 17, 18, 19, 20, 21, 22, 23, 24, 25, 26, 27, 28, 29, 30, 31, 32, 33, 34, 35, 36, 37, 38, 39, 40, 41, 42, 43, 44, 45, 46, 47, 48, 49, 50, 51, 52, 2, 201, 202, 203, 204, 205, 206, 207, 208, 209, 210, 214, 215, 216, 217, 218, 219, 220, 221, 222] rfl (by decide +kernel)) (goodIn_sub (fun _ h => List.mem_cons_of_mem _ (List.mem_append_right _ h)) (by decide +kernel))
set_option maxRecDepth 20000 in
theorem gX8_tickOnce_X8_forget : GoodIn wsX8_tickOnce (wsV RX8 178 RX8 yX8_forget wsX8_forget) := goodIn_app (goodIn_of _ (by decide +kernel)) ggX8_tickOnce_X8_forget
set_option maxRecDepth 20000 in
theorem ggX8_tickOnce_X8_pageIn : GoodIn wsX8_tickOnce wsX8_pageIn := goodIn_ca (goodIn_r _ [13, 14, 9, 15, 16, 7, 17, 18, 19, 20, 21, 22, 23, 24, 25, 26, 27, 28, 29, 30, 31, 32, 33, 34, 35, 36, 37, 38, 39, 40, 41, 42, 43, 44, 45, 46, 47, 48, 201, 202, 203, 204, 205, 206, 207, 208, 209, 210, 214, 215, 216, 217, 218] rfl (by decide +kernel)) (goodIn_sub (fun _ h => List.mem_cons_of_mem _ (List.mem_append_right _ h)) (by decide +kernel))
set_option maxRecDepth 20000 in
theorem gX8_tickOnce_X8_pageIn : GoodIn wsX8_tickOnce (wsV RX8 88 RX8 yX8_pageIn wsX8_pageIn) := goodIn_app (goodIn_of _ (by decide +kernel)) ggX8_tickOnce_X8_pageIn
set_option maxRecDepth 20000 in
theorem ggX8_tickOnce_X8_ageOf : GoodIn wsX8_tickOnce wsX8_ageOf := goodIn_r _ [52, 2, 201, 202, 203, 204, 205, 206, 207, 208, 209, 210, 219, 220, 221, 222] rfl (by decide +kernel)
set_option maxRecDepth 20000 in
theorem gX8_tickOnce_X8_ageOf : GoodIn wsX8_tickOnce (wsV RX8 191 RX8 yX8_ageOf wsX8_ageOf) := goodIn_app (goodIn_of _ (by decide +kernel)) ggX8_tickOnce_X8_ageOf
set_option maxRecDepth 20000 in
theorem ggX8_tickOnce_X8_renew : GoodIn wsX8_tickOnce wsX8_renew := goodIn_ca (goodIn_r _ [56, 57, 3, 14, 58, 59, 60, 2, 9, 61, 62, 63, 64, 7, 65, 66, 67, 68, 69, 70, 71, 15, 16, 17, 72, 73, 74, 75, 10, 11, 12, 13, 18, 19, 20, 21, 22, 23, 24, 25, 26, 27, 28, 29, 30, 31, 32, 33, 34, 35, 36, 37, 38, 39, 40, 41, 42, 43, 44, 45, 46, 47, 48, 76, 77, 78, 79, 80, 81, 82, 83, 84, 85, 86, 87, 88, 89, 90, 91, 92, 93, 94, 95, 96, 97, 98, 99, 100, 101, 102, 103, 104, 105, 106, 107, 108, 109, 110, 111, 112, 113, 114, 115, 116, 117, 118, 119, 120, 121, 122, 123, 124, 125, 126, 127, 128, 129, 130, 131, 132, 133, 134, 135, 136, 137, 138, 139, 140, 141, 142, 143, 144, 145, 146, 147, 1, 148, 149, 150, 151, 152, 153, 154, 155, 156, 157, 158, 159, 160, 161, 162, 163, 164, 165, 201, 202, 203, 204, 205, 206, 207, 208, 209, 210, 219, 220, 221, 222, 214, 215, 216, 217, 218, 211, 212, 213] rfl (by decide +kernel)) (goodIn_sub (fun _ h => List.mem_cons_of_mem _ (List.mem_append_right _ h)) (by decide +kernel))
set_option maxRecDepth 20000 in
theorem gX8_tickOnce_X8_renew : GoodIn wsX8_tickOnce (wsV RX8 165 RX8 yX8_renew wsX8_renew) := goodIn_app (goodIn_of _ (by decide +kernel)) ggX8_tickOnce_X8_renew
set_option maxRecDepth 20000 in
theorem ggX8_tickOnce_X8_deliver : GoodIn wsX8_tickOnce wsX8_deliver := goodIn_ca (goodIn_r _ [169, 1, 170, 171, 14, 9, 172, 173, 174, 151, 175, 155, 176, 177, 178, 179, 153, 180, 181, 182, 183, 184, 185, 186, 187, 62, 63, 64, 7, 65, 66, 67, 68, 69, 70, 71, 3, 15, 16, 17, 188, 189, 190, 191, 192, 193, 194, 195, 18, 19, 20, 21, 22, 23, 24, 25, 26, 27, 28, 29, 30, 31, 32, 33, 34, 35, 36, 37, 38, 39, 40, 41, 42, 43, 44, 45, 46, 47, 48, 144, 145, 146, 147, 148, 149, 150, 152, 154, 156, 157, 158, 126, 159, 160, 161, 162, 163, 164, 165, 57, 137, 138, 112, 139, 140, 141, 142, 143, 201, 202, 203, 204, 205, 206, 207, 208, 209, 210, 219, 220, 221, 222, 211, 212, 213, 214, 215, 216, 217, 218] rfl (by decide +kernel)) (goodIn_sub (fun _ h => List.mem_cons_of_mem _ (List.mem_append_right _ h)) (by decide +kernel))
set_option maxRecDepth 20000 in
theorem gX8_tickOnce_X8_deliver : GoodIn wsX8_tickOnce (wsV RX8 195 RX8 yX8_deliver wsX8_deliver) := goodIn_app (goodIn_of _ (by decide +kernel)) ggX8_tickOnce_X8_deliver
set_option maxRecDepth 20000 in
theorem ggX8_tickOnce_X5_removeFirst : GoodIn wsX8_tickOnce wsX5_removeFirst := goodIn_r _ [199, 153, 155, 200, 141, 142, 143, 211, 212, 213] rfl (by decide +kernel)
set_option maxRecDepth 20000 in
theorem gX8_tickOnce_X5_removeFirst : GoodIn wsX8_tickOnce (wsV RX8 188 RX5 yX5_removeFirst wsX5_removeFirst) := goodIn_app (goodIn_of _ (by decide +kernel)) ggX8_tickOnce_X5_removeFirst
theorem dX8_tickOnce_0 : decode cX8_tickOnce 0 = .ok (.aload_n 0, 1) := by decide +kernel
theorem dX8_tickOnce_1 : decode cX8_tickOnce 1 = .ok (.getfield 24, 3) := by decide +kernel
theorem dX8_tickOnce_4 : decode cX8_tickOnce 4 = .ok (.getfield 138, 3) := by decide +kernel
theorem dX8_tickOnce_7 : decode cX8_tickOnce 7 = .ok (.istore_n 1, 1) := by decide +kernel
theorem dX8_tickOnce_8 : decode cX8_tickOnce 8 = .ok (.aload_n 0, 1) := by decide +kernel
theorem dX8_tickOnce_9 : decode cX8_tickOnce 9 = .ok (.dup, 1) := by decide +kernel
theorem dX8_tickOnce_10 : decode cX8_tickOnce 10 = .ok (.getfield 32, 3) := by decide +kernel
theorem dX8_tickOnce_13 : decode cX8_tickOnce 13 = .ok (.iconst 1, 1) := by decide +kernel
theorem dX8_tickOnce_14 : decode cX8_tickOnce 14 = .ok (.iadd, 1) := by decide +kernel
theorem dX8_tickOnce_15 : decode cX8_tickOnce 15 = .ok (.putfield 32, 3) := by decide +kernel
theorem dX8_tickOnce_18 : decode cX8_tickOnce 18 = .ok (.iconst 0, 1) := by decide +kernel
theorem dX8_tickOnce_19 : decode cX8_tickOnce 19 = .ok (.istore_n 2, 1) := by decide +kernel
theorem dX8_tickOnce_20 : decode cX8_tickOnce 20 = .ok (.iload_n 2, 1) := by decide +kernel
theorem dX8_tickOnce_21 : decode cX8_tickOnce 21 = .ok (.aload_n 0, 1) := by decide +kernel
theorem dX8_tickOnce_22 : decode cX8_tickOnce 22 = .ok (.getfield 28, 3) := by decide +kernel
theorem dX8_tickOnce_25 : decode cX8_tickOnce 25 = .ok (.if_icmp .ge 36, 3) := by decide +kernel
theorem dX8_tickOnce_28 : decode cX8_tickOnce 28 = .ok (.aload_n 0, 1) := by decide +kernel
theorem dX8_tickOnce_29 : decode cX8_tickOnce 29 = .ok (.iload_n 2, 1) := by decide +kernel
theorem dX8_tickOnce_30 : decode cX8_tickOnce 30 = .ok (.bipush 20, 2) := by decide +kernel
theorem dX8_tickOnce_32 : decode cX8_tickOnce 32 = .ok (.invokevirtual 178, 3) := by decide +kernel
theorem dX8_tickOnce_35 : decode cX8_tickOnce 35 = .ok (.aload_n 0, 1) := by decide +kernel
theorem dX8_tickOnce_36 : decode cX8_tickOnce 36 = .ok (.aload_n 0, 1) := by decide +kernel
theorem dX8_tickOnce_37 : decode cX8_tickOnce 37 = .ok (.iload_n 2, 1) := by decide +kernel
theorem dX8_tickOnce_38 : decode cX8_tickOnce 38 = .ok (.iload_n 2, 1) := by decide +kernel
theorem dX8_tickOnce_39 : decode cX8_tickOnce 39 = .ok (.invokevirtual 88, 3) := by decide +kernel
theorem dX8_tickOnce_42 : decode cX8_tickOnce 42 = .ok (.invokevirtual 191, 3) := by decide +kernel
theorem dX8_tickOnce_45 : decode cX8_tickOnce 45 = .ok (.bipush 10, 2) := by decide +kernel
theorem dX8_tickOnce_47 : decode cX8_tickOnce 47 = .ok (.if_icmp .lt 8, 3) := by decide +kernel
theorem dX8_tickOnce_50 : decode cX8_tickOnce 50 = .ok (.aload_n 0, 1) := by decide +kernel
theorem dX8_tickOnce_51 : decode cX8_tickOnce 51 = .ok (.iload_n 2, 1) := by decide +kernel
theorem dX8_tickOnce_52 : decode cX8_tickOnce 52 = .ok (.invokevirtual 165, 3) := by decide +kernel
theorem dX8_tickOnce_55 : decode cX8_tickOnce 55 = .ok (.iinc 2 1, 3) := by decide +kernel
theorem dX8_tickOnce_58 : decode cX8_tickOnce 58 = .ok (.goto (-38), 3) := by decide +kernel
theorem dX8_tickOnce_61 : decode cX8_tickOnce 61 = .ok (.iconst 0, 1) := by decide +kernel
theorem dX8_tickOnce_62 : decode cX8_tickOnce 62 = .ok (.istore_n 2, 1) := by decide +kernel
theorem dX8_tickOnce_63 : decode cX8_tickOnce 63 = .ok (.iload_n 2, 1) := by decide +kernel
theorem dX8_tickOnce_64 : decode cX8_tickOnce 64 = .ok (.iload_n 1, 1) := by decide +kernel
theorem dX8_tickOnce_65 : decode cX8_tickOnce 65 = .ok (.if_icmp .ge 14, 3) := by decide +kernel
theorem dX8_tickOnce_68 : decode cX8_tickOnce 68 = .ok (.aload_n 0, 1) := by decide +kernel
theorem dX8_tickOnce_69 : decode cX8_tickOnce 69 = .ok (.iload_n 2, 1) := by decide +kernel
theorem dX8_tickOnce_70 : decode cX8_tickOnce 70 = .ok (.invokevirtual 195, 3) := by decide +kernel
theorem dX8_tickOnce_73 : decode cX8_tickOnce 73 = .ok (.iinc 2 1, 3) := by decide +kernel
theorem dX8_tickOnce_76 : decode cX8_tickOnce 76 = .ok (.goto (-13), 3) := by decide +kernel
theorem dX8_tickOnce_79 : decode cX8_tickOnce 79 = .ok (.aload_n 0, 1) := by decide +kernel
theorem dX8_tickOnce_80 : decode cX8_tickOnce 80 = .ok (.getfield 24, 3) := by decide +kernel
theorem dX8_tickOnce_83 : decode cX8_tickOnce 83 = .ok (.iload_n 1, 1) := by decide +kernel
theorem dX8_tickOnce_84 : decode cX8_tickOnce 84 = .ok (.invokevirtual 188, 3) := by decide +kernel
theorem dX8_tickOnce_87 : decode cX8_tickOnce 87 = .ok (.return_, 1) := by decide +kernel
set_option maxRecDepth 20000 in
theorem ggX8_forget_X8_pageIn : GoodIn wsX8_forget wsX8_pageIn := goodIn_ca (goodIn_r _ [7, 8, 2, 9, 10, 6, 11, 12, 13, 14, 15, 16, 17, 18, 19, 20, 21, 22, 23, 24, 25, 26, 27, 28, 29, 30, 31, 32, 33, 34, 35, 36, 37, 38, 39, 40, 41, 42, 48, 49, 50, 51, 52, 53, 54, 55, 56, 57, 58, 59, 60, 61, 62] rfl (by decide +kernel)) (goodIn_sub (fun _ h => List.mem_cons_of_mem _ (List.mem_append_right _ h)) (by decide +kernel))
set_option maxRecDepth 20000 in
theorem gX8_forget_X8_pageIn : GoodIn wsX8_forget (wsV RX8 88 RX8 yX8_pageIn wsX8_pageIn) := goodIn_app (goodIn_of _ (by decide +kernel)) ggX8_forget_X8_pageIn
set_option maxRecDepth 20000 in
theorem ggX8_forget_X8_ageOf : GoodIn wsX8_forget wsX8_ageOf := goodIn_r _ [46, 47, 48, 49, 50, 51, 52, 53, 54, 55, 56, 57, 63, 64, 65, 66] rfl (by decide +kernel)
set_option maxRecDepth 20000 in
theorem gX8_forget_X8_ageOf : GoodIn wsX8_forget (wsV RX8 191 RX8 yX8_ageOf wsX8_ageOf) := goodIn_app (goodIn_of _ (by decide +kernel)) ggX8_forget_X8_ageOf
set_option maxRecDepth 20000 in
theorem ggX8_forget_X8_pair : GoodIn wsX8_forget wsX8_pair := goodIn_r _ [11] rfl (by decide +kernel)
set_option maxRecDepth 20000 in
theorem gX8_forget_X8_pair : GoodIn wsX8_forget (va_wsS RX8 62 yX8_pair wsX8_pair) := goodIn_app (goodIn_of _ (by decide +kernel)) ggX8_forget_X8_pair
theorem dX8_forget_0 : decode cX8_forget 0 = .ok (.iconst 0, 1) := by decide +kernel
theorem dX8_forget_1 : decode cX8_forget 1 = .ok (.istore_n 3, 1) := by decide +kernel
theorem dX8_forget_2 : decode cX8_forget 2 = .ok (.iload_n 3, 1) := by decide +kernel
theorem dX8_forget_3 : decode cX8_forget 3 = .ok (.aload_n 0, 1) := by decide +kernel
theorem dX8_forget_4 : decode cX8_forget 4 = .ok (.getfield 28, 3) := by decide +kernel
theorem dX8_forget_7 : decode cX8_forget 7 = .ok (.if_icmp .ge 39, 3) := by decide +kernel
theorem dX8_forget_10 : decode cX8_forget 10 = .ok (.iload_n 3, 1) := by decide +kernel
theorem dX8_forget_11 : decode cX8_forget 11 = .ok (.iload_n 1, 1) := by decide +kernel
theorem dX8_forget_12 : decode cX8_forget 12 = .ok (.if_icmp .eq 28, 3) := by decide +kernel
theorem dX8_forget_15 : decode cX8_forget 15 = .ok (.aload_n 0, 1) := by decide +kernel
theorem dX8_forget_16 : decode cX8_forget 16 = .ok (.aload_n 0, 1) := by decide +kernel
theorem dX8_forget_17 : decode cX8_forget 17 = .ok (.iload_n 1, 1) := by decide +kernel
theorem dX8_forget_18 : decode cX8_forget 18 = .ok (.iload_n 3, 1) := by decide +kernel
theorem dX8_forget_19 : decode cX8_forget 19 = .ok (.invokevirtual 88, 3) := by decide +kernel
theorem dX8_forget_22 : decode cX8_forget 22 = .ok (.invokevirtual 191, 3) := by decide +kernel
theorem dX8_forget_25 : decode cX8_forget 25 = .ok (.iload_n 2, 1) := by decide +kernel
theorem dX8_forget_26 : decode cX8_forget 26 = .ok (.if_icmp .lt 14, 3) := by decide +kernel
theorem dX8_forget_29 : decode cX8_forget 29 = .ok (.aload_n 0, 1) := by decide +kernel
theorem dX8_forget_30 : decode cX8_forget 30 = .ok (.getfield 18, 3) := by decide +kernel
theorem dX8_forget_33 : decode cX8_forget 33 = .ok (.iload_n 1, 1) := by decide +kernel
theorem dX8_forget_34 : decode cX8_forget 34 = .ok (.iload_n 3, 1) := by decide +kernel
theorem dX8_forget_35 : decode cX8_forget 35 = .ok (.invokestatic 62, 3) := by decide +kernel
theorem dX8_forget_38 : decode cX8_forget 38 = .ok (.iconst 0, 1) := by decide +kernel
theorem dX8_forget_39 : decode cX8_forget 39 = .ok (.iastore, 1) := by decide +kernel
theorem dX8_forget_40 : decode cX8_forget 40 = .ok (.iinc 3 1, 3) := by decide +kernel
theorem dX8_forget_43 : decode cX8_forget 43 = .ok (.goto (-41), 3) := by decide +kernel
theorem dX8_forget_46 : decode cX8_forget 46 = .ok (.return_, 1) := by decide +kernel
set_option maxRecDepth 20000 in
theorem ggX8_renew_X8_areNeighbours : GoodIn wsX8_renew wsX8_areNeighbours := goodIn_ca (goodIn_r _ [14, 15, 16, 17, 18, 19, 13, 20, 2, 21, 22, 23, 154, 155, 156, 157, 158, 159, 160, 161, 162, 163] rfl (by decide +kernel)) (goodIn_sub (fun _ h => List.mem_cons_of_mem _ (List.mem_append_right _ h)) (by decide +kernel))
set_option maxRecDepth 20000 in
theorem gX8_renew_X8_areNeighbours : GoodIn wsX8_renew (wsV RX8 81 RX8 yX8_areNeighbours wsX8_areNeighbours) := goodIn_app (goodIn_of _ (by decide +kernel)) ggX8_renew_X8_areNeighbours
set_option maxRecDepth 20000 in
theorem ggX8_renew_X8_costBetween : GoodIn wsX8_renew wsX8_costBetween := goodIn_ca (goodIn_r _ [27, 15, 21, 22, 13, 23, 154, 155, 156, 157, 158, 159, 160, 161, 162, 163] rfl (by decide +kernel)) (goodIn_sub (fun _ h => List.mem_cons_of_mem _ (List.mem_append_right _ h)) (by decide +kernel))
set_option maxRecDepth 20000 in
theorem gX8_renew_X8_costBetween : GoodIn wsX8_renew (wsV RX8 85 RX8 yX8_costBetween wsX8_costBetween) := goodIn_app (goodIn_of _ (by decide +kernel)) ggX8_renew_X8_costBetween
set_option maxRecDepth 20000 in
theorem ggX8_renew_X8_pageIn : GoodIn wsX8_renew wsX8_pageIn := goodIn_ca (goodIn_r _ [31, 3, 8, 21, 22, 13, 23, 32, 33, 34, 35, 36, 37, 38, 39, 40, 41, 42, 43, 44, 45, 46, 47, 48, 49, 50, 51, 52, 53, 54, 55, 56, 57, 58, 59, 60, 61, 62, 154, 155, 156, 157, 158, 159, 160, 161, 162, 163, 168, 169, 170, 171, 172] rfl (by decide +kernel)) (goodIn_sub (fun _ h => List.mem_cons_of_mem _ (List.mem_append_right _ h)) (by decide +kernel))
set_option maxRecDepth 20000 in
theorem gX8_renew_X8_pageIn : GoodIn wsX8_renew (wsV RX8 88 RX8 yX8_pageIn wsX8_pageIn) := goodIn_app (goodIn_of _ (by decide +kernel)) ggX8_renew_X8_pageIn
set_option maxRecDepth 20000 in
theorem ggX8_renew_X6_init : GoodIn wsX8_renew wsX6_init := goodIn_r _ [65, 66, 67, 68, 69, 70, 71, 72, 164, 165, 166, 167] rfl (by decide +kernel)
set_option maxRecDepth 20000 in
theorem gX8_renew_X6_init : GoodIn wsX8_renew (wsX6_init) := ggX8_renew_X6_init
set_option maxRecDepth 20000 in
theorem ggX8_renew_X1_put : GoodIn wsX8_renew wsX1_put := goodIn_r _ [76, 37, 77, 40, 41, 42, 43, 44, 45, 78, 79, 80, 81, 82, 83, 62, 84, 85, 86, 87, 88, 89, 90, 91, 92, 93, 94, 95, 96, 97, 98, 99, 100, 101, 102, 103, 104, 105, 106, 107, 108, 109, 110, 111, 112, 113, 114, 115, 116, 117, 118, 119, 120, 121, 122, 123, 124, 125, 126, 127, 128, 129, 130, 168, 169, 170, 171, 172] rfl (by decide +kernel)
set_option maxRecDepth 20000 in
theorem gX8_renew_X1_put : GoodIn wsX8_renew (wsV RX8 201 RX1 yX1_put wsX1_put) := goodIn_app (goodIn_of _ (by decide +kernel)) ggX8_renew_X1_put
set_option maxRecDepth 20000 in
theorem ggX8_renew_X8_pair : GoodIn wsX8_renew wsX8_pair := goodIn_r _ [23] rfl (by decide +kernel)
set_option maxRecDepth 20000 in
theorem gX8_renew_X8_pair : GoodIn wsX8_renew (va_wsS RX8 62 yX8_pair wsX8_pair) := goodIn_app (goodIn_of _ (by decide +kernel)) ggX8_renew_X8_pair
set_option maxRecDepth 20000 in
theorem ggX8_renew_X8_sendToNeighbours : GoodIn wsX8_renew wsX8_sendToNeighbours := goodIn_ca (goodIn_r _ [134, 2, 135, 10, 11, 12, 13, 14, 15, 16, 17, 18, 19, 20, 21, 22, 23, 136, 137, 138, 139, 140, 141, 142, 143, 144, 145, 146, 113, 147, 148, 149, 150, 151, 152, 153, 1, 124, 125, 99, 126, 127, 128, 129, 130, 154, 155, 156, 157, 158, 159, 160, 161, 162, 163, 173, 174, 175] rfl (by decide +kernel)) (goodIn_sub (fun _ h => List.mem_cons_of_mem _ (List.mem_append_right _ h)) (by decide +kernel))
set_option maxRecDepth 20000 in
theorem gX8_renew_X8_sendToNeighbours : GoodIn wsX8_renew (wsV RX8 204 RX8 yX8_sendToNeighbours wsX8_sendToNeighbours) := goodIn_app (goodIn_of _ (by decide +kernel)) ggX8_renew_X8_sendToNeighbours
theorem dX8_renew_0 : decode cX8_renew 0 = .ok (.bipush 6, 2) := by decide +kernel
theorem dX8_renew_2 : decode cX8_renew 2 = .ok (.newarray .int, 2) := by decide +kernel
theorem dX8_renew_4 : decode cX8_renew 4 = .ok (.astore_n 2, 1) := by decide +kernel
theorem dX8_renew_5 : decode cX8_renew 5 = .ok (.iconst 0, 1) := by decide +kernel
theorem dX8_renew_6 : decode cX8_renew 6 = .ok (.istore_n 3, 1) := by decide +kernel
theorem dX8_renew_7 : decode cX8_renew 7 = .ok (.iload_n 3, 1) := by decide +kernel
theorem dX8_renew_8 : decode cX8_renew 8 = .ok (.aload_n 0, 1) := by decide +kernel
theorem dX8_renew_9 : decode cX8_renew 9 = .ok (.getfield 28, 3) := by decide +kernel
theorem dX8_renew_12 : decode cX8_renew 12 = .ok (.if_icmp .ge 31, 3) := by decide +kernel
theorem dX8_renew_15 : decode cX8_renew 15 = .ok (.aload_n 2, 1) := by decide +kernel
theorem dX8_renew_16 : decode cX8_renew 16 = .ok (.iload_n 3, 1) := by decide +kernel
theorem dX8_renew_17 : decode cX8_renew 17 = .ok (.aload_n 0, 1) := by decide +kernel
theorem dX8_renew_18 : decode cX8_renew 18 = .ok (.iload_n 1, 1) := by decide +kernel
theorem dX8_renew_19 : decode cX8_renew 19 = .ok (.iload_n 3, 1) := by decide +kernel
theorem dX8_renew_20 : decode cX8_renew 20 = .ok (.invokevirtual 81, 3) := by decide +kernel
theorem dX8_renew_23 : decode cX8_renew 23 = .ok (.ifCond .eq 12, 3) := by decide +kernel
theorem dX8_renew_26 : decode cX8_renew 26 = .ok (.aload_n 0, 1) := by decide +kernel
theorem dX8_renew_27 : decode cX8_renew 27 = .ok (.iload_n 1, 1) := by decide +kernel
theorem dX8_renew_28 : decode cX8_renew 28 = .ok (.iload_n 3, 1) := by decide +kernel
theorem dX8_renew_29 : decode cX8_renew 29 = .ok (.invokevirtual 85, 3) := by decide +kernel
theorem dX8_renew_32 : decode cX8_renew 32 = .ok (.goto 4, 3) := by decide +kernel
theorem dX8_renew_35 : decode cX8_renew 35 = .ok (.iconst 0, 1) := by decide +kernel
theorem dX8_renew_36 : decode cX8_renew 36 = .ok (.iastore, 1) := by decide +kernel
theorem dX8_renew_37 : decode cX8_renew 37 = .ok (.iinc 3 1, 3) := by decide +kernel
theorem dX8_renew_40 : decode cX8_renew 40 = .ok (.goto (-33), 3) := by decide +kernel
theorem dX8_renew_43 : decode cX8_renew 43 = .ok (.aload_n 0, 1) := by decide +kernel
theorem dX8_renew_44 : decode cX8_renew 44 = .ok (.iload_n 1, 1) := by decide +kernel
theorem dX8_renew_45 : decode cX8_renew 45 = .ok (.iload_n 1, 1) := by decide +kernel
theorem dX8_renew_46 : decode cX8_renew 46 = .ok (.invokevirtual 88, 3) := by decide +kernel
theorem dX8_renew_49 : decode cX8_renew 49 = .ok (.getfield 105, 3) := by decide +kernel
theorem dX8_renew_52 : decode cX8_renew 52 = .ok (.iconst 1, 1) := by decide +kernel
theorem dX8_renew_53 : decode cX8_renew 53 = .ok (.iadd, 1) := by decide +kernel
theorem dX8_renew_54 : decode cX8_renew 54 = .ok (.istore_n 3, 1) := by decide +kernel
theorem dX8_renew_55 : decode cX8_renew 55 = .ok (.aload_n 0, 1) := by decide +kernel
theorem dX8_renew_56 : decode cX8_renew 56 = .ok (.getfield 44, 3) := by decide +kernel
theorem dX8_renew_59 : decode cX8_renew 59 = .ok (.new 77, 3) := by decide +kernel
theorem dX8_renew_62 : decode cX8_renew 62 = .ok (.dup, 1) := by decide +kernel
theorem dX8_renew_63 : decode cX8_renew 63 = .ok (.iload_n 1, 1) := by decide +kernel
theorem dX8_renew_64 : decode cX8_renew 64 = .ok (.iload_n 3, 1) := by decide +kernel
theorem dX8_renew_65 : decode cX8_renew 65 = .ok (.aload_n 0, 1) := by decide +kernel
theorem dX8_renew_66 : decode cX8_renew 66 = .ok (.getfield 32, 3) := by decide +kernel
theorem dX8_renew_69 : decode cX8_renew 69 = .ok (.aload_n 2, 1) := by decide +kernel
theorem dX8_renew_70 : decode cX8_renew 70 = .ok (.invokespecial 198, 3) := by decide +kernel
theorem dX8_renew_73 : decode cX8_renew 73 = .ok (.invokevirtual 201, 3) := by decide +kernel
theorem dX8_renew_76 : decode cX8_renew 76 = .ok (.istore 4, 2) := by decide +kernel
theorem dX8_renew_78 : decode cX8_renew 78 = .ok (.aload_n 0, 1) := by decide +kernel
theorem dX8_renew_79 : decode cX8_renew 79 = .ok (.getfield 18, 3) := by decide +kernel
theorem dX8_renew_82 : decode cX8_renew 82 = .ok (.iload_n 1, 1) := by decide +kernel
theorem dX8_renew_83 : decode cX8_renew 83 = .ok (.iload_n 1, 1) := by decide +kernel
theorem dX8_renew_84 : decode cX8_renew 84 = .ok (.invokestatic 62, 3) := by decide +kernel
theorem dX8_renew_87 : decode cX8_renew 87 = .ok (.iload 4, 2) := by decide +kernel
theorem dX8_renew_89 : decode cX8_renew 89 = .ok (.iastore, 1) := by decide +kernel
theorem dX8_renew_90 : decode cX8_renew 90 = .ok (.aload_n 0, 1) := by decide +kernel
theorem dX8_renew_91 : decode cX8_renew 91 = .ok (.dup, 1) := by decide +kernel
theorem dX8_renew_92 : decode cX8_renew 92 = .ok (.getfield 41, 3) := by decide +kernel
theorem dX8_renew_95 : decode cX8_renew 95 = .ok (.iconst 1, 1) := by decide +kernel
theorem dX8_renew_96 : decode cX8_renew 96 = .ok (.iadd, 1) := by decide +kernel
theorem dX8_renew_97 : decode cX8_renew 97 = .ok (.putfield 41, 3) := by decide +kernel
theorem dX8_renew_100 : decode cX8_renew 100 = .ok (.aload_n 0, 1) := by decide +kernel
theorem dX8_renew_101 : decode cX8_renew 101 = .ok (.iload_n 1, 1) := by decide +kernel
theorem dX8_renew_102 : decode cX8_renew 102 = .ok (.iload 4, 2) := by decide +kernel
theorem dX8_renew_104 : decode cX8_renew 104 = .ok (.iconst (-1), 1) := by decide +kernel
theorem dX8_renew_105 : decode cX8_renew 105 = .ok (.invokevirtual 204, 3) := by decide +kernel
theorem dX8_renew_108 : decode cX8_renew 108 = .ok (.return_, 1) := by decide +kernel
set_option maxRecDepth 20000 in
theorem ggX8_sendToNeighbours_X8_areNeighbours : GoodIn wsX8_sendToNeighbours wsX8_areNeighbours := goodIn_ca (goodIn_r _ [7, 8, 9, 10, 11, 12, 6, 13, 1, 14, 15, 16, 45, 46, 47, 48, 49, 50, 51, 52, 53, 54] rfl (by decide +kernel)) (goodIn_sub (fun _ h => List.mem_cons_of_mem _ (List.mem_append_right _ h)) (by decide +kernel))
set_option maxRecDepth 20000 in
theorem gX8_sendToNeighbours_X8_areNeighbours : GoodIn wsX8_sendToNeighbours (wsV RX8 81 RX8 yX8_areNeighbours wsX8_areNeighbours) := goodIn_app (goodIn_of _ (by decide +kernel)) ggX8_sendToNeighbours_X8_areNeighbours
set_option maxRecDepth 20000 in
theorem ggX8_sendToNeighbours_X5_put : GoodIn wsX8_sendToNeighbours wsX5_put := goodIn_ca (goodIn_r _ [21, 22, 23, 24, 25, 26, 27, 28, 29, 30, 31, 32, 33, 34, 35, 36, 37, 38, 39, 40, 41, 42, 43, 44, 55, 56, 57] rfl (by decide +kernel)) (goodIn_sub (fun _ h => List.mem_cons_of_mem _ (List.mem_append_right _ h)) (by decide +kernel))
set_option maxRecDepth 20000 in
theorem gX8_sendToNeighbours_X5_put : GoodIn wsX8_sendToNeighbours (wsV RX8 208 RX5 yX5_put wsX5_put) := goodIn_app (goodIn_of _ (by decide +kernel)) ggX8_sendToNeighbours_X5_put
theorem dX8_sendToNeighbours_0 : decode cX8_sendToNeighbours 0 = .ok (.iconst 0, 1) := by decide +kernel
theorem dX8_sendToNeighbours_1 : decode cX8_sendToNeighbours 1 = .ok (.istore 4, 2) := by decide +kernel
theorem dX8_sendToNeighbours_3 : decode cX8_sendToNeighbours 3 = .ok (.iload 4, 2) := by decide +kernel
theorem dX8_sendToNeighbours_5 : decode cX8_sendToNeighbours 5 = .ok (.aload_n 0, 1) := by decide +kernel
theorem dX8_sendToNeighbours_6 : decode cX8_sendToNeighbours 6 = .ok (.getfield 28, 3) := by decide +kernel
theorem dX8_sendToNeighbours_9 : decode cX8_sendToNeighbours 9 = .ok (.if_icmp .ge 36, 3) := by decide +kernel
theorem dX8_sendToNeighbours_12 : decode cX8_sendToNeighbours 12 = .ok (.iload 4, 2) := by decide +kernel
theorem dX8_sendToNeighbours_14 : decode cX8_sendToNeighbours 14 = .ok (.iload_n 3, 1) := by decide +kernel
theorem dX8_sendToNeighbours_15 : decode cX8_sendToNeighbours 15 = .ok (.if_icmp .eq 24, 3) := by decide +kernel
theorem dX8_sendToNeighbours_18 : decode cX8_sendToNeighbours 18 = .ok (.aload_n 0, 1) := by decide +kernel
theorem dX8_sendToNeighbours_19 : decode cX8_sendToNeighbours 19 = .ok (.iload_n 1, 1) := by decide +kernel
theorem dX8_sendToNeighbours_20 : decode cX8_sendToNeighbours 20 = .ok (.iload 4, 2) := by decide +kernel
theorem dX8_sendToNeighbours_22 : decode cX8_sendToNeighbours 22 = .ok (.invokevirtual 81, 3) := by decide +kernel
theorem dX8_sendToNeighbours_25 : decode cX8_sendToNeighbours 25 = .ok (.ifCond .eq 14, 3) := by decide +kernel
theorem dX8_sendToNeighbours_28 : decode cX8_sendToNeighbours 28 = .ok (.aload_n 0, 1) := by decide +kernel
theorem dX8_sendToNeighbours_29 : decode cX8_sendToNeighbours 29 = .ok (.getfield 24, 3) := by decide +kernel
theorem dX8_sendToNeighbours_32 : decode cX8_sendToNeighbours 32 = .ok (.iload_n 1, 1) := by decide +kernel
theorem dX8_sendToNeighbours_33 : decode cX8_sendToNeighbours 33 = .ok (.iload 4, 2) := by decide +kernel
theorem dX8_sendToNeighbours_35 : decode cX8_sendToNeighbours 35 = .ok (.iload_n 2, 1) := by decide +kernel
theorem dX8_sendToNeighbours_36 : decode cX8_sendToNeighbours 36 = .ok (.invokevirtual 208, 3) := by decide +kernel
theorem dX8_sendToNeighbours_39 : decode cX8_sendToNeighbours 39 = .ok (.iinc 4 1, 3) := by decide +kernel
theorem dX8_sendToNeighbours_42 : decode cX8_sendToNeighbours 42 = .ok (.goto (-39), 3) := by decide +kernel
theorem dX8_sendToNeighbours_45 : decode cX8_sendToNeighbours 45 = .ok (.return_, 1) := by decide +kernel
set_option maxRecDepth 20000 in
theorem ggX8_deliver_X5_senderOf : GoodIn wsX8_deliver wsX5_senderOf := goodIn_ca (goodIn_r _ [10, 11, 12, 13, 14, 9, 15, 16, 17, 18, 19, 20, 122, 123, 124] rfl (by decide +kernel)) (goodIn_sub (fun _ h => List.mem_cons_of_mem _ (List.mem_append_right _ h)) (by decide +kernel))
set_option maxRecDepth 20000 in
theorem gX8_deliver_X5_senderOf : GoodIn wsX8_deliver (wsV RX8 210 RX5 yX5_senderOf wsX5_senderOf) := goodIn_app (goodIn_of _ (by decide +kernel)) ggX8_deliver_X5_senderOf
set_option maxRecDepth 20000 in
theorem ggX8_deliver_X5_receiverOf : GoodIn wsX8_deliver wsX5_receiverOf := goodIn_ca (goodIn_r _ [24, 11, 12, 13, 14, 9, 15, 16, 17, 18, 19, 20, 122, 123, 124] rfl (by decide +kernel)) (goodIn_sub (fun _ h => List.mem_cons_of_mem _ (List.mem_append_right _ h)) (by decide +kernel))
set_option maxRecDepth 20000 in
theorem gX8_deliver_X5_receiverOf : GoodIn wsX8_deliver (wsV RX8 213 RX5 yX5_receiverOf wsX5_receiverOf) := goodIn_app (goodIn_of _ (by decide +kernel)) ggX8_deliver_X5_receiverOf
set_option maxRecDepth 20000 in
theorem ggX8_deliver_X8_areNeighbours : GoodIn wsX8_deliver wsX8_areNeighbours := goodIn_ca (goodIn_r _ [29, 30, 31, 32, 33, 34, 28, 35, 36, 37, 38, 39, 108, 109, 110, 111, 112, 113, 114, 115, 116, 117] rfl (by decide +kernel)) (goodIn_sub (fun _ h => List.mem_cons_of_mem _ (List.mem_append_right _ h)) (by decide +kernel))
set_option maxRecDepth 20000 in
theorem gX8_deliver_X8_areNeighbours : GoodIn wsX8_deliver (wsV RX8 81 RX8 yX8_areNeighbours wsX8_areNeighbours) := goodIn_app (goodIn_of _ (by decide +kernel)) ggX8_deliver_X8_areNeighbours
set_option maxRecDepth 20000 in
theorem ggX8_deliver_X8_pageOfLetter : GoodIn wsX8_deliver wsX8_pageOfLetter := goodIn_ca (goodIn_r _ [43, 4, 1, 44, 45, 46, 9, 47, 11, 12, 13, 14, 15, 16, 48, 49, 50, 51, 52, 53, 54, 55, 56, 57, 58, 59, 60, 61, 62, 63, 64, 65, 66, 67, 68, 69, 70, 71, 72, 73, 74, 75, 76, 77, 78, 108, 109, 110, 111, 112, 113, 114, 115, 116, 117, 122, 123, 124, 125, 126, 127, 128, 129] rfl (by decide +kernel)) (goodIn_sub (fun _ h => List.mem_cons_of_mem _ (List.mem_append_right _ h)) (by decide +kernel))
set_option maxRecDepth 20000 in
theorem gX8_deliver_X8_pageOfLetter : GoodIn wsX8_deliver (wsV RX8 182 RX8 yX8_pageOfLetter wsX8_pageOfLetter) := goodIn_app (goodIn_of _ (by decide +kernel)) ggX8_deliver_X8_pageOfLetter
set_option maxRecDepth 20000 in
theorem ggX8_deliver_X8_pair : GoodIn wsX8_deliver wsX8_pair := goodIn_r _ [39] rfl (by decide +kernel)
set_option maxRecDepth 20000 in
theorem gX8_deliver_X8_pair : GoodIn wsX8_deliver (va_wsS RX8 62 yX8_pair wsX8_pair) := goodIn_app (goodIn_of _ (by decide +kernel)) ggX8_deliver_X8_pair
set_option maxRecDepth 20000 in
theorem ggX8_deliver_X1_numbered : GoodIn wsX8_deliver wsX1_numbered := goodIn_r _ [52, 53, 54, 55, 56, 57, 58, 59, 60, 61, 62, 63, 64, 65, 66, 67, 68, 69, 70, 71, 72, 73, 74, 75, 76, 77, 78, 125, 126, 127, 128, 129] rfl (by decide +kernel)
set_option maxRecDepth 20000 in
theorem gX8_deliver_X1_numbered : GoodIn wsX8_deliver (wsV RX8 66 RX1 yX1_numbered wsX1_numbered) := goodIn_app (goodIn_of _ (by decide +kernel)) ggX8_deliver_X1_numbered
set_option maxRecDepth 20000 in
theorem ggX8_deliver_X5_pageOf : GoodIn wsX8_deliver wsX5_pageOf := goodIn_ca (goodIn_r _ [47, 11, 12, 13, 14, 9, 15, 16, 122, 123, 124] rfl (by decide +kernel)) (goodIn_sub (fun _ h => List.mem_cons_of_mem _ (List.mem_append_right _ h)) (by decide +kernel))
set_option maxRecDepth 20000 in
theorem gX8_deliver_X5_pageOf : GoodIn wsX8_deliver (wsV RX8 72 RX5 yX5_pageOf wsX5_pageOf) := goodIn_app (goodIn_of _ (by decide +kernel)) ggX8_deliver_X5_pageOf
set_option maxRecDepth 20000 in
theorem ggX8_deliver_X8_sendToNeighbours : GoodIn wsX8_deliver wsX8_sendToNeighbours := goodIn_ca (goodIn_r _ [82, 36, 1, 25, 26, 27, 28, 29, 30, 31, 32, 33, 34, 35, 37, 38, 39, 83, 84, 85, 9, 86, 16, 87, 11, 88, 89, 90, 91, 92, 93, 94, 95, 96, 97, 98, 99, 100, 101, 102, 103, 104, 105, 106, 107, 108, 109, 110, 111, 112, 113, 114, 115, 116, 117, 122, 123, 124] rfl (by decide +kernel)) (goodIn_sub (fun _ h => List.mem_cons_of_mem _ (List.mem_append_right _ h)) (by decide +kernel))
set_option maxRecDepth 20000 in
theorem gX8_deliver_X8_sendToNeighbours : GoodIn wsX8_deliver (wsV RX8 204 RX8 yX8_sendToNeighbours wsX8_sendToNeighbours) := goodIn_app (goodIn_of _ (by decide +kernel)) ggX8_deliver_X8_sendToNeighbours
set_option maxRecDepth 20000 in
theorem ggX8_deliver_X5_put : GoodIn wsX8_deliver wsX5_put := goodIn_ca (goodIn_r _ [86, 16, 87, 11, 88, 89, 90, 91, 92, 93, 94, 95, 96, 97, 98, 99, 100, 101, 102, 103, 104, 105, 106, 107, 122, 123, 124] rfl (by decide +kernel)) (goodIn_sub (fun _ h => List.mem_cons_of_mem _ (List.mem_append_right _ h)) (by decide +kernel))
set_option maxRecDepth 20000 in
theorem gX8_deliver_X5_put : GoodIn wsX8_deliver (wsV RX8 208 RX5 yX5_put wsX5_put) := goodIn_app (goodIn_of _ (by decide +kernel)) ggX8_deliver_X5_put
theorem dX8_deliver_0 : decode cX8_deliver 0 = .ok (.aload_n 0, 1) := by decide +kernel
theorem dX8_deliver_1 : decode cX8_deliver 1 = .ok (.getfield 24, 3) := by decide +kernel
theorem dX8_deliver_4 : decode cX8_deliver 4 = .ok (.iload_n 1, 1) := by decide +kernel
theorem dX8_deliver_5 : decode cX8_deliver 5 = .ok (.invokevirtual 210, 3) := by decide +kernel
theorem dX8_deliver_8 : decode cX8_deliver 8 = .ok (.istore_n 2, 1) := by decide +kernel
theorem dX8_deliver_9 : decode cX8_deliver 9 = .ok (.aload_n 0, 1) := by decide +kernel
theorem dX8_deliver_10 : decode cX8_deliver 10 = .ok (.getfield 24, 3) := by decide +kernel
theorem dX8_deliver_13 : decode cX8_deliver 13 = .ok (.iload_n 1, 1) := by decide +kernel
theorem dX8_deliver_14 : decode cX8_deliver 14 = .ok (.invokevirtual 213, 3) := by decide +kernel
theorem dX8_deliver_17 : decode cX8_deliver 17 = .ok (.istore_n 3, 1) := by decide +kernel
theorem dX8_deliver_18 : decode cX8_deliver 18 = .ok (.aload_n 0, 1) := by decide +kernel
theorem dX8_deliver_19 : decode cX8_deliver 19 = .ok (.iload_n 2, 1) := by decide +kernel
theorem dX8_deliver_20 : decode cX8_deliver 20 = .ok (.iload_n 3, 1) := by decide +kernel
theorem dX8_deliver_21 : decode cX8_deliver 21 = .ok (.invokevirtual 81, 3) := by decide +kernel
theorem dX8_deliver_24 : decode cX8_deliver 24 = .ok (.ifCond .ne 14, 3) := by decide +kernel
theorem dX8_deliver_27 : decode cX8_deliver 27 = .ok (.aload_n 0, 1) := by decide +kernel
theorem dX8_deliver_28 : decode cX8_deliver 28 = .ok (.dup, 1) := by decide +kernel
theorem dX8_deliver_29 : decode cX8_deliver 29 = .ok (.getfield 38, 3) := by decide +kernel
theorem dX8_deliver_32 : decode cX8_deliver 32 = .ok (.iconst 1, 1) := by decide +kernel
theorem dX8_deliver_33 : decode cX8_deliver 33 = .ok (.iadd, 1) := by decide +kernel
theorem dX8_deliver_34 : decode cX8_deliver 34 = .ok (.putfield 38, 3) := by decide +kernel
theorem dX8_deliver_37 : decode cX8_deliver 37 = .ok (.return_, 1) := by decide +kernel
theorem dX8_deliver_38 : decode cX8_deliver 38 = .ok (.aload_n 0, 1) := by decide +kernel
theorem dX8_deliver_39 : decode cX8_deliver 39 = .ok (.dup, 1) := by decide +kernel
theorem dX8_deliver_40 : decode cX8_deliver 40 = .ok (.getfield 35, 3) := by decide +kernel
theorem dX8_deliver_43 : decode cX8_deliver 43 = .ok (.iconst 1, 1) := by decide +kernel
theorem dX8_deliver_44 : decode cX8_deliver 44 = .ok (.iadd, 1) := by decide +kernel
theorem dX8_deliver_45 : decode cX8_deliver 45 = .ok (.putfield 35, 3) := by decide +kernel
theorem dX8_deliver_48 : decode cX8_deliver 48 = .ok (.aload_n 0, 1) := by decide +kernel
theorem dX8_deliver_49 : decode cX8_deliver 49 = .ok (.iload_n 1, 1) := by decide +kernel
theorem dX8_deliver_50 : decode cX8_deliver 50 = .ok (.invokevirtual 182, 3) := by decide +kernel
theorem dX8_deliver_53 : decode cX8_deliver 53 = .ok (.astore 4, 2) := by decide +kernel
theorem dX8_deliver_55 : decode cX8_deliver 55 = .ok (.aload 4, 2) := by decide +kernel
theorem dX8_deliver_57 : decode cX8_deliver 57 = .ok (.getfield 185, 3) := by decide +kernel
theorem dX8_deliver_60 : decode cX8_deliver 60 = .ok (.iload_n 3, 1) := by decide +kernel
theorem dX8_deliver_61 : decode cX8_deliver 61 = .ok (.if_icmp .ne 4, 3) := by decide +kernel
theorem dX8_deliver_64 : decode cX8_deliver 64 = .ok (.return_, 1) := by decide +kernel
theorem dX8_deliver_65 : decode cX8_deliver 65 = .ok (.iload_n 3, 1) := by decide +kernel
theorem dX8_deliver_66 : decode cX8_deliver 66 = .ok (.aload 4, 2) := by decide +kernel
theorem dX8_deliver_68 : decode cX8_deliver 68 = .ok (.getfield 185, 3) := by decide +kernel
theorem dX8_deliver_71 : decode cX8_deliver 71 = .ok (.invokestatic 62, 3) := by decide +kernel
theorem dX8_deliver_74 : decode cX8_deliver 74 = .ok (.istore 5, 2) := by decide +kernel
theorem dX8_deliver_76 : decode cX8_deliver 76 = .ok (.aload_n 0, 1) := by decide +kernel
theorem dX8_deliver_77 : decode cX8_deliver 77 = .ok (.getfield 44, 3) := by decide +kernel
theorem dX8_deliver_80 : decode cX8_deliver 80 = .ok (.aload_n 0, 1) := by decide +kernel
theorem dX8_deliver_81 : decode cX8_deliver 81 = .ok (.getfield 18, 3) := by decide +kernel
theorem dX8_deliver_84 : decode cX8_deliver 84 = .ok (.iload 5, 2) := by decide +kernel
theorem dX8_deliver_86 : decode cX8_deliver 86 = .ok (.iaload, 1) := by decide +kernel
theorem dX8_deliver_87 : decode cX8_deliver 87 = .ok (.invokevirtual 66, 3) := by decide +kernel
theorem dX8_deliver_90 : decode cX8_deliver 90 = .ok (.getfield 105, 3) := by decide +kernel
theorem dX8_deliver_93 : decode cX8_deliver 93 = .ok (.istore 6, 2) := by decide +kernel
theorem dX8_deliver_95 : decode cX8_deliver 95 = .ok (.aload 4, 2) := by decide +kernel
theorem dX8_deliver_97 : decode cX8_deliver 97 = .ok (.getfield 105, 3) := by decide +kernel
theorem dX8_deliver_100 : decode cX8_deliver 100 = .ok (.iload 6, 2) := by decide +kernel
theorem dX8_deliver_102 : decode cX8_deliver 102 = .ok (.if_icmp .le 34, 3) := by decide +kernel
theorem dX8_deliver_105 : decode cX8_deliver 105 = .ok (.aload_n 0, 1) := by decide +kernel
theorem dX8_deliver_106 : decode cX8_deliver 106 = .ok (.getfield 18, 3) := by decide +kernel
theorem dX8_deliver_109 : decode cX8_deliver 109 = .ok (.iload 5, 2) := by decide +kernel
theorem dX8_deliver_111 : decode cX8_deliver 111 = .ok (.aload_n 0, 1) := by decide +kernel
theorem dX8_deliver_112 : decode cX8_deliver 112 = .ok (.getfield 24, 3) := by decide +kernel
theorem dX8_deliver_115 : decode cX8_deliver 115 = .ok (.iload_n 1, 1) := by decide +kernel
theorem dX8_deliver_116 : decode cX8_deliver 116 = .ok (.invokevirtual 72, 3) := by decide +kernel
theorem dX8_deliver_119 : decode cX8_deliver 119 = .ok (.iastore, 1) := by decide +kernel
theorem dX8_deliver_120 : decode cX8_deliver 120 = .ok (.aload_n 0, 1) := by decide +kernel
theorem dX8_deliver_121 : decode cX8_deliver 121 = .ok (.iload_n 3, 1) := by decide +kernel
theorem dX8_deliver_122 : decode cX8_deliver 122 = .ok (.aload_n 0, 1) := by decide +kernel
theorem dX8_deliver_123 : decode cX8_deliver 123 = .ok (.getfield 18, 3) := by decide +kernel
theorem dX8_deliver_126 : decode cX8_deliver 126 = .ok (.iload 5, 2) := by decide +kernel
theorem dX8_deliver_128 : decode cX8_deliver 128 = .ok (.iaload, 1) := by decide +kernel
theorem dX8_deliver_129 : decode cX8_deliver 129 = .ok (.iload_n 2, 1) := by decide +kernel
theorem dX8_deliver_130 : decode cX8_deliver 130 = .ok (.invokevirtual 204, 3) := by decide +kernel
theorem dX8_deliver_133 : decode cX8_deliver 133 = .ok (.goto 29, 3) := by decide +kernel
theorem dX8_deliver_136 : decode cX8_deliver 136 = .ok (.aload 4, 2) := by decide +kernel
theorem dX8_deliver_138 : decode cX8_deliver 138 = .ok (.getfield 105, 3) := by decide +kernel
theorem dX8_deliver_141 : decode cX8_deliver 141 = .ok (.iload 6, 2) := by decide +kernel
theorem dX8_deliver_143 : decode cX8_deliver 143 = .ok (.if_icmp .ge 19, 3) := by decide +kernel
theorem dX8_deliver_146 : decode cX8_deliver 146 = .ok (.aload_n 0, 1) := by decide +kernel
theorem dX8_deliver_147 : decode cX8_deliver 147 = .ok (.getfield 24, 3) := by decide +kernel
theorem dX8_deliver_150 : decode cX8_deliver 150 = .ok (.iload_n 3, 1) := by decide +kernel
theorem dX8_deliver_151 : decode cX8_deliver 151 = .ok (.iload_n 2, 1) := by decide +kernel
theorem dX8_deliver_152 : decode cX8_deliver 152 = .ok (.aload_n 0, 1) := by decide +kernel
theorem dX8_deliver_153 : decode cX8_deliver 153 = .ok (.getfield 18, 3) := by decide +kernel
theorem dX8_deliver_156 : decode cX8_deliver 156 = .ok (.iload 5, 2) := by decide +kernel
theorem dX8_deliver_158 : decode cX8_deliver 158 = .ok (.iaload, 1) := by decide +kernel
theorem dX8_deliver_159 : decode cX8_deliver 159 = .ok (.invokevirtual 208, 3) := by decide +kernel
theorem dX8_deliver_162 : decode cX8_deliver 162 = .ok (.return_, 1) := by decide +kernel
theorem dX9_init_0 : decode cX9_init 0 = .ok (.aload_n 0, 1) := by decide +kernel
theorem dX9_init_1 : decode cX9_init 1 = .ok (.invokespecial 3, 3) := by decide +kernel
theorem dX9_init_4 : decode cX9_init 4 = .ok (.aload_n 0, 1) := by decide +kernel
theorem dX9_init_5 : decode cX9_init 5 = .ok (.bipush 36, 2) := by decide +kernel
theorem dX9_init_7 : decode cX9_init 7 = .ok (.newarray .int, 2) := by decide +kernel
theorem dX9_init_9 : decode cX9_init 9 = .ok (.putfield 9, 3) := by decide +kernel
theorem dX9_init_12 : decode cX9_init 12 = .ok (.aload_n 0, 1) := by decide +kernel
theorem dX9_init_13 : decode cX9_init 13 = .ok (.bipush 6, 2) := by decide +kernel
theorem dX9_init_15 : decode cX9_init 15 = .ok (.newarray .int, 2) := by decide +kernel
theorem dX9_init_17 : decode cX9_init 17 = .ok (.putfield 15, 3) := by decide +kernel
theorem dX9_init_20 : decode cX9_init 20 = .ok (.return_, 1) := by decide +kernel
set_option maxRecDepth 20000 in
theorem ggX9_takeMap_X8_pageIn : GoodIn wsX9_takeMap wsX8_pageIn := goodIn_ca (goodIn_r _ [6, 7, 8, 9, 10, 5, 11, 12, 13, 14, 15, 16, 17, 18, 19, 20, 21, 22, 23, 24, 25, 26, 27, 28, 29, 30, 31, 32, 33, 34, 35, 36, 37, 38, 39, 40, 41, 42, 51, 52, 53, 54, 55, 56, 57, 58, 59, 60, 61, 62, 63, 64, 65] rfl (by decide +kernel)) (goodIn_sub (fun _ h => List.mem_cons_of_mem _ (List.mem_append_right _ h)) (by decide +kernel))
set_option maxRecDepth 20000 in
theorem gX9_takeMap_X8_pageIn : GoodIn wsX9_takeMap (wsV RX9 18 RX8 yX8_pageIn wsX8_pageIn) := goodIn_app (goodIn_of _ (by decide +kernel)) ggX9_takeMap_X8_pageIn
set_option maxRecDepth 20000 in
theorem ggX9_takeMap_X6_costTo : GoodIn wsX9_takeMap wsX6_costTo := goodIn_ca (goodIn_r _ [47, 48, 66, 67, 68, 69] rfl (by decide +kernel)) (goodIn_sub (fun _ h => List.mem_cons_of_mem _ (List.mem_append_right _ h)) (by decide +kernel))
set_option maxRecDepth 20000 in
theorem gX9_takeMap_X6_costTo : GoodIn wsX9_takeMap (wsV RX9 24 RX6 yX6_costTo wsX6_costTo) := goodIn_app (goodIn_of _ (by decide +kernel)) ggX9_takeMap_X6_costTo
theorem dX9_takeMap_0 : decode cX9_takeMap 0 = .ok (.iconst 0, 1) := by decide +kernel
theorem dX9_takeMap_1 : decode cX9_takeMap 1 = .ok (.istore_n 3, 1) := by decide +kernel
theorem dX9_takeMap_2 : decode cX9_takeMap 2 = .ok (.iload_n 3, 1) := by decide +kernel
theorem dX9_takeMap_3 : decode cX9_takeMap 3 = .ok (.bipush 6, 2) := by decide +kernel
theorem dX9_takeMap_5 : decode cX9_takeMap 5 = .ok (.if_icmp .ge 82, 3) := by decide +kernel
theorem dX9_takeMap_8 : decode cX9_takeMap 8 = .ok (.aload_n 1, 1) := by decide +kernel
theorem dX9_takeMap_9 : decode cX9_takeMap 9 = .ok (.iload_n 2, 1) := by decide +kernel
theorem dX9_takeMap_10 : decode cX9_takeMap 10 = .ok (.iload_n 3, 1) := by decide +kernel
theorem dX9_takeMap_11 : decode cX9_takeMap 11 = .ok (.invokevirtual 18, 3) := by decide +kernel
theorem dX9_takeMap_14 : decode cX9_takeMap 14 = .ok (.astore 4, 2) := by decide +kernel
theorem dX9_takeMap_16 : decode cX9_takeMap 16 = .ok (.iconst 0, 1) := by decide +kernel
theorem dX9_takeMap_17 : decode cX9_takeMap 17 = .ok (.istore 5, 2) := by decide +kernel
theorem dX9_takeMap_19 : decode cX9_takeMap 19 = .ok (.iload 5, 2) := by decide +kernel
theorem dX9_takeMap_21 : decode cX9_takeMap 21 = .ok (.bipush 6, 2) := by decide +kernel
theorem dX9_takeMap_23 : decode cX9_takeMap 23 = .ok (.if_icmp .ge 58, 3) := by decide +kernel
theorem dX9_takeMap_26 : decode cX9_takeMap 26 = .ok (.aload_n 1, 1) := by decide +kernel
theorem dX9_takeMap_27 : decode cX9_takeMap 27 = .ok (.iload_n 2, 1) := by decide +kernel
theorem dX9_takeMap_28 : decode cX9_takeMap 28 = .ok (.iload 5, 2) := by decide +kernel
theorem dX9_takeMap_30 : decode cX9_takeMap 30 = .ok (.invokevirtual 18, 3) := by decide +kernel
theorem dX9_takeMap_33 : decode cX9_takeMap 33 = .ok (.iload_n 3, 1) := by decide +kernel
theorem dX9_takeMap_34 : decode cX9_takeMap 34 = .ok (.invokevirtual 24, 3) := by decide +kernel
theorem dX9_takeMap_37 : decode cX9_takeMap 37 = .ok (.ifCond .le 7, 3) := by decide +kernel
theorem dX9_takeMap_40 : decode cX9_takeMap 40 = .ok (.iconst 1, 1) := by decide +kernel
theorem dX9_takeMap_41 : decode cX9_takeMap 41 = .ok (.goto 4, 3) := by decide +kernel
theorem dX9_takeMap_44 : decode cX9_takeMap 44 = .ok (.iconst 0, 1) := by decide +kernel
theorem dX9_takeMap_45 : decode cX9_takeMap 45 = .ok (.istore 6, 2) := by decide +kernel
theorem dX9_takeMap_47 : decode cX9_takeMap 47 = .ok (.aload_n 0, 1) := by decide +kernel
theorem dX9_takeMap_48 : decode cX9_takeMap 48 = .ok (.getfield 9, 3) := by decide +kernel
theorem dX9_takeMap_51 : decode cX9_takeMap 51 = .ok (.iload_n 3, 1) := by decide +kernel
theorem dX9_takeMap_52 : decode cX9_takeMap 52 = .ok (.bipush 6, 2) := by decide +kernel
theorem dX9_takeMap_54 : decode cX9_takeMap 54 = .ok (.imul, 1) := by decide +kernel
theorem dX9_takeMap_55 : decode cX9_takeMap 55 = .ok (.iload 5, 2) := by decide +kernel
theorem dX9_takeMap_57 : decode cX9_takeMap 57 = .ok (.iadd, 1) := by decide +kernel
theorem dX9_takeMap_58 : decode cX9_takeMap 58 = .ok (.iload 6, 2) := by decide +kernel
theorem dX9_takeMap_60 : decode cX9_takeMap 60 = .ok (.ifCond .eq 13, 3) := by decide +kernel
theorem dX9_takeMap_63 : decode cX9_takeMap 63 = .ok (.aload 4, 2) := by decide +kernel
theorem dX9_takeMap_65 : decode cX9_takeMap 65 = .ok (.iload 5, 2) := by decide +kernel
theorem dX9_takeMap_67 : decode cX9_takeMap 67 = .ok (.invokevirtual 24, 3) := by decide +kernel
theorem dX9_takeMap_70 : decode cX9_takeMap 70 = .ok (.goto 4, 3) := by decide +kernel
theorem dX9_takeMap_73 : decode cX9_takeMap 73 = .ok (.iconst 0, 1) := by decide +kernel
theorem dX9_takeMap_74 : decode cX9_takeMap 74 = .ok (.iastore, 1) := by decide +kernel
theorem dX9_takeMap_75 : decode cX9_takeMap 75 = .ok (.iinc 5 1, 3) := by decide +kernel
theorem dX9_takeMap_78 : decode cX9_takeMap 78 = .ok (.goto (-59), 3) := by decide +kernel
theorem dX9_takeMap_81 : decode cX9_takeMap 81 = .ok (.iinc 3 1, 3) := by decide +kernel
theorem dX9_takeMap_84 : decode cX9_takeMap 84 = .ok (.goto (-82), 3) := by decide +kernel
theorem dX9_takeMap_87 : decode cX9_takeMap 87 = .ok (.return_, 1) := by decide +kernel
set_option maxRecDepth 20000 in
theorem ggX9_takeCanals_X8_areNeighbours : GoodIn wsX9_takeCanals wsX8_areNeighbours := goodIn_ca (goodIn_r _ [6, 7, 8, 9, 10, 11, 5, 12, 13, 14, 15, 16, 23, 24, 25, 26, 27, 28, 29, 30, 31, 32] rfl (by decide +kernel)) (goodIn_sub (fun _ h => List.mem_cons_of_mem _ (List.mem_append_right _ h)) (by decide +kernel))
set_option maxRecDepth 20000 in
theorem gX9_takeCanals_X8_areNeighbours : GoodIn wsX9_takeCanals (wsV RX9 30 RX8 yX8_areNeighbours wsX8_areNeighbours) := goodIn_app (goodIn_of _ (by decide +kernel)) ggX9_takeCanals_X8_areNeighbours
set_option maxRecDepth 20000 in
theorem ggX9_takeCanals_X8_costBetween : GoodIn wsX9_takeCanals wsX8_costBetween := goodIn_ca (goodIn_r _ [20, 7, 14, 15, 5, 16, 23, 24, 25, 26, 27, 28, 29, 30, 31, 32] rfl (by decide +kernel)) (goodIn_sub (fun _ h => List.mem_cons_of_mem _ (List.mem_append_right _ h)) (by decide +kernel))
set_option maxRecDepth 20000 in
theorem gX9_takeCanals_X8_costBetween : GoodIn wsX9_takeCanals (wsV RX9 34 RX8 yX8_costBetween wsX8_costBetween) := goodIn_app (goodIn_of _ (by decide +kernel)) ggX9_takeCanals_X8_costBetween
theorem dX9_takeCanals_0 : decode cX9_takeCanals 0 = .ok (.iconst 0, 1) := by decide +kernel
theorem dX9_takeCanals_1 : decode cX9_takeCanals 1 = .ok (.istore_n 2, 1) := by decide +kernel
theorem dX9_takeCanals_2 : decode cX9_takeCanals 2 = .ok (.iload_n 2, 1) := by decide +kernel
theorem dX9_takeCanals_3 : decode cX9_takeCanals 3 = .ok (.bipush 6, 2) := by decide +kernel
theorem dX9_takeCanals_5 : decode cX9_takeCanals 5 = .ok (.if_icmp .ge 57, 3) := by decide +kernel
theorem dX9_takeCanals_8 : decode cX9_takeCanals 8 = .ok (.iconst 0, 1) := by decide +kernel
theorem dX9_takeCanals_9 : decode cX9_takeCanals 9 = .ok (.istore_n 3, 1) := by decide +kernel
theorem dX9_takeCanals_10 : decode cX9_takeCanals 10 = .ok (.iload_n 3, 1) := by decide +kernel
theorem dX9_takeCanals_11 : decode cX9_takeCanals 11 = .ok (.bipush 6, 2) := by decide +kernel
theorem dX9_takeCanals_13 : decode cX9_takeCanals 13 = .ok (.if_icmp .ge 43, 3) := by decide +kernel
theorem dX9_takeCanals_16 : decode cX9_takeCanals 16 = .ok (.aload_n 1, 1) := by decide +kernel
theorem dX9_takeCanals_17 : decode cX9_takeCanals 17 = .ok (.iload_n 2, 1) := by decide +kernel
theorem dX9_takeCanals_18 : decode cX9_takeCanals 18 = .ok (.iload_n 3, 1) := by decide +kernel
theorem dX9_takeCanals_19 : decode cX9_takeCanals 19 = .ok (.invokevirtual 30, 3) := by decide +kernel
theorem dX9_takeCanals_22 : decode cX9_takeCanals 22 = .ok (.istore 4, 2) := by decide +kernel
theorem dX9_takeCanals_24 : decode cX9_takeCanals 24 = .ok (.aload_n 0, 1) := by decide +kernel
theorem dX9_takeCanals_25 : decode cX9_takeCanals 25 = .ok (.getfield 9, 3) := by decide +kernel
theorem dX9_takeCanals_28 : decode cX9_takeCanals 28 = .ok (.iload_n 2, 1) := by decide +kernel
theorem dX9_takeCanals_29 : decode cX9_takeCanals 29 = .ok (.bipush 6, 2) := by decide +kernel
theorem dX9_takeCanals_31 : decode cX9_takeCanals 31 = .ok (.imul, 1) := by decide +kernel
theorem dX9_takeCanals_32 : decode cX9_takeCanals 32 = .ok (.iload_n 3, 1) := by decide +kernel
theorem dX9_takeCanals_33 : decode cX9_takeCanals 33 = .ok (.iadd, 1) := by decide +kernel
theorem dX9_takeCanals_34 : decode cX9_takeCanals 34 = .ok (.iload 4, 2) := by decide +kernel
theorem dX9_takeCanals_36 : decode cX9_takeCanals 36 = .ok (.ifCond .eq 12, 3) := by decide +kernel
theorem dX9_takeCanals_39 : decode cX9_takeCanals 39 = .ok (.aload_n 1, 1) := by decide +kernel
theorem dX9_takeCanals_40 : decode cX9_takeCanals 40 = .ok (.iload_n 2, 1) := by decide +kernel
theorem dX9_takeCanals_41 : decode cX9_takeCanals 41 = .ok (.iload_n 3, 1) := by decide +kernel
theorem dX9_takeCanals_42 : decode cX9_takeCanals 42 = .ok (.invokevirtual 34, 3) := by decide +kernel
theorem dX9_takeCanals_45 : decode cX9_takeCanals 45 = .ok (.goto 4, 3) := by decide +kernel
theorem dX9_takeCanals_48 : decode cX9_takeCanals 48 = .ok (.iconst 0, 1) := by decide +kernel
theorem dX9_takeCanals_49 : decode cX9_takeCanals 49 = .ok (.iastore, 1) := by decide +kernel
theorem dX9_takeCanals_50 : decode cX9_takeCanals 50 = .ok (.iinc 3 1, 3) := by decide +kernel
theorem dX9_takeCanals_53 : decode cX9_takeCanals 53 = .ok (.goto (-43), 3) := by decide +kernel
theorem dX9_takeCanals_56 : decode cX9_takeCanals 56 = .ok (.iinc 2 1, 3) := by decide +kernel
theorem dX9_takeCanals_59 : decode cX9_takeCanals 59 = .ok (.goto (-57), 3) := by decide +kernel
theorem dX9_takeCanals_62 : decode cX9_takeCanals 62 = .ok (.return_, 1) := by decide +kernel
theorem dX9_distanceTo_0 : decode cX9_distanceTo 0 = .ok (.iload_n 1, 1) := by decide +kernel
theorem dX9_distanceTo_1 : decode cX9_distanceTo 1 = .ok (.ifCond .lt 18, 3) := by decide +kernel
theorem dX9_distanceTo_4 : decode cX9_distanceTo 4 = .ok (.iload_n 1, 1) := by decide +kernel
theorem dX9_distanceTo_5 : decode cX9_distanceTo 5 = .ok (.bipush 6, 2) := by decide +kernel
theorem dX9_distanceTo_7 : decode cX9_distanceTo 7 = .ok (.if_icmp .ge 12, 3) := by decide +kernel
theorem dX9_distanceTo_10 : decode cX9_distanceTo 10 = .ok (.aload_n 0, 1) := by decide +kernel
theorem dX9_distanceTo_11 : decode cX9_distanceTo 11 = .ok (.getfield 15, 3) := by decide +kernel
theorem dX9_distanceTo_14 : decode cX9_distanceTo 14 = .ok (.iload_n 1, 1) := by decide +kernel
theorem dX9_distanceTo_15 : decode cX9_distanceTo 15 = .ok (.iaload, 1) := by decide +kernel
theorem dX9_distanceTo_16 : decode cX9_distanceTo 16 = .ok (.goto 5, 3) := by decide +kernel
theorem dX9_distanceTo_19 : decode cX9_distanceTo 19 = .ok (.ldc 38, 2) := by decide +kernel
theorem dX9_distanceTo_21 : decode cX9_distanceTo 21 = .ok (.ireturn, 1) := by decide +kernel
set_option maxRecDepth 20000 in
theorem ggX9_nearestFirst_X9_begin : GoodIn wsX9_nearestFirst wsX9_begin := goodIn_ca (goodIn_r _ [5, 6, 7, 8, 9, 10, 11, 21, 22] rfl (by decide +kernel)) (goodIn_sub (fun _ h => List.mem_cons_of_mem _ (List.mem_append_right _ h)) (by decide +kernel))
set_option maxRecDepth 20000 in
theorem gX9_nearestFirst_X9_begin : GoodIn wsX9_nearestFirst (wsV RX9 39 RX9 yX9_begin wsX9_begin) := goodIn_app (goodIn_of _ (by decide +kernel)) ggX9_nearestFirst_X9_begin
set_option maxRecDepth 20000 in
theorem ggX9_nearestFirst_X9_nearestOf : GoodIn wsX9_nearestFirst wsX9_nearestOf := goodIn_ca (goodIn_r _ [15, 7, 6, 21, 22] rfl (by decide +kernel)) (goodIn_sub (fun _ h => List.mem_cons_of_mem _ (List.mem_append_right _ h)) (by decide +kernel))
set_option maxRecDepth 20000 in
theorem gX9_nearestFirst_X9_nearestOf : GoodIn wsX9_nearestFirst (wsV RX9 43 RX9 yX9_nearestOf wsX9_nearestOf) := goodIn_app (goodIn_of _ (by decide +kernel)) ggX9_nearestFirst_X9_nearestOf
set_option maxRecDepth 20000 in
theorem ggX9_nearestFirst_X9_shorten : GoodIn wsX9_nearestFirst wsX9_shorten := goodIn_ca (goodIn_r _ [19, 20, 6, 21, 22] rfl (by decide +kernel)) (goodIn_sub (fun _ h => List.mem_cons_of_mem _ (List.mem_append_right _ h)) (by decide +kernel))
set_option maxRecDepth 20000 in
theorem gX9_nearestFirst_X9_shorten : GoodIn wsX9_nearestFirst (wsV RX9 46 RX9 yX9_shorten wsX9_shorten) := goodIn_app (goodIn_of _ (by decide +kernel)) ggX9_nearestFirst_X9_shorten
theorem dX9_nearestFirst_0 : decode cX9_nearestFirst 0 = .ok (.aload_n 0, 1) := by decide +kernel
theorem dX9_nearestFirst_1 : decode cX9_nearestFirst 1 = .ok (.iload_n 1, 1) := by decide +kernel
theorem dX9_nearestFirst_2 : decode cX9_nearestFirst 2 = .ok (.invokevirtual 39, 3) := by decide +kernel
theorem dX9_nearestFirst_5 : decode cX9_nearestFirst 5 = .ok (.bipush 63, 2) := by decide +kernel
theorem dX9_nearestFirst_7 : decode cX9_nearestFirst 7 = .ok (.istore_n 2, 1) := by decide +kernel
theorem dX9_nearestFirst_8 : decode cX9_nearestFirst 8 = .ok (.iconst 0, 1) := by decide +kernel
theorem dX9_nearestFirst_9 : decode cX9_nearestFirst 9 = .ok (.istore_n 3, 1) := by decide +kernel
theorem dX9_nearestFirst_10 : decode cX9_nearestFirst 10 = .ok (.iload_n 3, 1) := by decide +kernel
theorem dX9_nearestFirst_11 : decode cX9_nearestFirst 11 = .ok (.bipush 6, 2) := by decide +kernel
theorem dX9_nearestFirst_13 : decode cX9_nearestFirst 13 = .ok (.if_icmp .ge 57, 3) := by decide +kernel
theorem dX9_nearestFirst_16 : decode cX9_nearestFirst 16 = .ok (.aload_n 0, 1) := by decide +kernel
theorem dX9_nearestFirst_17 : decode cX9_nearestFirst 17 = .ok (.iload_n 2, 1) := by decide +kernel
theorem dX9_nearestFirst_18 : decode cX9_nearestFirst 18 = .ok (.invokevirtual 43, 3) := by decide +kernel
theorem dX9_nearestFirst_21 : decode cX9_nearestFirst 21 = .ok (.istore 4, 2) := by decide +kernel
theorem dX9_nearestFirst_23 : decode cX9_nearestFirst 23 = .ok (.iload 4, 2) := by decide +kernel
theorem dX9_nearestFirst_25 : decode cX9_nearestFirst 25 = .ok (.iconst (-1), 1) := by decide +kernel
theorem dX9_nearestFirst_26 : decode cX9_nearestFirst 26 = .ok (.if_icmp .ne 4, 3) := by decide +kernel
theorem dX9_nearestFirst_29 : decode cX9_nearestFirst 29 = .ok (.return_, 1) := by decide +kernel
theorem dX9_nearestFirst_30 : decode cX9_nearestFirst 30 = .ok (.iload_n 2, 1) := by decide +kernel
theorem dX9_nearestFirst_31 : decode cX9_nearestFirst 31 = .ok (.iconst 1, 1) := by decide +kernel
theorem dX9_nearestFirst_32 : decode cX9_nearestFirst 32 = .ok (.iload 4, 2) := by decide +kernel
theorem dX9_nearestFirst_34 : decode cX9_nearestFirst 34 = .ok (.ishl, 1) := by decide +kernel
theorem dX9_nearestFirst_35 : decode cX9_nearestFirst 35 = .ok (.iconst (-1), 1) := by decide +kernel
theorem dX9_nearestFirst_36 : decode cX9_nearestFirst 36 = .ok (.ixor, 1) := by decide +kernel
theorem dX9_nearestFirst_37 : decode cX9_nearestFirst 37 = .ok (.iand, 1) := by decide +kernel
theorem dX9_nearestFirst_38 : decode cX9_nearestFirst 38 = .ok (.istore_n 2, 1) := by decide +kernel
theorem dX9_nearestFirst_39 : decode cX9_nearestFirst 39 = .ok (.iconst 0, 1) := by decide +kernel
theorem dX9_nearestFirst_40 : decode cX9_nearestFirst 40 = .ok (.istore 5, 2) := by decide +kernel
theorem dX9_nearestFirst_42 : decode cX9_nearestFirst 42 = .ok (.iload 5, 2) := by decide +kernel
theorem dX9_nearestFirst_44 : decode cX9_nearestFirst 44 = .ok (.bipush 6, 2) := by decide +kernel
theorem dX9_nearestFirst_46 : decode cX9_nearestFirst 46 = .ok (.if_icmp .ge 18, 3) := by decide +kernel
theorem dX9_nearestFirst_49 : decode cX9_nearestFirst 49 = .ok (.aload_n 0, 1) := by decide +kernel
theorem dX9_nearestFirst_50 : decode cX9_nearestFirst 50 = .ok (.iload 4, 2) := by decide +kernel
theorem dX9_nearestFirst_52 : decode cX9_nearestFirst 52 = .ok (.iload 5, 2) := by decide +kernel
theorem dX9_nearestFirst_54 : decode cX9_nearestFirst 54 = .ok (.invokevirtual 46, 3) := by decide +kernel
theorem dX9_nearestFirst_57 : decode cX9_nearestFirst 57 = .ok (.pop, 1) := by decide +kernel
theorem dX9_nearestFirst_58 : decode cX9_nearestFirst 58 = .ok (.iinc 5 1, 3) := by decide +kernel
theorem dX9_nearestFirst_61 : decode cX9_nearestFirst 61 = .ok (.goto (-19), 3) := by decide +kernel
theorem dX9_nearestFirst_64 : decode cX9_nearestFirst 64 = .ok (.iinc 3 1, 3) := by decide +kernel
theorem dX9_nearestFirst_67 : decode cX9_nearestFirst 67 = .ok (.goto (-57), 3) := by decide +kernel
theorem dX9_nearestFirst_70 : decode cX9_nearestFirst 70 = .ok (.return_, 1) := by decide +kernel
set_option maxRecDepth 20000 in
theorem ggX9_canalByCanal_X9_begin : GoodIn wsX9_canalByCanal wsX9_begin := goodIn_ca (goodIn_r _ [5, 6, 7, 8, 9, 10, 11, 17, 18] rfl (by decide +kernel)) (goodIn_sub (fun _ h => List.mem_cons_of_mem _ (List.mem_append_right _ h)) (by decide +kernel))
set_option maxRecDepth 20000 in
theorem gX9_canalByCanal_X9_begin : GoodIn wsX9_canalByCanal (wsV RX9 39 RX9 yX9_begin wsX9_begin) := goodIn_app (goodIn_of _ (by decide +kernel)) ggX9_canalByCanal_X9_begin
set_option maxRecDepth 20000 in
theorem ggX9_canalByCanal_X9_shorten : GoodIn wsX9_canalByCanal wsX9_shorten := goodIn_ca (goodIn_r _ [15, 16, 6, 17, 18] rfl (by decide +kernel)) (goodIn_sub (fun _ h => List.mem_cons_of_mem _ (List.mem_append_right _ h)) (by decide +kernel))
set_option maxRecDepth 20000 in
theorem gX9_canalByCanal_X9_shorten : GoodIn wsX9_canalByCanal (wsV RX9 46 RX9 yX9_shorten wsX9_shorten) := goodIn_app (goodIn_of _ (by decide +kernel)) ggX9_canalByCanal_X9_shorten
theorem dX9_canalByCanal_0 : decode cX9_canalByCanal 0 = .ok (.aload_n 0, 1) := by decide +kernel
theorem dX9_canalByCanal_1 : decode cX9_canalByCanal 1 = .ok (.iload_n 1, 1) := by decide +kernel
theorem dX9_canalByCanal_2 : decode cX9_canalByCanal 2 = .ok (.invokevirtual 39, 3) := by decide +kernel
theorem dX9_canalByCanal_5 : decode cX9_canalByCanal 5 = .ok (.iconst 1, 1) := by decide +kernel
theorem dX9_canalByCanal_6 : decode cX9_canalByCanal 6 = .ok (.istore_n 2, 1) := by decide +kernel
theorem dX9_canalByCanal_7 : decode cX9_canalByCanal 7 = .ok (.iconst 0, 1) := by decide +kernel
theorem dX9_canalByCanal_8 : decode cX9_canalByCanal 8 = .ok (.istore_n 3, 1) := by decide +kernel
theorem dX9_canalByCanal_9 : decode cX9_canalByCanal 9 = .ok (.iload_n 3, 1) := by decide +kernel
theorem dX9_canalByCanal_10 : decode cX9_canalByCanal 10 = .ok (.bipush 6, 2) := by decide +kernel
theorem dX9_canalByCanal_12 : decode cX9_canalByCanal 12 = .ok (.if_icmp .ge 58, 3) := by decide +kernel
theorem dX9_canalByCanal_15 : decode cX9_canalByCanal 15 = .ok (.iload_n 2, 1) := by decide +kernel
theorem dX9_canalByCanal_16 : decode cX9_canalByCanal 16 = .ok (.ifCond .eq 54, 3) := by decide +kernel
theorem dX9_canalByCanal_19 : decode cX9_canalByCanal 19 = .ok (.iconst 0, 1) := by decide +kernel
theorem dX9_canalByCanal_20 : decode cX9_canalByCanal 20 = .ok (.istore_n 2, 1) := by decide +kernel
theorem dX9_canalByCanal_21 : decode cX9_canalByCanal 21 = .ok (.iconst 0, 1) := by decide +kernel
theorem dX9_canalByCanal_22 : decode cX9_canalByCanal 22 = .ok (.istore 4, 2) := by decide +kernel
theorem dX9_canalByCanal_24 : decode cX9_canalByCanal 24 = .ok (.iload 4, 2) := by decide +kernel
theorem dX9_canalByCanal_26 : decode cX9_canalByCanal 26 = .ok (.bipush 6, 2) := by decide +kernel
theorem dX9_canalByCanal_28 : decode cX9_canalByCanal 28 = .ok (.if_icmp .ge 36, 3) := by decide +kernel
theorem dX9_canalByCanal_31 : decode cX9_canalByCanal 31 = .ok (.iconst 0, 1) := by decide +kernel
theorem dX9_canalByCanal_32 : decode cX9_canalByCanal 32 = .ok (.istore 5, 2) := by decide +kernel
theorem dX9_canalByCanal_34 : decode cX9_canalByCanal 34 = .ok (.iload 5, 2) := by decide +kernel
theorem dX9_canalByCanal_36 : decode cX9_canalByCanal 36 = .ok (.bipush 6, 2) := by decide +kernel
theorem dX9_canalByCanal_38 : decode cX9_canalByCanal 38 = .ok (.if_icmp .ge 20, 3) := by decide +kernel
theorem dX9_canalByCanal_41 : decode cX9_canalByCanal 41 = .ok (.iload_n 2, 1) := by decide +kernel
theorem dX9_canalByCanal_42 : decode cX9_canalByCanal 42 = .ok (.aload_n 0, 1) := by decide +kernel
theorem dX9_canalByCanal_43 : decode cX9_canalByCanal 43 = .ok (.iload 4, 2) := by decide +kernel
theorem dX9_canalByCanal_45 : decode cX9_canalByCanal 45 = .ok (.iload 5, 2) := by decide +kernel
theorem dX9_canalByCanal_47 : decode cX9_canalByCanal 47 = .ok (.invokevirtual 46, 3) := by decide +kernel
theorem dX9_canalByCanal_50 : decode cX9_canalByCanal 50 = .ok (.ior, 1) := by decide +kernel
theorem dX9_canalByCanal_51 : decode cX9_canalByCanal 51 = .ok (.istore_n 2, 1) := by decide +kernel
theorem dX9_canalByCanal_52 : decode cX9_canalByCanal 52 = .ok (.iinc 5 1, 3) := by decide +kernel
theorem dX9_canalByCanal_55 : decode cX9_canalByCanal 55 = .ok (.goto (-21), 3) := by decide +kernel
theorem dX9_canalByCanal_58 : decode cX9_canalByCanal 58 = .ok (.iinc 4 1, 3) := by decide +kernel
theorem dX9_canalByCanal_61 : decode cX9_canalByCanal 61 = .ok (.goto (-37), 3) := by decide +kernel
theorem dX9_canalByCanal_64 : decode cX9_canalByCanal 64 = .ok (.iinc 3 1, 3) := by decide +kernel
theorem dX9_canalByCanal_67 : decode cX9_canalByCanal 67 = .ok (.goto (-58), 3) := by decide +kernel
theorem dX9_canalByCanal_70 : decode cX9_canalByCanal 70 = .ok (.return_, 1) := by decide +kernel
set_option maxRecDepth 20000 in
theorem ggX9_firstStep_X9_nearestFirst : GoodIn wsX9_firstStep wsX9_nearestFirst := goodIn_ca (goodIn_r _ [7, 8, 9, 10, 6, 11, 12, 1, 13, 14, 15, 16, 17, 18, 19, 20, 21, 22, 23, 24, 2, 29, 30] rfl (by decide +kernel)) (goodIn_sub (fun _ h => List.mem_cons_of_mem _ (List.mem_append_right _ h)) (by decide +kernel))
set_option maxRecDepth 20000 in
theorem gX9_firstStep_X9_nearestFirst : GoodIn wsX9_firstStep (wsV RX9 49 RX9 yX9_nearestFirst wsX9_nearestFirst) := goodIn_app (goodIn_of _ (by decide +kernel)) ggX9_firstStep_X9_nearestFirst
set_option maxRecDepth 20000 in
theorem ggX9_firstStep_X9_distanceTo : GoodIn wsX9_firstStep wsX9_distanceTo := goodIn_ca (goodIn_r _ [28, 12, 1, 29, 30] rfl (by decide +kernel)) (goodIn_sub (fun _ h => List.mem_cons_of_mem _ (List.mem_append_right _ h)) (by decide +kernel))
set_option maxRecDepth 20000 in
theorem gX9_firstStep_X9_distanceTo : GoodIn wsX9_firstStep (wsV RX9 52 RX9 yX9_distanceTo wsX9_distanceTo) := goodIn_app (goodIn_of _ (by decide +kernel)) ggX9_firstStep_X9_distanceTo
theorem dX9_firstStep_0 : decode cX9_firstStep 0 = .ok (.aload_n 0, 1) := by decide +kernel
theorem dX9_firstStep_1 : decode cX9_firstStep 1 = .ok (.iload_n 1, 1) := by decide +kernel
theorem dX9_firstStep_2 : decode cX9_firstStep 2 = .ok (.invokevirtual 49, 3) := by decide +kernel
theorem dX9_firstStep_5 : decode cX9_firstStep 5 = .ok (.aload_n 0, 1) := by decide +kernel
theorem dX9_firstStep_6 : decode cX9_firstStep 6 = .ok (.iload_n 2, 1) := by decide +kernel
theorem dX9_firstStep_7 : decode cX9_firstStep 7 = .ok (.invokevirtual 52, 3) := by decide +kernel
theorem dX9_firstStep_10 : decode cX9_firstStep 10 = .ok (.istore_n 3, 1) := by decide +kernel
theorem dX9_firstStep_11 : decode cX9_firstStep 11 = .ok (.iload_n 1, 1) := by decide +kernel
theorem dX9_firstStep_12 : decode cX9_firstStep 12 = .ok (.iload_n 2, 1) := by decide +kernel
theorem dX9_firstStep_13 : decode cX9_firstStep 13 = .ok (.if_icmp .eq 9, 3) := by decide +kernel
theorem dX9_firstStep_16 : decode cX9_firstStep 16 = .ok (.iload_n 3, 1) := by decide +kernel
theorem dX9_firstStep_17 : decode cX9_firstStep 17 = .ok (.ldc 38, 2) := by decide +kernel
theorem dX9_firstStep_19 : decode cX9_firstStep 19 = .ok (.if_icmp .lt 5, 3) := by decide +kernel
theorem dX9_firstStep_22 : decode cX9_firstStep 22 = .ok (.iconst (-1), 1) := by decide +kernel
theorem dX9_firstStep_23 : decode cX9_firstStep 23 = .ok (.ireturn, 1) := by decide +kernel
theorem dX9_firstStep_24 : decode cX9_firstStep 24 = .ok (.iconst 0, 1) := by decide +kernel
theorem dX9_firstStep_25 : decode cX9_firstStep 25 = .ok (.istore 4, 2) := by decide +kernel
theorem dX9_firstStep_27 : decode cX9_firstStep 27 = .ok (.iload 4, 2) := by decide +kernel
theorem dX9_firstStep_29 : decode cX9_firstStep 29 = .ok (.bipush 6, 2) := by decide +kernel
theorem dX9_firstStep_31 : decode cX9_firstStep 31 = .ok (.if_icmp .ge 49, 3) := by decide +kernel
theorem dX9_firstStep_34 : decode cX9_firstStep 34 = .ok (.aload_n 0, 1) := by decide +kernel
theorem dX9_firstStep_35 : decode cX9_firstStep 35 = .ok (.getfield 9, 3) := by decide +kernel
theorem dX9_firstStep_38 : decode cX9_firstStep 38 = .ok (.iload_n 1, 1) := by decide +kernel
theorem dX9_firstStep_39 : decode cX9_firstStep 39 = .ok (.bipush 6, 2) := by decide +kernel
theorem dX9_firstStep_41 : decode cX9_firstStep 41 = .ok (.imul, 1) := by decide +kernel
theorem dX9_firstStep_42 : decode cX9_firstStep 42 = .ok (.iload 4, 2) := by decide +kernel
theorem dX9_firstStep_44 : decode cX9_firstStep 44 = .ok (.iadd, 1) := by decide +kernel
theorem dX9_firstStep_45 : decode cX9_firstStep 45 = .ok (.iaload, 1) := by decide +kernel
theorem dX9_firstStep_46 : decode cX9_firstStep 46 = .ok (.istore 5, 2) := by decide +kernel
theorem dX9_firstStep_48 : decode cX9_firstStep 48 = .ok (.aload_n 0, 1) := by decide +kernel
theorem dX9_firstStep_49 : decode cX9_firstStep 49 = .ok (.iload 4, 2) := by decide +kernel
theorem dX9_firstStep_51 : decode cX9_firstStep 51 = .ok (.invokevirtual 49, 3) := by decide +kernel
theorem dX9_firstStep_54 : decode cX9_firstStep 54 = .ok (.iload 5, 2) := by decide +kernel
theorem dX9_firstStep_56 : decode cX9_firstStep 56 = .ok (.ifCond .le 18, 3) := by decide +kernel
theorem dX9_firstStep_59 : decode cX9_firstStep 59 = .ok (.iload 5, 2) := by decide +kernel
theorem dX9_firstStep_61 : decode cX9_firstStep 61 = .ok (.aload_n 0, 1) := by decide +kernel
theorem dX9_firstStep_62 : decode cX9_firstStep 62 = .ok (.iload_n 2, 1) := by decide +kernel
theorem dX9_firstStep_63 : decode cX9_firstStep 63 = .ok (.invokevirtual 52, 3) := by decide +kernel
theorem dX9_firstStep_66 : decode cX9_firstStep 66 = .ok (.iadd, 1) := by decide +kernel
theorem dX9_firstStep_67 : decode cX9_firstStep 67 = .ok (.iload_n 3, 1) := by decide +kernel
theorem dX9_firstStep_68 : decode cX9_firstStep 68 = .ok (.if_icmp .ne 6, 3) := by decide +kernel
theorem dX9_firstStep_71 : decode cX9_firstStep 71 = .ok (.iload 4, 2) := by decide +kernel
theorem dX9_firstStep_73 : decode cX9_firstStep 73 = .ok (.ireturn, 1) := by decide +kernel
theorem dX9_firstStep_74 : decode cX9_firstStep 74 = .ok (.iinc 4 1, 3) := by decide +kernel
theorem dX9_firstStep_77 : decode cX9_firstStep 77 = .ok (.goto (-50), 3) := by decide +kernel
theorem dX9_firstStep_80 : decode cX9_firstStep 80 = .ok (.iconst (-1), 1) := by decide +kernel
theorem dX9_firstStep_81 : decode cX9_firstStep 81 = .ok (.ireturn, 1) := by decide +kernel
set_option maxRecDepth 20000 in
theorem ggX9_begin_J7_fill_53178 : GoodIn wsX9_begin wsJ7_fill_53178 := goodIn_r _ [6] rfl (by decide +kernel)
set_option maxRecDepth 20000 in
theorem gX9_begin_J7_fill_53178 : GoodIn wsX9_begin (va_wsS RX9 55 yJ7_fill_53178 wsJ7_fill_53178) := goodIn_app (goodIn_of _ (by decide +kernel)) ggX9_begin_J7_fill_53178
theorem dX9_begin_0 : decode cX9_begin 0 = .ok (.aload_n 0, 1) := by decide +kernel
theorem dX9_begin_1 : decode cX9_begin 1 = .ok (.getfield 15, 3) := by decide +kernel
theorem dX9_begin_4 : decode cX9_begin 4 = .ok (.ldc 38, 2) := by decide +kernel
theorem dX9_begin_6 : decode cX9_begin 6 = .ok (.invokestatic 55, 3) := by decide +kernel
theorem dX9_begin_9 : decode cX9_begin 9 = .ok (.iload_n 1, 1) := by decide +kernel
theorem dX9_begin_10 : decode cX9_begin 10 = .ok (.ifCond .lt 16, 3) := by decide +kernel
theorem dX9_begin_13 : decode cX9_begin 13 = .ok (.iload_n 1, 1) := by decide +kernel
theorem dX9_begin_14 : decode cX9_begin 14 = .ok (.bipush 6, 2) := by decide +kernel
theorem dX9_begin_16 : decode cX9_begin 16 = .ok (.if_icmp .ge 10, 3) := by decide +kernel
theorem dX9_begin_19 : decode cX9_begin 19 = .ok (.aload_n 0, 1) := by decide +kernel
theorem dX9_begin_20 : decode cX9_begin 20 = .ok (.getfield 15, 3) := by decide +kernel
theorem dX9_begin_23 : decode cX9_begin 23 = .ok (.iload_n 1, 1) := by decide +kernel
theorem dX9_begin_24 : decode cX9_begin 24 = .ok (.iconst 0, 1) := by decide +kernel
theorem dX9_begin_25 : decode cX9_begin 25 = .ok (.iastore, 1) := by decide +kernel
theorem dX9_begin_26 : decode cX9_begin 26 = .ok (.return_, 1) := by decide +kernel
theorem dX9_nearestOf_0 : decode cX9_nearestOf 0 = .ok (.iconst (-1), 1) := by decide +kernel
theorem dX9_nearestOf_1 : decode cX9_nearestOf 1 = .ok (.istore_n 2, 1) := by decide +kernel
theorem dX9_nearestOf_2 : decode cX9_nearestOf 2 = .ok (.ldc 38, 2) := by decide +kernel
theorem dX9_nearestOf_4 : decode cX9_nearestOf 4 = .ok (.istore_n 3, 1) := by decide +kernel
theorem dX9_nearestOf_5 : decode cX9_nearestOf 5 = .ok (.iconst 0, 1) := by decide +kernel
theorem dX9_nearestOf_6 : decode cX9_nearestOf 6 = .ok (.istore 4, 2) := by decide +kernel
theorem dX9_nearestOf_8 : decode cX9_nearestOf 8 = .ok (.iload 4, 2) := by decide +kernel
theorem dX9_nearestOf_10 : decode cX9_nearestOf 10 = .ok (.bipush 6, 2) := by decide +kernel
theorem dX9_nearestOf_12 : decode cX9_nearestOf 12 = .ok (.if_icmp .ge 40, 3) := by decide +kernel
theorem dX9_nearestOf_15 : decode cX9_nearestOf 15 = .ok (.iload_n 1, 1) := by decide +kernel
theorem dX9_nearestOf_16 : decode cX9_nearestOf 16 = .ok (.iconst 1, 1) := by decide +kernel
theorem dX9_nearestOf_17 : decode cX9_nearestOf 17 = .ok (.iload 4, 2) := by decide +kernel
theorem dX9_nearestOf_19 : decode cX9_nearestOf 19 = .ok (.ishl, 1) := by decide +kernel
theorem dX9_nearestOf_20 : decode cX9_nearestOf 20 = .ok (.iand, 1) := by decide +kernel
theorem dX9_nearestOf_21 : decode cX9_nearestOf 21 = .ok (.ifCond .eq 25, 3) := by decide +kernel
theorem dX9_nearestOf_24 : decode cX9_nearestOf 24 = .ok (.aload_n 0, 1) := by decide +kernel
theorem dX9_nearestOf_25 : decode cX9_nearestOf 25 = .ok (.getfield 15, 3) := by decide +kernel
theorem dX9_nearestOf_28 : decode cX9_nearestOf 28 = .ok (.iload 4, 2) := by decide +kernel
theorem dX9_nearestOf_30 : decode cX9_nearestOf 30 = .ok (.iaload, 1) := by decide +kernel
theorem dX9_nearestOf_31 : decode cX9_nearestOf 31 = .ok (.iload_n 3, 1) := by decide +kernel
theorem dX9_nearestOf_32 : decode cX9_nearestOf 32 = .ok (.if_icmp .ge 14, 3) := by decide +kernel
theorem dX9_nearestOf_35 : decode cX9_nearestOf 35 = .ok (.iload 4, 2) := by decide +kernel
theorem dX9_nearestOf_37 : decode cX9_nearestOf 37 = .ok (.istore_n 2, 1) := by decide +kernel
theorem dX9_nearestOf_38 : decode cX9_nearestOf 38 = .ok (.aload_n 0, 1) := by decide +kernel
theorem dX9_nearestOf_39 : decode cX9_nearestOf 39 = .ok (.getfield 15, 3) := by decide +kernel
theorem dX9_nearestOf_42 : decode cX9_nearestOf 42 = .ok (.iload 4, 2) := by decide +kernel
theorem dX9_nearestOf_44 : decode cX9_nearestOf 44 = .ok (.iaload, 1) := by decide +kernel
theorem dX9_nearestOf_45 : decode cX9_nearestOf 45 = .ok (.istore_n 3, 1) := by decide +kernel
theorem dX9_nearestOf_46 : decode cX9_nearestOf 46 = .ok (.iinc 4 1, 3) := by decide +kernel
theorem dX9_nearestOf_49 : decode cX9_nearestOf 49 = .ok (.goto (-41), 3) := by decide +kernel
theorem dX9_nearestOf_52 : decode cX9_nearestOf 52 = .ok (.iload_n 2, 1) := by decide +kernel
theorem dX9_nearestOf_53 : decode cX9_nearestOf 53 = .ok (.ireturn, 1) := by decide +kernel
theorem dX9_shorten_0 : decode cX9_shorten 0 = .ok (.aload_n 0, 1) := by decide +kernel
theorem dX9_shorten_1 : decode cX9_shorten 1 = .ok (.getfield 9, 3) := by decide +kernel
theorem dX9_shorten_4 : decode cX9_shorten 4 = .ok (.iload_n 1, 1) := by decide +kernel
theorem dX9_shorten_5 : decode cX9_shorten 5 = .ok (.bipush 6, 2) := by decide +kernel
theorem dX9_shorten_7 : decode cX9_shorten 7 = .ok (.imul, 1) := by decide +kernel
theorem dX9_shorten_8 : decode cX9_shorten 8 = .ok (.iload_n 2, 1) := by decide +kernel
theorem dX9_shorten_9 : decode cX9_shorten 9 = .ok (.iadd, 1) := by decide +kernel
theorem dX9_shorten_10 : decode cX9_shorten 10 = .ok (.iaload, 1) := by decide +kernel
theorem dX9_shorten_11 : decode cX9_shorten 11 = .ok (.istore_n 3, 1) := by decide +kernel
theorem dX9_shorten_12 : decode cX9_shorten 12 = .ok (.iload_n 3, 1) := by decide +kernel
theorem dX9_shorten_13 : decode cX9_shorten 13 = .ok (.ifCond .le 24, 3) := by decide +kernel
theorem dX9_shorten_16 : decode cX9_shorten 16 = .ok (.aload_n 0, 1) := by decide +kernel
theorem dX9_shorten_17 : decode cX9_shorten 17 = .ok (.getfield 15, 3) := by decide +kernel
theorem dX9_shorten_20 : decode cX9_shorten 20 = .ok (.iload_n 1, 1) := by decide +kernel
theorem dX9_shorten_21 : decode cX9_shorten 21 = .ok (.iaload, 1) := by decide +kernel
theorem dX9_shorten_22 : decode cX9_shorten 22 = .ok (.iload_n 3, 1) := by decide +kernel
theorem dX9_shorten_23 : decode cX9_shorten 23 = .ok (.iadd, 1) := by decide +kernel
theorem dX9_shorten_24 : decode cX9_shorten 24 = .ok (.aload_n 0, 1) := by decide +kernel
theorem dX9_shorten_25 : decode cX9_shorten 25 = .ok (.getfield 15, 3) := by decide +kernel
theorem dX9_shorten_28 : decode cX9_shorten 28 = .ok (.iload_n 2, 1) := by decide +kernel
theorem dX9_shorten_29 : decode cX9_shorten 29 = .ok (.iaload, 1) := by decide +kernel
theorem dX9_shorten_30 : decode cX9_shorten 30 = .ok (.if_icmp .ge 7, 3) := by decide +kernel
theorem dX9_shorten_33 : decode cX9_shorten 33 = .ok (.iconst 1, 1) := by decide +kernel
theorem dX9_shorten_34 : decode cX9_shorten 34 = .ok (.goto 4, 3) := by decide +kernel
theorem dX9_shorten_37 : decode cX9_shorten 37 = .ok (.iconst 0, 1) := by decide +kernel
theorem dX9_shorten_38 : decode cX9_shorten 38 = .ok (.istore 4, 2) := by decide +kernel
theorem dX9_shorten_40 : decode cX9_shorten 40 = .ok (.iload 4, 2) := by decide +kernel
theorem dX9_shorten_42 : decode cX9_shorten 42 = .ok (.ifCond .eq 17, 3) := by decide +kernel
theorem dX9_shorten_45 : decode cX9_shorten 45 = .ok (.aload_n 0, 1) := by decide +kernel
theorem dX9_shorten_46 : decode cX9_shorten 46 = .ok (.getfield 15, 3) := by decide +kernel
theorem dX9_shorten_49 : decode cX9_shorten 49 = .ok (.iload_n 2, 1) := by decide +kernel
theorem dX9_shorten_50 : decode cX9_shorten 50 = .ok (.aload_n 0, 1) := by decide +kernel
theorem dX9_shorten_51 : decode cX9_shorten 51 = .ok (.getfield 15, 3) := by decide +kernel
theorem dX9_shorten_54 : decode cX9_shorten 54 = .ok (.iload_n 1, 1) := by decide +kernel
theorem dX9_shorten_55 : decode cX9_shorten 55 = .ok (.iaload, 1) := by decide +kernel
theorem dX9_shorten_56 : decode cX9_shorten 56 = .ok (.iload_n 3, 1) := by decide +kernel
theorem dX9_shorten_57 : decode cX9_shorten 57 = .ok (.iadd, 1) := by decide +kernel
theorem dX9_shorten_58 : decode cX9_shorten 58 = .ok (.iastore, 1) := by decide +kernel
theorem dX9_shorten_59 : decode cX9_shorten 59 = .ok (.iload 4, 2) := by decide +kernel
theorem dX9_shorten_61 : decode cX9_shorten 61 = .ok (.ireturn, 1) := by decide +kernel
theorem dJ9_floorMod_7cf53_0 : decode cJ9_floorMod_7cf53 0 = .ok (.iload_n 0, 1) := by decide +kernel
theorem dJ9_floorMod_7cf53_1 : decode cJ9_floorMod_7cf53 1 = .ok (.iload_n 1, 1) := by decide +kernel
theorem dJ9_floorMod_7cf53_2 : decode cJ9_floorMod_7cf53 2 = .ok (.irem, 1) := by decide +kernel
theorem dJ9_floorMod_7cf53_3 : decode cJ9_floorMod_7cf53 3 = .ok (.istore_n 2, 1) := by decide +kernel
theorem dJ9_floorMod_7cf53_4 : decode cJ9_floorMod_7cf53 4 = .ok (.iload_n 0, 1) := by decide +kernel
theorem dJ9_floorMod_7cf53_5 : decode cJ9_floorMod_7cf53 5 = .ok (.iload_n 1, 1) := by decide +kernel
theorem dJ9_floorMod_7cf53_6 : decode cJ9_floorMod_7cf53 6 = .ok (.ixor, 1) := by decide +kernel
theorem dJ9_floorMod_7cf53_7 : decode cJ9_floorMod_7cf53 7 = .ok (.ifCond .ge 11, 3) := by decide +kernel
theorem dJ9_floorMod_7cf53_10 : decode cJ9_floorMod_7cf53 10 = .ok (.iload_n 2, 1) := by decide +kernel
theorem dJ9_floorMod_7cf53_11 : decode cJ9_floorMod_7cf53 11 = .ok (.ifCond .eq 7, 3) := by decide +kernel
theorem dJ9_floorMod_7cf53_14 : decode cJ9_floorMod_7cf53 14 = .ok (.iload_n 2, 1) := by decide +kernel
theorem dJ9_floorMod_7cf53_15 : decode cJ9_floorMod_7cf53 15 = .ok (.iload_n 1, 1) := by decide +kernel
theorem dJ9_floorMod_7cf53_16 : decode cJ9_floorMod_7cf53 16 = .ok (.iadd, 1) := by decide +kernel
theorem dJ9_floorMod_7cf53_17 : decode cJ9_floorMod_7cf53 17 = .ok (.ireturn, 1) := by decide +kernel
theorem dJ9_floorMod_7cf53_18 : decode cJ9_floorMod_7cf53 18 = .ok (.iload_n 2, 1) := by decide +kernel
theorem dJ9_floorMod_7cf53_19 : decode cJ9_floorMod_7cf53 19 = .ok (.ireturn, 1) := by decide +kernel
theorem dJ9_max_7cf53_0 : decode cJ9_max_7cf53 0 = .ok (.iload_n 0, 1) := by decide +kernel
theorem dJ9_max_7cf53_1 : decode cJ9_max_7cf53 1 = .ok (.iload_n 1, 1) := by decide +kernel
theorem dJ9_max_7cf53_2 : decode cJ9_max_7cf53 2 = .ok (.if_icmp .lt 7, 3) := by decide +kernel
theorem dJ9_max_7cf53_5 : decode cJ9_max_7cf53 5 = .ok (.iload_n 0, 1) := by decide +kernel
theorem dJ9_max_7cf53_6 : decode cJ9_max_7cf53 6 = .ok (.goto 4, 3) := by decide +kernel
theorem dJ9_max_7cf53_9 : decode cJ9_max_7cf53 9 = .ok (.iload_n 1, 1) := by decide +kernel
theorem dJ9_max_7cf53_10 : decode cJ9_max_7cf53 10 = .ok (.ireturn, 1) := by decide +kernel
theorem dJ9_min_7cf53_0 : decode cJ9_min_7cf53 0 = .ok (.iload_n 0, 1) := by decide +kernel
theorem dJ9_min_7cf53_1 : decode cJ9_min_7cf53 1 = .ok (.iload_n 1, 1) := by decide +kernel
theorem dJ9_min_7cf53_2 : decode cJ9_min_7cf53 2 = .ok (.if_icmp .gt 7, 3) := by decide +kernel
theorem dJ9_min_7cf53_5 : decode cJ9_min_7cf53 5 = .ok (.iload_n 0, 1) := by decide +kernel
theorem dJ9_min_7cf53_6 : decode cJ9_min_7cf53 6 = .ok (.goto 4, 3) := by decide +kernel
theorem dJ9_min_7cf53_9 : decode cJ9_min_7cf53 9 = .ok (.iload_n 1, 1) := by decide +kernel
theorem dJ9_min_7cf53_10 : decode cJ9_min_7cf53 10 = .ok (.ireturn, 1) := by decide +kernel
