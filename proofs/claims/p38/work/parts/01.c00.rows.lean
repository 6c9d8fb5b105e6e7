set_option maxRecDepth 20000 in
theorem ggX1_init_Jx4a65c_init_da8c8 : GoodIn wsX1_init wsJx4a65c_init_da8c8 := goodIn_r _ [15, 16, 17, 18, 19, 20, 21, 22, 23, 24, 25, 26, 27, 2, 3, 89, 90, 91] rfl (by decide +kernel)
set_option maxRecDepth 20000 in
theorem gX1_init_Jx4a65c_init_da8c8 : GoodIn wsX1_init (wsJx4a65c_init_da8c8) := ggX1_init_Jx4a65c_init_da8c8
set_option maxRecDepth 20000 in
theorem ggX1_init_X6_init : GoodIn wsX1_init wsX6_init := goodIn_r _ [30, 31, 2, 3, 32, 33, 34, 35, 94, 95, 96, 97] rfl (by decide +kernel)
set_option maxRecDepth 20000 in
theorem gX1_init_X6_init : GoodIn wsX1_init (wsX6_init) := ggX1_init_X6_init
set_option maxRecDepth 20000 in
theorem ggX1_init_Jx4a65c_add_9ea2d : GoodIn wsX1_init wsJx4a65c_add_9ea2d := goodIn_r _ [39, 40, 41, 17, 42, 43, 44, 45, 6, 46, 47, 48, 49, 50, 51, 52, 53, 54, 16, 55, 56, 57, 58, 59, 60, 61, 62, 63, 64, 65, 66, 67, 68, 69, 70, 71, 72, 73, 74, 75, 76, 77, 78, 79, 80, 81, 82, 83, 84, 85, 86, 87, 88, 89, 90, 91] rfl (by decide +kernel)
set_option maxRecDepth 20000 in
theorem gX1_init_Jx4a65c_add_9ea2d : GoodIn wsX1_init (wsV RX1 27 RJx4a65c yJx4a65c_add_9ea2d wsJx4a65c_add_9ea2d) := goodIn_app (goodIn_of _ (by decide +kernel)) ggX1_init_Jx4a65c_add_9ea2d
theorem dX1_init_0 : decode cX1_init 0 = .ok (.aload_n 0, 1) := by decide +kernel
theorem dX1_init_1 : decode cX1_init 1 = .ok (.invokespecial 3, 3) := by decide +kernel
theorem dX1_init_4 : decode cX1_init 4 = .ok (.aload_n 0, 1) := by decide +kernel
theorem dX1_init_5 : decode cX1_init 5 = .ok (.new 9, 3) := by decide +kernel
theorem dX1_init_8 : decode cX1_init 8 = .ok (.dup, 1) := by decide +kernel
theorem dX1_init_9 : decode cX1_init 9 = .ok (.invokespecial 11, 3) := by decide +kernel
theorem dX1_init_12 : decode cX1_init 12 = .ok (.putfield 12, 3) := by decide +kernel
theorem dX1_init_15 : decode cX1_init 15 = .ok (.aload_n 0, 1) := by decide +kernel
theorem dX1_init_16 : decode cX1_init 16 = .ok (.new 18, 3) := by decide +kernel
theorem dX1_init_19 : decode cX1_init 19 = .ok (.dup, 1) := by decide +kernel
theorem dX1_init_20 : decode cX1_init 20 = .ok (.iconst 0, 1) := by decide +kernel
theorem dX1_init_21 : decode cX1_init 21 = .ok (.iconst 0, 1) := by decide +kernel
theorem dX1_init_22 : decode cX1_init 22 = .ok (.iconst 0, 1) := by decide +kernel
theorem dX1_init_23 : decode cX1_init 23 = .ok (.bipush 6, 2) := by decide +kernel
theorem dX1_init_25 : decode cX1_init 25 = .ok (.newarray .int, 2) := by decide +kernel
theorem dX1_init_27 : decode cX1_init 27 = .ok (.invokespecial 20, 3) := by decide +kernel
theorem dX1_init_30 : decode cX1_init 30 = .ok (.putfield 23, 3) := by decide +kernel
theorem dX1_init_33 : decode cX1_init 33 = .ok (.aload_n 0, 1) := by decide +kernel
theorem dX1_init_34 : decode cX1_init 34 = .ok (.getfield 12, 3) := by decide +kernel
theorem dX1_init_37 : decode cX1_init 37 = .ok (.aload_n 0, 1) := by decide +kernel
theorem dX1_init_38 : decode cX1_init 38 = .ok (.getfield 23, 3) := by decide +kernel
theorem dX1_init_41 : decode cX1_init 41 = .ok (.invokevirtual 27, 3) := by decide +kernel
theorem dX1_init_44 : decode cX1_init 44 = .ok (.pop, 1) := by decide +kernel
theorem dX1_init_45 : decode cX1_init 45 = .ok (.return_, 1) := by decide +kernel
set_option maxRecDepth 20000 in
theorem ggX1_put_Jx4a65c_size_8abf5 : GoodIn wsX1_put wsJx4a65c_size_8abf5 := goodIn_r _ [7, 8, 65, 66, 67] rfl (by decide +kernel)
set_option maxRecDepth 20000 in
theorem gX1_put_Jx4a65c_size_8abf5 : GoodIn wsX1_put (wsV RX1 31 RJx4a65c yJx4a65c_size_8abf5 wsJx4a65c_size_8abf5) := goodIn_app (goodIn_of _ (by decide +kernel)) ggX1_put_Jx4a65c_size_8abf5
set_option maxRecDepth 20000 in
theorem ggX1_put_Jx4a65c_add_9ea2d : GoodIn wsX1_put wsJx4a65c_add_9ea2d := goodIn_r _ [12, 13, 14, 15, 8, 16, 17, 18, 6, 19, 20, 21, 22, 23, 24, 25, 26, 27, 28, 29, 30, 31, 32, 33, 34, 35, 36, 37, 38, 39, 40, 41, 42, 43, 44, 45, 46, 47, 48, 49, 50, 51, 52, 53, 54, 55, 56, 57, 58, 59, 60, 61, 62, 65, 66, 67] rfl (by decide +kernel)
set_option maxRecDepth 20000 in
theorem gX1_put_Jx4a65c_add_9ea2d : GoodIn wsX1_put (wsV RX1 27 RJx4a65c yJx4a65c_add_9ea2d wsJx4a65c_add_9ea2d) := goodIn_app (goodIn_of _ (by decide +kernel)) ggX1_put_Jx4a65c_add_9ea2d
theorem dX1_put_0 : decode cX1_put 0 = .ok (.aload_n 0, 1) := by decide +kernel
theorem dX1_put_1 : decode cX1_put 1 = .ok (.getfield 12, 3) := by decide +kernel
theorem dX1_put_4 : decode cX1_put 4 = .ok (.invokevirtual 31, 3) := by decide +kernel
theorem dX1_put_7 : decode cX1_put 7 = .ok (.ldc 35, 2) := by decide +kernel
theorem dX1_put_9 : decode cX1_put 9 = .ok (.if_icmp .lt 5, 3) := by decide +kernel
theorem dX1_put_12 : decode cX1_put 12 = .ok (.iconst 0, 1) := by decide +kernel
theorem dX1_put_13 : decode cX1_put 13 = .ok (.ireturn, 1) := by decide +kernel
theorem dX1_put_14 : decode cX1_put 14 = .ok (.aload_n 0, 1) := by decide +kernel
theorem dX1_put_15 : decode cX1_put 15 = .ok (.getfield 12, 3) := by decide +kernel
theorem dX1_put_18 : decode cX1_put 18 = .ok (.aload_n 1, 1) := by decide +kernel
theorem dX1_put_19 : decode cX1_put 19 = .ok (.invokevirtual 27, 3) := by decide +kernel
theorem dX1_put_22 : decode cX1_put 22 = .ok (.pop, 1) := by decide +kernel
theorem dX1_put_23 : decode cX1_put 23 = .ok (.aload_n 0, 1) := by decide +kernel
theorem dX1_put_24 : decode cX1_put 24 = .ok (.getfield 12, 3) := by decide +kernel
theorem dX1_put_27 : decode cX1_put 27 = .ok (.invokevirtual 31, 3) := by decide +kernel
theorem dX1_put_30 : decode cX1_put 30 = .ok (.iconst 1, 1) := by decide +kernel
theorem dX1_put_31 : decode cX1_put 31 = .ok (.isub, 1) := by decide +kernel
theorem dX1_put_32 : decode cX1_put 32 = .ok (.ireturn, 1) := by decide +kernel
set_option maxRecDepth 20000 in
theorem ggX1_numbered_Jx4a65c_size_8abf5 : GoodIn wsX1_numbered wsJx4a65c_size_8abf5 := goodIn_r _ [8, 9, 29, 30, 31] rfl (by decide +kernel)
set_option maxRecDepth 20000 in
theorem gX1_numbered_Jx4a65c_size_8abf5 : GoodIn wsX1_numbered (wsV RX1 31 RJx4a65c yJx4a65c_size_8abf5 wsJx4a65c_size_8abf5) := goodIn_app (goodIn_of _ (by decide +kernel)) ggX1_numbered_Jx4a65c_size_8abf5
set_option maxRecDepth 20000 in
theorem ggX1_numbered_Jx4a65c_get_915e3 : GoodIn wsX1_numbered wsJx4a65c_get_915e3 := goodIn_r _ [13, 9, 14, 15, 16, 17, 18, 19, 20, 21, 22, 23, 24, 7, 25, 26, 29, 30, 31] rfl (by decide +kernel)
set_option maxRecDepth 20000 in
theorem gX1_numbered_Jx4a65c_get_915e3 : GoodIn wsX1_numbered (wsV RX1 36 RJx4a65c yJx4a65c_get_915e3 wsJx4a65c_get_915e3) := goodIn_app (goodIn_of _ (by decide +kernel)) ggX1_numbered_Jx4a65c_get_915e3
theorem dX1_numbered_0 : decode cX1_numbered 0 = .ok (.iload_n 1, 1) := by decide +kernel
theorem dX1_numbered_1 : decode cX1_numbered 1 = .ok (.ifCond .lt 28, 3) := by decide +kernel
theorem dX1_numbered_4 : decode cX1_numbered 4 = .ok (.iload_n 1, 1) := by decide +kernel
theorem dX1_numbered_5 : decode cX1_numbered 5 = .ok (.aload_n 0, 1) := by decide +kernel
theorem dX1_numbered_6 : decode cX1_numbered 6 = .ok (.getfield 12, 3) := by decide +kernel
theorem dX1_numbered_9 : decode cX1_numbered 9 = .ok (.invokevirtual 31, 3) := by decide +kernel
theorem dX1_numbered_12 : decode cX1_numbered 12 = .ok (.if_icmp .ge 17, 3) := by decide +kernel
theorem dX1_numbered_15 : decode cX1_numbered 15 = .ok (.aload_n 0, 1) := by decide +kernel
theorem dX1_numbered_16 : decode cX1_numbered 16 = .ok (.getfield 12, 3) := by decide +kernel
theorem dX1_numbered_19 : decode cX1_numbered 19 = .ok (.iload_n 1, 1) := by decide +kernel
theorem dX1_numbered_20 : decode cX1_numbered 20 = .ok (.invokevirtual 36, 3) := by decide +kernel
theorem dX1_numbered_23 : decode cX1_numbered 23 = .ok (.checkcast 18, 3) := by decide +kernel
theorem dX1_numbered_26 : decode cX1_numbered 26 = .ok (.goto 7, 3) := by decide +kernel
theorem dX1_numbered_29 : decode cX1_numbered 29 = .ok (.aload_n 0, 1) := by decide +kernel
theorem dX1_numbered_30 : decode cX1_numbered 30 = .ok (.getfield 23, 3) := by decide +kernel
theorem dX1_numbered_33 : decode cX1_numbered 33 = .ok (.areturn, 1) := by decide +kernel
theorem dX3_init_0 : decode cX3_init 0 = .ok (.aload_n 0, 1) := by decide +kernel
theorem dX3_init_1 : decode cX3_init 1 = .ok (.invokespecial 3, 3) := by decide +kernel
theorem dX3_init_4 : decode cX3_init 4 = .ok (.aload_n 0, 1) := by decide +kernel
theorem dX3_init_5 : decode cX3_init 5 = .ok (.bipush 60, 2) := by decide +kernel
theorem dX3_init_7 : decode cX3_init 7 = .ok (.newarray .char, 2) := by decide +kernel
theorem dX3_init_9 : decode cX3_init 9 = .ok (.putfield 9, 3) := by decide +kernel
theorem dX3_init_12 : decode cX3_init 12 = .ok (.aload_n 0, 1) := by decide +kernel
theorem dX3_init_13 : decode cX3_init 13 = .ok (.iconst 0, 1) := by decide +kernel
theorem dX3_init_14 : decode cX3_init 14 = .ok (.putfield 15, 3) := by decide +kernel
theorem dX3_init_17 : decode cX3_init 17 = .ok (.aload_n 0, 1) := by decide +kernel
theorem dX3_init_18 : decode cX3_init 18 = .ok (.iconst 0, 1) := by decide +kernel
theorem dX3_init_19 : decode cX3_init 19 = .ok (.putfield 19, 3) := by decide +kernel
theorem dX3_init_22 : decode cX3_init 22 = .ok (.aload_n 0, 1) := by decide +kernel
theorem dX3_init_23 : decode cX3_init 23 = .ok (.getstatic 22, 3) := by decide +kernel
theorem dX3_init_26 : decode cX3_init 26 = .ok (.putfield 28, 3) := by decide +kernel
theorem dX3_init_29 : decode cX3_init 29 = .ok (.aload_n 0, 1) := by decide +kernel
theorem dX3_init_30 : decode cX3_init 30 = .ok (.iconst 3, 1) := by decide +kernel
theorem dX3_init_31 : decode cX3_init 31 = .ok (.newarray .int, 2) := by decide +kernel
theorem dX3_init_33 : decode cX3_init 33 = .ok (.putfield 31, 3) := by decide +kernel
theorem dX3_init_36 : decode cX3_init 36 = .ok (.return_, 1) := by decide +kernel
theorem dX3_isFull_0 : decode cX3_isFull 0 = .ok (.aload_n 0, 1) := by decide +kernel
theorem dX3_isFull_1 : decode cX3_isFull 1 = .ok (.getfield 15, 3) := by decide +kernel
theorem dX3_isFull_4 : decode cX3_isFull 4 = .ok (.bipush 60, 2) := by decide +kernel
theorem dX3_isFull_6 : decode cX3_isFull 6 = .ok (.if_icmp .lt 7, 3) := by decide +kernel
theorem dX3_isFull_9 : decode cX3_isFull 9 = .ok (.iconst 1, 1) := by decide +kernel
theorem dX3_isFull_10 : decode cX3_isFull 10 = .ok (.goto 4, 3) := by decide +kernel
theorem dX3_isFull_13 : decode cX3_isFull 13 = .ok (.iconst 0, 1) := by decide +kernel
theorem dX3_isFull_14 : decode cX3_isFull 14 = .ok (.ireturn, 1) := by decide +kernel
set_option maxRecDepth 20000 in
theorem ggX3_write_X3_isFull : GoodIn wsX3_write wsX3_isFull := goodIn_r _ [7, 2, 8, 9, 10, 11, 12] rfl (by decide +kernel)
set_option maxRecDepth 20000 in
theorem gX3_write_X3_isFull : GoodIn wsX3_write (wsV RX3 35 RX3 yX3_isFull wsX3_isFull) := goodIn_app (goodIn_of _ (by decide +kernel)) ggX3_write_X3_isFull
theorem dX3_write_0 : decode cX3_write 0 = .ok (.aload_n 0, 1) := by decide +kernel
theorem dX3_write_1 : decode cX3_write 1 = .ok (.invokevirtual 35, 3) := by decide +kernel
theorem dX3_write_4 : decode cX3_write 4 = .ok (.ifCond .ne 23, 3) := by decide +kernel
theorem dX3_write_7 : decode cX3_write 7 = .ok (.aload_n 0, 1) := by decide +kernel
theorem dX3_write_8 : decode cX3_write 8 = .ok (.getfield 9, 3) := by decide +kernel
theorem dX3_write_11 : decode cX3_write 11 = .ok (.aload_n 0, 1) := by decide +kernel
theorem dX3_write_12 : decode cX3_write 12 = .ok (.getfield 15, 3) := by decide +kernel
theorem dX3_write_15 : decode cX3_write 15 = .ok (.iload_n 1, 1) := by decide +kernel
theorem dX3_write_16 : decode cX3_write 16 = .ok (.castore, 1) := by decide +kernel
theorem dX3_write_17 : decode cX3_write 17 = .ok (.aload_n 0, 1) := by decide +kernel
theorem dX3_write_18 : decode cX3_write 18 = .ok (.dup, 1) := by decide +kernel
theorem dX3_write_19 : decode cX3_write 19 = .ok (.getfield 15, 3) := by decide +kernel
theorem dX3_write_22 : decode cX3_write 22 = .ok (.iconst 1, 1) := by decide +kernel
theorem dX3_write_23 : decode cX3_write 23 = .ok (.iadd, 1) := by decide +kernel
theorem dX3_write_24 : decode cX3_write 24 = .ok (.putfield 15, 3) := by decide +kernel
theorem dX3_write_27 : decode cX3_write 27 = .ok (.return_, 1) := by decide +kernel
theorem dX3_clear_0 : decode cX3_clear 0 = .ok (.aload_n 0, 1) := by decide +kernel
theorem dX3_clear_1 : decode cX3_clear 1 = .ok (.iconst 0, 1) := by decide +kernel
theorem dX3_clear_2 : decode cX3_clear 2 = .ok (.putfield 15, 3) := by decide +kernel
theorem dX3_clear_5 : decode cX3_clear 5 = .ok (.return_, 1) := by decide +kernel
theorem dX3_toStart_0 : decode cX3_toStart 0 = .ok (.aload_n 0, 1) := by decide +kernel
theorem dX3_toStart_1 : decode cX3_toStart 1 = .ok (.iconst 0, 1) := by decide +kernel
theorem dX3_toStart_2 : decode cX3_toStart 2 = .ok (.putfield 19, 3) := by decide +kernel
theorem dX3_toStart_5 : decode cX3_toStart 5 = .ok (.return_, 1) := by decide +kernel
theorem dX3_skipSign_0 : decode cX3_skipSign 0 = .ok (.aload_n 0, 1) := by decide +kernel
theorem dX3_skipSign_1 : decode cX3_skipSign 1 = .ok (.dup, 1) := by decide +kernel
theorem dX3_skipSign_2 : decode cX3_skipSign 2 = .ok (.getfield 19, 3) := by decide +kernel
theorem dX3_skipSign_5 : decode cX3_skipSign 5 = .ok (.iconst 1, 1) := by decide +kernel
theorem dX3_skipSign_6 : decode cX3_skipSign 6 = .ok (.iadd, 1) := by decide +kernel
theorem dX3_skipSign_7 : decode cX3_skipSign 7 = .ok (.putfield 19, 3) := by decide +kernel
theorem dX3_skipSign_10 : decode cX3_skipSign 10 = .ok (.return_, 1) := by decide +kernel
theorem dX3_number_0 : decode cX3_number 0 = .ok (.iload_n 1, 1) := by decide +kernel
theorem dX3_number_1 : decode cX3_number 1 = .ok (.ifCond .lt 17, 3) := by decide +kernel
theorem dX3_number_4 : decode cX3_number 4 = .ok (.iload_n 1, 1) := by decide +kernel
theorem dX3_number_5 : decode cX3_number 5 = .ok (.iconst 3, 1) := by decide +kernel
theorem dX3_number_6 : decode cX3_number 6 = .ok (.if_icmp .ge 12, 3) := by decide +kernel
theorem dX3_number_9 : decode cX3_number 9 = .ok (.aload_n 0, 1) := by decide +kernel
theorem dX3_number_10 : decode cX3_number 10 = .ok (.getfield 31, 3) := by decide +kernel
theorem dX3_number_13 : decode cX3_number 13 = .ok (.iload_n 1, 1) := by decide +kernel
theorem dX3_number_14 : decode cX3_number 14 = .ok (.iaload, 1) := by decide +kernel
theorem dX3_number_15 : decode cX3_number 15 = .ok (.goto 4, 3) := by decide +kernel
theorem dX3_number_18 : decode cX3_number 18 = .ok (.iconst 0, 1) := by decide +kernel
theorem dX3_number_19 : decode cX3_number 19 = .ok (.ireturn, 1) := by decide +kernel
set_option maxRecDepth 20000 in
theorem ggX3_findFault_X3_toStart : GoodIn wsX3_findFault wsX3_toStart := goodIn_r _ [7, 1, 82, 83, 84, 85, 86] rfl (by decide +kernel)
set_option maxRecDepth 20000 in
theorem gX3_findFault_X3_toStart : GoodIn wsX3_findFault (wsV RX3 39 RX3 yX3_toStart wsX3_toStart) := goodIn_app (goodIn_of _ (by decide +kernel)) ggX3_findFault_X3_toStart
set_option maxRecDepth 20000 in
theorem ggX3_findFault_X3_readCommand : GoodIn wsX3_findFault wsX3_readCommand := goodIn_ca (goodIn_r _ [11, 1, 2, 12, 13, 14, 15, 16, 17, 18, 19, 20, 21, 22, 23, 24, 25, 26, 27, 28, 29, 30, 31, 32, 33, 34, 35, 36, 37, 38, 39, 40, 41, 42, 43, 44, 45, 46, 47, 48, 49, 50, 51, 52, 53, 54, 55, 56, 57, 58, 59, 60, 61, 62, 63, 64, 65, 66, 67, 68, 69, 70, 71, 72, 73, 74, 75, 76, 6, 77, 82, 83, 84, 85, 86, 87, 88, 89, 90] rfl (by decide +kernel)) (goodIn_sub (fun _ h => List.mem_cons_of_mem _ (List.mem_append_right _ h)) (by decide +kernel))
set_option maxRecDepth 20000 in
theorem gX3_findFault_X3_readCommand : GoodIn wsX3_findFault (wsV RX3 42 RX3 yX3_readCommand wsX3_readCommand) := goodIn_app (goodIn_of _ (by decide +kernel)) ggX3_findFault_X3_readCommand
set_option maxRecDepth 20000 in
theorem ggX3_findFault_X3_skipSign : GoodIn wsX3_findFault wsX3_skipSign := goodIn_r _ [81, 1, 82, 83, 84, 85, 86] rfl (by decide +kernel)
set_option maxRecDepth 20000 in
theorem gX3_findFault_X3_skipSign : GoodIn wsX3_findFault (wsV RX3 45 RX3 yX3_skipSign wsX3_skipSign) := goodIn_app (goodIn_of _ (by decide +kernel)) ggX3_findFault_X3_skipSign
theorem dX3_findFault_0 : decode cX3_findFault 0 = .ok (.aload_n 0, 1) := by decide +kernel
theorem dX3_findFault_1 : decode cX3_findFault 1 = .ok (.invokevirtual 39, 3) := by decide +kernel
theorem dX3_findFault_4 : decode cX3_findFault 4 = .ok (.iconst 0, 1) := by decide +kernel
theorem dX3_findFault_5 : decode cX3_findFault 5 = .ok (.istore_n 1, 1) := by decide +kernel
theorem dX3_findFault_6 : decode cX3_findFault 6 = .ok (.iload_n 1, 1) := by decide +kernel
theorem dX3_findFault_7 : decode cX3_findFault 7 = .ok (.bipush 60, 2) := by decide +kernel
theorem dX3_findFault_9 : decode cX3_findFault 9 = .ok (.if_icmp .ge 38, 3) := by decide +kernel
theorem dX3_findFault_12 : decode cX3_findFault 12 = .ok (.aload_n 0, 1) := by decide +kernel
theorem dX3_findFault_13 : decode cX3_findFault 13 = .ok (.invokevirtual 42, 3) := by decide +kernel
theorem dX3_findFault_16 : decode cX3_findFault 16 = .ok (.ifCond .ne 8, 3) := by decide +kernel
theorem dX3_findFault_19 : decode cX3_findFault 19 = .ok (.aload_n 0, 1) := by decide +kernel
theorem dX3_findFault_20 : decode cX3_findFault 20 = .ok (.getfield 19, 3) := by decide +kernel
theorem dX3_findFault_23 : decode cX3_findFault 23 = .ok (.ireturn, 1) := by decide +kernel
theorem dX3_findFault_24 : decode cX3_findFault 24 = .ok (.aload_n 0, 1) := by decide +kernel
theorem dX3_findFault_25 : decode cX3_findFault 25 = .ok (.getfield 19, 3) := by decide +kernel
theorem dX3_findFault_28 : decode cX3_findFault 28 = .ok (.aload_n 0, 1) := by decide +kernel
theorem dX3_findFault_29 : decode cX3_findFault 29 = .ok (.getfield 15, 3) := by decide +kernel
theorem dX3_findFault_32 : decode cX3_findFault 32 = .ok (.if_icmp .lt 5, 3) := by decide +kernel
theorem dX3_findFault_35 : decode cX3_findFault 35 = .ok (.iconst (-1), 1) := by decide +kernel
theorem dX3_findFault_36 : decode cX3_findFault 36 = .ok (.ireturn, 1) := by decide +kernel
theorem dX3_findFault_37 : decode cX3_findFault 37 = .ok (.aload_n 0, 1) := by decide +kernel
theorem dX3_findFault_38 : decode cX3_findFault 38 = .ok (.invokevirtual 45, 3) := by decide +kernel
theorem dX3_findFault_41 : decode cX3_findFault 41 = .ok (.iinc 1 1, 3) := by decide +kernel
theorem dX3_findFault_44 : decode cX3_findFault 44 = .ok (.goto (-38), 3) := by decide +kernel
theorem dX3_findFault_47 : decode cX3_findFault 47 = .ok (.aload_n 0, 1) := by decide +kernel
theorem dX3_findFault_48 : decode cX3_findFault 48 = .ok (.getfield 19, 3) := by decide +kernel
theorem dX3_findFault_51 : decode cX3_findFault 51 = .ok (.ireturn, 1) := by decide +kernel
theorem dX3_countCommands_0 : decode cX3_countCommands 0 = .ok (.iconst 1, 1) := by decide +kernel
theorem dX3_countCommands_1 : decode cX3_countCommands 1 = .ok (.istore_n 1, 1) := by decide +kernel
theorem dX3_countCommands_2 : decode cX3_countCommands 2 = .ok (.iconst 0, 1) := by decide +kernel
theorem dX3_countCommands_3 : decode cX3_countCommands 3 = .ok (.istore_n 2, 1) := by decide +kernel
theorem dX3_countCommands_4 : decode cX3_countCommands 4 = .ok (.iload_n 2, 1) := by decide +kernel
theorem dX3_countCommands_5 : decode cX3_countCommands 5 = .ok (.aload_n 0, 1) := by decide +kernel
theorem dX3_countCommands_6 : decode cX3_countCommands 6 = .ok (.getfield 15, 3) := by decide +kernel
theorem dX3_countCommands_9 : decode cX3_countCommands 9 = .ok (.if_icmp .ge 23, 3) := by decide +kernel
theorem dX3_countCommands_12 : decode cX3_countCommands 12 = .ok (.aload_n 0, 1) := by decide +kernel
theorem dX3_countCommands_13 : decode cX3_countCommands 13 = .ok (.getfield 9, 3) := by decide +kernel
theorem dX3_countCommands_16 : decode cX3_countCommands 16 = .ok (.iload_n 2, 1) := by decide +kernel
theorem dX3_countCommands_17 : decode cX3_countCommands 17 = .ok (.caload, 1) := by decide +kernel
theorem dX3_countCommands_18 : decode cX3_countCommands 18 = .ok (.bipush 59, 2) := by decide +kernel
theorem dX3_countCommands_20 : decode cX3_countCommands 20 = .ok (.if_icmp .ne 6, 3) := by decide +kernel
theorem dX3_countCommands_23 : decode cX3_countCommands 23 = .ok (.iinc 1 1, 3) := by decide +kernel
theorem dX3_countCommands_26 : decode cX3_countCommands 26 = .ok (.iinc 2 1, 3) := by decide +kernel
theorem dX3_countCommands_29 : decode cX3_countCommands 29 = .ok (.goto (-25), 3) := by decide +kernel
theorem dX3_countCommands_32 : decode cX3_countCommands 32 = .ok (.iload_n 1, 1) := by decide +kernel
theorem dX3_countCommands_33 : decode cX3_countCommands 33 = .ok (.ireturn, 1) := by decide +kernel
set_option maxRecDepth 20000 in
theorem ggX3_readCommand_X2_beginningWith : GoodIn wsX3_readCommand wsX2_beginningWith := goodIn_r _ [9, 10, 11] rfl (by decide +kernel)
set_option maxRecDepth 20000 in
theorem gX3_readCommand_X2_beginningWith : GoodIn wsX3_readCommand (va_wsS RX3 48 yX2_beginningWith wsX2_beginningWith) := goodIn_app (goodIn_of _ (by decide +kernel)) ggX3_readCommand_X2_beginningWith
set_option maxRecDepth 20000 in
theorem ggX3_readCommand_J7_fill_53178 : GoodIn wsX3_readCommand wsJ7_fill_53178 := goodIn_r _ [15] rfl (by decide +kernel)
set_option maxRecDepth 20000 in
theorem gX3_readCommand_J7_fill_53178 : GoodIn wsX3_readCommand (va_wsS RX3 52 yJ7_fill_53178 wsJ7_fill_53178) := goodIn_app (goodIn_of _ (by decide +kernel)) ggX3_readCommand_J7_fill_53178
set_option maxRecDepth 20000 in
theorem ggX3_readCommand_J0_length_8abf5 : GoodIn wsX3_readCommand wsJ0_length_8abf5 := goodIn_r _ [20, 21, 22, 23, 24, 19, 25, 26, 27, 75, 76, 77, 78] rfl (by decide +kernel)
set_option maxRecDepth 20000 in
theorem gX3_readCommand_J0_length_8abf5 : GoodIn wsX3_readCommand (wsV RX3 62 RJ0 yJ0_length_8abf5 wsJ0_length_8abf5) := goodIn_app (goodIn_of _ (by decide +kernel)) ggX3_readCommand_J0_length_8abf5
set_option maxRecDepth 20000 in
theorem ggX3_readCommand_J0_charAt_5068e : GoodIn wsX3_readCommand wsJ0_charAt_5068e := goodIn_r _ [31, 21, 32, 33, 34, 19, 35, 26, 27, 36, 37, 38, 39, 40, 41, 42, 43, 44, 45, 46, 47, 48, 49, 50, 51, 52, 53, 54, 55, 56, 57, 58, 59, 60, 61, 62, 63, 64, 75, 76, 77, 78] rfl (by decide +kernel)
set_option maxRecDepth 20000 in
theorem gX3_readCommand_J0_charAt_5068e : GoodIn wsX3_readCommand (wsV RX3 67 RJ0 yJ0_charAt_5068e wsJ0_charAt_5068e) := goodIn_app (goodIn_of _ (by decide +kernel)) ggX3_readCommand_J0_charAt_5068e
set_option maxRecDepth 20000 in
theorem ggX3_readCommand_X3_readPart : GoodIn wsX3_readCommand wsX3_readPart := goodIn_ca (goodIn_r _ [69, 1, 2, 3, 5, 70, 71, 72, 73, 74] rfl (by decide +kernel)) (goodIn_sub (fun _ h => List.mem_cons_of_mem _ (List.mem_append_right _ h)) (by decide +kernel))
set_option maxRecDepth 20000 in
theorem gX3_readCommand_X3_readPart : GoodIn wsX3_readCommand (wsV RX3 71 RX3 yX3_readPart wsX3_readPart) := goodIn_app (goodIn_of _ (by decide +kernel)) ggX3_readCommand_X3_readPart
theorem dX3_readCommand_0 : decode cX3_readCommand 0 = .ok (.aload_n 0, 1) := by decide +kernel
theorem dX3_readCommand_1 : decode cX3_readCommand 1 = .ok (.getfield 19, 3) := by decide +kernel
theorem dX3_readCommand_4 : decode cX3_readCommand 4 = .ok (.ifCond .lt 29, 3) := by decide +kernel
theorem dX3_readCommand_7 : decode cX3_readCommand 7 = .ok (.aload_n 0, 1) := by decide +kernel
theorem dX3_readCommand_8 : decode cX3_readCommand 8 = .ok (.getfield 19, 3) := by decide +kernel
theorem dX3_readCommand_11 : decode cX3_readCommand 11 = .ok (.aload_n 0, 1) := by decide +kernel
theorem dX3_readCommand_12 : decode cX3_readCommand 12 = .ok (.getfield 15, 3) := by decide +kernel
theorem dX3_readCommand_15 : decode cX3_readCommand 15 = .ok (.if_icmp .ge 18, 3) := by decide +kernel
theorem dX3_readCommand_18 : decode cX3_readCommand 18 = .ok (.aload_n 0, 1) := by decide +kernel
theorem dX3_readCommand_19 : decode cX3_readCommand 19 = .ok (.getfield 9, 3) := by decide +kernel
theorem dX3_readCommand_22 : decode cX3_readCommand 22 = .ok (.aload_n 0, 1) := by decide +kernel
theorem dX3_readCommand_23 : decode cX3_readCommand 23 = .ok (.getfield 19, 3) := by decide +kernel
theorem dX3_readCommand_26 : decode cX3_readCommand 26 = .ok (.caload, 1) := by decide +kernel
theorem dX3_readCommand_27 : decode cX3_readCommand 27 = .ok (.invokestatic 48, 3) := by decide +kernel
theorem dX3_readCommand_30 : decode cX3_readCommand 30 = .ok (.goto 4, 3) := by decide +kernel
theorem dX3_readCommand_33 : decode cX3_readCommand 33 = .ok (.aconst_null, 1) := by decide +kernel
theorem dX3_readCommand_34 : decode cX3_readCommand 34 = .ok (.astore_n 1, 1) := by decide +kernel
theorem dX3_readCommand_35 : decode cX3_readCommand 35 = .ok (.aload_n 1, 1) := by decide +kernel
theorem dX3_readCommand_36 : decode cX3_readCommand 36 = .ok (.ifnonnull 5, 3) := by decide +kernel
theorem dX3_readCommand_39 : decode cX3_readCommand 39 = .ok (.iconst 0, 1) := by decide +kernel
theorem dX3_readCommand_40 : decode cX3_readCommand 40 = .ok (.ireturn, 1) := by decide +kernel
theorem dX3_readCommand_41 : decode cX3_readCommand 41 = .ok (.aload_n 0, 1) := by decide +kernel
theorem dX3_readCommand_42 : decode cX3_readCommand 42 = .ok (.aload_n 1, 1) := by decide +kernel
theorem dX3_readCommand_43 : decode cX3_readCommand 43 = .ok (.putfield 28, 3) := by decide +kernel
theorem dX3_readCommand_46 : decode cX3_readCommand 46 = .ok (.aload_n 0, 1) := by decide +kernel
theorem dX3_readCommand_47 : decode cX3_readCommand 47 = .ok (.dup, 1) := by decide +kernel
theorem dX3_readCommand_48 : decode cX3_readCommand 48 = .ok (.getfield 19, 3) := by decide +kernel
theorem dX3_readCommand_51 : decode cX3_readCommand 51 = .ok (.iconst 1, 1) := by decide +kernel
theorem dX3_readCommand_52 : decode cX3_readCommand 52 = .ok (.iadd, 1) := by decide +kernel
theorem dX3_readCommand_53 : decode cX3_readCommand 53 = .ok (.putfield 19, 3) := by decide +kernel
theorem dX3_readCommand_56 : decode cX3_readCommand 56 = .ok (.aload_n 0, 1) := by decide +kernel
theorem dX3_readCommand_57 : decode cX3_readCommand 57 = .ok (.getfield 31, 3) := by decide +kernel
theorem dX3_readCommand_60 : decode cX3_readCommand 60 = .ok (.iconst 0, 1) := by decide +kernel
theorem dX3_readCommand_61 : decode cX3_readCommand 61 = .ok (.invokestatic 52, 3) := by decide +kernel
theorem dX3_readCommand_64 : decode cX3_readCommand 64 = .ok (.aload_n 0, 1) := by decide +kernel
theorem dX3_readCommand_65 : decode cX3_readCommand 65 = .ok (.getfield 28, 3) := by decide +kernel
theorem dX3_readCommand_68 : decode cX3_readCommand 68 = .ok (.getfield 58, 3) := by decide +kernel
theorem dX3_readCommand_71 : decode cX3_readCommand 71 = .ok (.astore_n 2, 1) := by decide +kernel
theorem dX3_readCommand_72 : decode cX3_readCommand 72 = .ok (.iconst 0, 1) := by decide +kernel
theorem dX3_readCommand_73 : decode cX3_readCommand 73 = .ok (.istore_n 3, 1) := by decide +kernel
theorem dX3_readCommand_74 : decode cX3_readCommand 74 = .ok (.iload_n 3, 1) := by decide +kernel
theorem dX3_readCommand_75 : decode cX3_readCommand 75 = .ok (.aload_n 2, 1) := by decide +kernel
theorem dX3_readCommand_76 : decode cX3_readCommand 76 = .ok (.invokevirtual 62, 3) := by decide +kernel
theorem dX3_readCommand_79 : decode cX3_readCommand 79 = .ok (.if_icmp .ge 23, 3) := by decide +kernel
theorem dX3_readCommand_82 : decode cX3_readCommand 82 = .ok (.aload_n 0, 1) := by decide +kernel
theorem dX3_readCommand_83 : decode cX3_readCommand 83 = .ok (.aload_n 2, 1) := by decide +kernel
theorem dX3_readCommand_84 : decode cX3_readCommand 84 = .ok (.iload_n 3, 1) := by decide +kernel
theorem dX3_readCommand_85 : decode cX3_readCommand 85 = .ok (.invokevirtual 67, 3) := by decide +kernel
theorem dX3_readCommand_88 : decode cX3_readCommand 88 = .ok (.invokevirtual 71, 3) := by decide +kernel
theorem dX3_readCommand_91 : decode cX3_readCommand 91 = .ok (.ifCond .ne 5, 3) := by decide +kernel
theorem dX3_readCommand_94 : decode cX3_readCommand 94 = .ok (.iconst 0, 1) := by decide +kernel
theorem dX3_readCommand_95 : decode cX3_readCommand 95 = .ok (.ireturn, 1) := by decide +kernel
theorem dX3_readCommand_96 : decode cX3_readCommand 96 = .ok (.iinc 3 1, 3) := by decide +kernel
theorem dX3_readCommand_99 : decode cX3_readCommand 99 = .ok (.goto (-25), 3) := by decide +kernel
theorem dX3_readCommand_102 : decode cX3_readCommand 102 = .ok (.aload_n 0, 1) := by decide +kernel
theorem dX3_readCommand_103 : decode cX3_readCommand 103 = .ok (.getfield 19, 3) := by decide +kernel
theorem dX3_readCommand_106 : decode cX3_readCommand 106 = .ok (.aload_n 0, 1) := by decide +kernel
theorem dX3_readCommand_107 : decode cX3_readCommand 107 = .ok (.getfield 15, 3) := by decide +kernel
theorem dX3_readCommand_110 : decode cX3_readCommand 110 = .ok (.if_icmp .ge 17, 3) := by decide +kernel
theorem dX3_readCommand_113 : decode cX3_readCommand 113 = .ok (.aload_n 0, 1) := by decide +kernel
theorem dX3_readCommand_114 : decode cX3_readCommand 114 = .ok (.getfield 9, 3) := by decide +kernel
theorem dX3_readCommand_117 : decode cX3_readCommand 117 = .ok (.aload_n 0, 1) := by decide +kernel
theorem dX3_readCommand_118 : decode cX3_readCommand 118 = .ok (.getfield 19, 3) := by decide +kernel
theorem dX3_readCommand_121 : decode cX3_readCommand 121 = .ok (.caload, 1) := by decide +kernel
theorem dX3_readCommand_122 : decode cX3_readCommand 122 = .ok (.bipush 59, 2) := by decide +kernel
theorem dX3_readCommand_124 : decode cX3_readCommand 124 = .ok (.if_icmp .ne 7, 3) := by decide +kernel
theorem dX3_readCommand_127 : decode cX3_readCommand 127 = .ok (.iconst 1, 1) := by decide +kernel
theorem dX3_readCommand_128 : decode cX3_readCommand 128 = .ok (.goto 4, 3) := by decide +kernel
theorem dX3_readCommand_131 : decode cX3_readCommand 131 = .ok (.iconst 0, 1) := by decide +kernel
theorem dX3_readCommand_132 : decode cX3_readCommand 132 = .ok (.ireturn, 1) := by decide +kernel
theorem dX3_readPart_0 : decode cX3_readPart 0 = .ok (.aload_n 0, 1) := by decide +kernel
theorem dX3_readPart_1 : decode cX3_readPart 1 = .ok (.getfield 19, 3) := by decide +kernel
theorem dX3_readPart_4 : decode cX3_readPart 4 = .ok (.ifCond .lt 26, 3) := by decide +kernel
theorem dX3_readPart_7 : decode cX3_readPart 7 = .ok (.aload_n 0, 1) := by decide +kernel
theorem dX3_readPart_8 : decode cX3_readPart 8 = .ok (.getfield 19, 3) := by decide +kernel
theorem dX3_readPart_11 : decode cX3_readPart 11 = .ok (.aload_n 0, 1) := by decide +kernel
theorem dX3_readPart_12 : decode cX3_readPart 12 = .ok (.getfield 15, 3) := by decide +kernel
theorem dX3_readPart_15 : decode cX3_readPart 15 = .ok (.if_icmp .ge 15, 3) := by decide +kernel
theorem dX3_readPart_18 : decode cX3_readPart 18 = .ok (.aload_n 0, 1) := by decide +kernel
theorem dX3_readPart_19 : decode cX3_readPart 19 = .ok (.getfield 9, 3) := by decide +kernel
theorem dX3_readPart_22 : decode cX3_readPart 22 = .ok (.aload_n 0, 1) := by decide +kernel
theorem dX3_readPart_23 : decode cX3_readPart 23 = .ok (.getfield 19, 3) := by decide +kernel
theorem dX3_readPart_26 : decode cX3_readPart 26 = .ok (.caload, 1) := by decide +kernel
theorem dX3_readPart_27 : decode cX3_readPart 27 = .ok (.goto 5, 3) := by decide +kernel
theorem dX3_readPart_30 : decode cX3_readPart 30 = .ok (.bipush 32, 2) := by decide +kernel
theorem dX3_readPart_32 : decode cX3_readPart 32 = .ok (.istore_n 2, 1) := by decide +kernel
theorem dX3_readPart_33 : decode cX3_readPart 33 = .ok (.iload_n 2, 1) := by decide +kernel
theorem dX3_readPart_34 : decode cX3_readPart 34 = .ok (.bipush 48, 2) := by decide +kernel
theorem dX3_readPart_36 : decode cX3_readPart 36 = .ok (.if_icmp .lt 13, 3) := by decide +kernel
theorem dX3_readPart_39 : decode cX3_readPart 39 = .ok (.iload_n 2, 1) := by decide +kernel
theorem dX3_readPart_40 : decode cX3_readPart 40 = .ok (.bipush 57, 2) := by decide +kernel
theorem dX3_readPart_42 : decode cX3_readPart 42 = .ok (.if_icmp .gt 7, 3) := by decide +kernel
theorem dX3_readPart_45 : decode cX3_readPart 45 = .ok (.iconst 1, 1) := by decide +kernel
theorem dX3_readPart_46 : decode cX3_readPart 46 = .ok (.goto 4, 3) := by decide +kernel
theorem dX3_readPart_49 : decode cX3_readPart 49 = .ok (.iconst 0, 1) := by decide +kernel
theorem dX3_readPart_50 : decode cX3_readPart 50 = .ok (.istore_n 3, 1) := by decide +kernel
theorem dX3_readPart_51 : decode cX3_readPart 51 = .ok (.iload_n 1, 1) := by decide +kernel
theorem dX3_readPart_52 : decode cX3_readPart 52 = .ok (.bipush 61, 2) := by decide +kernel
theorem dX3_readPart_54 : decode cX3_readPart 54 = .ok (.if_icmp .ne 35, 3) := by decide +kernel
theorem dX3_readPart_57 : decode cX3_readPart 57 = .ok (.aload_n 0, 1) := by decide +kernel
theorem dX3_readPart_58 : decode cX3_readPart 58 = .ok (.dup, 1) := by decide +kernel
theorem dX3_readPart_59 : decode cX3_readPart 59 = .ok (.getfield 19, 3) := by decide +kernel
theorem dX3_readPart_62 : decode cX3_readPart 62 = .ok (.iload_n 2, 1) := by decide +kernel
theorem dX3_readPart_63 : decode cX3_readPart 63 = .ok (.bipush 61, 2) := by decide +kernel
theorem dX3_readPart_65 : decode cX3_readPart 65 = .ok (.if_icmp .ne 7, 3) := by decide +kernel
theorem dX3_readPart_68 : decode cX3_readPart 68 = .ok (.iconst 1, 1) := by decide +kernel
theorem dX3_readPart_69 : decode cX3_readPart 69 = .ok (.goto 4, 3) := by decide +kernel
theorem dX3_readPart_72 : decode cX3_readPart 72 = .ok (.iconst 0, 1) := by decide +kernel
theorem dX3_readPart_73 : decode cX3_readPart 73 = .ok (.iadd, 1) := by decide +kernel
theorem dX3_readPart_74 : decode cX3_readPart 74 = .ok (.putfield 19, 3) := by decide +kernel
theorem dX3_readPart_77 : decode cX3_readPart 77 = .ok (.iload_n 2, 1) := by decide +kernel
theorem dX3_readPart_78 : decode cX3_readPart 78 = .ok (.bipush 61, 2) := by decide +kernel
theorem dX3_readPart_80 : decode cX3_readPart 80 = .ok (.if_icmp .ne 7, 3) := by decide +kernel
theorem dX3_readPart_83 : decode cX3_readPart 83 = .ok (.iconst 1, 1) := by decide +kernel
theorem dX3_readPart_84 : decode cX3_readPart 84 = .ok (.goto 4, 3) := by decide +kernel
theorem dX3_readPart_87 : decode cX3_readPart 87 = .ok (.iconst 0, 1) := by decide +kernel
theorem dX3_readPart_88 : decode cX3_readPart 88 = .ok (.ireturn, 1) := by decide +kernel
theorem dX3_readPart_89 : decode cX3_readPart 89 = .ok (.iload_n 3, 1) := by decide +kernel
theorem dX3_readPart_90 : decode cX3_readPart 90 = .ok (.ifCond .ne 15, 3) := by decide +kernel
theorem dX3_readPart_93 : decode cX3_readPart 93 = .ok (.iload_n 1, 1) := by decide +kernel
theorem dX3_readPart_94 : decode cX3_readPart 94 = .ok (.bipush 63, 2) := by decide +kernel
theorem dX3_readPart_96 : decode cX3_readPart 96 = .ok (.if_icmp .ne 7, 3) := by decide +kernel
theorem dX3_readPart_99 : decode cX3_readPart 99 = .ok (.iconst 1, 1) := by decide +kernel
theorem dX3_readPart_100 : decode cX3_readPart 100 = .ok (.goto 4, 3) := by decide +kernel
theorem dX3_readPart_103 : decode cX3_readPart 103 = .ok (.iconst 0, 1) := by decide +kernel
theorem dX3_readPart_104 : decode cX3_readPart 104 = .ok (.ireturn, 1) := by decide +kernel
theorem dX3_readPart_105 : decode cX3_readPart 105 = .ok (.iload_n 1, 1) := by decide +kernel
theorem dX3_readPart_106 : decode cX3_readPart 106 = .ok (.bipush 63, 2) := by decide +kernel
theorem dX3_readPart_108 : decode cX3_readPart 108 = .ok (.if_icmp .ne 7, 3) := by decide +kernel
theorem dX3_readPart_111 : decode cX3_readPart 111 = .ok (.iconst 0, 1) := by decide +kernel
theorem dX3_readPart_112 : decode cX3_readPart 112 = .ok (.goto 7, 3) := by decide +kernel
theorem dX3_readPart_115 : decode cX3_readPart 115 = .ok (.iload_n 1, 1) := by decide +kernel
theorem dX3_readPart_116 : decode cX3_readPart 116 = .ok (.bipush 48, 2) := by decide +kernel
theorem dX3_readPart_118 : decode cX3_readPart 118 = .ok (.isub, 1) := by decide +kernel
theorem dX3_readPart_119 : decode cX3_readPart 119 = .ok (.istore 4, 2) := by decide +kernel
theorem dX3_readPart_121 : decode cX3_readPart 121 = .ok (.iload 4, 2) := by decide +kernel
theorem dX3_readPart_123 : decode cX3_readPart 123 = .ok (.ifCond .lt 31, 3) := by decide +kernel
theorem dX3_readPart_126 : decode cX3_readPart 126 = .ok (.iload 4, 2) := by decide +kernel
theorem dX3_readPart_128 : decode cX3_readPart 128 = .ok (.iconst 3, 1) := by decide +kernel
theorem dX3_readPart_129 : decode cX3_readPart 129 = .ok (.if_icmp .ge 25, 3) := by decide +kernel
theorem dX3_readPart_132 : decode cX3_readPart 132 = .ok (.aload_n 0, 1) := by decide +kernel
theorem dX3_readPart_133 : decode cX3_readPart 133 = .ok (.getfield 31, 3) := by decide +kernel
theorem dX3_readPart_136 : decode cX3_readPart 136 = .ok (.iload 4, 2) := by decide +kernel
theorem dX3_readPart_138 : decode cX3_readPart 138 = .ok (.aload_n 0, 1) := by decide +kernel
theorem dX3_readPart_139 : decode cX3_readPart 139 = .ok (.getfield 31, 3) := by decide +kernel
theorem dX3_readPart_142 : decode cX3_readPart 142 = .ok (.iload 4, 2) := by decide +kernel
theorem dX3_readPart_144 : decode cX3_readPart 144 = .ok (.iaload, 1) := by decide +kernel
theorem dX3_readPart_145 : decode cX3_readPart 145 = .ok (.bipush 10, 2) := by decide +kernel
theorem dX3_readPart_147 : decode cX3_readPart 147 = .ok (.imul, 1) := by decide +kernel
theorem dX3_readPart_148 : decode cX3_readPart 148 = .ok (.iload_n 2, 1) := by decide +kernel
theorem dX3_readPart_149 : decode cX3_readPart 149 = .ok (.iadd, 1) := by decide +kernel
theorem dX3_readPart_150 : decode cX3_readPart 150 = .ok (.bipush 48, 2) := by decide +kernel
theorem dX3_readPart_152 : decode cX3_readPart 152 = .ok (.isub, 1) := by decide +kernel
theorem dX3_readPart_153 : decode cX3_readPart 153 = .ok (.iastore, 1) := by decide +kernel
theorem dX3_readPart_154 : decode cX3_readPart 154 = .ok (.aload_n 0, 1) := by decide +kernel
theorem dX3_readPart_155 : decode cX3_readPart 155 = .ok (.dup, 1) := by decide +kernel
theorem dX3_readPart_156 : decode cX3_readPart 156 = .ok (.getfield 19, 3) := by decide +kernel
theorem dX3_readPart_159 : decode cX3_readPart 159 = .ok (.iconst 1, 1) := by decide +kernel
theorem dX3_readPart_160 : decode cX3_readPart 160 = .ok (.iadd, 1) := by decide +kernel
theorem dX3_readPart_161 : decode cX3_readPart 161 = .ok (.putfield 19, 3) := by decide +kernel
theorem dX3_readPart_164 : decode cX3_readPart 164 = .ok (.iconst 1, 1) := by decide +kernel
theorem dX3_readPart_165 : decode cX3_readPart 165 = .ok (.ireturn, 1) := by decide +kernel
theorem dX5_init_0 : decode cX5_init 0 = .ok (.aload_n 0, 1) := by decide +kernel
theorem dX5_init_1 : decode cX5_init 1 = .ok (.invokespecial 3, 3) := by decide +kernel
theorem dX5_init_4 : decode cX5_init 4 = .ok (.aload_n 0, 1) := by decide +kernel
theorem dX5_init_5 : decode cX5_init 5 = .ok (.bipush 64, 2) := by decide +kernel
theorem dX5_init_7 : decode cX5_init 7 = .ok (.newarray .int, 2) := by decide +kernel
theorem dX5_init_9 : decode cX5_init 9 = .ok (.putfield 11, 3) := by decide +kernel
theorem dX5_init_12 : decode cX5_init 12 = .ok (.aload_n 0, 1) := by decide +kernel
theorem dX5_init_13 : decode cX5_init 13 = .ok (.iconst 0, 1) := by decide +kernel
theorem dX5_init_14 : decode cX5_init 14 = .ok (.putfield 15, 3) := by decide +kernel
theorem dX5_init_17 : decode cX5_init 17 = .ok (.aload_n 0, 1) := by decide +kernel
theorem dX5_init_18 : decode cX5_init 18 = .ok (.iconst 0, 1) := by decide +kernel
theorem dX5_init_19 : decode cX5_init 19 = .ok (.putfield 19, 3) := by decide +kernel
theorem dX5_init_22 : decode cX5_init 22 = .ok (.return_, 1) := by decide +kernel
theorem dX5_has_0 : decode cX5_has 0 = .ok (.iload_n 1, 1) := by decide +kernel
theorem dX5_has_1 : decode cX5_has 1 = .ok (.ifCond .lt 15, 3) := by decide +kernel
theorem dX5_has_4 : decode cX5_has 4 = .ok (.iload_n 1, 1) := by decide +kernel
theorem dX5_has_5 : decode cX5_has 5 = .ok (.aload_n 0, 1) := by decide +kernel
theorem dX5_has_6 : decode cX5_has 6 = .ok (.getfield 15, 3) := by decide +kernel
theorem dX5_has_9 : decode cX5_has 9 = .ok (.if_icmp .ge 7, 3) := by decide +kernel
theorem dX5_has_12 : decode cX5_has 12 = .ok (.iconst 1, 1) := by decide +kernel
theorem dX5_has_13 : decode cX5_has 13 = .ok (.goto 4, 3) := by decide +kernel
theorem dX5_has_16 : decode cX5_has 16 = .ok (.iconst 0, 1) := by decide +kernel
theorem dX5_has_17 : decode cX5_has 17 = .ok (.ireturn, 1) := by decide +kernel
set_option maxRecDepth 20000 in
theorem ggX5_pageOf_X5_has : GoodIn wsX5_pageOf wsX5_has := goodIn_r _ [6, 7, 8, 9, 10] rfl (by decide +kernel)
set_option maxRecDepth 20000 in
theorem gX5_pageOf_X5_has : GoodIn wsX5_pageOf (wsV RX5 22 RX5 yX5_has wsX5_has) := goodIn_app (goodIn_of _ (by decide +kernel)) ggX5_pageOf_X5_has
theorem dX5_pageOf_0 : decode cX5_pageOf 0 = .ok (.aload_n 0, 1) := by decide +kernel
theorem dX5_pageOf_1 : decode cX5_pageOf 1 = .ok (.iload_n 1, 1) := by decide +kernel
theorem dX5_pageOf_2 : decode cX5_pageOf 2 = .ok (.invokevirtual 22, 3) := by decide +kernel
theorem dX5_pageOf_5 : decode cX5_pageOf 5 = .ok (.ifCond .eq 15, 3) := by decide +kernel
theorem dX5_pageOf_8 : decode cX5_pageOf 8 = .ok (.aload_n 0, 1) := by decide +kernel
theorem dX5_pageOf_9 : decode cX5_pageOf 9 = .ok (.getfield 11, 3) := by decide +kernel
theorem dX5_pageOf_12 : decode cX5_pageOf 12 = .ok (.iload_n 1, 1) := by decide +kernel
theorem dX5_pageOf_13 : decode cX5_pageOf 13 = .ok (.iaload, 1) := by decide +kernel
theorem dX5_pageOf_14 : decode cX5_pageOf 14 = .ok (.bipush 36, 2) := by decide +kernel
theorem dX5_pageOf_16 : decode cX5_pageOf 16 = .ok (.idiv, 1) := by decide +kernel
theorem dX5_pageOf_17 : decode cX5_pageOf 17 = .ok (.goto 4, 3) := by decide +kernel
theorem dX5_pageOf_20 : decode cX5_pageOf 20 = .ok (.iconst 0, 1) := by decide +kernel
theorem dX5_pageOf_21 : decode cX5_pageOf 21 = .ok (.ireturn, 1) := by decide +kernel
set_option maxRecDepth 20000 in
theorem ggX5_senderOf_X5_has : GoodIn wsX5_senderOf wsX5_has := goodIn_r _ [6, 7, 12, 13, 14] rfl (by decide +kernel)
set_option maxRecDepth 20000 in
theorem gX5_senderOf_X5_has : GoodIn wsX5_senderOf (wsV RX5 22 RX5 yX5_has wsX5_has) := goodIn_app (goodIn_of _ (by decide +kernel)) ggX5_senderOf_X5_has
set_option maxRecDepth 20000 in
theorem ggX5_senderOf_J9_floorMod_7cf53 : GoodIn wsX5_senderOf wsJ9_floorMod_7cf53 := goodIn_r _ [11] rfl (by decide +kernel)
set_option maxRecDepth 20000 in
theorem gX5_senderOf_J9_floorMod_7cf53 : GoodIn wsX5_senderOf (va_wsS RX5 28 yJ9_floorMod_7cf53 wsJ9_floorMod_7cf53) := goodIn_app (goodIn_of _ (by decide +kernel)) ggX5_senderOf_J9_floorMod_7cf53
theorem dX5_senderOf_0 : decode cX5_senderOf 0 = .ok (.aload_n 0, 1) := by decide +kernel
theorem dX5_senderOf_1 : decode cX5_senderOf 1 = .ok (.iload_n 1, 1) := by decide +kernel
theorem dX5_senderOf_2 : decode cX5_senderOf 2 = .ok (.invokevirtual 22, 3) := by decide +kernel
theorem dX5_senderOf_5 : decode cX5_senderOf 5 = .ok (.ifCond .eq 20, 3) := by decide +kernel
theorem dX5_senderOf_8 : decode cX5_senderOf 8 = .ok (.aload_n 0, 1) := by decide +kernel
theorem dX5_senderOf_9 : decode cX5_senderOf 9 = .ok (.getfield 11, 3) := by decide +kernel
theorem dX5_senderOf_12 : decode cX5_senderOf 12 = .ok (.iload_n 1, 1) := by decide +kernel
theorem dX5_senderOf_13 : decode cX5_senderOf 13 = .ok (.iaload, 1) := by decide +kernel
theorem dX5_senderOf_14 : decode cX5_senderOf 14 = .ok (.bipush 36, 2) := by decide +kernel
theorem dX5_senderOf_16 : decode cX5_senderOf 16 = .ok (.invokestatic 28, 3) := by decide +kernel
theorem dX5_senderOf_19 : decode cX5_senderOf 19 = .ok (.bipush 6, 2) := by decide +kernel
theorem dX5_senderOf_21 : decode cX5_senderOf 21 = .ok (.idiv, 1) := by decide +kernel
theorem dX5_senderOf_22 : decode cX5_senderOf 22 = .ok (.goto 4, 3) := by decide +kernel
theorem dX5_senderOf_25 : decode cX5_senderOf 25 = .ok (.iconst 0, 1) := by decide +kernel
theorem dX5_senderOf_26 : decode cX5_senderOf 26 = .ok (.ireturn, 1) := by decide +kernel
set_option maxRecDepth 20000 in
theorem ggX5_receiverOf_X5_has : GoodIn wsX5_receiverOf wsX5_has := goodIn_r _ [6, 7, 12, 13, 14] rfl (by decide +kernel)
set_option maxRecDepth 20000 in
theorem gX5_receiverOf_X5_has : GoodIn wsX5_receiverOf (wsV RX5 22 RX5 yX5_has wsX5_has) := goodIn_app (goodIn_of _ (by decide +kernel)) ggX5_receiverOf_X5_has
set_option maxRecDepth 20000 in
theorem ggX5_receiverOf_J9_floorMod_7cf53 : GoodIn wsX5_receiverOf wsJ9_floorMod_7cf53 := goodIn_r _ [11] rfl (by decide +kernel)
set_option maxRecDepth 20000 in
theorem gX5_receiverOf_J9_floorMod_7cf53 : GoodIn wsX5_receiverOf (va_wsS RX5 28 yJ9_floorMod_7cf53 wsJ9_floorMod_7cf53) := goodIn_app (goodIn_of _ (by decide +kernel)) ggX5_receiverOf_J9_floorMod_7cf53
theorem dX5_receiverOf_0 : decode cX5_receiverOf 0 = .ok (.aload_n 0, 1) := by decide +kernel
theorem dX5_receiverOf_1 : decode cX5_receiverOf 1 = .ok (.iload_n 1, 1) := by decide +kernel
theorem dX5_receiverOf_2 : decode cX5_receiverOf 2 = .ok (.invokevirtual 22, 3) := by decide +kernel
theorem dX5_receiverOf_5 : decode cX5_receiverOf 5 = .ok (.ifCond .eq 17, 3) := by decide +kernel
theorem dX5_receiverOf_8 : decode cX5_receiverOf 8 = .ok (.aload_n 0, 1) := by decide +kernel
theorem dX5_receiverOf_9 : decode cX5_receiverOf 9 = .ok (.getfield 11, 3) := by decide +kernel
theorem dX5_receiverOf_12 : decode cX5_receiverOf 12 = .ok (.iload_n 1, 1) := by decide +kernel
theorem dX5_receiverOf_13 : decode cX5_receiverOf 13 = .ok (.iaload, 1) := by decide +kernel
theorem dX5_receiverOf_14 : decode cX5_receiverOf 14 = .ok (.bipush 6, 2) := by decide +kernel
theorem dX5_receiverOf_16 : decode cX5_receiverOf 16 = .ok (.invokestatic 28, 3) := by decide +kernel
theorem dX5_receiverOf_19 : decode cX5_receiverOf 19 = .ok (.goto 4, 3) := by decide +kernel
theorem dX5_receiverOf_22 : decode cX5_receiverOf 22 = .ok (.iconst 0, 1) := by decide +kernel
theorem dX5_receiverOf_23 : decode cX5_receiverOf 23 = .ok (.ireturn, 1) := by decide +kernel
set_option maxRecDepth 20000 in
theorem ggX5_countTo_X5_receiverOf : GoodIn wsX5_countTo wsX5_receiverOf := goodIn_ca (goodIn_r _ [6, 7, 8, 9, 10, 5, 11, 1, 12, 13, 14, 15, 16, 17, 18] rfl (by decide +kernel)) (goodIn_sub (fun _ h => List.mem_cons_of_mem _ (List.mem_append_right _ h)) (by decide +kernel))
set_option maxRecDepth 20000 in
theorem gX5_countTo_X5_receiverOf : GoodIn wsX5_countTo (wsV RX5 34 RX5 yX5_receiverOf wsX5_receiverOf) := goodIn_app (goodIn_of _ (by decide +kernel)) ggX5_countTo_X5_receiverOf
theorem dX5_countTo_0 : decode cX5_countTo 0 = .ok (.iconst 0, 1) := by decide +kernel
theorem dX5_countTo_1 : decode cX5_countTo 1 = .ok (.istore_n 2, 1) := by decide +kernel
theorem dX5_countTo_2 : decode cX5_countTo 2 = .ok (.iconst 0, 1) := by decide +kernel
theorem dX5_countTo_3 : decode cX5_countTo 3 = .ok (.istore_n 3, 1) := by decide +kernel
theorem dX5_countTo_4 : decode cX5_countTo 4 = .ok (.iload_n 3, 1) := by decide +kernel
theorem dX5_countTo_5 : decode cX5_countTo 5 = .ok (.aload_n 0, 1) := by decide +kernel
theorem dX5_countTo_6 : decode cX5_countTo 6 = .ok (.getfield 15, 3) := by decide +kernel
theorem dX5_countTo_9 : decode cX5_countTo 9 = .ok (.if_icmp .ge 21, 3) := by decide +kernel
theorem dX5_countTo_12 : decode cX5_countTo 12 = .ok (.aload_n 0, 1) := by decide +kernel
theorem dX5_countTo_13 : decode cX5_countTo 13 = .ok (.iload_n 3, 1) := by decide +kernel
theorem dX5_countTo_14 : decode cX5_countTo 14 = .ok (.invokevirtual 34, 3) := by decide +kernel
theorem dX5_countTo_17 : decode cX5_countTo 17 = .ok (.iload_n 1, 1) := by decide +kernel
theorem dX5_countTo_18 : decode cX5_countTo 18 = .ok (.if_icmp .ne 6, 3) := by decide +kernel
theorem dX5_countTo_21 : decode cX5_countTo 21 = .ok (.iinc 2 1, 3) := by decide +kernel
theorem dX5_countTo_24 : decode cX5_countTo 24 = .ok (.iinc 3 1, 3) := by decide +kernel
theorem dX5_countTo_27 : decode cX5_countTo 27 = .ok (.goto (-23), 3) := by decide +kernel
theorem dX5_countTo_30 : decode cX5_countTo 30 = .ok (.iload_n 2, 1) := by decide +kernel
theorem dX5_countTo_31 : decode cX5_countTo 31 = .ok (.ireturn, 1) := by decide +kernel
set_option maxRecDepth 20000 in
theorem ggX5_put_J7_copyOf_59c91 : GoodIn wsX5_put wsJ7_copyOf_59c91 := goodIn_r _ [8, 9, 10, 11, 12, 13, 14, 15, 16, 17, 18, 19, 20, 21, 22, 23] rfl (by decide +kernel)
set_option maxRecDepth 20000 in
theorem gX5_put_J7_copyOf_59c91 : GoodIn wsX5_put (va_wsS RX5 39 yJ7_copyOf_59c91 wsJ7_copyOf_59c91) := goodIn_app (goodIn_of _ (by decide +kernel)) ggX5_put_J7_copyOf_59c91
theorem dX5_put_0 : decode cX5_put 0 = .ok (.aload_n 0, 1) := by decide +kernel
theorem dX5_put_1 : decode cX5_put 1 = .ok (.getfield 15, 3) := by decide +kernel
theorem dX5_put_4 : decode cX5_put 4 = .ok (.ldc 38, 2) := by decide +kernel
theorem dX5_put_6 : decode cX5_put 6 = .ok (.if_icmp .lt 4, 3) := by decide +kernel
theorem dX5_put_9 : decode cX5_put 9 = .ok (.return_, 1) := by decide +kernel
theorem dX5_put_10 : decode cX5_put 10 = .ok (.aload_n 0, 1) := by decide +kernel
theorem dX5_put_11 : decode cX5_put 11 = .ok (.getfield 15, 3) := by decide +kernel
theorem dX5_put_14 : decode cX5_put 14 = .ok (.aload_n 0, 1) := by decide +kernel
theorem dX5_put_15 : decode cX5_put 15 = .ok (.getfield 11, 3) := by decide +kernel
theorem dX5_put_18 : decode cX5_put 18 = .ok (.arraylength, 1) := by decide +kernel
theorem dX5_put_19 : decode cX5_put 19 = .ok (.if_icmp .lt 20, 3) := by decide +kernel
theorem dX5_put_22 : decode cX5_put 22 = .ok (.aload_n 0, 1) := by decide +kernel
theorem dX5_put_23 : decode cX5_put 23 = .ok (.aload_n 0, 1) := by decide +kernel
theorem dX5_put_24 : decode cX5_put 24 = .ok (.getfield 11, 3) := by decide +kernel
theorem dX5_put_27 : decode cX5_put 27 = .ok (.iconst 2, 1) := by decide +kernel
theorem dX5_put_28 : decode cX5_put 28 = .ok (.aload_n 0, 1) := by decide +kernel
theorem dX5_put_29 : decode cX5_put 29 = .ok (.getfield 15, 3) := by decide +kernel
theorem dX5_put_32 : decode cX5_put 32 = .ok (.imul, 1) := by decide +kernel
theorem dX5_put_33 : decode cX5_put 33 = .ok (.invokestatic 39, 3) := by decide +kernel
theorem dX5_put_36 : decode cX5_put 36 = .ok (.putfield 11, 3) := by decide +kernel
theorem dX5_put_39 : decode cX5_put 39 = .ok (.aload_n 0, 1) := by decide +kernel
theorem dX5_put_40 : decode cX5_put 40 = .ok (.getfield 11, 3) := by decide +kernel
theorem dX5_put_43 : decode cX5_put 43 = .ok (.aload_n 0, 1) := by decide +kernel
theorem dX5_put_44 : decode cX5_put 44 = .ok (.getfield 15, 3) := by decide +kernel
theorem dX5_put_47 : decode cX5_put 47 = .ok (.iload_n 3, 1) := by decide +kernel
theorem dX5_put_48 : decode cX5_put 48 = .ok (.bipush 36, 2) := by decide +kernel
theorem dX5_put_50 : decode cX5_put 50 = .ok (.imul, 1) := by decide +kernel
theorem dX5_put_51 : decode cX5_put 51 = .ok (.iload_n 1, 1) := by decide +kernel
theorem dX5_put_52 : decode cX5_put 52 = .ok (.bipush 6, 2) := by decide +kernel
theorem dX5_put_54 : decode cX5_put 54 = .ok (.imul, 1) := by decide +kernel
theorem dX5_put_55 : decode cX5_put 55 = .ok (.iadd, 1) := by decide +kernel
theorem dX5_put_56 : decode cX5_put 56 = .ok (.iload_n 2, 1) := by decide +kernel
theorem dX5_put_57 : decode cX5_put 57 = .ok (.iadd, 1) := by decide +kernel
theorem dX5_put_58 : decode cX5_put 58 = .ok (.iastore, 1) := by decide +kernel
theorem dX5_put_59 : decode cX5_put 59 = .ok (.aload_n 0, 1) := by decide +kernel
theorem dX5_put_60 : decode cX5_put 60 = .ok (.dup, 1) := by decide +kernel
theorem dX5_put_61 : decode cX5_put 61 = .ok (.getfield 15, 3) := by decide +kernel
theorem dX5_put_64 : decode cX5_put 64 = .ok (.iconst 1, 1) := by decide +kernel
theorem dX5_put_65 : decode cX5_put 65 = .ok (.iadd, 1) := by decide +kernel
theorem dX5_put_66 : decode cX5_put 66 = .ok (.putfield 15, 3) := by decide +kernel
theorem dX5_put_69 : decode cX5_put 69 = .ok (.aload_n 0, 1) := by decide +kernel
theorem dX5_put_70 : decode cX5_put 70 = .ok (.dup, 1) := by decide +kernel
theorem dX5_put_71 : decode cX5_put 71 = .ok (.getfield 19, 3) := by decide +kernel
theorem dX5_put_74 : decode cX5_put 74 = .ok (.iconst 1, 1) := by decide +kernel
theorem dX5_put_75 : decode cX5_put 75 = .ok (.iadd, 1) := by decide +kernel
theorem dX5_put_76 : decode cX5_put 76 = .ok (.putfield 19, 3) := by decide +kernel
theorem dX5_put_79 : decode cX5_put 79 = .ok (.return_, 1) := by decide +kernel
theorem dX5_removeFirst_0 : decode cX5_removeFirst 0 = .ok (.iload_n 1, 1) := by decide +kernel
theorem dX5_removeFirst_1 : decode cX5_removeFirst 1 = .ok (.ifCond .lt 40, 3) := by decide +kernel
theorem dX5_removeFirst_4 : decode cX5_removeFirst 4 = .ok (.iload_n 1, 1) := by decide +kernel
theorem dX5_removeFirst_5 : decode cX5_removeFirst 5 = .ok (.aload_n 0, 1) := by decide +kernel
theorem dX5_removeFirst_6 : decode cX5_removeFirst 6 = .ok (.getfield 15, 3) := by decide +kernel
theorem dX5_removeFirst_9 : decode cX5_removeFirst 9 = .ok (.if_icmp .gt 32, 3) := by decide +kernel
theorem dX5_removeFirst_12 : decode cX5_removeFirst 12 = .ok (.aload_n 0, 1) := by decide +kernel
theorem dX5_removeFirst_13 : decode cX5_removeFirst 13 = .ok (.getfield 11, 3) := by decide +kernel
theorem dX5_removeFirst_16 : decode cX5_removeFirst 16 = .ok (.iload_n 1, 1) := by decide +kernel
theorem dX5_removeFirst_17 : decode cX5_removeFirst 17 = .ok (.aload_n 0, 1) := by decide +kernel
theorem dX5_removeFirst_18 : decode cX5_removeFirst 18 = .ok (.getfield 11, 3) := by decide +kernel
theorem dX5_removeFirst_21 : decode cX5_removeFirst 21 = .ok (.iconst 0, 1) := by decide +kernel
theorem dX5_removeFirst_22 : decode cX5_removeFirst 22 = .ok (.aload_n 0, 1) := by decide +kernel
theorem dX5_removeFirst_23 : decode cX5_removeFirst 23 = .ok (.getfield 15, 3) := by decide +kernel
theorem dX5_removeFirst_26 : decode cX5_removeFirst 26 = .ok (.iload_n 1, 1) := by decide +kernel
theorem dX5_removeFirst_27 : decode cX5_removeFirst 27 = .ok (.isub, 1) := by decide +kernel
theorem dX5_removeFirst_28 : decode cX5_removeFirst 28 = .ok (.invokestatic 45, 3) := by decide +kernel
theorem dX5_removeFirst_31 : decode cX5_removeFirst 31 = .ok (.aload_n 0, 1) := by decide +kernel
theorem dX5_removeFirst_32 : decode cX5_removeFirst 32 = .ok (.dup, 1) := by decide +kernel
theorem dX5_removeFirst_33 : decode cX5_removeFirst 33 = .ok (.getfield 15, 3) := by decide +kernel
theorem dX5_removeFirst_36 : decode cX5_removeFirst 36 = .ok (.iload_n 1, 1) := by decide +kernel
theorem dX5_removeFirst_37 : decode cX5_removeFirst 37 = .ok (.isub, 1) := by decide +kernel
theorem dX5_removeFirst_38 : decode cX5_removeFirst 38 = .ok (.putfield 15, 3) := by decide +kernel
theorem dX5_removeFirst_41 : decode cX5_removeFirst 41 = .ok (.return_, 1) := by decide +kernel
set_option maxRecDepth 20000 in
theorem ggX5_removeOf_X5_senderOf : GoodIn wsX5_removeOf wsX5_senderOf := goodIn_ca (goodIn_r _ [7, 2, 8, 9, 10, 6, 11, 1, 12, 13, 14, 15, 20, 21, 22] rfl (by decide +kernel)) (goodIn_sub (fun _ h => List.mem_cons_of_mem _ (List.mem_append_right _ h)) (by decide +kernel))
set_option maxRecDepth 20000 in
theorem gX5_removeOf_X5_senderOf : GoodIn wsX5_removeOf (wsV RX5 51 RX5 yX5_senderOf wsX5_senderOf) := goodIn_app (goodIn_of _ (by decide +kernel)) ggX5_removeOf_X5_senderOf
set_option maxRecDepth 20000 in
theorem ggX5_removeOf_X5_receiverOf : GoodIn wsX5_removeOf wsX5_receiverOf := goodIn_ca (goodIn_r _ [19, 2, 8, 9, 10, 6, 11, 1, 12, 13, 14, 15, 20, 21, 22] rfl (by decide +kernel)) (goodIn_sub (fun _ h => List.mem_cons_of_mem _ (List.mem_append_right _ h)) (by decide +kernel))
set_option maxRecDepth 20000 in
theorem gX5_removeOf_X5_receiverOf : GoodIn wsX5_removeOf (wsV RX5 34 RX5 yX5_receiverOf wsX5_receiverOf) := goodIn_app (goodIn_of _ (by decide +kernel)) ggX5_removeOf_X5_receiverOf
theorem dX5_removeOf_0 : decode cX5_removeOf 0 = .ok (.iconst 0, 1) := by decide +kernel
theorem dX5_removeOf_1 : decode cX5_removeOf 1 = .ok (.istore_n 2, 1) := by decide +kernel
theorem dX5_removeOf_2 : decode cX5_removeOf 2 = .ok (.iconst 0, 1) := by decide +kernel
theorem dX5_removeOf_3 : decode cX5_removeOf 3 = .ok (.istore_n 3, 1) := by decide +kernel
theorem dX5_removeOf_4 : decode cX5_removeOf 4 = .ok (.iload_n 3, 1) := by decide +kernel
theorem dX5_removeOf_5 : decode cX5_removeOf 5 = .ok (.aload_n 0, 1) := by decide +kernel
theorem dX5_removeOf_6 : decode cX5_removeOf 6 = .ok (.getfield 15, 3) := by decide +kernel
theorem dX5_removeOf_9 : decode cX5_removeOf 9 = .ok (.if_icmp .ge 42, 3) := by decide +kernel
theorem dX5_removeOf_12 : decode cX5_removeOf 12 = .ok (.aload_n 0, 1) := by decide +kernel
theorem dX5_removeOf_13 : decode cX5_removeOf 13 = .ok (.iload_n 3, 1) := by decide +kernel
theorem dX5_removeOf_14 : decode cX5_removeOf 14 = .ok (.invokevirtual 51, 3) := by decide +kernel
theorem dX5_removeOf_17 : decode cX5_removeOf 17 = .ok (.iload_n 1, 1) := by decide +kernel
theorem dX5_removeOf_18 : decode cX5_removeOf 18 = .ok (.if_icmp .eq 27, 3) := by decide +kernel
theorem dX5_removeOf_21 : decode cX5_removeOf 21 = .ok (.aload_n 0, 1) := by decide +kernel
theorem dX5_removeOf_22 : decode cX5_removeOf 22 = .ok (.iload_n 3, 1) := by decide +kernel
theorem dX5_removeOf_23 : decode cX5_removeOf 23 = .ok (.invokevirtual 34, 3) := by decide +kernel
theorem dX5_removeOf_26 : decode cX5_removeOf 26 = .ok (.iload_n 1, 1) := by decide +kernel
theorem dX5_removeOf_27 : decode cX5_removeOf 27 = .ok (.if_icmp .eq 18, 3) := by decide +kernel
theorem dX5_removeOf_30 : decode cX5_removeOf 30 = .ok (.aload_n 0, 1) := by decide +kernel
theorem dX5_removeOf_31 : decode cX5_removeOf 31 = .ok (.getfield 11, 3) := by decide +kernel
theorem dX5_removeOf_34 : decode cX5_removeOf 34 = .ok (.iload_n 2, 1) := by decide +kernel
theorem dX5_removeOf_35 : decode cX5_removeOf 35 = .ok (.aload_n 0, 1) := by decide +kernel
theorem dX5_removeOf_36 : decode cX5_removeOf 36 = .ok (.getfield 11, 3) := by decide +kernel
theorem dX5_removeOf_39 : decode cX5_removeOf 39 = .ok (.iload_n 3, 1) := by decide +kernel
theorem dX5_removeOf_40 : decode cX5_removeOf 40 = .ok (.iaload, 1) := by decide +kernel
theorem dX5_removeOf_41 : decode cX5_removeOf 41 = .ok (.iastore, 1) := by decide +kernel
theorem dX5_removeOf_42 : decode cX5_removeOf 42 = .ok (.iinc 2 1, 3) := by decide +kernel
theorem dX5_removeOf_45 : decode cX5_removeOf 45 = .ok (.iinc 3 1, 3) := by decide +kernel
theorem dX5_removeOf_48 : decode cX5_removeOf 48 = .ok (.goto (-44), 3) := by decide +kernel
theorem dX5_removeOf_51 : decode cX5_removeOf 51 = .ok (.aload_n 0, 1) := by decide +kernel
theorem dX5_removeOf_52 : decode cX5_removeOf 52 = .ok (.getfield 15, 3) := by decide +kernel
theorem dX5_removeOf_55 : decode cX5_removeOf 55 = .ok (.iload_n 2, 1) := by decide +kernel
theorem dX5_removeOf_56 : decode cX5_removeOf 56 = .ok (.isub, 1) := by decide +kernel
theorem dX5_removeOf_57 : decode cX5_removeOf 57 = .ok (.istore_n 3, 1) := by decide +kernel
theorem dX5_removeOf_58 : decode cX5_removeOf 58 = .ok (.aload_n 0, 1) := by decide +kernel
theorem dX5_removeOf_59 : decode cX5_removeOf 59 = .ok (.iload_n 2, 1) := by decide +kernel
theorem dX5_removeOf_60 : decode cX5_removeOf 60 = .ok (.putfield 15, 3) := by decide +kernel
theorem dX5_removeOf_63 : decode cX5_removeOf 63 = .ok (.iload_n 3, 1) := by decide +kernel
theorem dX5_removeOf_64 : decode cX5_removeOf 64 = .ok (.ireturn, 1) := by decide +kernel
theorem dX5_takeOver_0 : decode cX5_takeOver 0 = .ok (.aload_n 0, 1) := by decide +kernel
theorem dX5_takeOver_1 : decode cX5_takeOver 1 = .ok (.getfield 11, 3) := by decide +kernel
theorem dX5_takeOver_4 : decode cX5_takeOver 4 = .ok (.arraylength, 1) := by decide +kernel
theorem dX5_takeOver_5 : decode cX5_takeOver 5 = .ok (.aload_n 1, 1) := by decide +kernel
theorem dX5_takeOver_6 : decode cX5_takeOver 6 = .ok (.getfield 15, 3) := by decide +kernel
theorem dX5_takeOver_9 : decode cX5_takeOver 9 = .ok (.if_icmp .ge 15, 3) := by decide +kernel
theorem dX5_takeOver_12 : decode cX5_takeOver 12 = .ok (.aload_n 0, 1) := by decide +kernel
theorem dX5_takeOver_13 : decode cX5_takeOver 13 = .ok (.iconst 2, 1) := by decide +kernel
theorem dX5_takeOver_14 : decode cX5_takeOver 14 = .ok (.aload_n 1, 1) := by decide +kernel
theorem dX5_takeOver_15 : decode cX5_takeOver 15 = .ok (.getfield 15, 3) := by decide +kernel
theorem dX5_takeOver_18 : decode cX5_takeOver 18 = .ok (.imul, 1) := by decide +kernel
theorem dX5_takeOver_19 : decode cX5_takeOver 19 = .ok (.newarray .int, 2) := by decide +kernel
theorem dX5_takeOver_21 : decode cX5_takeOver 21 = .ok (.putfield 11, 3) := by decide +kernel
theorem dX5_takeOver_24 : decode cX5_takeOver 24 = .ok (.aload_n 1, 1) := by decide +kernel
theorem dX5_takeOver_25 : decode cX5_takeOver 25 = .ok (.getfield 11, 3) := by decide +kernel
theorem dX5_takeOver_28 : decode cX5_takeOver 28 = .ok (.iconst 0, 1) := by decide +kernel
theorem dX5_takeOver_29 : decode cX5_takeOver 29 = .ok (.aload_n 0, 1) := by decide +kernel
theorem dX5_takeOver_30 : decode cX5_takeOver 30 = .ok (.getfield 11, 3) := by decide +kernel
theorem dX5_takeOver_33 : decode cX5_takeOver 33 = .ok (.iconst 0, 1) := by decide +kernel
theorem dX5_takeOver_34 : decode cX5_takeOver 34 = .ok (.aload_n 1, 1) := by decide +kernel
theorem dX5_takeOver_35 : decode cX5_takeOver 35 = .ok (.getfield 15, 3) := by decide +kernel
theorem dX5_takeOver_38 : decode cX5_takeOver 38 = .ok (.invokestatic 45, 3) := by decide +kernel
theorem dX5_takeOver_41 : decode cX5_takeOver 41 = .ok (.aload_n 0, 1) := by decide +kernel
theorem dX5_takeOver_42 : decode cX5_takeOver 42 = .ok (.aload_n 1, 1) := by decide +kernel
theorem dX5_takeOver_43 : decode cX5_takeOver 43 = .ok (.getfield 15, 3) := by decide +kernel
theorem dX5_takeOver_46 : decode cX5_takeOver 46 = .ok (.putfield 15, 3) := by decide +kernel
theorem dX5_takeOver_49 : decode cX5_takeOver 49 = .ok (.aload_n 0, 1) := by decide +kernel
theorem dX5_takeOver_50 : decode cX5_takeOver 50 = .ok (.aload_n 1, 1) := by decide +kernel
theorem dX5_takeOver_51 : decode cX5_takeOver 51 = .ok (.getfield 19, 3) := by decide +kernel
theorem dX5_takeOver_54 : decode cX5_takeOver 54 = .ok (.putfield 19, 3) := by decide +kernel
theorem dX5_takeOver_57 : decode cX5_takeOver 57 = .ok (.return_, 1) := by decide +kernel
theorem dX6_init_0 : decode cX6_init 0 = .ok (.aload_n 0, 1) := by decide +kernel
theorem dX6_init_1 : decode cX6_init 1 = .ok (.invokespecial 1, 3) := by decide +kernel
theorem dX6_init_4 : decode cX6_init 4 = .ok (.aload_n 0, 1) := by decide +kernel
theorem dX6_init_5 : decode cX6_init 5 = .ok (.iload_n 1, 1) := by decide +kernel
theorem dX6_init_6 : decode cX6_init 6 = .ok (.putfield 7, 3) := by decide +kernel
theorem dX6_init_9 : decode cX6_init 9 = .ok (.aload_n 0, 1) := by decide +kernel
theorem dX6_init_10 : decode cX6_init 10 = .ok (.iload_n 2, 1) := by decide +kernel
theorem dX6_init_11 : decode cX6_init 11 = .ok (.putfield 13, 3) := by decide +kernel
theorem dX6_init_14 : decode cX6_init 14 = .ok (.aload_n 0, 1) := by decide +kernel
theorem dX6_init_15 : decode cX6_init 15 = .ok (.iload_n 3, 1) := by decide +kernel
theorem dX6_init_16 : decode cX6_init 16 = .ok (.putfield 16, 3) := by decide +kernel
theorem dX6_init_19 : decode cX6_init 19 = .ok (.aload_n 0, 1) := by decide +kernel
theorem dX6_init_20 : decode cX6_init 20 = .ok (.aload 4, 2) := by decide +kernel
theorem dX6_init_22 : decode cX6_init 22 = .ok (.putfield 19, 3) := by decide +kernel
theorem dX6_init_25 : decode cX6_init 25 = .ok (.return_, 1) := by decide +kernel
theorem dX6_isBlank_0 : decode cX6_isBlank 0 = .ok (.aload_n 0, 1) := by decide +kernel
theorem dX6_isBlank_1 : decode cX6_isBlank 1 = .ok (.getfield 13, 3) := by decide +kernel
theorem dX6_isBlank_4 : decode cX6_isBlank 4 = .ok (.ifCond .ne 7, 3) := by decide +kernel
theorem dX6_isBlank_7 : decode cX6_isBlank 7 = .ok (.iconst 1, 1) := by decide +kernel
theorem dX6_isBlank_8 : decode cX6_isBlank 8 = .ok (.goto 4, 3) := by decide +kernel
theorem dX6_isBlank_11 : decode cX6_isBlank 11 = .ok (.iconst 0, 1) := by decide +kernel
theorem dX6_isBlank_12 : decode cX6_isBlank 12 = .ok (.ireturn, 1) := by decide +kernel
theorem dX6_costTo_0 : decode cX6_costTo 0 = .ok (.iload_n 1, 1) := by decide +kernel
theorem dX6_costTo_1 : decode cX6_costTo 1 = .ok (.ifCond .lt 21, 3) := by decide +kernel
theorem dX6_costTo_4 : decode cX6_costTo 4 = .ok (.iload_n 1, 1) := by decide +kernel
theorem dX6_costTo_5 : decode cX6_costTo 5 = .ok (.aload_n 0, 1) := by decide +kernel
theorem dX6_costTo_6 : decode cX6_costTo 6 = .ok (.getfield 19, 3) := by decide +kernel
theorem dX6_costTo_9 : decode cX6_costTo 9 = .ok (.arraylength, 1) := by decide +kernel
theorem dX6_costTo_10 : decode cX6_costTo 10 = .ok (.if_icmp .ge 12, 3) := by decide +kernel
theorem dX6_costTo_13 : decode cX6_costTo 13 = .ok (.aload_n 0, 1) := by decide +kernel
theorem dX6_costTo_14 : decode cX6_costTo 14 = .ok (.getfield 19, 3) := by decide +kernel
theorem dX6_costTo_17 : decode cX6_costTo 17 = .ok (.iload_n 1, 1) := by decide +kernel
theorem dX6_costTo_18 : decode cX6_costTo 18 = .ok (.iaload, 1) := by decide +kernel
theorem dX6_costTo_19 : decode cX6_costTo 19 = .ok (.goto 4, 3) := by decide +kernel
theorem dX6_costTo_22 : decode cX6_costTo 22 = .ok (.iconst 0, 1) := by decide +kernel
theorem dX6_costTo_23 : decode cX6_costTo 23 = .ok (.ireturn, 1) := by decide +kernel
theorem dX6_costsTold_0 : decode cX6_costsTold 0 = .ok (.iconst 0, 1) := by decide +kernel
theorem dX6_costsTold_1 : decode cX6_costsTold 1 = .ok (.istore_n 1, 1) := by decide +kernel
theorem dX6_costsTold_2 : decode cX6_costsTold 2 = .ok (.iconst 0, 1) := by decide +kernel
theorem dX6_costsTold_3 : decode cX6_costsTold 3 = .ok (.istore_n 2, 1) := by decide +kernel
theorem dX6_costsTold_4 : decode cX6_costsTold 4 = .ok (.iload_n 2, 1) := by decide +kernel
theorem dX6_costsTold_5 : decode cX6_costsTold 5 = .ok (.aload_n 0, 1) := by decide +kernel
theorem dX6_costsTold_6 : decode cX6_costsTold 6 = .ok (.getfield 19, 3) := by decide +kernel
theorem dX6_costsTold_9 : decode cX6_costsTold 9 = .ok (.arraylength, 1) := by decide +kernel
theorem dX6_costsTold_10 : decode cX6_costsTold 10 = .ok (.if_icmp .ge 21, 3) := by decide +kernel
theorem dX6_costsTold_13 : decode cX6_costsTold 13 = .ok (.aload_n 0, 1) := by decide +kernel
theorem dX6_costsTold_14 : decode cX6_costsTold 14 = .ok (.getfield 19, 3) := by decide +kernel
theorem dX6_costsTold_17 : decode cX6_costsTold 17 = .ok (.iload_n 2, 1) := by decide +kernel
theorem dX6_costsTold_18 : decode cX6_costsTold 18 = .ok (.iaload, 1) := by decide +kernel
theorem dX6_costsTold_19 : decode cX6_costsTold 19 = .ok (.ifCond .le 6, 3) := by decide +kernel
theorem dX6_costsTold_22 : decode cX6_costsTold 22 = .ok (.iinc 1 1, 3) := by decide +kernel
theorem dX6_costsTold_25 : decode cX6_costsTold 25 = .ok (.iinc 2 1, 3) := by decide +kernel
theorem dX6_costsTold_28 : decode cX6_costsTold 28 = .ok (.goto (-24), 3) := by decide +kernel
theorem dX6_costsTold_31 : decode cX6_costsTold 31 = .ok (.iload_n 1, 1) := by decide +kernel
theorem dX6_costsTold_32 : decode cX6_costsTold 32 = .ok (.ireturn, 1) := by decide +kernel
set_option maxRecDepth 20000 in
theorem ggX8_init_X5_init : GoodIn wsX8_init wsX5_init := goodIn_r _ [19, 20, 2, 3, 4, 21, 22, 23, 34, 35, 36] rfl (by decide +kernel)
set_option maxRecDepth 20000 in
theorem gX8_init_X5_init_n23 : GoodIn wsX8_init (wsX5_init) := ggX8_init_X5_init
theorem dX8_init_0 : decode cX8_init 0 = .ok (.aload_n 0, 1) := by decide +kernel
theorem dX8_init_1 : decode cX8_init 1 = .ok (.invokespecial 3, 3) := by decide +kernel
theorem dX8_init_4 : decode cX8_init 4 = .ok (.aload_n 0, 1) := by decide +kernel
theorem dX8_init_5 : decode cX8_init 5 = .ok (.bipush 6, 2) := by decide +kernel
theorem dX8_init_7 : decode cX8_init 7 = .ok (.newarray .int, 2) := by decide +kernel
theorem dX8_init_9 : decode cX8_init 9 = .ok (.putfield 9, 3) := by decide +kernel
theorem dX8_init_12 : decode cX8_init 12 = .ok (.aload_n 0, 1) := by decide +kernel
theorem dX8_init_13 : decode cX8_init 13 = .ok (.bipush 36, 2) := by decide +kernel
theorem dX8_init_15 : decode cX8_init 15 = .ok (.newarray .int, 2) := by decide +kernel
theorem dX8_init_17 : decode cX8_init 17 = .ok (.putfield 15, 3) := by decide +kernel
theorem dX8_init_20 : decode cX8_init 20 = .ok (.aload_n 0, 1) := by decide +kernel
theorem dX8_init_21 : decode cX8_init 21 = .ok (.bipush 36, 2) := by decide +kernel
theorem dX8_init_23 : decode cX8_init 23 = .ok (.newarray .int, 2) := by decide +kernel
theorem dX8_init_25 : decode cX8_init 25 = .ok (.putfield 18, 3) := by decide +kernel
theorem dX8_init_28 : decode cX8_init 28 = .ok (.aload_n 0, 1) := by decide +kernel
theorem dX8_init_29 : decode cX8_init 29 = .ok (.new 21, 3) := by decide +kernel
theorem dX8_init_32 : decode cX8_init 32 = .ok (.dup, 1) := by decide +kernel
theorem dX8_init_33 : decode cX8_init 33 = .ok (.invokespecial 23, 3) := by decide +kernel
theorem dX8_init_36 : decode cX8_init 36 = .ok (.putfield 24, 3) := by decide +kernel
theorem dX8_init_39 : decode cX8_init 39 = .ok (.aload_n 0, 1) := by decide +kernel
theorem dX8_init_40 : decode cX8_init 40 = .ok (.iconst 0, 1) := by decide +kernel
theorem dX8_init_41 : decode cX8_init 41 = .ok (.putfield 28, 3) := by decide +kernel
theorem dX8_init_44 : decode cX8_init 44 = .ok (.aload_n 0, 1) := by decide +kernel
theorem dX8_init_45 : decode cX8_init 45 = .ok (.iconst 0, 1) := by decide +kernel
theorem dX8_init_46 : decode cX8_init 46 = .ok (.putfield 32, 3) := by decide +kernel
theorem dX8_init_49 : decode cX8_init 49 = .ok (.aload_n 0, 1) := by decide +kernel
theorem dX8_init_50 : decode cX8_init 50 = .ok (.iconst 0, 1) := by decide +kernel
theorem dX8_init_51 : decode cX8_init 51 = .ok (.putfield 35, 3) := by decide +kernel
theorem dX8_init_54 : decode cX8_init 54 = .ok (.aload_n 0, 1) := by decide +kernel
theorem dX8_init_55 : decode cX8_init 55 = .ok (.iconst 0, 1) := by decide +kernel
theorem dX8_init_56 : decode cX8_init 56 = .ok (.putfield 38, 3) := by decide +kernel
theorem dX8_init_59 : decode cX8_init 59 = .ok (.aload_n 0, 1) := by decide +kernel
theorem dX8_init_60 : decode cX8_init 60 = .ok (.iconst 0, 1) := by decide +kernel
theorem dX8_init_61 : decode cX8_init 61 = .ok (.putfield 41, 3) := by decide +kernel
theorem dX8_init_64 : decode cX8_init 64 = .ok (.aload_n 0, 1) := by decide +kernel
theorem dX8_init_65 : decode cX8_init 65 = .ok (.aload_n 1, 1) := by decide +kernel
theorem dX8_init_66 : decode cX8_init 66 = .ok (.putfield 44, 3) := by decide +kernel
theorem dX8_init_69 : decode cX8_init 69 = .ok (.return_, 1) := by decide +kernel
set_option maxRecDepth 20000 in
theorem ggX8_copyFrom_X5_takeOver : GoodIn wsX8_copyFrom wsX5_takeOver := goodIn_r _ [18, 19, 20, 21, 22, 3, 4, 5, 23, 34, 35, 36] rfl (by decide +kernel)
set_option maxRecDepth 20000 in
theorem gX8_copyFrom_X5_takeOver : GoodIn wsX8_copyFrom (wsV RX8 54 RX5 yX5_takeOver wsX5_takeOver) := goodIn_app (goodIn_of _ (by decide +kernel)) ggX8_copyFrom_X5_takeOver
theorem dX8_copyFrom_0 : decode cX8_copyFrom 0 = .ok (.aload_n 1, 1) := by decide +kernel
theorem dX8_copyFrom_1 : decode cX8_copyFrom 1 = .ok (.getfield 9, 3) := by decide +kernel
theorem dX8_copyFrom_4 : decode cX8_copyFrom 4 = .ok (.iconst 0, 1) := by decide +kernel
theorem dX8_copyFrom_5 : decode cX8_copyFrom 5 = .ok (.aload_n 0, 1) := by decide +kernel
theorem dX8_copyFrom_6 : decode cX8_copyFrom 6 = .ok (.getfield 9, 3) := by decide +kernel
theorem dX8_copyFrom_9 : decode cX8_copyFrom 9 = .ok (.iconst 0, 1) := by decide +kernel
theorem dX8_copyFrom_10 : decode cX8_copyFrom 10 = .ok (.bipush 6, 2) := by decide +kernel
theorem dX8_copyFrom_12 : decode cX8_copyFrom 12 = .ok (.invokestatic 48, 3) := by decide +kernel
theorem dX8_copyFrom_15 : decode cX8_copyFrom 15 = .ok (.aload_n 1, 1) := by decide +kernel
theorem dX8_copyFrom_16 : decode cX8_copyFrom 16 = .ok (.getfield 15, 3) := by decide +kernel
theorem dX8_copyFrom_19 : decode cX8_copyFrom 19 = .ok (.iconst 0, 1) := by decide +kernel
theorem dX8_copyFrom_20 : decode cX8_copyFrom 20 = .ok (.aload_n 0, 1) := by decide +kernel
theorem dX8_copyFrom_21 : decode cX8_copyFrom 21 = .ok (.getfield 15, 3) := by decide +kernel
theorem dX8_copyFrom_24 : decode cX8_copyFrom 24 = .ok (.iconst 0, 1) := by decide +kernel
theorem dX8_copyFrom_25 : decode cX8_copyFrom 25 = .ok (.bipush 36, 2) := by decide +kernel
theorem dX8_copyFrom_27 : decode cX8_copyFrom 27 = .ok (.invokestatic 48, 3) := by decide +kernel
theorem dX8_copyFrom_30 : decode cX8_copyFrom 30 = .ok (.aload_n 1, 1) := by decide +kernel
theorem dX8_copyFrom_31 : decode cX8_copyFrom 31 = .ok (.getfield 18, 3) := by decide +kernel
theorem dX8_copyFrom_34 : decode cX8_copyFrom 34 = .ok (.iconst 0, 1) := by decide +kernel
theorem dX8_copyFrom_35 : decode cX8_copyFrom 35 = .ok (.aload_n 0, 1) := by decide +kernel
theorem dX8_copyFrom_36 : decode cX8_copyFrom 36 = .ok (.getfield 18, 3) := by decide +kernel
theorem dX8_copyFrom_39 : decode cX8_copyFrom 39 = .ok (.iconst 0, 1) := by decide +kernel
theorem dX8_copyFrom_40 : decode cX8_copyFrom 40 = .ok (.bipush 36, 2) := by decide +kernel
theorem dX8_copyFrom_42 : decode cX8_copyFrom 42 = .ok (.invokestatic 48, 3) := by decide +kernel
theorem dX8_copyFrom_45 : decode cX8_copyFrom 45 = .ok (.aload_n 0, 1) := by decide +kernel
theorem dX8_copyFrom_46 : decode cX8_copyFrom 46 = .ok (.getfield 24, 3) := by decide +kernel
theorem dX8_copyFrom_49 : decode cX8_copyFrom 49 = .ok (.aload_n 1, 1) := by decide +kernel
theorem dX8_copyFrom_50 : decode cX8_copyFrom 50 = .ok (.getfield 24, 3) := by decide +kernel
theorem dX8_copyFrom_53 : decode cX8_copyFrom 53 = .ok (.invokevirtual 54, 3) := by decide +kernel
theorem dX8_copyFrom_56 : decode cX8_copyFrom 56 = .ok (.aload_n 0, 1) := by decide +kernel
theorem dX8_copyFrom_57 : decode cX8_copyFrom 57 = .ok (.aload_n 1, 1) := by decide +kernel
theorem dX8_copyFrom_58 : decode cX8_copyFrom 58 = .ok (.getfield 28, 3) := by decide +kernel
theorem dX8_copyFrom_61 : decode cX8_copyFrom 61 = .ok (.putfield 28, 3) := by decide +kernel
theorem dX8_copyFrom_64 : decode cX8_copyFrom 64 = .ok (.aload_n 0, 1) := by decide +kernel
theorem dX8_copyFrom_65 : decode cX8_copyFrom 65 = .ok (.aload_n 1, 1) := by decide +kernel
theorem dX8_copyFrom_66 : decode cX8_copyFrom 66 = .ok (.getfield 32, 3) := by decide +kernel
theorem dX8_copyFrom_69 : decode cX8_copyFrom 69 = .ok (.putfield 32, 3) := by decide +kernel
theorem dX8_copyFrom_72 : decode cX8_copyFrom 72 = .ok (.aload_n 0, 1) := by decide +kernel
theorem dX8_copyFrom_73 : decode cX8_copyFrom 73 = .ok (.aload_n 1, 1) := by decide +kernel
theorem dX8_copyFrom_74 : decode cX8_copyFrom 74 = .ok (.getfield 35, 3) := by decide +kernel
theorem dX8_copyFrom_77 : decode cX8_copyFrom 77 = .ok (.putfield 35, 3) := by decide +kernel
theorem dX8_copyFrom_80 : decode cX8_copyFrom 80 = .ok (.aload_n 0, 1) := by decide +kernel
theorem dX8_copyFrom_81 : decode cX8_copyFrom 81 = .ok (.aload_n 1, 1) := by decide +kernel
theorem dX8_copyFrom_82 : decode cX8_copyFrom 82 = .ok (.getfield 38, 3) := by decide +kernel
theorem dX8_copyFrom_85 : decode cX8_copyFrom 85 = .ok (.putfield 38, 3) := by decide +kernel
theorem dX8_copyFrom_88 : decode cX8_copyFrom 88 = .ok (.aload_n 0, 1) := by decide +kernel
theorem dX8_copyFrom_89 : decode cX8_copyFrom 89 = .ok (.aload_n 1, 1) := by decide +kernel
theorem dX8_copyFrom_90 : decode cX8_copyFrom 90 = .ok (.getfield 41, 3) := by decide +kernel
theorem dX8_copyFrom_93 : decode cX8_copyFrom 93 = .ok (.putfield 41, 3) := by decide +kernel
theorem dX8_copyFrom_96 : decode cX8_copyFrom 96 = .ok (.return_, 1) := by decide +kernel
theorem dX8_has_0 : decode cX8_has 0 = .ok (.iload_n 1, 1) := by decide +kernel
theorem dX8_has_1 : decode cX8_has 1 = .ok (.ifCond .lt 15, 3) := by decide +kernel
theorem dX8_has_4 : decode cX8_has 4 = .ok (.iload_n 1, 1) := by decide +kernel
theorem dX8_has_5 : decode cX8_has 5 = .ok (.aload_n 0, 1) := by decide +kernel
theorem dX8_has_6 : decode cX8_has 6 = .ok (.getfield 28, 3) := by decide +kernel
theorem dX8_has_9 : decode cX8_has 9 = .ok (.if_icmp .ge 7, 3) := by decide +kernel
theorem dX8_has_12 : decode cX8_has 12 = .ok (.iconst 1, 1) := by decide +kernel
theorem dX8_has_13 : decode cX8_has 13 = .ok (.goto 4, 3) := by decide +kernel
theorem dX8_has_16 : decode cX8_has 16 = .ok (.iconst 0, 1) := by decide +kernel
theorem dX8_has_17 : decode cX8_has 17 = .ok (.ireturn, 1) := by decide +kernel
theorem dX8_pair_0 : decode cX8_pair 0 = .ok (.iload_n 0, 1) := by decide +kernel
theorem dX8_pair_1 : decode cX8_pair 1 = .ok (.ifCond .lt 23, 3) := by decide +kernel
theorem dX8_pair_4 : decode cX8_pair 4 = .ok (.iload_n 0, 1) := by decide +kernel
theorem dX8_pair_5 : decode cX8_pair 5 = .ok (.bipush 6, 2) := by decide +kernel
theorem dX8_pair_7 : decode cX8_pair 7 = .ok (.if_icmp .ge 17, 3) := by decide +kernel
theorem dX8_pair_10 : decode cX8_pair 10 = .ok (.iload_n 1, 1) := by decide +kernel
theorem dX8_pair_11 : decode cX8_pair 11 = .ok (.ifCond .lt 13, 3) := by decide +kernel
theorem dX8_pair_14 : decode cX8_pair 14 = .ok (.iload_n 1, 1) := by decide +kernel
theorem dX8_pair_15 : decode cX8_pair 15 = .ok (.bipush 6, 2) := by decide +kernel
theorem dX8_pair_17 : decode cX8_pair 17 = .ok (.if_icmp .ge 7, 3) := by decide +kernel
theorem dX8_pair_20 : decode cX8_pair 20 = .ok (.iconst 1, 1) := by decide +kernel
theorem dX8_pair_21 : decode cX8_pair 21 = .ok (.goto 4, 3) := by decide +kernel
theorem dX8_pair_24 : decode cX8_pair 24 = .ok (.iconst 0, 1) := by decide +kernel
theorem dX8_pair_25 : decode cX8_pair 25 = .ok (.istore_n 2, 1) := by decide +kernel
theorem dX8_pair_26 : decode cX8_pair 26 = .ok (.iload_n 2, 1) := by decide +kernel
theorem dX8_pair_27 : decode cX8_pair 27 = .ok (.ifCond .eq 12, 3) := by decide +kernel
theorem dX8_pair_30 : decode cX8_pair 30 = .ok (.iload_n 0, 1) := by decide +kernel
theorem dX8_pair_31 : decode cX8_pair 31 = .ok (.bipush 6, 2) := by decide +kernel
theorem dX8_pair_33 : decode cX8_pair 33 = .ok (.imul, 1) := by decide +kernel
theorem dX8_pair_34 : decode cX8_pair 34 = .ok (.iload_n 1, 1) := by decide +kernel
theorem dX8_pair_35 : decode cX8_pair 35 = .ok (.iadd, 1) := by decide +kernel
theorem dX8_pair_36 : decode cX8_pair 36 = .ok (.goto 4, 3) := by decide +kernel
theorem dX8_pair_39 : decode cX8_pair 39 = .ok (.iconst 0, 1) := by decide +kernel
theorem dX8_pair_40 : decode cX8_pair 40 = .ok (.ireturn, 1) := by decide +kernel
set_option maxRecDepth 20000 in
theorem ggX8_districtOf_X8_has : GoodIn wsX8_districtOf wsX8_has := goodIn_r _ [6, 7, 8, 9, 10, 11, 12, 13, 14, 15, 16, 17] rfl (by decide +kernel)
set_option maxRecDepth 20000 in
theorem gX8_districtOf_X8_has : GoodIn wsX8_districtOf (wsV RX8 58 RX8 yX8_has wsX8_has) := goodIn_app (goodIn_of _ (by decide +kernel)) ggX8_districtOf_X8_has
theorem dX8_districtOf_0 : decode cX8_districtOf 0 = .ok (.aload_n 0, 1) := by decide +kernel
theorem dX8_districtOf_1 : decode cX8_districtOf 1 = .ok (.iload_n 1, 1) := by decide +kernel
theorem dX8_districtOf_2 : decode cX8_districtOf 2 = .ok (.invokevirtual 58, 3) := by decide +kernel
theorem dX8_districtOf_5 : decode cX8_districtOf 5 = .ok (.ifCond .eq 12, 3) := by decide +kernel
theorem dX8_districtOf_8 : decode cX8_districtOf 8 = .ok (.aload_n 0, 1) := by decide +kernel
theorem dX8_districtOf_9 : decode cX8_districtOf 9 = .ok (.getfield 9, 3) := by decide +kernel
theorem dX8_districtOf_12 : decode cX8_districtOf 12 = .ok (.iload_n 1, 1) := by decide +kernel
theorem dX8_districtOf_13 : decode cX8_districtOf 13 = .ok (.iaload, 1) := by decide +kernel
theorem dX8_districtOf_14 : decode cX8_districtOf 14 = .ok (.goto 4, 3) := by decide +kernel
theorem dX8_districtOf_17 : decode cX8_districtOf 17 = .ok (.iconst (-1), 1) := by decide +kernel
theorem dX8_districtOf_18 : decode cX8_districtOf 18 = .ok (.ireturn, 1) := by decide +kernel
set_option maxRecDepth 20000 in
theorem ggX8_costBetween_X8_pair : GoodIn wsX8_costBetween wsX8_pair := goodIn_r _ [5] rfl (by decide +kernel)
set_option maxRecDepth 20000 in
theorem gX8_costBetween_X8_pair : GoodIn wsX8_costBetween (va_wsS RX8 62 yX8_pair wsX8_pair) := goodIn_app (goodIn_of _ (by decide +kernel)) ggX8_costBetween_X8_pair
theorem dX8_costBetween_0 : decode cX8_costBetween 0 = .ok (.aload_n 0, 1) := by decide +kernel
theorem dX8_costBetween_1 : decode cX8_costBetween 1 = .ok (.getfield 15, 3) := by decide +kernel
theorem dX8_costBetween_4 : decode cX8_costBetween 4 = .ok (.iload_n 1, 1) := by decide +kernel
theorem dX8_costBetween_5 : decode cX8_costBetween 5 = .ok (.iload_n 2, 1) := by decide +kernel
theorem dX8_costBetween_6 : decode cX8_costBetween 6 = .ok (.invokestatic 62, 3) := by decide +kernel
theorem dX8_costBetween_9 : decode cX8_costBetween 9 = .ok (.iaload, 1) := by decide +kernel
theorem dX8_costBetween_10 : decode cX8_costBetween 10 = .ok (.ireturn, 1) := by decide +kernel
set_option maxRecDepth 20000 in
theorem ggX8_areNeighbours_X8_has : GoodIn wsX8_areNeighbours wsX8_has := goodIn_r _ [7, 8, 12, 13, 14, 15, 16, 17, 18, 19, 20, 21] rfl (by decide +kernel)
set_option maxRecDepth 20000 in
theorem gX8_areNeighbours_X8_has : GoodIn wsX8_areNeighbours (wsV RX8 58 RX8 yX8_has wsX8_has) := goodIn_app (goodIn_of _ (by decide +kernel)) ggX8_areNeighbours_X8_has
set_option maxRecDepth 20000 in
theorem ggX8_areNeighbours_X8_pair : GoodIn wsX8_areNeighbours wsX8_pair := goodIn_r _ [11] rfl (by decide +kernel)
set_option maxRecDepth 20000 in
theorem gX8_areNeighbours_X8_pair : GoodIn wsX8_areNeighbours (va_wsS RX8 62 yX8_pair wsX8_pair) := goodIn_app (goodIn_of _ (by decide +kernel)) ggX8_areNeighbours_X8_pair
theorem dX8_areNeighbours_0 : decode cX8_areNeighbours 0 = .ok (.aload_n 0, 1) := by decide +kernel
theorem dX8_areNeighbours_1 : decode cX8_areNeighbours 1 = .ok (.iload_n 1, 1) := by decide +kernel
theorem dX8_areNeighbours_2 : decode cX8_areNeighbours 2 = .ok (.invokevirtual 58, 3) := by decide +kernel
theorem dX8_areNeighbours_5 : decode cX8_areNeighbours 5 = .ok (.ifCond .eq 43, 3) := by decide +kernel
theorem dX8_areNeighbours_8 : decode cX8_areNeighbours 8 = .ok (.aload_n 0, 1) := by decide +kernel
theorem dX8_areNeighbours_9 : decode cX8_areNeighbours 9 = .ok (.iload_n 2, 1) := by decide +kernel
theorem dX8_areNeighbours_10 : decode cX8_areNeighbours 10 = .ok (.invokevirtual 58, 3) := by decide +kernel
theorem dX8_areNeighbours_13 : decode cX8_areNeighbours 13 = .ok (.ifCond .eq 35, 3) := by decide +kernel
theorem dX8_areNeighbours_16 : decode cX8_areNeighbours 16 = .ok (.aload_n 0, 1) := by decide +kernel
theorem dX8_areNeighbours_17 : decode cX8_areNeighbours 17 = .ok (.getfield 15, 3) := by decide +kernel
theorem dX8_areNeighbours_20 : decode cX8_areNeighbours 20 = .ok (.iload_n 1, 1) := by decide +kernel
theorem dX8_areNeighbours_21 : decode cX8_areNeighbours 21 = .ok (.iload_n 2, 1) := by decide +kernel
theorem dX8_areNeighbours_22 : decode cX8_areNeighbours 22 = .ok (.invokestatic 62, 3) := by decide +kernel
theorem dX8_areNeighbours_25 : decode cX8_areNeighbours 25 = .ok (.iaload, 1) := by decide +kernel
theorem dX8_areNeighbours_26 : decode cX8_areNeighbours 26 = .ok (.ifCond .le 22, 3) := by decide +kernel
theorem dX8_areNeighbours_29 : decode cX8_areNeighbours 29 = .ok (.aload_n 0, 1) := by decide +kernel
theorem dX8_areNeighbours_30 : decode cX8_areNeighbours 30 = .ok (.getfield 9, 3) := by decide +kernel
theorem dX8_areNeighbours_33 : decode cX8_areNeighbours 33 = .ok (.iload_n 1, 1) := by decide +kernel
theorem dX8_areNeighbours_34 : decode cX8_areNeighbours 34 = .ok (.iaload, 1) := by decide +kernel
theorem dX8_areNeighbours_35 : decode cX8_areNeighbours 35 = .ok (.aload_n 0, 1) := by decide +kernel
theorem dX8_areNeighbours_36 : decode cX8_areNeighbours 36 = .ok (.getfield 9, 3) := by decide +kernel
theorem dX8_areNeighbours_39 : decode cX8_areNeighbours 39 = .ok (.iload_n 2, 1) := by decide +kernel
theorem dX8_areNeighbours_40 : decode cX8_areNeighbours 40 = .ok (.iaload, 1) := by decide +kernel
theorem dX8_areNeighbours_41 : decode cX8_areNeighbours 41 = .ok (.if_icmp .ne 7, 3) := by decide +kernel
theorem dX8_areNeighbours_44 : decode cX8_areNeighbours 44 = .ok (.iconst 1, 1) := by decide +kernel
theorem dX8_areNeighbours_45 : decode cX8_areNeighbours 45 = .ok (.goto 4, 3) := by decide +kernel
theorem dX8_areNeighbours_48 : decode cX8_areNeighbours 48 = .ok (.iconst 0, 1) := by decide +kernel
theorem dX8_areNeighbours_49 : decode cX8_areNeighbours 49 = .ok (.ireturn, 1) := by decide +kernel
set_option maxRecDepth 20000 in
theorem ggX8_pageIn_X8_pair : GoodIn wsX8_pageIn wsX8_pair := goodIn_r _ [6] rfl (by decide +kernel)
set_option maxRecDepth 20000 in
theorem gX8_pageIn_X8_pair : GoodIn wsX8_pageIn (va_wsS RX8 62 yX8_pair wsX8_pair) := goodIn_app (goodIn_of _ (by decide +kernel)) ggX8_pageIn_X8_pair
set_option maxRecDepth 20000 in
theorem ggX8_pageIn_X1_numbered : GoodIn wsX8_pageIn wsX1_numbered := goodIn_r _ [11, 12, 13, 14, 15, 16, 17, 18, 19, 20, 21, 22, 23, 24, 25, 26, 27, 28, 29, 30, 31, 32, 33, 34, 35, 36, 37, 48, 49, 50, 51, 52] rfl (by decide +kernel)
set_option maxRecDepth 20000 in
theorem gX8_pageIn_X1_numbered : GoodIn wsX8_pageIn (wsV RX8 66 RX1 yX1_numbered wsX1_numbered) := goodIn_app (goodIn_of _ (by decide +kernel)) ggX8_pageIn_X1_numbered
theorem dX8_pageIn_0 : decode cX8_pageIn 0 = .ok (.aload_n 0, 1) := by decide +kernel
theorem dX8_pageIn_1 : decode cX8_pageIn 1 = .ok (.getfield 44, 3) := by decide +kernel
theorem dX8_pageIn_4 : decode cX8_pageIn 4 = .ok (.aload_n 0, 1) := by decide +kernel
theorem dX8_pageIn_5 : decode cX8_pageIn 5 = .ok (.getfield 18, 3) := by decide +kernel
theorem dX8_pageIn_8 : decode cX8_pageIn 8 = .ok (.iload_n 1, 1) := by decide +kernel
theorem dX8_pageIn_9 : decode cX8_pageIn 9 = .ok (.iload_n 2, 1) := by decide +kernel
theorem dX8_pageIn_10 : decode cX8_pageIn 10 = .ok (.invokestatic 62, 3) := by decide +kernel
theorem dX8_pageIn_13 : decode cX8_pageIn 13 = .ok (.iaload, 1) := by decide +kernel
theorem dX8_pageIn_14 : decode cX8_pageIn 14 = .ok (.invokevirtual 66, 3) := by decide +kernel
theorem dX8_pageIn_17 : decode cX8_pageIn 17 = .ok (.areturn, 1) := by decide +kernel
set_option maxRecDepth 20000 in
theorem ggX8_pageOfLetter_X5_pageOf : GoodIn wsX8_pageOfLetter wsX5_pageOf := goodIn_ca (goodIn_r _ [7, 8, 9, 10, 11, 6, 12, 13, 55, 56, 57] rfl (by decide +kernel)) (goodIn_sub (fun _ h => List.mem_cons_of_mem _ (List.mem_append_right _ h)) (by decide +kernel))
set_option maxRecDepth 20000 in
theorem gX8_pageOfLetter_X5_pageOf : GoodIn wsX8_pageOfLetter (wsV RX8 72 RX5 yX5_pageOf wsX5_pageOf) := goodIn_app (goodIn_of _ (by decide +kernel)) ggX8_pageOfLetter_X5_pageOf
set_option maxRecDepth 20000 in
theorem ggX8_pageOfLetter_X1_numbered : GoodIn wsX8_pageOfLetter wsX1_numbered := goodIn_r _ [18, 19, 20, 21, 22, 23, 24, 25, 26, 27, 28, 29, 30, 31, 32, 33, 34, 35, 36, 37, 38, 39, 40, 41, 42, 43, 44, 58, 59, 60, 61, 62] rfl (by decide +kernel)
set_option maxRecDepth 20000 in
theorem gX8_pageOfLetter_X1_numbered : GoodIn wsX8_pageOfLetter (wsV RX8 66 RX1 yX1_numbered wsX1_numbered) := goodIn_app (goodIn_of _ (by decide +kernel)) ggX8_pageOfLetter_X1_numbered
theorem dX8_pageOfLetter_0 : decode cX8_pageOfLetter 0 = .ok (.aload_n 0, 1) := by decide +kernel
theorem dX8_pageOfLetter_1 : decode cX8_pageOfLetter 1 = .ok (.getfield 44, 3) := by decide +kernel
theorem dX8_pageOfLetter_4 : decode cX8_pageOfLetter 4 = .ok (.aload_n 0, 1) := by decide +kernel
theorem dX8_pageOfLetter_5 : decode cX8_pageOfLetter 5 = .ok (.getfield 24, 3) := by decide +kernel
theorem dX8_pageOfLetter_8 : decode cX8_pageOfLetter 8 = .ok (.iload_n 1, 1) := by decide +kernel
theorem dX8_pageOfLetter_9 : decode cX8_pageOfLetter 9 = .ok (.invokevirtual 72, 3) := by decide +kernel
theorem dX8_pageOfLetter_12 : decode cX8_pageOfLetter 12 = .ok (.invokevirtual 66, 3) := by decide +kernel
theorem dX8_pageOfLetter_15 : decode cX8_pageOfLetter 15 = .ok (.areturn, 1) := by decide +kernel
theorem dX8_ageOf_0 : decode cX8_ageOf 0 = .ok (.aload_n 0, 1) := by decide +kernel
theorem dX8_ageOf_1 : decode cX8_ageOf 1 = .ok (.getfield 32, 3) := by decide +kernel
theorem dX8_ageOf_4 : decode cX8_ageOf 4 = .ok (.aload_n 1, 1) := by decide +kernel
theorem dX8_ageOf_5 : decode cX8_ageOf 5 = .ok (.getfield 76, 3) := by decide +kernel
theorem dX8_ageOf_8 : decode cX8_ageOf 8 = .ok (.isub, 1) := by decide +kernel
theorem dX8_ageOf_9 : decode cX8_ageOf 9 = .ok (.ireturn, 1) := by decide +kernel
set_option maxRecDepth 20000 in
theorem ggX8_neighboursOf_X8_areNeighbours : GoodIn wsX8_neighboursOf wsX8_areNeighbours := goodIn_ca (goodIn_r _ [6, 7, 8, 9, 10, 11, 5, 12, 1, 13, 14, 15, 16, 17, 18, 19, 20, 21, 22, 23, 24, 25] rfl (by decide +kernel)) (goodIn_sub (fun _ h => List.mem_cons_of_mem _ (List.mem_append_right _ h)) (by decide +kernel))
set_option maxRecDepth 20000 in
theorem gX8_neighboursOf_X8_areNeighbours : GoodIn wsX8_neighboursOf (wsV RX8 81 RX8 yX8_areNeighbours wsX8_areNeighbours) := goodIn_app (goodIn_of _ (by decide +kernel)) ggX8_neighboursOf_X8_areNeighbours
theorem dX8_neighboursOf_0 : decode cX8_neighboursOf 0 = .ok (.iconst 0, 1) := by decide +kernel
theorem dX8_neighboursOf_1 : decode cX8_neighboursOf 1 = .ok (.istore_n 2, 1) := by decide +kernel
theorem dX8_neighboursOf_2 : decode cX8_neighboursOf 2 = .ok (.iconst 0, 1) := by decide +kernel
theorem dX8_neighboursOf_3 : decode cX8_neighboursOf 3 = .ok (.istore_n 3, 1) := by decide +kernel
theorem dX8_neighboursOf_4 : decode cX8_neighboursOf 4 = .ok (.iload_n 3, 1) := by decide +kernel
theorem dX8_neighboursOf_5 : decode cX8_neighboursOf 5 = .ok (.aload_n 0, 1) := by decide +kernel
theorem dX8_neighboursOf_6 : decode cX8_neighboursOf 6 = .ok (.getfield 28, 3) := by decide +kernel
theorem dX8_neighboursOf_9 : decode cX8_neighboursOf 9 = .ok (.if_icmp .ge 21, 3) := by decide +kernel
theorem dX8_neighboursOf_12 : decode cX8_neighboursOf 12 = .ok (.aload_n 0, 1) := by decide +kernel
theorem dX8_neighboursOf_13 : decode cX8_neighboursOf 13 = .ok (.iload_n 1, 1) := by decide +kernel
theorem dX8_neighboursOf_14 : decode cX8_neighboursOf 14 = .ok (.iload_n 3, 1) := by decide +kernel
theorem dX8_neighboursOf_15 : decode cX8_neighboursOf 15 = .ok (.invokevirtual 81, 3) := by decide +kernel
theorem dX8_neighboursOf_18 : decode cX8_neighboursOf 18 = .ok (.ifCond .eq 6, 3) := by decide +kernel
theorem dX8_neighboursOf_21 : decode cX8_neighboursOf 21 = .ok (.iinc 2 1, 3) := by decide +kernel
theorem dX8_neighboursOf_24 : decode cX8_neighboursOf 24 = .ok (.iinc 3 1, 3) := by decide +kernel
theorem dX8_neighboursOf_27 : decode cX8_neighboursOf 27 = .ok (.goto (-23), 3) := by decide +kernel
theorem dX8_neighboursOf_30 : decode cX8_neighboursOf 30 = .ok (.iload_n 2, 1) := by decide +kernel
theorem dX8_neighboursOf_31 : decode cX8_neighboursOf 31 = .ok (.ireturn, 1) := by decide +kernel
set_option maxRecDepth 20000 in
theorem ggX8_canalsOf_X8_costBetween : GoodIn wsX8_canalsOf wsX8_costBetween := goodIn_ca (goodIn_r _ [6, 7, 8, 9, 5, 10, 11, 12, 13, 14, 15, 16, 17, 18, 19, 20] rfl (by decide +kernel)) (goodIn_sub (fun _ h => List.mem_cons_of_mem _ (List.mem_append_right _ h)) (by decide +kernel))
set_option maxRecDepth 20000 in
theorem gX8_canalsOf_X8_costBetween : GoodIn wsX8_canalsOf (wsV RX8 85 RX8 yX8_costBetween wsX8_costBetween) := goodIn_app (goodIn_of _ (by decide +kernel)) ggX8_canalsOf_X8_costBetween
theorem dX8_canalsOf_0 : decode cX8_canalsOf 0 = .ok (.iconst 0, 1) := by decide +kernel
theorem dX8_canalsOf_1 : decode cX8_canalsOf 1 = .ok (.istore_n 2, 1) := by decide +kernel
theorem dX8_canalsOf_2 : decode cX8_canalsOf 2 = .ok (.iconst 0, 1) := by decide +kernel
theorem dX8_canalsOf_3 : decode cX8_canalsOf 3 = .ok (.istore_n 3, 1) := by decide +kernel
theorem dX8_canalsOf_4 : decode cX8_canalsOf 4 = .ok (.iload_n 3, 1) := by decide +kernel
theorem dX8_canalsOf_5 : decode cX8_canalsOf 5 = .ok (.aload_n 0, 1) := by decide +kernel
theorem dX8_canalsOf_6 : decode cX8_canalsOf 6 = .ok (.getfield 28, 3) := by decide +kernel
theorem dX8_canalsOf_9 : decode cX8_canalsOf 9 = .ok (.if_icmp .ge 21, 3) := by decide +kernel
theorem dX8_canalsOf_12 : decode cX8_canalsOf 12 = .ok (.aload_n 0, 1) := by decide +kernel
theorem dX8_canalsOf_13 : decode cX8_canalsOf 13 = .ok (.iload_n 1, 1) := by decide +kernel
theorem dX8_canalsOf_14 : decode cX8_canalsOf 14 = .ok (.iload_n 3, 1) := by decide +kernel
theorem dX8_canalsOf_15 : decode cX8_canalsOf 15 = .ok (.invokevirtual 85, 3) := by decide +kernel
theorem dX8_canalsOf_18 : decode cX8_canalsOf 18 = .ok (.ifCond .le 6, 3) := by decide +kernel
theorem dX8_canalsOf_21 : decode cX8_canalsOf 21 = .ok (.iinc 2 1, 3) := by decide +kernel
theorem dX8_canalsOf_24 : decode cX8_canalsOf 24 = .ok (.iinc 3 1, 3) := by decide +kernel
theorem dX8_canalsOf_27 : decode cX8_canalsOf 27 = .ok (.goto (-23), 3) := by decide +kernel
theorem dX8_canalsOf_30 : decode cX8_canalsOf 30 = .ok (.iload_n 2, 1) := by decide +kernel
theorem dX8_canalsOf_31 : decode cX8_canalsOf 31 = .ok (.ireturn, 1) := by decide +kernel
set_option maxRecDepth 20000 in
theorem ggX8_pagesIn_X8_pageIn : GoodIn wsX8_pagesIn wsX8_pageIn := goodIn_ca (goodIn_r _ [6, 7, 8, 9, 10, 5, 11, 12, 13, 14, 15, 16, 17, 18, 19, 20, 21, 22, 23, 24, 25, 26, 27, 28, 29, 30, 31, 32, 33, 34, 35, 36, 37, 38, 39, 40, 41, 42, 49, 50, 51, 52, 53, 54, 55, 56, 57, 58, 59, 60, 61, 62, 63] rfl (by decide +kernel)) (goodIn_sub (fun _ h => List.mem_cons_of_mem _ (List.mem_append_right _ h)) (by decide +kernel))
set_option maxRecDepth 20000 in
theorem gX8_pagesIn_X8_pageIn : GoodIn wsX8_pagesIn (wsV RX8 88 RX8 yX8_pageIn wsX8_pageIn) := goodIn_app (goodIn_of _ (by decide +kernel)) ggX8_pagesIn_X8_pageIn
set_option maxRecDepth 20000 in
theorem ggX8_pagesIn_X6_isBlank : GoodIn wsX8_pagesIn wsX6_isBlank := goodIn_r _ [47, 48, 64, 65, 66, 67] rfl (by decide +kernel)
set_option maxRecDepth 20000 in
theorem gX8_pagesIn_X6_isBlank : GoodIn wsX8_pagesIn (wsV RX8 92 RX6 yX6_isBlank wsX6_isBlank) := goodIn_app (goodIn_of _ (by decide +kernel)) ggX8_pagesIn_X6_isBlank
theorem dX8_pagesIn_0 : decode cX8_pagesIn 0 = .ok (.iconst 0, 1) := by decide +kernel
theorem dX8_pagesIn_1 : decode cX8_pagesIn 1 = .ok (.istore_n 2, 1) := by decide +kernel
theorem dX8_pagesIn_2 : decode cX8_pagesIn 2 = .ok (.iconst 0, 1) := by decide +kernel
theorem dX8_pagesIn_3 : decode cX8_pagesIn 3 = .ok (.istore_n 3, 1) := by decide +kernel
theorem dX8_pagesIn_4 : decode cX8_pagesIn 4 = .ok (.iload_n 3, 1) := by decide +kernel
theorem dX8_pagesIn_5 : decode cX8_pagesIn 5 = .ok (.aload_n 0, 1) := by decide +kernel
theorem dX8_pagesIn_6 : decode cX8_pagesIn 6 = .ok (.getfield 28, 3) := by decide +kernel
theorem dX8_pagesIn_9 : decode cX8_pagesIn 9 = .ok (.if_icmp .ge 24, 3) := by decide +kernel
theorem dX8_pagesIn_12 : decode cX8_pagesIn 12 = .ok (.aload_n 0, 1) := by decide +kernel
theorem dX8_pagesIn_13 : decode cX8_pagesIn 13 = .ok (.iload_n 1, 1) := by decide +kernel
theorem dX8_pagesIn_14 : decode cX8_pagesIn 14 = .ok (.iload_n 3, 1) := by decide +kernel
theorem dX8_pagesIn_15 : decode cX8_pagesIn 15 = .ok (.invokevirtual 88, 3) := by decide +kernel
theorem dX8_pagesIn_18 : decode cX8_pagesIn 18 = .ok (.invokevirtual 92, 3) := by decide +kernel
theorem dX8_pagesIn_21 : decode cX8_pagesIn 21 = .ok (.ifCond .ne 6, 3) := by decide +kernel
theorem dX8_pagesIn_24 : decode cX8_pagesIn 24 = .ok (.iinc 2 1, 3) := by decide +kernel
theorem dX8_pagesIn_27 : decode cX8_pagesIn 27 = .ok (.iinc 3 1, 3) := by decide +kernel
theorem dX8_pagesIn_30 : decode cX8_pagesIn 30 = .ok (.goto (-26), 3) := by decide +kernel
theorem dX8_pagesIn_33 : decode cX8_pagesIn 33 = .ok (.iload_n 2, 1) := by decide +kernel
theorem dX8_pagesIn_34 : decode cX8_pagesIn 34 = .ok (.ireturn, 1) := by decide +kernel
set_option maxRecDepth 20000 in
theorem ggX8_countCanals_X8_canalsOf : GoodIn wsX8_countCanals wsX8_canalsOf := goodIn_ca (goodIn_r _ [6, 1, 7, 8, 9, 5, 10, 11, 12, 13, 14, 15, 16, 17, 18, 19, 20, 21, 22, 23, 24] rfl (by decide +kernel)) (goodIn_sub (fun _ h => List.mem_cons_of_mem _ (List.mem_append_right _ h)) (by decide +kernel))
set_option maxRecDepth 20000 in
theorem gX8_countCanals_X8_canalsOf : GoodIn wsX8_countCanals (wsV RX8 96 RX8 yX8_canalsOf wsX8_canalsOf) := goodIn_app (goodIn_of _ (by decide +kernel)) ggX8_countCanals_X8_canalsOf
theorem dX8_countCanals_0 : decode cX8_countCanals 0 = .ok (.iconst 0, 1) := by decide +kernel
theorem dX8_countCanals_1 : decode cX8_countCanals 1 = .ok (.istore_n 1, 1) := by decide +kernel
theorem dX8_countCanals_2 : decode cX8_countCanals 2 = .ok (.iconst 0, 1) := by decide +kernel
theorem dX8_countCanals_3 : decode cX8_countCanals 3 = .ok (.istore_n 2, 1) := by decide +kernel
theorem dX8_countCanals_4 : decode cX8_countCanals 4 = .ok (.iload_n 2, 1) := by decide +kernel
theorem dX8_countCanals_5 : decode cX8_countCanals 5 = .ok (.aload_n 0, 1) := by decide +kernel
theorem dX8_countCanals_6 : decode cX8_countCanals 6 = .ok (.getfield 28, 3) := by decide +kernel
theorem dX8_countCanals_9 : decode cX8_countCanals 9 = .ok (.if_icmp .ge 17, 3) := by decide +kernel
theorem dX8_countCanals_12 : decode cX8_countCanals 12 = .ok (.iload_n 1, 1) := by decide +kernel
theorem dX8_countCanals_13 : decode cX8_countCanals 13 = .ok (.aload_n 0, 1) := by decide +kernel
theorem dX8_countCanals_14 : decode cX8_countCanals 14 = .ok (.iload_n 2, 1) := by decide +kernel
theorem dX8_countCanals_15 : decode cX8_countCanals 15 = .ok (.invokevirtual 96, 3) := by decide +kernel
theorem dX8_countCanals_18 : decode cX8_countCanals 18 = .ok (.iadd, 1) := by decide +kernel
theorem dX8_countCanals_19 : decode cX8_countCanals 19 = .ok (.istore_n 1, 1) := by decide +kernel
theorem dX8_countCanals_20 : decode cX8_countCanals 20 = .ok (.iinc 2 1, 3) := by decide +kernel
theorem dX8_countCanals_23 : decode cX8_countCanals 23 = .ok (.goto (-19), 3) := by decide +kernel
theorem dX8_countCanals_26 : decode cX8_countCanals 26 = .ok (.iload_n 1, 1) := by decide +kernel
theorem dX8_countCanals_27 : decode cX8_countCanals 27 = .ok (.iconst 2, 1) := by decide +kernel
theorem dX8_countCanals_28 : decode cX8_countCanals 28 = .ok (.idiv, 1) := by decide +kernel
theorem dX8_countCanals_29 : decode cX8_countCanals 29 = .ok (.ireturn, 1) := by decide +kernel
set_option maxRecDepth 20000 in
theorem ggX8_sumOfCosts_X8_costBetween : GoodIn wsX8_sumOfCosts wsX8_costBetween := goodIn_ca (goodIn_r _ [6, 7, 8, 9, 5, 10, 11, 12, 13, 14, 15, 16, 17, 18, 19, 20] rfl (by decide +kernel)) (goodIn_sub (fun _ h => List.mem_cons_of_mem _ (List.mem_append_right _ h)) (by decide +kernel))
set_option maxRecDepth 20000 in
theorem gX8_sumOfCosts_X8_costBetween : GoodIn wsX8_sumOfCosts (wsV RX8 85 RX8 yX8_costBetween wsX8_costBetween) := goodIn_app (goodIn_of _ (by decide +kernel)) ggX8_sumOfCosts_X8_costBetween
theorem dX8_sumOfCosts_0 : decode cX8_sumOfCosts 0 = .ok (.iconst 0, 1) := by decide +kernel
theorem dX8_sumOfCosts_1 : decode cX8_sumOfCosts 1 = .ok (.istore_n 1, 1) := by decide +kernel
theorem dX8_sumOfCosts_2 : decode cX8_sumOfCosts 2 = .ok (.iconst 0, 1) := by decide +kernel
theorem dX8_sumOfCosts_3 : decode cX8_sumOfCosts 3 = .ok (.istore_n 2, 1) := by decide +kernel
theorem dX8_sumOfCosts_4 : decode cX8_sumOfCosts 4 = .ok (.iload_n 2, 1) := by decide +kernel
theorem dX8_sumOfCosts_5 : decode cX8_sumOfCosts 5 = .ok (.aload_n 0, 1) := by decide +kernel
theorem dX8_sumOfCosts_6 : decode cX8_sumOfCosts 6 = .ok (.getfield 28, 3) := by decide +kernel
theorem dX8_sumOfCosts_9 : decode cX8_sumOfCosts 9 = .ok (.if_icmp .ge 31, 3) := by decide +kernel
theorem dX8_sumOfCosts_12 : decode cX8_sumOfCosts 12 = .ok (.iconst 0, 1) := by decide +kernel
theorem dX8_sumOfCosts_13 : decode cX8_sumOfCosts 13 = .ok (.istore_n 3, 1) := by decide +kernel
theorem dX8_sumOfCosts_14 : decode cX8_sumOfCosts 14 = .ok (.iload_n 3, 1) := by decide +kernel
theorem dX8_sumOfCosts_15 : decode cX8_sumOfCosts 15 = .ok (.iload_n 2, 1) := by decide +kernel
theorem dX8_sumOfCosts_16 : decode cX8_sumOfCosts 16 = .ok (.if_icmp .ge 18, 3) := by decide +kernel
theorem dX8_sumOfCosts_19 : decode cX8_sumOfCosts 19 = .ok (.iload_n 1, 1) := by decide +kernel
theorem dX8_sumOfCosts_20 : decode cX8_sumOfCosts 20 = .ok (.aload_n 0, 1) := by decide +kernel
theorem dX8_sumOfCosts_21 : decode cX8_sumOfCosts 21 = .ok (.iload_n 2, 1) := by decide +kernel
theorem dX8_sumOfCosts_22 : decode cX8_sumOfCosts 22 = .ok (.iload_n 3, 1) := by decide +kernel
theorem dX8_sumOfCosts_23 : decode cX8_sumOfCosts 23 = .ok (.invokevirtual 85, 3) := by decide +kernel
theorem dX8_sumOfCosts_26 : decode cX8_sumOfCosts 26 = .ok (.iadd, 1) := by decide +kernel
theorem dX8_sumOfCosts_27 : decode cX8_sumOfCosts 27 = .ok (.istore_n 1, 1) := by decide +kernel
theorem dX8_sumOfCosts_28 : decode cX8_sumOfCosts 28 = .ok (.iinc 3 1, 3) := by decide +kernel
theorem dX8_sumOfCosts_31 : decode cX8_sumOfCosts 31 = .ok (.goto (-17), 3) := by decide +kernel
theorem dX8_sumOfCosts_34 : decode cX8_sumOfCosts 34 = .ok (.iinc 2 1, 3) := by decide +kernel
theorem dX8_sumOfCosts_37 : decode cX8_sumOfCosts 37 = .ok (.goto (-33), 3) := by decide +kernel
theorem dX8_sumOfCosts_40 : decode cX8_sumOfCosts 40 = .ok (.iload_n 1, 1) := by decide +kernel
theorem dX8_sumOfCosts_41 : decode cX8_sumOfCosts 41 = .ok (.ireturn, 1) := by decide +kernel
set_option maxRecDepth 20000 in
theorem ggX8_countPages_X8_pagesIn : GoodIn wsX8_countPages wsX8_pagesIn := goodIn_ca (goodIn_r _ [6, 1, 7, 8, 9, 5, 10, 11, 12, 13, 14, 15, 16, 17, 18, 19, 20, 21, 22, 23, 24, 25, 26, 27, 28, 29, 30, 31, 32, 33, 34, 35, 36, 37, 38, 39, 40, 41, 42, 43, 44, 45, 46, 47, 48, 49, 50, 51, 52, 53, 54, 55, 56, 57, 58, 59, 60, 61, 62, 63, 64, 65, 66, 67, 68, 69, 70, 71] rfl (by decide +kernel)) (goodIn_sub (fun _ h => List.mem_cons_of_mem _ (List.mem_append_right _ h)) (by decide +kernel))
set_option maxRecDepth 20000 in
theorem gX8_countPages_X8_pagesIn : GoodIn wsX8_countPages (wsV RX8 99 RX8 yX8_pagesIn wsX8_pagesIn) := goodIn_app (goodIn_of _ (by decide +kernel)) ggX8_countPages_X8_pagesIn
theorem dX8_countPages_0 : decode cX8_countPages 0 = .ok (.iconst 0, 1) := by decide +kernel
theorem dX8_countPages_1 : decode cX8_countPages 1 = .ok (.istore_n 1, 1) := by decide +kernel
theorem dX8_countPages_2 : decode cX8_countPages 2 = .ok (.iconst 0, 1) := by decide +kernel
theorem dX8_countPages_3 : decode cX8_countPages 3 = .ok (.istore_n 2, 1) := by decide +kernel
theorem dX8_countPages_4 : decode cX8_countPages 4 = .ok (.iload_n 2, 1) := by decide +kernel
theorem dX8_countPages_5 : decode cX8_countPages 5 = .ok (.aload_n 0, 1) := by decide +kernel
theorem dX8_countPages_6 : decode cX8_countPages 6 = .ok (.getfield 28, 3) := by decide +kernel
theorem dX8_countPages_9 : decode cX8_countPages 9 = .ok (.if_icmp .ge 17, 3) := by decide +kernel
theorem dX8_countPages_12 : decode cX8_countPages 12 = .ok (.iload_n 1, 1) := by decide +kernel
theorem dX8_countPages_13 : decode cX8_countPages 13 = .ok (.aload_n 0, 1) := by decide +kernel
theorem dX8_countPages_14 : decode cX8_countPages 14 = .ok (.iload_n 2, 1) := by decide +kernel
theorem dX8_countPages_15 : decode cX8_countPages 15 = .ok (.invokevirtual 99, 3) := by decide +kernel
theorem dX8_countPages_18 : decode cX8_countPages 18 = .ok (.iadd, 1) := by decide +kernel
theorem dX8_countPages_19 : decode cX8_countPages 19 = .ok (.istore_n 1, 1) := by decide +kernel
theorem dX8_countPages_20 : decode cX8_countPages 20 = .ok (.iinc 2 1, 3) := by decide +kernel
theorem dX8_countPages_23 : decode cX8_countPages 23 = .ok (.goto (-19), 3) := by decide +kernel
theorem dX8_countPages_26 : decode cX8_countPages 26 = .ok (.iload_n 1, 1) := by decide +kernel
theorem dX8_countPages_27 : decode cX8_countPages 27 = .ok (.ireturn, 1) := by decide +kernel
set_option maxRecDepth 20000 in
theorem ggX8_countAhead_X8_neighboursOf : GoodIn wsX8_countAhead wsX8_neighboursOf := goodIn_ca (goodIn_r _ [6, 1, 7, 8, 9, 5, 10, 11, 12, 13, 14, 15, 16, 17, 18, 19, 57, 58, 59, 60, 61, 62, 63, 64, 65, 66] rfl (by decide +kernel)) (goodIn_sub (fun _ h => List.mem_cons_of_mem _ (List.mem_append_right _ h)) (by decide +kernel))
set_option maxRecDepth 20000 in
theorem gX8_countAhead_X8_neighboursOf : GoodIn wsX8_countAhead (wsV RX8 102 RX8 yX8_neighboursOf wsX8_neighboursOf) := goodIn_app (goodIn_of _ (by decide +kernel)) ggX8_countAhead_X8_neighboursOf
set_option maxRecDepth 20000 in
theorem ggX8_countAhead_X8_pageIn : GoodIn wsX8_countAhead wsX8_pageIn := goodIn_ca (goodIn_r _ [23, 24, 25, 17, 18, 5, 19, 26, 27, 28, 29, 30, 31, 32, 33, 34, 35, 36, 37, 38, 39, 40, 41, 42, 43, 44, 45, 46, 47, 48, 49, 50, 51, 52, 53, 54, 55, 56, 57, 58, 59, 60, 61, 62, 63, 64, 65, 66, 71, 72, 73, 74, 75] rfl (by decide +kernel)) (goodIn_sub (fun _ h => List.mem_cons_of_mem _ (List.mem_append_right _ h)) (by decide +kernel))
set_option maxRecDepth 20000 in
theorem gX8_countAhead_X8_pageIn : GoodIn wsX8_countAhead (wsV RX8 88 RX8 yX8_pageIn wsX8_pageIn) := goodIn_app (goodIn_of _ (by decide +kernel)) ggX8_countAhead_X8_pageIn
theorem dX8_countAhead_0 : decode cX8_countAhead 0 = .ok (.iconst 0, 1) := by decide +kernel
theorem dX8_countAhead_1 : decode cX8_countAhead 1 = .ok (.istore_n 2, 1) := by decide +kernel
theorem dX8_countAhead_2 : decode cX8_countAhead 2 = .ok (.iconst 0, 1) := by decide +kernel
theorem dX8_countAhead_3 : decode cX8_countAhead 3 = .ok (.istore_n 3, 1) := by decide +kernel
theorem dX8_countAhead_4 : decode cX8_countAhead 4 = .ok (.iload_n 3, 1) := by decide +kernel
theorem dX8_countAhead_5 : decode cX8_countAhead 5 = .ok (.aload_n 0, 1) := by decide +kernel
theorem dX8_countAhead_6 : decode cX8_countAhead 6 = .ok (.getfield 28, 3) := by decide +kernel
theorem dX8_countAhead_9 : decode cX8_countAhead 9 = .ok (.if_icmp .ge 66, 3) := by decide +kernel
theorem dX8_countAhead_12 : decode cX8_countAhead 12 = .ok (.aload_n 0, 1) := by decide +kernel
theorem dX8_countAhead_13 : decode cX8_countAhead 13 = .ok (.iload_n 3, 1) := by decide +kernel
theorem dX8_countAhead_14 : decode cX8_countAhead 14 = .ok (.invokevirtual 102, 3) := by decide +kernel
theorem dX8_countAhead_17 : decode cX8_countAhead 17 = .ok (.aload_n 0, 1) := by decide +kernel
theorem dX8_countAhead_18 : decode cX8_countAhead 18 = .ok (.iload_n 1, 1) := by decide +kernel
theorem dX8_countAhead_19 : decode cX8_countAhead 19 = .ok (.invokevirtual 102, 3) := by decide +kernel
theorem dX8_countAhead_22 : decode cX8_countAhead 22 = .ok (.isub, 1) := by decide +kernel
theorem dX8_countAhead_23 : decode cX8_countAhead 23 = .ok (.istore 4, 2) := by decide +kernel
theorem dX8_countAhead_25 : decode cX8_countAhead 25 = .ok (.iload 4, 2) := by decide +kernel
theorem dX8_countAhead_27 : decode cX8_countAhead 27 = .ok (.ifCond .ne 24, 3) := by decide +kernel
theorem dX8_countAhead_30 : decode cX8_countAhead 30 = .ok (.aload_n 0, 1) := by decide +kernel
theorem dX8_countAhead_31 : decode cX8_countAhead 31 = .ok (.iload_n 3, 1) := by decide +kernel
theorem dX8_countAhead_32 : decode cX8_countAhead 32 = .ok (.iload_n 3, 1) := by decide +kernel
theorem dX8_countAhead_33 : decode cX8_countAhead 33 = .ok (.invokevirtual 88, 3) := by decide +kernel
theorem dX8_countAhead_36 : decode cX8_countAhead 36 = .ok (.getfield 105, 3) := by decide +kernel
theorem dX8_countAhead_39 : decode cX8_countAhead 39 = .ok (.aload_n 0, 1) := by decide +kernel
theorem dX8_countAhead_40 : decode cX8_countAhead 40 = .ok (.iload_n 1, 1) := by decide +kernel
theorem dX8_countAhead_41 : decode cX8_countAhead 41 = .ok (.iload_n 1, 1) := by decide +kernel
theorem dX8_countAhead_42 : decode cX8_countAhead 42 = .ok (.invokevirtual 88, 3) := by decide +kernel
theorem dX8_countAhead_45 : decode cX8_countAhead 45 = .ok (.getfield 105, 3) := by decide +kernel
theorem dX8_countAhead_48 : decode cX8_countAhead 48 = .ok (.isub, 1) := by decide +kernel
theorem dX8_countAhead_49 : decode cX8_countAhead 49 = .ok (.istore 4, 2) := by decide +kernel
theorem dX8_countAhead_51 : decode cX8_countAhead 51 = .ok (.iload 4, 2) := by decide +kernel
theorem dX8_countAhead_53 : decode cX8_countAhead 53 = .ok (.ifCond .ne 8, 3) := by decide +kernel
theorem dX8_countAhead_56 : decode cX8_countAhead 56 = .ok (.iload_n 1, 1) := by decide +kernel
theorem dX8_countAhead_57 : decode cX8_countAhead 57 = .ok (.iload_n 3, 1) := by decide +kernel
theorem dX8_countAhead_58 : decode cX8_countAhead 58 = .ok (.isub, 1) := by decide +kernel
theorem dX8_countAhead_59 : decode cX8_countAhead 59 = .ok (.istore 4, 2) := by decide +kernel
theorem dX8_countAhead_61 : decode cX8_countAhead 61 = .ok (.iload 4, 2) := by decide +kernel
theorem dX8_countAhead_63 : decode cX8_countAhead 63 = .ok (.ifCond .le 6, 3) := by decide +kernel
theorem dX8_countAhead_66 : decode cX8_countAhead 66 = .ok (.iinc 2 1, 3) := by decide +kernel
theorem dX8_countAhead_69 : decode cX8_countAhead 69 = .ok (.iinc 3 1, 3) := by decide +kernel
theorem dX8_countAhead_72 : decode cX8_countAhead 72 = .ok (.goto (-68), 3) := by decide +kernel
theorem dX8_countAhead_75 : decode cX8_countAhead 75 = .ok (.iload_n 2, 1) := by decide +kernel
theorem dX8_countAhead_76 : decode cX8_countAhead 76 = .ok (.ireturn, 1) := by decide +kernel
set_option maxRecDepth 20000 in
theorem ggX8_haveSamePages_X8_pageIn : GoodIn wsX8_haveSamePages wsX8_pageIn := goodIn_ca (goodIn_r _ [7, 8, 9, 10, 11, 6, 12, 13, 14, 15, 16, 17, 18, 19, 20, 21, 22, 23, 24, 25, 26, 27, 28, 29, 30, 31, 32, 33, 34, 35, 36, 37, 38, 39, 40, 41, 42, 43, 44, 45, 46, 47, 48, 49, 50, 51, 52, 53, 58, 59, 60, 61, 62] rfl (by decide +kernel)) (goodIn_sub (fun _ h => List.mem_cons_of_mem _ (List.mem_append_right _ h)) (by decide +kernel))
set_option maxRecDepth 20000 in
theorem gX8_haveSamePages_X8_pageIn : GoodIn wsX8_haveSamePages (wsV RX8 88 RX8 yX8_pageIn wsX8_pageIn) := goodIn_app (goodIn_of _ (by decide +kernel)) ggX8_haveSamePages_X8_pageIn
theorem dX8_haveSamePages_0 : decode cX8_haveSamePages 0 = .ok (.iconst 0, 1) := by decide +kernel
theorem dX8_haveSamePages_1 : decode cX8_haveSamePages 1 = .ok (.istore 4, 2) := by decide +kernel
theorem dX8_haveSamePages_3 : decode cX8_haveSamePages 3 = .ok (.iload 4, 2) := by decide +kernel
theorem dX8_haveSamePages_5 : decode cX8_haveSamePages 5 = .ok (.aload_n 0, 1) := by decide +kernel
theorem dX8_haveSamePages_6 : decode cX8_haveSamePages 6 = .ok (.getfield 28, 3) := by decide +kernel
theorem dX8_haveSamePages_9 : decode cX8_haveSamePages 9 = .ok (.if_icmp .ge 45, 3) := by decide +kernel
theorem dX8_haveSamePages_12 : decode cX8_haveSamePages 12 = .ok (.aload_n 0, 1) := by decide +kernel
theorem dX8_haveSamePages_13 : decode cX8_haveSamePages 13 = .ok (.getfield 9, 3) := by decide +kernel
theorem dX8_haveSamePages_16 : decode cX8_haveSamePages 16 = .ok (.iload 4, 2) := by decide +kernel
theorem dX8_haveSamePages_18 : decode cX8_haveSamePages 18 = .ok (.iaload, 1) := by decide +kernel
theorem dX8_haveSamePages_19 : decode cX8_haveSamePages 19 = .ok (.iload_n 3, 1) := by decide +kernel
theorem dX8_haveSamePages_20 : decode cX8_haveSamePages 20 = .ok (.if_icmp .ne 28, 3) := by decide +kernel
theorem dX8_haveSamePages_23 : decode cX8_haveSamePages 23 = .ok (.aload_n 0, 1) := by decide +kernel
theorem dX8_haveSamePages_24 : decode cX8_haveSamePages 24 = .ok (.iload_n 1, 1) := by decide +kernel
theorem dX8_haveSamePages_25 : decode cX8_haveSamePages 25 = .ok (.iload 4, 2) := by decide +kernel
theorem dX8_haveSamePages_27 : decode cX8_haveSamePages 27 = .ok (.invokevirtual 88, 3) := by decide +kernel
theorem dX8_haveSamePages_30 : decode cX8_haveSamePages 30 = .ok (.getfield 105, 3) := by decide +kernel
theorem dX8_haveSamePages_33 : decode cX8_haveSamePages 33 = .ok (.aload_n 0, 1) := by decide +kernel
theorem dX8_haveSamePages_34 : decode cX8_haveSamePages 34 = .ok (.iload_n 2, 1) := by decide +kernel
theorem dX8_haveSamePages_35 : decode cX8_haveSamePages 35 = .ok (.iload 4, 2) := by decide +kernel
theorem dX8_haveSamePages_37 : decode cX8_haveSamePages 37 = .ok (.invokevirtual 88, 3) := by decide +kernel
theorem dX8_haveSamePages_40 : decode cX8_haveSamePages 40 = .ok (.getfield 105, 3) := by decide +kernel
theorem dX8_haveSamePages_43 : decode cX8_haveSamePages 43 = .ok (.if_icmp .eq 5, 3) := by decide +kernel
theorem dX8_haveSamePages_46 : decode cX8_haveSamePages 46 = .ok (.iconst 0, 1) := by decide +kernel
theorem dX8_haveSamePages_47 : decode cX8_haveSamePages 47 = .ok (.ireturn, 1) := by decide +kernel
theorem dX8_haveSamePages_48 : decode cX8_haveSamePages 48 = .ok (.iinc 4 1, 3) := by decide +kernel
theorem dX8_haveSamePages_51 : decode cX8_haveSamePages 51 = .ok (.goto (-48), 3) := by decide +kernel
theorem dX8_haveSamePages_54 : decode cX8_haveSamePages 54 = .ok (.iconst 1, 1) := by decide +kernel
theorem dX8_haveSamePages_55 : decode cX8_haveSamePages 55 = .ok (.ireturn, 1) := by decide +kernel
set_option maxRecDepth 20000 in
theorem ggX8_allHaveGreatest_X8_pageIn : GoodIn wsX8_allHaveGreatest wsX8_pageIn := goodIn_ca (goodIn_r _ [11, 12, 13, 14, 15, 10, 16, 17, 18, 19, 20, 21, 22, 23, 24, 25, 26, 27, 28, 29, 30, 31, 32, 33, 34, 35, 36, 37, 38, 39, 40, 41, 42, 43, 44, 45, 46, 47, 48, 49, 50, 51, 52, 53, 54, 55, 56, 57, 62, 63, 64, 65, 66] rfl (by decide +kernel)) (goodIn_sub (fun _ h => List.mem_cons_of_mem _ (List.mem_append_right _ h)) (by decide +kernel))
set_option maxRecDepth 20000 in
theorem gX8_allHaveGreatest_X8_pageIn : GoodIn wsX8_allHaveGreatest (wsV RX8 88 RX8 yX8_pageIn wsX8_pageIn) := goodIn_app (goodIn_of _ (by decide +kernel)) ggX8_allHaveGreatest_X8_pageIn
theorem dX8_allHaveGreatest_0 : decode cX8_allHaveGreatest 0 = .ok (.iconst 0, 1) := by decide +kernel
theorem dX8_allHaveGreatest_1 : decode cX8_allHaveGreatest 1 = .ok (.istore_n 3, 1) := by decide +kernel
theorem dX8_allHaveGreatest_2 : decode cX8_allHaveGreatest 2 = .ok (.iconst 0, 1) := by decide +kernel
theorem dX8_allHaveGreatest_3 : decode cX8_allHaveGreatest 3 = .ok (.istore 4, 2) := by decide +kernel
theorem dX8_allHaveGreatest_5 : decode cX8_allHaveGreatest 5 = .ok (.iload 4, 2) := by decide +kernel
theorem dX8_allHaveGreatest_7 : decode cX8_allHaveGreatest 7 = .ok (.aload_n 0, 1) := by decide +kernel
theorem dX8_allHaveGreatest_8 : decode cX8_allHaveGreatest 8 = .ok (.getfield 28, 3) := by decide +kernel
theorem dX8_allHaveGreatest_11 : decode cX8_allHaveGreatest 11 = .ok (.if_icmp .ge 35, 3) := by decide +kernel
theorem dX8_allHaveGreatest_14 : decode cX8_allHaveGreatest 14 = .ok (.aload_n 0, 1) := by decide +kernel
theorem dX8_allHaveGreatest_15 : decode cX8_allHaveGreatest 15 = .ok (.getfield 9, 3) := by decide +kernel
theorem dX8_allHaveGreatest_18 : decode cX8_allHaveGreatest 18 = .ok (.iload 4, 2) := by decide +kernel
theorem dX8_allHaveGreatest_20 : decode cX8_allHaveGreatest 20 = .ok (.iaload, 1) := by decide +kernel
theorem dX8_allHaveGreatest_21 : decode cX8_allHaveGreatest 21 = .ok (.iload_n 2, 1) := by decide +kernel
theorem dX8_allHaveGreatest_22 : decode cX8_allHaveGreatest 22 = .ok (.if_icmp .ne 18, 3) := by decide +kernel
theorem dX8_allHaveGreatest_25 : decode cX8_allHaveGreatest 25 = .ok (.iload_n 3, 1) := by decide +kernel
theorem dX8_allHaveGreatest_26 : decode cX8_allHaveGreatest 26 = .ok (.aload_n 0, 1) := by decide +kernel
theorem dX8_allHaveGreatest_27 : decode cX8_allHaveGreatest 27 = .ok (.iload 4, 2) := by decide +kernel
theorem dX8_allHaveGreatest_29 : decode cX8_allHaveGreatest 29 = .ok (.iload_n 1, 1) := by decide +kernel
theorem dX8_allHaveGreatest_30 : decode cX8_allHaveGreatest 30 = .ok (.invokevirtual 88, 3) := by decide +kernel
theorem dX8_allHaveGreatest_33 : decode cX8_allHaveGreatest 33 = .ok (.getfield 105, 3) := by decide +kernel
theorem dX8_allHaveGreatest_36 : decode cX8_allHaveGreatest 36 = .ok (.invokestatic 108, 3) := by decide +kernel
theorem dX8_allHaveGreatest_39 : decode cX8_allHaveGreatest 39 = .ok (.istore_n 3, 1) := by decide +kernel
theorem dX8_allHaveGreatest_40 : decode cX8_allHaveGreatest 40 = .ok (.iinc 4 1, 3) := by decide +kernel
theorem dX8_allHaveGreatest_43 : decode cX8_allHaveGreatest 43 = .ok (.goto (-38), 3) := by decide +kernel
theorem dX8_allHaveGreatest_46 : decode cX8_allHaveGreatest 46 = .ok (.iconst 0, 1) := by decide +kernel
theorem dX8_allHaveGreatest_47 : decode cX8_allHaveGreatest 47 = .ok (.istore 4, 2) := by decide +kernel
theorem dX8_allHaveGreatest_49 : decode cX8_allHaveGreatest 49 = .ok (.iload 4, 2) := by decide +kernel
theorem dX8_allHaveGreatest_51 : decode cX8_allHaveGreatest 51 = .ok (.aload_n 0, 1) := by decide +kernel
theorem dX8_allHaveGreatest_52 : decode cX8_allHaveGreatest 52 = .ok (.getfield 28, 3) := by decide +kernel
theorem dX8_allHaveGreatest_55 : decode cX8_allHaveGreatest 55 = .ok (.if_icmp .ge 36, 3) := by decide +kernel
theorem dX8_allHaveGreatest_58 : decode cX8_allHaveGreatest 58 = .ok (.aload_n 0, 1) := by decide +kernel
theorem dX8_allHaveGreatest_59 : decode cX8_allHaveGreatest 59 = .ok (.getfield 9, 3) := by decide +kernel
theorem dX8_allHaveGreatest_62 : decode cX8_allHaveGreatest 62 = .ok (.iload 4, 2) := by decide +kernel
theorem dX8_allHaveGreatest_64 : decode cX8_allHaveGreatest 64 = .ok (.iaload, 1) := by decide +kernel
theorem dX8_allHaveGreatest_65 : decode cX8_allHaveGreatest 65 = .ok (.iload_n 2, 1) := by decide +kernel
theorem dX8_allHaveGreatest_66 : decode cX8_allHaveGreatest 66 = .ok (.if_icmp .ne 19, 3) := by decide +kernel
theorem dX8_allHaveGreatest_69 : decode cX8_allHaveGreatest 69 = .ok (.aload_n 0, 1) := by decide +kernel
theorem dX8_allHaveGreatest_70 : decode cX8_allHaveGreatest 70 = .ok (.iload 4, 2) := by decide +kernel
theorem dX8_allHaveGreatest_72 : decode cX8_allHaveGreatest 72 = .ok (.iload_n 1, 1) := by decide +kernel
theorem dX8_allHaveGreatest_73 : decode cX8_allHaveGreatest 73 = .ok (.invokevirtual 88, 3) := by decide +kernel
theorem dX8_allHaveGreatest_76 : decode cX8_allHaveGreatest 76 = .ok (.getfield 105, 3) := by decide +kernel
theorem dX8_allHaveGreatest_79 : decode cX8_allHaveGreatest 79 = .ok (.iload_n 3, 1) := by decide +kernel
theorem dX8_allHaveGreatest_80 : decode cX8_allHaveGreatest 80 = .ok (.if_icmp .ge 5, 3) := by decide +kernel
theorem dX8_allHaveGreatest_83 : decode cX8_allHaveGreatest 83 = .ok (.iconst 0, 1) := by decide +kernel
theorem dX8_allHaveGreatest_84 : decode cX8_allHaveGreatest 84 = .ok (.ireturn, 1) := by decide +kernel
theorem dX8_allHaveGreatest_85 : decode cX8_allHaveGreatest 85 = .ok (.iinc 4 1, 3) := by decide +kernel
theorem dX8_allHaveGreatest_88 : decode cX8_allHaveGreatest 88 = .ok (.goto (-39), 3) := by decide +kernel
theorem dX8_allHaveGreatest_91 : decode cX8_allHaveGreatest 91 = .ok (.iconst 1, 1) := by decide +kernel
theorem dX8_allHaveGreatest_92 : decode cX8_allHaveGreatest 92 = .ok (.ireturn, 1) := by decide +kernel
set_option maxRecDepth 20000 in
theorem ggX8_against_Jx29ce0_ordinal_8abf5 : GoodIn wsX8_against wsJx29ce0_ordinal_8abf5 := goodIn_r _ [9, 10] rfl (by decide +kernel)
set_option maxRecDepth 20000 in
theorem gX8_against_Jx29ce0_ordinal_8abf5_u118X2 : GoodIn wsX8_against (va_wsU RX8 118 RX2 "java/lang/Enum" ⟨"CanalMaps$Change", "ordinal", "()I"⟩ yJx29ce0_ordinal_8abf5 wsJx29ce0_ordinal_8abf5) := goodIn_app (goodIn_of _ (by decide +kernel)) ggX8_against_Jx29ce0_ordinal_8abf5
set_option maxRecDepth 20000 in
theorem ggX8_against_X8_because : GoodIn wsX8_against wsX8_because := goodIn_r _ [14, 15, 16, 17, 18, 19, 20, 21, 22, 23, 24, 25, 26, 69, 70, 71] rfl (by decide +kernel)
set_option maxRecDepth 20000 in
theorem gX8_against_X8_because : GoodIn wsX8_against (va_wsS RX8 124 yX8_because wsX8_because) := goodIn_app (goodIn_of _ (by decide +kernel)) ggX8_against_X8_because
set_option maxRecDepth 20000 in
theorem ggX8_against_X8_againstCanal : GoodIn wsX8_against wsX8_againstCanal := goodIn_ca (goodIn_r _ [30, 31, 32, 33, 13, 34, 35, 36, 37, 38, 2, 11, 12, 14, 15, 16, 17, 18, 19, 20, 21, 22, 23, 24, 25, 26, 39, 40, 41, 42, 43, 44, 45, 46, 56, 57, 58, 59, 60, 61, 62, 63, 64, 65, 69, 70, 71] rfl (by decide +kernel)) (goodIn_sub (fun _ h => List.mem_cons_of_mem _ (List.mem_append_right _ h)) (by decide +kernel))
set_option maxRecDepth 20000 in
theorem gX8_against_X8_againstCanal : GoodIn wsX8_against (wsV RX8 128 RX8 yX8_againstCanal wsX8_againstCanal) := goodIn_app (goodIn_of _ (by decide +kernel)) ggX8_against_X8_againstCanal
set_option maxRecDepth 20000 in
theorem ggX8_against_X8_againstClosing : GoodIn wsX8_against wsX8_againstClosing := goodIn_ca (goodIn_r _ [50, 31, 32, 33, 13, 34, 35, 36, 37, 38, 2, 11, 12, 14, 15, 16, 17, 18, 19, 20, 21, 22, 23, 24, 25, 26, 39, 40, 41, 42, 43, 44, 45, 46, 56, 57, 58, 59, 60, 61, 62, 63, 64, 65, 69, 70, 71] rfl (by decide +kernel)) (goodIn_sub (fun _ h => List.mem_cons_of_mem _ (List.mem_append_right _ h)) (by decide +kernel))
set_option maxRecDepth 20000 in
theorem gX8_against_X8_againstClosing : GoodIn wsX8_against (wsV RX8 132 RX8 yX8_againstClosing wsX8_againstClosing) := goodIn_app (goodIn_of _ (by decide +kernel)) ggX8_against_X8_againstClosing
set_option maxRecDepth 20000 in
theorem ggX8_against_X8_againstDistrict : GoodIn wsX8_against wsX8_againstDistrict := goodIn_ca (goodIn_r _ [54, 55, 35, 36, 37, 13, 38, 2, 11, 12, 14, 15, 16, 17, 18, 19, 20, 21, 22, 23, 24, 25, 26, 56, 57, 58, 59, 60, 61, 62, 63, 64, 65, 69, 70, 71] rfl (by decide +kernel)) (goodIn_sub (fun _ h => List.mem_cons_of_mem _ (List.mem_append_right _ h)) (by decide +kernel))
set_option maxRecDepth 20000 in
theorem gX8_against_X8_againstDistrict : GoodIn wsX8_against (wsV RX8 135 RX8 yX8_againstDistrict wsX8_againstDistrict) := goodIn_app (goodIn_of _ (by decide +kernel)) ggX8_against_X8_againstDistrict
theorem dX8_against_0 : decode cX8_against 0 = .ok (.getstatic 113, 3) := by decide +kernel
theorem dX8_against_3 : decode cX8_against 3 = .ok (.aload_n 1, 1) := by decide +kernel
theorem dX8_against_4 : decode cX8_against 4 = .ok (.invokevirtual 118, 3) := by decide +kernel
theorem dX8_against_7 : decode cX8_against 7 = .ok (.iaload, 1) := by decide +kernel
theorem dX8_against_8 : decode cX8_against 8 = .ok (.tableswitch 100 1 5 #[36, 56, 65, 72, 79], 36) := by decide +kernel
theorem dX8_against_44 : decode cX8_against 44 = .ok (.aload_n 0, 1) := by decide +kernel
theorem dX8_against_45 : decode cX8_against 45 = .ok (.getfield 28, 3) := by decide +kernel
theorem dX8_against_48 : decode cX8_against 48 = .ok (.bipush 6, 2) := by decide +kernel
theorem dX8_against_50 : decode cX8_against 50 = .ok (.if_icmp .ge 7, 3) := by decide +kernel
theorem dX8_against_53 : decode cX8_against 53 = .ok (.aconst_null, 1) := by decide +kernel
theorem dX8_against_54 : decode cX8_against 54 = .ok (.goto 9, 3) := by decide +kernel
theorem dX8_against_57 : decode cX8_against 57 = .ok (.iconst 2, 1) := by decide +kernel
theorem dX8_against_58 : decode cX8_against 58 = .ok (.bipush 6, 2) := by decide +kernel
theorem dX8_against_60 : decode cX8_against 60 = .ok (.invokestatic 124, 3) := by decide +kernel
theorem dX8_against_63 : decode cX8_against 63 = .ok (.areturn, 1) := by decide +kernel
theorem dX8_against_64 : decode cX8_against 64 = .ok (.aload_n 0, 1) := by decide +kernel
theorem dX8_against_65 : decode cX8_against 65 = .ok (.iload_n 2, 1) := by decide +kernel
theorem dX8_against_66 : decode cX8_against 66 = .ok (.iload_n 3, 1) := by decide +kernel
theorem dX8_against_67 : decode cX8_against 67 = .ok (.iload 4, 2) := by decide +kernel
theorem dX8_against_69 : decode cX8_against 69 = .ok (.invokevirtual 128, 3) := by decide +kernel
theorem dX8_against_72 : decode cX8_against 72 = .ok (.areturn, 1) := by decide +kernel
theorem dX8_against_73 : decode cX8_against 73 = .ok (.aload_n 0, 1) := by decide +kernel
theorem dX8_against_74 : decode cX8_against 74 = .ok (.iload_n 2, 1) := by decide +kernel
theorem dX8_against_75 : decode cX8_against 75 = .ok (.iload_n 3, 1) := by decide +kernel
theorem dX8_against_76 : decode cX8_against 76 = .ok (.invokevirtual 132, 3) := by decide +kernel
theorem dX8_against_79 : decode cX8_against 79 = .ok (.areturn, 1) := by decide +kernel
theorem dX8_against_80 : decode cX8_against 80 = .ok (.aload_n 0, 1) := by decide +kernel
theorem dX8_against_81 : decode cX8_against 81 = .ok (.iload_n 2, 1) := by decide +kernel
theorem dX8_against_82 : decode cX8_against 82 = .ok (.iload_n 3, 1) := by decide +kernel
theorem dX8_against_83 : decode cX8_against 83 = .ok (.invokevirtual 135, 3) := by decide +kernel
theorem dX8_against_86 : decode cX8_against 86 = .ok (.areturn, 1) := by decide +kernel
theorem dX8_against_87 : decode cX8_against 87 = .ok (.aload_n 0, 1) := by decide +kernel
theorem dX8_against_88 : decode cX8_against 88 = .ok (.getfield 24, 3) := by decide +kernel
theorem dX8_against_91 : decode cX8_against 91 = .ok (.getfield 138, 3) := by decide +kernel
theorem dX8_against_94 : decode cX8_against 94 = .ok (.ifCond .le 7, 3) := by decide +kernel
theorem dX8_against_97 : decode cX8_against 97 = .ok (.aconst_null, 1) := by decide +kernel
theorem dX8_against_98 : decode cX8_against 98 = .ok (.goto 9, 3) := by decide +kernel
theorem dX8_against_101 : decode cX8_against 101 = .ok (.bipush 7, 2) := by decide +kernel
theorem dX8_against_103 : decode cX8_against 103 = .ok (.iconst 0, 1) := by decide +kernel
theorem dX8_against_104 : decode cX8_against 104 = .ok (.invokestatic 124, 3) := by decide +kernel
theorem dX8_against_107 : decode cX8_against 107 = .ok (.areturn, 1) := by decide +kernel
theorem dX8_against_108 : decode cX8_against 108 = .ok (.iload_n 2, 1) := by decide +kernel
theorem dX8_against_109 : decode cX8_against 109 = .ok (.iconst 1, 1) := by decide +kernel
theorem dX8_against_110 : decode cX8_against 110 = .ok (.if_icmp .lt 13, 3) := by decide +kernel
theorem dX8_against_113 : decode cX8_against 113 = .ok (.iload_n 2, 1) := by decide +kernel
theorem dX8_against_114 : decode cX8_against 114 = .ok (.bipush 99, 2) := by decide +kernel
theorem dX8_against_116 : decode cX8_against 116 = .ok (.if_icmp .gt 7, 3) := by decide +kernel
theorem dX8_against_119 : decode cX8_against 119 = .ok (.aconst_null, 1) := by decide +kernel
theorem dX8_against_120 : decode cX8_against 120 = .ok (.goto 8, 3) := by decide +kernel
theorem dX8_against_123 : decode cX8_against 123 = .ok (.iconst 1, 1) := by decide +kernel
theorem dX8_against_124 : decode cX8_against 124 = .ok (.iconst 0, 1) := by decide +kernel
theorem dX8_against_125 : decode cX8_against 125 = .ok (.invokestatic 124, 3) := by decide +kernel
theorem dX8_against_128 : decode cX8_against 128 = .ok (.areturn, 1) := by decide +kernel
set_option maxRecDepth 20000 in
theorem ggX8_againstPair_X8_has : GoodIn wsX8_againstPair wsX8_has := goodIn_r _ [5, 6, 22, 23, 24, 25, 26, 27, 28, 29, 30, 31] rfl (by decide +kernel)
set_option maxRecDepth 20000 in
theorem gX8_againstPair_X8_has : GoodIn wsX8_againstPair (wsV RX8 58 RX8 yX8_has wsX8_has) := goodIn_app (goodIn_of _ (by decide +kernel)) ggX8_againstPair_X8_has
set_option maxRecDepth 20000 in
theorem ggX8_againstPair_X8_because : GoodIn wsX8_againstPair wsX8_because := goodIn_r _ [9, 10, 11, 12, 13, 14, 15, 16, 17, 18, 19, 20, 21, 32, 33, 34] rfl (by decide +kernel)
set_option maxRecDepth 20000 in
theorem gX8_againstPair_X8_because : GoodIn wsX8_againstPair (va_wsS RX8 124 yX8_because wsX8_because) := goodIn_app (goodIn_of _ (by decide +kernel)) ggX8_againstPair_X8_because
theorem dX8_againstPair_0 : decode cX8_againstPair 0 = .ok (.aload_n 0, 1) := by decide +kernel
theorem dX8_againstPair_1 : decode cX8_againstPair 1 = .ok (.iload_n 1, 1) := by decide +kernel
theorem dX8_againstPair_2 : decode cX8_againstPair 2 = .ok (.invokevirtual 58, 3) := by decide +kernel
theorem dX8_againstPair_5 : decode cX8_againstPair 5 = .ok (.ifCond .ne 9, 3) := by decide +kernel
theorem dX8_againstPair_8 : decode cX8_againstPair 8 = .ok (.iconst 3, 1) := by decide +kernel
theorem dX8_againstPair_9 : decode cX8_againstPair 9 = .ok (.iload_n 1, 1) := by decide +kernel
theorem dX8_againstPair_10 : decode cX8_againstPair 10 = .ok (.invokestatic 124, 3) := by decide +kernel
theorem dX8_againstPair_13 : decode cX8_againstPair 13 = .ok (.areturn, 1) := by decide +kernel
theorem dX8_againstPair_14 : decode cX8_againstPair 14 = .ok (.aload_n 0, 1) := by decide +kernel
theorem dX8_againstPair_15 : decode cX8_againstPair 15 = .ok (.iload_n 2, 1) := by decide +kernel
theorem dX8_againstPair_16 : decode cX8_againstPair 16 = .ok (.invokevirtual 58, 3) := by decide +kernel
theorem dX8_againstPair_19 : decode cX8_againstPair 19 = .ok (.ifCond .ne 9, 3) := by decide +kernel
theorem dX8_againstPair_22 : decode cX8_againstPair 22 = .ok (.iconst 3, 1) := by decide +kernel
theorem dX8_againstPair_23 : decode cX8_againstPair 23 = .ok (.iload_n 2, 1) := by decide +kernel
theorem dX8_againstPair_24 : decode cX8_againstPair 24 = .ok (.invokestatic 124, 3) := by decide +kernel
theorem dX8_againstPair_27 : decode cX8_againstPair 27 = .ok (.areturn, 1) := by decide +kernel
theorem dX8_againstPair_28 : decode cX8_againstPair 28 = .ok (.iload_n 1, 1) := by decide +kernel
theorem dX8_againstPair_29 : decode cX8_againstPair 29 = .ok (.iload_n 2, 1) := by decide +kernel
theorem dX8_againstPair_30 : decode cX8_againstPair 30 = .ok (.if_icmp .ne 11, 3) := by decide +kernel
theorem dX8_againstPair_33 : decode cX8_againstPair 33 = .ok (.iconst 4, 1) := by decide +kernel
theorem dX8_againstPair_34 : decode cX8_againstPair 34 = .ok (.iload_n 1, 1) := by decide +kernel
theorem dX8_againstPair_35 : decode cX8_againstPair 35 = .ok (.invokestatic 124, 3) := by decide +kernel
theorem dX8_againstPair_38 : decode cX8_againstPair 38 = .ok (.goto 4, 3) := by decide +kernel
theorem dX8_againstPair_41 : decode cX8_againstPair 41 = .ok (.aconst_null, 1) := by decide +kernel
theorem dX8_againstPair_42 : decode cX8_againstPair 42 = .ok (.areturn, 1) := by decide +kernel
set_option maxRecDepth 20000 in
theorem ggX8_againstCanal_X8_againstPair : GoodIn wsX8_againstCanal wsX8_againstPair := goodIn_r _ [5, 6, 7, 8, 4, 9, 10, 11, 12, 13, 14, 15, 16, 17, 18, 19, 20, 21, 22, 23, 24, 25, 34, 35, 36, 37, 38, 39, 40, 41, 42, 43, 44, 45, 46] rfl (by decide +kernel)
set_option maxRecDepth 20000 in
theorem gX8_againstCanal_X8_againstPair : GoodIn wsX8_againstCanal (wsV RX8 141 RX8 yX8_againstPair wsX8_againstPair) := goodIn_app (goodIn_of _ (by decide +kernel)) ggX8_againstCanal_X8_againstPair
set_option maxRecDepth 20000 in
theorem ggX8_againstCanal_X8_because : GoodIn wsX8_againstCanal wsX8_because := goodIn_r _ [13, 14, 15, 16, 17, 18, 19, 20, 21, 22, 23, 24, 25, 44, 45, 46] rfl (by decide +kernel)
set_option maxRecDepth 20000 in
theorem gX8_againstCanal_X8_because : GoodIn wsX8_againstCanal (va_wsS RX8 124 yX8_because wsX8_because) := goodIn_app (goodIn_of _ (by decide +kernel)) ggX8_againstCanal_X8_because
set_option maxRecDepth 20000 in
theorem ggX8_againstCanal_X8_costBetween : GoodIn wsX8_againstCanal wsX8_costBetween := goodIn_ca (goodIn_r _ [29, 30, 31, 32, 4, 33, 34, 35, 36, 37, 38, 39, 40, 41, 42, 43] rfl (by decide +kernel)) (goodIn_sub (fun _ h => List.mem_cons_of_mem _ (List.mem_append_right _ h)) (by decide +kernel))
set_option maxRecDepth 20000 in
theorem gX8_againstCanal_X8_costBetween : GoodIn wsX8_againstCanal (wsV RX8 85 RX8 yX8_costBetween wsX8_costBetween) := goodIn_app (goodIn_of _ (by decide +kernel)) ggX8_againstCanal_X8_costBetween
theorem dX8_againstCanal_0 : decode cX8_againstCanal 0 = .ok (.aload_n 0, 1) := by decide +kernel
theorem dX8_againstCanal_1 : decode cX8_againstCanal 1 = .ok (.iload_n 1, 1) := by decide +kernel
theorem dX8_againstCanal_2 : decode cX8_againstCanal 2 = .ok (.iload_n 2, 1) := by decide +kernel
theorem dX8_againstCanal_3 : decode cX8_againstCanal 3 = .ok (.invokevirtual 141, 3) := by decide +kernel
theorem dX8_againstCanal_6 : decode cX8_againstCanal 6 = .ok (.astore 4, 2) := by decide +kernel
theorem dX8_againstCanal_8 : decode cX8_againstCanal 8 = .ok (.aload 4, 2) := by decide +kernel
theorem dX8_againstCanal_10 : decode cX8_againstCanal 10 = .ok (.ifnull 6, 3) := by decide +kernel
theorem dX8_againstCanal_13 : decode cX8_againstCanal 13 = .ok (.aload 4, 2) := by decide +kernel
theorem dX8_againstCanal_15 : decode cX8_againstCanal 15 = .ok (.areturn, 1) := by decide +kernel
theorem dX8_againstCanal_16 : decode cX8_againstCanal 16 = .ok (.iload_n 3, 1) := by decide +kernel
theorem dX8_againstCanal_17 : decode cX8_againstCanal 17 = .ok (.iconst 1, 1) := by decide +kernel
theorem dX8_againstCanal_18 : decode cX8_againstCanal 18 = .ok (.if_icmp .lt 9, 3) := by decide +kernel
theorem dX8_againstCanal_21 : decode cX8_againstCanal 21 = .ok (.iload_n 3, 1) := by decide +kernel
theorem dX8_againstCanal_22 : decode cX8_againstCanal 22 = .ok (.bipush 9, 2) := by decide +kernel
theorem dX8_againstCanal_24 : decode cX8_againstCanal 24 = .ok (.if_icmp .le 9, 3) := by decide +kernel
theorem dX8_againstCanal_27 : decode cX8_againstCanal 27 = .ok (.iconst 1, 1) := by decide +kernel
theorem dX8_againstCanal_28 : decode cX8_againstCanal 28 = .ok (.iconst 0, 1) := by decide +kernel
theorem dX8_againstCanal_29 : decode cX8_againstCanal 29 = .ok (.invokestatic 124, 3) := by decide +kernel
theorem dX8_againstCanal_32 : decode cX8_againstCanal 32 = .ok (.areturn, 1) := by decide +kernel
theorem dX8_againstCanal_33 : decode cX8_againstCanal 33 = .ok (.aload_n 0, 1) := by decide +kernel
theorem dX8_againstCanal_34 : decode cX8_againstCanal 34 = .ok (.iload_n 1, 1) := by decide +kernel
theorem dX8_againstCanal_35 : decode cX8_againstCanal 35 = .ok (.iload_n 2, 1) := by decide +kernel
theorem dX8_againstCanal_36 : decode cX8_againstCanal 36 = .ok (.invokevirtual 85, 3) := by decide +kernel
theorem dX8_againstCanal_39 : decode cX8_againstCanal 39 = .ok (.iload_n 3, 1) := by decide +kernel
theorem dX8_againstCanal_40 : decode cX8_againstCanal 40 = .ok (.if_icmp .ne 11, 3) := by decide +kernel
theorem dX8_againstCanal_43 : decode cX8_againstCanal 43 = .ok (.iconst 5, 1) := by decide +kernel
theorem dX8_againstCanal_44 : decode cX8_againstCanal 44 = .ok (.iconst 0, 1) := by decide +kernel
theorem dX8_againstCanal_45 : decode cX8_againstCanal 45 = .ok (.invokestatic 124, 3) := by decide +kernel
theorem dX8_againstCanal_48 : decode cX8_againstCanal 48 = .ok (.goto 4, 3) := by decide +kernel
theorem dX8_againstCanal_51 : decode cX8_againstCanal 51 = .ok (.aconst_null, 1) := by decide +kernel
theorem dX8_againstCanal_52 : decode cX8_againstCanal 52 = .ok (.areturn, 1) := by decide +kernel
set_option maxRecDepth 20000 in
theorem ggX8_againstClosing_X8_againstPair : GoodIn wsX8_againstClosing wsX8_againstPair := goodIn_r _ [5, 6, 7, 8, 4, 9, 10, 11, 12, 13, 14, 15, 16, 17, 18, 19, 20, 21, 22, 23, 24, 25, 34, 35, 36, 37, 38, 39, 40, 41, 42, 43, 44, 45, 46] rfl (by decide +kernel)
set_option maxRecDepth 20000 in
theorem gX8_againstClosing_X8_againstPair : GoodIn wsX8_againstClosing (wsV RX8 141 RX8 yX8_againstPair wsX8_againstPair) := goodIn_app (goodIn_of _ (by decide +kernel)) ggX8_againstClosing_X8_againstPair
set_option maxRecDepth 20000 in
theorem ggX8_againstClosing_X8_costBetween : GoodIn wsX8_againstClosing wsX8_costBetween := goodIn_ca (goodIn_r _ [29, 30, 31, 32, 4, 33, 34, 35, 36, 37, 38, 39, 40, 41, 42, 43] rfl (by decide +kernel)) (goodIn_sub (fun _ h => List.mem_cons_of_mem _ (List.mem_append_right _ h)) (by decide +kernel))
set_option maxRecDepth 20000 in
theorem gX8_againstClosing_X8_costBetween : GoodIn wsX8_againstClosing (wsV RX8 85 RX8 yX8_costBetween wsX8_costBetween) := goodIn_app (goodIn_of _ (by decide +kernel)) ggX8_againstClosing_X8_costBetween
set_option maxRecDepth 20000 in
theorem ggX8_againstClosing_X8_because : GoodIn wsX8_againstClosing wsX8_because := goodIn_r _ [13, 14, 15, 16, 17, 18, 19, 20, 21, 22, 23, 24, 25, 44, 45, 46] rfl (by decide +kernel)
set_option maxRecDepth 20000 in
theorem gX8_againstClosing_X8_because : GoodIn wsX8_againstClosing (va_wsS RX8 124 yX8_because wsX8_because) := goodIn_app (goodIn_of _ (by decide +kernel)) ggX8_againstClosing_X8_because
theorem dX8_againstClosing_0 : decode cX8_againstClosing 0 = .ok (.aload_n 0, 1) := by decide +kernel
theorem dX8_againstClosing_1 : decode cX8_againstClosing 1 = .ok (.iload_n 1, 1) := by decide +kernel
theorem dX8_againstClosing_2 : decode cX8_againstClosing 2 = .ok (.iload_n 2, 1) := by decide +kernel
theorem dX8_againstClosing_3 : decode cX8_againstClosing 3 = .ok (.invokevirtual 141, 3) := by decide +kernel
theorem dX8_againstClosing_6 : decode cX8_againstClosing 6 = .ok (.astore_n 3, 1) := by decide +kernel
theorem dX8_againstClosing_7 : decode cX8_againstClosing 7 = .ok (.aload_n 3, 1) := by decide +kernel
theorem dX8_againstClosing_8 : decode cX8_againstClosing 8 = .ok (.ifnull 5, 3) := by decide +kernel
theorem dX8_againstClosing_11 : decode cX8_againstClosing 11 = .ok (.aload_n 3, 1) := by decide +kernel
theorem dX8_againstClosing_12 : decode cX8_againstClosing 12 = .ok (.areturn, 1) := by decide +kernel
theorem dX8_againstClosing_13 : decode cX8_againstClosing 13 = .ok (.aload_n 0, 1) := by decide +kernel
theorem dX8_againstClosing_14 : decode cX8_againstClosing 14 = .ok (.iload_n 1, 1) := by decide +kernel
theorem dX8_againstClosing_15 : decode cX8_againstClosing 15 = .ok (.iload_n 2, 1) := by decide +kernel
theorem dX8_againstClosing_16 : decode cX8_againstClosing 16 = .ok (.invokevirtual 85, 3) := by decide +kernel
theorem dX8_againstClosing_19 : decode cX8_againstClosing 19 = .ok (.ifCond .ne 12, 3) := by decide +kernel
theorem dX8_againstClosing_22 : decode cX8_againstClosing 22 = .ok (.bipush 6, 2) := by decide +kernel
theorem dX8_againstClosing_24 : decode cX8_againstClosing 24 = .ok (.iconst 0, 1) := by decide +kernel
theorem dX8_againstClosing_25 : decode cX8_againstClosing 25 = .ok (.invokestatic 124, 3) := by decide +kernel
theorem dX8_againstClosing_28 : decode cX8_againstClosing 28 = .ok (.goto 4, 3) := by decide +kernel
theorem dX8_againstClosing_31 : decode cX8_againstClosing 31 = .ok (.aconst_null, 1) := by decide +kernel
theorem dX8_againstClosing_32 : decode cX8_againstClosing 32 = .ok (.areturn, 1) := by decide +kernel
set_option maxRecDepth 20000 in
theorem ggX8_againstDistrict_X8_has : GoodIn wsX8_againstDistrict wsX8_has := goodIn_r _ [6, 7, 23, 24, 25, 26, 27, 28, 29, 30, 31, 32] rfl (by decide +kernel)
set_option maxRecDepth 20000 in
theorem gX8_againstDistrict_X8_has : GoodIn wsX8_againstDistrict (wsV RX8 58 RX8 yX8_has wsX8_has) := goodIn_app (goodIn_of _ (by decide +kernel)) ggX8_againstDistrict_X8_has
set_option maxRecDepth 20000 in
theorem ggX8_againstDistrict_X8_because : GoodIn wsX8_againstDistrict wsX8_because := goodIn_r _ [10, 11, 12, 13, 14, 15, 16, 17, 18, 19, 20, 21, 22, 33, 34, 35] rfl (by decide +kernel)
set_option maxRecDepth 20000 in
theorem gX8_againstDistrict_X8_because : GoodIn wsX8_againstDistrict (va_wsS RX8 124 yX8_because wsX8_because) := goodIn_app (goodIn_of _ (by decide +kernel)) ggX8_againstDistrict_X8_because
theorem dX8_againstDistrict_0 : decode cX8_againstDistrict 0 = .ok (.aload_n 0, 1) := by decide +kernel
theorem dX8_againstDistrict_1 : decode cX8_againstDistrict 1 = .ok (.iload_n 1, 1) := by decide +kernel
theorem dX8_againstDistrict_2 : decode cX8_againstDistrict 2 = .ok (.invokevirtual 58, 3) := by decide +kernel
theorem dX8_againstDistrict_5 : decode cX8_againstDistrict 5 = .ok (.ifCond .ne 9, 3) := by decide +kernel
theorem dX8_againstDistrict_8 : decode cX8_againstDistrict 8 = .ok (.iconst 3, 1) := by decide +kernel
theorem dX8_againstDistrict_9 : decode cX8_againstDistrict 9 = .ok (.iload_n 1, 1) := by decide +kernel
theorem dX8_againstDistrict_10 : decode cX8_againstDistrict 10 = .ok (.invokestatic 124, 3) := by decide +kernel
theorem dX8_againstDistrict_13 : decode cX8_againstDistrict 13 = .ok (.areturn, 1) := by decide +kernel
theorem dX8_againstDistrict_14 : decode cX8_againstDistrict 14 = .ok (.iload_n 2, 1) := by decide +kernel
theorem dX8_againstDistrict_15 : decode cX8_againstDistrict 15 = .ok (.ifCond .lt 8, 3) := by decide +kernel
theorem dX8_againstDistrict_18 : decode cX8_againstDistrict 18 = .ok (.iload_n 2, 1) := by decide +kernel
theorem dX8_againstDistrict_19 : decode cX8_againstDistrict 19 = .ok (.iconst 3, 1) := by decide +kernel
theorem dX8_againstDistrict_20 : decode cX8_againstDistrict 20 = .ok (.if_icmp .lt 9, 3) := by decide +kernel
theorem dX8_againstDistrict_23 : decode cX8_againstDistrict 23 = .ok (.iconst 1, 1) := by decide +kernel
theorem dX8_againstDistrict_24 : decode cX8_againstDistrict 24 = .ok (.iconst 0, 1) := by decide +kernel
theorem dX8_againstDistrict_25 : decode cX8_againstDistrict 25 = .ok (.invokestatic 124, 3) := by decide +kernel
theorem dX8_againstDistrict_28 : decode cX8_againstDistrict 28 = .ok (.areturn, 1) := by decide +kernel
theorem dX8_againstDistrict_29 : decode cX8_againstDistrict 29 = .ok (.aload_n 0, 1) := by decide +kernel
theorem dX8_againstDistrict_30 : decode cX8_againstDistrict 30 = .ok (.getfield 9, 3) := by decide +kernel
theorem dX8_againstDistrict_33 : decode cX8_againstDistrict 33 = .ok (.iload_n 1, 1) := by decide +kernel
theorem dX8_againstDistrict_34 : decode cX8_againstDistrict 34 = .ok (.iaload, 1) := by decide +kernel
theorem dX8_againstDistrict_35 : decode cX8_againstDistrict 35 = .ok (.iload_n 2, 1) := by decide +kernel
theorem dX8_againstDistrict_36 : decode cX8_againstDistrict 36 = .ok (.if_icmp .ne 11, 3) := by decide +kernel
theorem dX8_againstDistrict_39 : decode cX8_againstDistrict 39 = .ok (.iconst 5, 1) := by decide +kernel
theorem dX8_againstDistrict_40 : decode cX8_againstDistrict 40 = .ok (.iconst 0, 1) := by decide +kernel
theorem dX8_againstDistrict_41 : decode cX8_againstDistrict 41 = .ok (.invokestatic 124, 3) := by decide +kernel
theorem dX8_againstDistrict_44 : decode cX8_againstDistrict 44 = .ok (.goto 4, 3) := by decide +kernel
theorem dX8_againstDistrict_47 : decode cX8_againstDistrict 47 = .ok (.aconst_null, 1) := by decide +kernel
theorem dX8_againstDistrict_48 : decode cX8_againstDistrict 48 = .ok (.areturn, 1) := by decide +kernel
set_option maxRecDepth 20000 in
theorem ggX8_because_X7_init : GoodIn wsX8_because wsX7_init := goodIn_r _ [6, 7, 8, 9, 10, 11, 12, 13, 14, 15] rfl (by decide +kernel)
set_option maxRecDepth 20000 in
theorem gX8_because_X7_init : GoodIn wsX8_because (wsX7_init) := ggX8_because_X7_init
theorem dX8_because_0 : decode cX8_because 0 = .ok (.new 144, 3) := by decide +kernel
theorem dX8_because_3 : decode cX8_because 3 = .ok (.dup, 1) := by decide +kernel
theorem dX8_because_4 : decode cX8_because 4 = .ok (.iload_n 0, 1) := by decide +kernel
theorem dX8_because_5 : decode cX8_because 5 = .ok (.iload_n 1, 1) := by decide +kernel
theorem dX8_because_6 : decode cX8_because 6 = .ok (.aconst_null, 1) := by decide +kernel
theorem dX8_because_7 : decode cX8_because 7 = .ok (.invokespecial 146, 3) := by decide +kernel
theorem dX8_because_10 : decode cX8_because 10 = .ok (.areturn, 1) := by decide +kernel
set_option maxRecDepth 20000 in
theorem ggX8_carryOut_Jx29ce0_ordinal_8abf5 : GoodIn wsX8_carryOut wsJx29ce0_ordinal_8abf5 := goodIn_r _ [8, 9] rfl (by decide +kernel)
set_option maxRecDepth 20000 in
theorem gX8_carryOut_Jx29ce0_ordinal_8abf5_u118X2 : GoodIn wsX8_carryOut (va_wsU RX8 118 RX2 "java/lang/Enum" ⟨"CanalMaps$Change", "ordinal", "()I"⟩ yJx29ce0_ordinal_8abf5 wsJx29ce0_ordinal_8abf5) := goodIn_app (goodIn_of _ (by decide +kernel)) ggX8_carryOut_Jx29ce0_ordinal_8abf5
set_option maxRecDepth 20000 in
theorem ggX8_carryOut_X8_addSurveyor : GoodIn wsX8_carryOut wsX8_addSurveyor := goodIn_ca (goodIn_r _ [14, 15, 16, 17, 18, 13, 19, 20, 21, 22, 23, 24, 25, 26, 27, 28, 29, 30, 31, 32, 33, 34, 35, 36, 37, 38, 39, 40, 41, 42, 43, 44, 45, 46, 47, 48, 49, 50, 51, 52, 53, 54, 55, 56, 57, 58, 59, 60, 61, 62, 63, 64, 65, 66, 67, 68, 69, 70, 71, 72, 73, 74, 75, 76, 77, 78, 79, 80, 81, 82, 83, 84, 85, 86, 87, 88, 89, 90, 91, 92, 93, 94, 95, 96, 97, 98, 99, 100, 101, 102, 103, 104, 105, 106, 107, 108, 109, 110, 111, 112, 113, 114, 115, 116, 117, 118, 119, 120, 121, 122, 123, 124, 125, 126, 127, 128, 129, 130, 131, 132, 133, 134, 135, 136, 137, 138, 139, 140, 141, 142, 143, 144, 145, 146, 147, 148, 149, 150, 151, 2, 152, 153, 154, 155, 156, 157, 158, 159, 160, 161, 162, 163, 164, 165, 166, 167, 168, 169, 241, 242, 243, 244, 245, 246, 247, 248, 249, 250, 254, 255, 256, 257, 258, 259, 260, 261, 262, 251, 252, 253] rfl (by decide +kernel)) (goodIn_sub (fun _ h => List.mem_cons_of_mem _ (List.mem_append_right _ h)) (by decide +kernel))
set_option maxRecDepth 20000 in
theorem gX8_carryOut_X8_addSurveyor : GoodIn wsX8_carryOut (wsV RX8 149 RX8 yX8_addSurveyor wsX8_addSurveyor) := goodIn_app (goodIn_of _ (by decide +kernel)) ggX8_carryOut_X8_addSurveyor
set_option maxRecDepth 20000 in
theorem ggX8_carryOut_X8_setCanal : GoodIn wsX8_carryOut wsX8_setCanal := goodIn_ca (goodIn_r _ [173, 32, 174, 142, 116, 143, 175, 115, 117, 41, 42, 43, 13, 44, 38, 39, 40, 176, 177, 178, 179, 33, 34, 35, 36, 37, 15, 16, 17, 18, 19, 20, 21, 22, 23, 24, 25, 26, 27, 28, 29, 30, 31, 45, 46, 47, 48, 49, 50, 51, 52, 53, 54, 55, 56, 57, 58, 59, 60, 61, 62, 63, 64, 65, 66, 67, 68, 69, 70, 71, 72, 73, 74, 75, 76, 77, 78, 79, 80, 81, 82, 83, 84, 85, 86, 87, 88, 89, 90, 91, 92, 93, 94, 95, 96, 97, 98, 99, 100, 101, 102, 103, 104, 105, 106, 107, 108, 109, 110, 111, 112, 113, 114, 118, 119, 120, 121, 122, 123, 124, 125, 126, 127, 128, 129, 130, 131, 132, 133, 134, 135, 136, 137, 138, 139, 140, 141, 144, 145, 146, 147, 148, 149, 150, 151, 2, 152, 153, 154, 155, 156, 157, 158, 159, 160, 161, 162, 163, 164, 165, 166, 167, 168, 169, 241, 242, 243, 244, 245, 246, 247, 248, 249, 250, 254, 255, 256, 257, 258, 259, 260, 261, 262, 251, 252, 253] rfl (by decide +kernel)) (goodIn_sub (fun _ h => List.mem_cons_of_mem _ (List.mem_append_right _ h)) (by decide +kernel))
set_option maxRecDepth 20000 in
theorem gX8_carryOut_X8_setCanal : GoodIn wsX8_carryOut (wsV RX8 152 RX8 yX8_setCanal wsX8_setCanal) := goodIn_app (goodIn_of _ (by decide +kernel)) ggX8_carryOut_X8_setCanal
set_option maxRecDepth 20000 in
theorem ggX8_carryOut_X8_moveTo : GoodIn wsX8_carryOut wsX8_moveTo := goodIn_ca (goodIn_r _ [183, 33, 184, 2, 15, 176, 177, 178, 13, 179, 34, 35, 36, 37, 185, 186, 187, 155, 188, 157, 159, 189, 190, 191, 192, 193, 194, 195, 196, 197, 198, 199, 200, 201, 202, 203, 204, 205, 206, 207, 208, 26, 45, 46, 47, 48, 21, 38, 39, 40, 49, 50, 51, 52, 53, 54, 55, 56, 57, 58, 59, 60, 61, 62, 63, 64, 65, 66, 67, 68, 69, 70, 71, 72, 73, 74, 75, 76, 77, 78, 79, 209, 210, 211, 212, 25, 41, 42, 43, 44, 32, 16, 17, 18, 19, 20, 22, 23, 24, 27, 28, 29, 30, 31, 80, 81, 82, 83, 84, 85, 86, 87, 88, 89, 90, 91, 92, 93, 94, 95, 96, 97, 98, 99, 100, 101, 102, 103, 104, 105, 106, 107, 108, 109, 110, 111, 112, 113, 114, 115, 116, 117, 118, 119, 120, 121, 122, 123, 124, 125, 126, 127, 128, 129, 130, 131, 132, 133, 134, 135, 136, 137, 138, 139, 140, 141, 142, 143, 144, 145, 146, 147, 148, 149, 150, 151, 152, 153, 154, 156, 158, 160, 161, 162, 163, 164, 165, 166, 167, 168, 169, 241, 242, 243, 244, 245, 246, 247, 248, 249, 250, 251, 252, 253, 258, 259, 260, 261, 262, 254, 255, 256, 257] rfl (by decide +kernel)) (goodIn_sub (fun _ h => List.mem_cons_of_mem _ (List.mem_append_right _ h)) (by decide +kernel))
set_option maxRecDepth 20000 in
theorem gX8_carryOut_X8_moveTo : GoodIn wsX8_carryOut (wsV RX8 156 RX8 yX8_moveTo wsX8_moveTo) := goodIn_app (goodIn_of _ (by decide +kernel)) ggX8_carryOut_X8_moveTo
set_option maxRecDepth 20000 in
theorem ggX8_carryOut_X8_loseFirst : GoodIn wsX8_carryOut wsX8_loseFirst := goodIn_ca (goodIn_r _ [216, 2, 184, 217, 218, 219, 13, 220, 21, 221, 222, 223, 155, 224, 159, 193, 194, 195, 196, 157, 49, 50, 51, 52, 53, 54, 55, 56, 57, 58, 59, 60, 61, 62, 63, 64, 65, 66, 67, 68, 69, 70, 71, 72, 73, 74, 75, 76, 77, 78, 79, 225, 226, 227, 228, 229, 145, 146, 147, 254, 255, 256, 257, 241, 242, 243, 244, 245, 246, 247, 248, 249, 250, 251, 252, 253, 258, 259, 260, 261, 262] rfl (by decide +kernel)) (goodIn_sub (fun _ h => List.mem_cons_of_mem _ (List.mem_append_right _ h)) (by decide +kernel))
set_option maxRecDepth 20000 in
theorem gX8_carryOut_X8_loseFirst : GoodIn wsX8_carryOut (wsV RX8 159 RX8 yX8_loseFirst wsX8_loseFirst) := goodIn_app (goodIn_of _ (by decide +kernel)) ggX8_carryOut_X8_loseFirst
set_option maxRecDepth 20000 in
theorem ggX8_carryOut_X8_tickOnce : GoodIn wsX8_carryOut wsX8_tickOnce := goodIn_ca (goodIn_r _ [233, 2, 25, 15, 205, 206, 207, 13, 208, 26, 45, 46, 47, 48, 21, 38, 39, 40, 49, 50, 51, 52, 53, 54, 55, 56, 57, 58, 59, 60, 61, 62, 63, 64, 65, 66, 67, 68, 69, 70, 71, 72, 73, 74, 75, 76, 77, 78, 79, 209, 210, 211, 212, 16, 17, 18, 19, 20, 22, 23, 24, 27, 28, 29, 30, 31, 32, 33, 34, 35, 36, 37, 41, 42, 43, 44, 80, 81, 82, 83, 84, 85, 86, 87, 88, 89, 90, 91, 92, 93, 94, 95, 96, 97, 98, 99, 100, 101, 102, 103, 104, 105, 106, 107, 108, 109, 110, 111, 112, 113, 114, 115, 116, 117, 118, 119, 120, 121, 122, 123, 124, 125, 126, 127, 128, 129, 130, 131, 132, 133, 134, 135, 136, 137, 138, 139, 140, 141, 142, 143, 144, 145, 146, 147, 148, 149, 150, 151, 152, 153, 154, 155, 156, 157, 158, 159, 160, 161, 162, 163, 164, 165, 166, 167, 168, 169, 234, 235, 236, 237, 184, 238, 239, 190, 191, 192, 193, 194, 195, 196, 197, 198, 199, 200, 240, 202, 203, 204, 217, 218, 219, 220, 221, 222, 223, 224, 225, 226, 227, 228, 229, 241, 242, 243, 244, 245, 246, 247, 248, 249, 250, 251, 252, 253, 258, 259, 260, 261, 262, 254, 255, 256, 257] rfl (by decide +kernel)) (goodIn_sub (fun _ h => List.mem_cons_of_mem _ (List.mem_append_right _ h)) (by decide +kernel))
set_option maxRecDepth 20000 in
theorem gX8_carryOut_X8_tickOnce : GoodIn wsX8_carryOut (wsV RX8 162 RX8 yX8_tickOnce wsX8_tickOnce) := goodIn_app (goodIn_of _ (by decide +kernel)) ggX8_carryOut_X8_tickOnce
theorem dX8_carryOut_0 : decode cX8_carryOut 0 = .ok (.getstatic 113, 3) := by decide +kernel
theorem dX8_carryOut_3 : decode cX8_carryOut 3 = .ok (.aload_n 1, 1) := by decide +kernel
theorem dX8_carryOut_4 : decode cX8_carryOut 4 = .ok (.invokevirtual 118, 3) := by decide +kernel
theorem dX8_carryOut_7 : decode cX8_carryOut 7 = .ok (.iaload, 1) := by decide +kernel
theorem dX8_carryOut_8 : decode cX8_carryOut 8 = .ok (.tableswitch 70 1 5 #[36, 41, 50, 58, 65], 36) := by decide +kernel
theorem dX8_carryOut_44 : decode cX8_carryOut 44 = .ok (.aload_n 0, 1) := by decide +kernel
theorem dX8_carryOut_45 : decode cX8_carryOut 45 = .ok (.invokevirtual 149, 3) := by decide +kernel
theorem dX8_carryOut_48 : decode cX8_carryOut 48 = .ok (.ireturn, 1) := by decide +kernel
theorem dX8_carryOut_49 : decode cX8_carryOut 49 = .ok (.aload_n 0, 1) := by decide +kernel
theorem dX8_carryOut_50 : decode cX8_carryOut 50 = .ok (.iload_n 2, 1) := by decide +kernel
theorem dX8_carryOut_51 : decode cX8_carryOut 51 = .ok (.iload_n 3, 1) := by decide +kernel
theorem dX8_carryOut_52 : decode cX8_carryOut 52 = .ok (.iload 4, 2) := by decide +kernel
theorem dX8_carryOut_54 : decode cX8_carryOut 54 = .ok (.invokevirtual 152, 3) := by decide +kernel
theorem dX8_carryOut_57 : decode cX8_carryOut 57 = .ok (.ireturn, 1) := by decide +kernel
theorem dX8_carryOut_58 : decode cX8_carryOut 58 = .ok (.aload_n 0, 1) := by decide +kernel
theorem dX8_carryOut_59 : decode cX8_carryOut 59 = .ok (.iload_n 2, 1) := by decide +kernel
theorem dX8_carryOut_60 : decode cX8_carryOut 60 = .ok (.iload_n 3, 1) := by decide +kernel
theorem dX8_carryOut_61 : decode cX8_carryOut 61 = .ok (.iconst 0, 1) := by decide +kernel
theorem dX8_carryOut_62 : decode cX8_carryOut 62 = .ok (.invokevirtual 152, 3) := by decide +kernel
theorem dX8_carryOut_65 : decode cX8_carryOut 65 = .ok (.ireturn, 1) := by decide +kernel
theorem dX8_carryOut_66 : decode cX8_carryOut 66 = .ok (.aload_n 0, 1) := by decide +kernel
theorem dX8_carryOut_67 : decode cX8_carryOut 67 = .ok (.iload_n 2, 1) := by decide +kernel
theorem dX8_carryOut_68 : decode cX8_carryOut 68 = .ok (.iload_n 3, 1) := by decide +kernel
theorem dX8_carryOut_69 : decode cX8_carryOut 69 = .ok (.invokevirtual 156, 3) := by decide +kernel
theorem dX8_carryOut_72 : decode cX8_carryOut 72 = .ok (.ireturn, 1) := by decide +kernel
theorem dX8_carryOut_73 : decode cX8_carryOut 73 = .ok (.aload_n 0, 1) := by decide +kernel
theorem dX8_carryOut_74 : decode cX8_carryOut 74 = .ok (.invokevirtual 159, 3) := by decide +kernel
theorem dX8_carryOut_77 : decode cX8_carryOut 77 = .ok (.ireturn, 1) := by decide +kernel
theorem dX8_carryOut_78 : decode cX8_carryOut 78 = .ok (.iconst 0, 1) := by decide +kernel
theorem dX8_carryOut_79 : decode cX8_carryOut 79 = .ok (.istore 5, 2) := by decide +kernel
theorem dX8_carryOut_81 : decode cX8_carryOut 81 = .ok (.iload 5, 2) := by decide +kernel
theorem dX8_carryOut_83 : decode cX8_carryOut 83 = .ok (.iload_n 2, 1) := by decide +kernel
theorem dX8_carryOut_84 : decode cX8_carryOut 84 = .ok (.if_icmp .ge 20, 3) := by decide +kernel
theorem dX8_carryOut_87 : decode cX8_carryOut 87 = .ok (.iload 5, 2) := by decide +kernel
theorem dX8_carryOut_89 : decode cX8_carryOut 89 = .ok (.bipush 99, 2) := by decide +kernel
theorem dX8_carryOut_91 : decode cX8_carryOut 91 = .ok (.if_icmp .ge 13, 3) := by decide +kernel
theorem dX8_carryOut_94 : decode cX8_carryOut 94 = .ok (.aload_n 0, 1) := by decide +kernel
theorem dX8_carryOut_95 : decode cX8_carryOut 95 = .ok (.invokevirtual 162, 3) := by decide +kernel
theorem dX8_carryOut_98 : decode cX8_carryOut 98 = .ok (.iinc 5 1, 3) := by decide +kernel
theorem dX8_carryOut_101 : decode cX8_carryOut 101 = .ok (.goto (-20), 3) := by decide +kernel
theorem dX8_carryOut_104 : decode cX8_carryOut 104 = .ok (.aload_n 0, 1) := by decide +kernel
theorem dX8_carryOut_105 : decode cX8_carryOut 105 = .ok (.getfield 24, 3) := by decide +kernel
theorem dX8_carryOut_108 : decode cX8_carryOut 108 = .ok (.getfield 138, 3) := by decide +kernel
theorem dX8_carryOut_111 : decode cX8_carryOut 111 = .ok (.ireturn, 1) := by decide +kernel
set_option maxRecDepth 20000 in
theorem ggX8_addSurveyor_X8_renew : GoodIn wsX8_addSurveyor wsX8_renew := goodIn_ca (goodIn_r _ [6, 7, 1, 8, 9, 10, 11, 12, 13, 14, 15, 16, 17, 5, 18, 19, 20, 21, 22, 23, 24, 25, 26, 27, 28, 29, 30, 31, 32, 33, 34, 35, 36, 37, 38, 39, 40, 41, 42, 43, 44, 45, 46, 47, 48, 49, 50, 51, 52, 53, 54, 55, 56, 57, 58, 59, 60, 61, 62, 63, 64, 65, 66, 67, 68, 69, 70, 71, 72, 73, 74, 75, 76, 77, 78, 79, 80, 81, 82, 83, 84, 85, 86, 87, 88, 89, 90, 91, 92, 93, 94, 95, 96, 97, 98, 99, 100, 101, 102, 103, 104, 105, 106, 107, 108, 109, 110, 111, 112, 113, 114, 115, 116, 117, 118, 119, 120, 121, 122, 123, 124, 125, 126, 127, 128, 129, 130, 131, 132, 133, 134, 135, 136, 137, 138, 139, 140, 141, 142, 143, 144, 145, 146, 147, 148, 149, 150, 151, 152, 153, 154, 155, 156, 157, 158, 159, 160, 161, 162, 163, 164, 165, 166, 167, 168, 169, 170, 171, 172, 173, 174, 175, 176, 177, 178, 179] rfl (by decide +kernel)) (goodIn_sub (fun _ h => List.mem_cons_of_mem _ (List.mem_append_right _ h)) (by decide +kernel))
set_option maxRecDepth 20000 in
theorem gX8_addSurveyor_X8_renew : GoodIn wsX8_addSurveyor (wsV RX8 165 RX8 yX8_renew wsX8_renew) := goodIn_app (goodIn_of _ (by decide +kernel)) ggX8_addSurveyor_X8_renew
theorem dX8_addSurveyor_0 : decode cX8_addSurveyor 0 = .ok (.aload_n 0, 1) := by decide +kernel
theorem dX8_addSurveyor_1 : decode cX8_addSurveyor 1 = .ok (.getfield 28, 3) := by decide +kernel
theorem dX8_addSurveyor_4 : decode cX8_addSurveyor 4 = .ok (.istore_n 1, 1) := by decide +kernel
theorem dX8_addSurveyor_5 : decode cX8_addSurveyor 5 = .ok (.aload_n 0, 1) := by decide +kernel
theorem dX8_addSurveyor_6 : decode cX8_addSurveyor 6 = .ok (.dup, 1) := by decide +kernel
theorem dX8_addSurveyor_7 : decode cX8_addSurveyor 7 = .ok (.getfield 28, 3) := by decide +kernel
