set_option maxRecDepth 20000 in
theorem ggX1_init_Jx4a65c_init_da8c8 : GoodIn wsX1_init wsJx4a65c_init_da8c8 := goodIn_r _ [15, 16, 17, 18, 19, 20, 21, 22, 23, 24, 25, 26, 27, 2, 3, 89, 90, 91] rfl (by decide +kernel)
set_option maxRecDepth 20000 in
theorem gX1_init_Jx4a65c_init_da8c8 : GoodIn wsX1_init (wsJx4a65c_init_da8c8) := ggX1_init_Jx4a65c_init_da8c8
set_option maxRecDepth 20000 in
theorem ggX1_init_X6_init : GoodIn wsX1_init wsX6_init := goodIn_r _ [30, 31, 2, 3, 32, 33, 34, 35, 94, 95, 96, 97] rfl (by decide +kernel)
set_option maxRecDepth 20000 in
theorem gX1_init_X6_init : GoodIn wsX1_init (wsX6_init) := ggX1_init_X6_init
set_option maxRecDepth 20000 in
theorem ggX1_init_Jx4a65c_add_9ea2d : GoodIn wsX1_init wsJx4a65c_add_9ea2d := goodIn_r _ [39, 40, 41, 17, 42, 43, 44, 45, 6, 46, 47, 48, 49, 50, 51, 52, 53, 54, 16, 55, 56, 57, 58, 59, 60, 61, 62, 63, 64, 65, 66, 67, 68, 69, 70, 71, 72, 73, 74, 75, 76, 77, 78, 79, 80, 81, 82, 83, 84, 85, 86, 87, 88, 89, 90, 91] rfl (by decide +kernel)
set_option maxRecDepth 20000 in
theorem gX1_init_Jx4a65c_add_9ea2d : GoodIn wsX1_init (wsV RX1 27 RJx4a65c yJx4a65c_add_9ea2d wsJx4a65c_add_9ea2d) := goodIn_app (goodIn_of _ (by decide +kernel)) ggX1_init_Jx4a65c_add_9ea2d
theorem dX1_init_0 : decode cX1_init 0 = .ok (.aload_n 0, 1) := by decide +kernel
theorem dX1_init_1 : decode cX1_init 1 = .ok (.invokespecial 3, 3) := by decide +kernel
theorem dX1_init_4 : decode cX1_init 4 = .ok (.aload_n 0, 1) := by decide +kernel
theorem dX1_init_5 : decode cX1_init 5 = .ok (.new 9, 3) := by decide +kernel
theorem dX1_init_8 : decode cX1_init 8 = .ok (.dup, 1) := by decide +kernel
theorem dX1_init_9 : decode cX1_init 9 = .ok (.invokespecial 11, 3) := by decide +kernel
theorem dX1_init_12 : decode cX1_init 12 = .ok (.putfield 12, 3) := by decide +kernel
theorem dX1_init_15 : decode cX1_init 15 = .ok (.aload_n 0, 1) := by decide +kernel
theorem dX1_init_16 : decode cX1_init 16 = .ok (.new 18, 3) := by decide +kernel
theorem dX1_init_19 : decode cX1_init 19 = .ok (.dup, 1) := by decide +kernel
theorem dX1_init_20 : decode cX1_init 20 = .ok (.iconst 0, 1) := by decide +kernel
theorem dX1_init_21 : decode cX1_init 21 = .ok (.iconst 0, 1) := by decide +kernel
theorem dX1_init_22 : decode cX1_init 22 = .ok (.iconst 0, 1) := by decide +kernel
theorem dX1_init_23 : decode cX1_init 23 = .ok (.bipush 6, 2) := by decide +kernel
theorem dX1_init_25 : decode cX1_init 25 = .ok (.newarray .int, 2) := by decide +kernel
theorem dX1_init_27 : decode cX1_init 27 = .ok (.invokespecial 20, 3) := by decide +kernel
theorem dX1_init_30 : decode cX1_init 30 = .ok (.putfield 23, 3) := by decide +kernel
theorem dX1_init_33 : decode cX1_init 33 = .ok (.aload_n 0, 1) := by decide +kernel
theorem dX1_init_34 : decode cX1_init 34 = .ok (.getfield 12, 3) := by decide +kernel
theorem dX1_init_37 : decode cX1_init 37 = .ok (.aload_n 0, 1) := by decide +kernel
theorem dX1_init_38 : decode cX1_init 38 = .ok (.getfield 23, 3) := by decide +kernel
theorem dX1_init_41 : decode cX1_init 41 = .ok (.invokevirtual 27, 3) := by decide +kernel
theorem dX1_init_44 : decode cX1_init 44 = .ok (.pop, 1) := by decide +kernel
theorem dX1_init_45 : decode cX1_init 45 = .ok (.return_, 1) := by decide +kernel
set_option maxRecDepth 20000 in
theorem ggX1_put_Jx4a65c_size_8abf5 : GoodIn wsX1_put wsJx4a65c_size_8abf5 := goodIn_r _ [7, 8, 65, 66, 67] rfl (by decide +kernel)
set_option maxRecDepth 20000 in
theorem gX1_put_Jx4a65c_size_8abf5 : GoodIn wsX1_put (wsV RX1 31 RJx4a65c yJx4a65c_size_8abf5 wsJx4a65c_size_8abf5) := goodIn_app (goodIn_of _ (by decide +kernel)) ggX1_put_Jx4a65c_size_8abf5
set_option maxRecDepth 20000 in
theorem ggX1_put_Jx4a65c_add_9ea2d : GoodIn wsX1_put wsJx4a65c_add_9ea2d := goodIn_r _ [12, 13, 14, 15, 8, 16, 17, 18, 6, 19, 20, 21, 22, 23, 24, 25, 26, 27, 28, 29, 30, 31, 32, 33, 34, 35, 36, 37, 38, 39, 40, 41, 42, 43, 44, 45, 46, 47, 48, 49, 50, 51, 52, 53, 54, 55, 56, 57, 58, 59, 60, 61, 62, 65, 66, 67] rfl (by decide +kernel)
set_option maxRecDepth 20000 in
theorem gX1_put_Jx4a65c_add_9ea2d : GoodIn wsX1_put (wsV RX1 27 RJx4a65c yJx4a65c_add_9ea2d wsJx4a65c_add_9ea2d) := goodIn_app (goodIn_of _ (by decide +kernel)) ggX1_put_Jx4a65c_add_9ea2d
theorem dX1_put_0 : decode cX1_put 0 = .ok (.aload_n 0, 1) := by decide +kernel
theorem dX1_put_1 : decode cX1_put 1 = .ok (.getfield 12, 3) := by decide +kernel
theorem dX1_put_4 : decode cX1_put 4 = .ok (.invokevirtual 31, 3) := by decide +kernel
theorem dX1_put_7 : decode cX1_put 7 = .ok (.ldc 35, 2) := by decide +kernel
theorem dX1_put_9 : decode cX1_put 9 = .ok (.if_icmp .lt 5, 3) := by decide +kernel
theorem dX1_put_14 : decode cX1_put 14 = .ok (.aload_n 0, 1) := by decide +kernel
theorem dX1_put_15 : decode cX1_put 15 = .ok (.getfield 12, 3) := by decide +kernel
theorem dX1_put_18 : decode cX1_put 18 = .ok (.aload_n 1, 1) := by decide +kernel
theorem dX1_put_19 : decode cX1_put 19 = .ok (.invokevirtual 27, 3) := by decide +kernel
theorem dX1_put_22 : decode cX1_put 22 = .ok (.pop, 1) := by decide +kernel
theorem dX1_put_23 : decode cX1_put 23 = .ok (.aload_n 0, 1) := by decide +kernel
theorem dX1_put_24 : decode cX1_put 24 = .ok (.getfield 12, 3) := by decide +kernel
theorem dX1_put_27 : decode cX1_put 27 = .ok (.invokevirtual 31, 3) := by decide +kernel
theorem dX1_put_30 : decode cX1_put 30 = .ok (.iconst 1, 1) := by decide +kernel
theorem dX1_put_31 : decode cX1_put 31 = .ok (.isub, 1) := by decide +kernel
theorem dX1_put_32 : decode cX1_put 32 = .ok (.ireturn, 1) := by decide +kernel
set_option maxRecDepth 20000 in
theorem ggX1_numbered_Jx4a65c_size_8abf5 : GoodIn wsX1_numbered wsJx4a65c_size_8abf5 := goodIn_r _ [8, 9, 29, 30, 31] rfl (by decide +kernel)
set_option maxRecDepth 20000 in
theorem gX1_numbered_Jx4a65c_size_8abf5 : GoodIn wsX1_numbered (wsV RX1 31 RJx4a65c yJx4a65c_size_8abf5 wsJx4a65c_size_8abf5) := goodIn_app (goodIn_of _ (by decide +kernel)) ggX1_numbered_Jx4a65c_size_8abf5
set_option maxRecDepth 20000 in
theorem ggX1_numbered_Jx4a65c_get_915e3 : GoodIn wsX1_numbered wsJx4a65c_get_915e3 := goodIn_r _ [13, 9, 14, 15, 16, 17, 18, 19, 20, 21, 22, 23, 24, 7, 25, 26, 29, 30, 31] rfl (by decide +kernel)
set_option maxRecDepth 20000 in
theorem gX1_numbered_Jx4a65c_get_915e3 : GoodIn wsX1_numbered (wsV RX1 36 RJx4a65c yJx4a65c_get_915e3 wsJx4a65c_get_915e3) := goodIn_app (goodIn_of _ (by decide +kernel)) ggX1_numbered_Jx4a65c_get_915e3
theorem dX1_numbered_0 : decode cX1_numbered 0 = .ok (.iload_n 1, 1) := by decide +kernel
theorem dX1_numbered_1 : decode cX1_numbered 1 = .ok (.ifCond .lt 28, 3) := by decide +kernel
theorem dX1_numbered_4 : decode cX1_numbered 4 = .ok (.iload_n 1, 1) := by decide +kernel
theorem dX1_numbered_5 : decode cX1_numbered 5 = .ok (.aload_n 0, 1) := by decide +kernel
theorem dX1_numbered_6 : decode cX1_numbered 6 = .ok (.getfield 12, 3) := by decide +kernel
theorem dX1_numbered_9 : decode cX1_numbered 9 = .ok (.invokevirtual 31, 3) := by decide +kernel
theorem dX1_numbered_12 : decode cX1_numbered 12 = .ok (.if_icmp .ge 17, 3) := by decide +kernel
theorem dX1_numbered_15 : decode cX1_numbered 15 = .ok (.aload_n 0, 1) := by decide +kernel
theorem dX1_numbered_16 : decode cX1_numbered 16 = .ok (.getfield 12, 3) := by decide +kernel
theorem dX1_numbered_19 : decode cX1_numbered 19 = .ok (.iload_n 1, 1) := by decide +kernel
theorem dX1_numbered_20 : decode cX1_numbered 20 = .ok (.invokevirtual 36, 3) := by decide +kernel
theorem dX1_numbered_23 : decode cX1_numbered 23 = .ok (.checkcast 18, 3) := by decide +kernel
theorem dX1_numbered_26 : decode cX1_numbered 26 = .ok (.goto 7, 3) := by decide +kernel
theorem dX1_numbered_33 : decode cX1_numbered 33 = .ok (.areturn, 1) := by decide +kernel
theorem dX3_init_0 : decode cX3_init 0 = .ok (.aload_n 0, 1) := by decide +kernel
theorem dX3_init_1 : decode cX3_init 1 = .ok (.invokespecial 3, 3) := by decide +kernel
theorem dX3_init_4 : decode cX3_init 4 = .ok (.aload_n 0, 1) := by decide +kernel
theorem dX3_init_5 : decode cX3_init 5 = .ok (.bipush 60, 2) := by decide +kernel
theorem dX3_init_7 : decode cX3_init 7 = .ok (.newarray .char, 2) := by decide +kernel
theorem dX3_init_9 : decode cX3_init 9 = .ok (.putfield 9, 3) := by decide +kernel
theorem dX3_init_12 : decode cX3_init 12 = .ok (.aload_n 0, 1) := by decide +kernel
theorem dX3_init_13 : decode cX3_init 13 = .ok (.iconst 0, 1) := by decide +kernel
theorem dX3_init_14 : decode cX3_init 14 = .ok (.putfield 15, 3) := by decide +kernel
theorem dX3_init_17 : decode cX3_init 17 = .ok (.aload_n 0, 1) := by decide +kernel
theorem dX3_init_18 : decode cX3_init 18 = .ok (.iconst 0, 1) := by decide +kernel
theorem dX3_init_19 : decode cX3_init 19 = .ok (.putfield 19, 3) := by decide +kernel
theorem dX3_init_22 : decode cX3_init 22 = .ok (.aload_n 0, 1) := by decide +kernel
theorem dX3_init_23 : decode cX3_init 23 = .ok (.getstatic 22, 3) := by decide +kernel
theorem dX3_init_26 : decode cX3_init 26 = .ok (.putfield 28, 3) := by decide +kernel
theorem dX3_init_29 : decode cX3_init 29 = .ok (.aload_n 0, 1) := by decide +kernel
theorem dX3_init_30 : decode cX3_init 30 = .ok (.iconst 3, 1) := by decide +kernel
theorem dX3_init_31 : decode cX3_init 31 = .ok (.newarray .int, 2) := by decide +kernel
theorem dX3_init_33 : decode cX3_init 33 = .ok (.putfield 31, 3) := by decide +kernel
theorem dX3_init_36 : decode cX3_init 36 = .ok (.return_, 1) := by decide +kernel
theorem dX3_isFull_0 : decode cX3_isFull 0 = .ok (.aload_n 0, 1) := by decide +kernel
theorem dX3_isFull_1 : decode cX3_isFull 1 = .ok (.getfield 15, 3) := by decide +kernel
theorem dX3_isFull_4 : decode cX3_isFull 4 = .ok (.bipush 60, 2) := by decide +kernel
theorem dX3_isFull_6 : decode cX3_isFull 6 = .ok (.if_icmp .lt 7, 3) := by decide +kernel
theorem dX3_isFull_13 : decode cX3_isFull 13 = .ok (.iconst 0, 1) := by decide +kernel
theorem dX3_isFull_14 : decode cX3_isFull 14 = .ok (.ireturn, 1) := by decide +kernel
set_option maxRecDepth 20000 in
theorem ggX3_write_X3_isFull : GoodIn wsX3_write wsX3_isFull := goodIn_r _ [7, 2, 8, 9, 10, 11, 12] rfl (by decide +kernel)
set_option maxRecDepth 20000 in
theorem gX3_write_X3_isFull : GoodIn wsX3_write (wsV RX3 35 RX3 yX3_isFull wsX3_isFull) := goodIn_app (goodIn_of _ (by decide +kernel)) ggX3_write_X3_isFull
theorem dX3_write_0 : decode cX3_write 0 = .ok (.aload_n 0, 1) := by decide +kernel
theorem dX3_write_1 : decode cX3_write 1 = .ok (.invokevirtual 35, 3) := by decide +kernel
theorem dX3_write_4 : decode cX3_write 4 = .ok (.ifCond .ne 23, 3) := by decide +kernel
theorem dX3_write_7 : decode cX3_write 7 = .ok (.aload_n 0, 1) := by decide +kernel
theorem dX3_write_8 : decode cX3_write 8 = .ok (.getfield 9, 3) := by decide +kernel
theorem dX3_write_11 : decode cX3_write 11 = .ok (.aload_n 0, 1) := by decide +kernel
theorem dX3_write_12 : decode cX3_write 12 = .ok (.getfield 15, 3) := by decide +kernel
theorem dX3_write_15 : decode cX3_write 15 = .ok (.iload_n 1, 1) := by decide +kernel
theorem dX3_write_16 : decode cX3_write 16 = .ok (.castore, 1) := by decide +kernel
theorem dX3_write_17 : decode cX3_write 17 = .ok (.aload_n 0, 1) := by decide +kernel
theorem dX3_write_18 : decode cX3_write 18 = .ok (.dup, 1) := by decide +kernel
theorem dX3_write_19 : decode cX3_write 19 = .ok (.getfield 15, 3) := by decide +kernel
theorem dX3_write_22 : decode cX3_write 22 = .ok (.iconst 1, 1) := by decide +kernel
theorem dX3_write_23 : decode cX3_write 23 = .ok (.iadd, 1) := by decide +kernel
theorem dX3_write_24 : decode cX3_write 24 = .ok (.putfield 15, 3) := by decide +kernel
theorem dX3_write_27 : decode cX3_write 27 = .ok (.return_, 1) := by decide +kernel
theorem dX3_clear_0 : decode cX3_clear 0 = .ok (.aload_n 0, 1) := by decide +kernel
theorem dX3_clear_1 : decode cX3_clear 1 = .ok (.iconst 0, 1) := by decide +kernel
theorem dX3_clear_2 : decode cX3_clear 2 = .ok (.putfield 15, 3) := by decide +kernel
theorem dX3_clear_5 : decode cX3_clear 5 = .ok (.return_, 1) := by decide +kernel
theorem dX3_toStart_0 : decode cX3_toStart 0 = .ok (.aload_n 0, 1) := by decide +kernel
theorem dX3_toStart_1 : decode cX3_toStart 1 = .ok (.iconst 0, 1) := by decide +kernel
theorem dX3_toStart_2 : decode cX3_toStart 2 = .ok (.putfield 19, 3) := by decide +kernel
theorem dX3_toStart_5 : decode cX3_toStart 5 = .ok (.return_, 1) := by decide +kernel
set_option maxRecDepth 20000 in
theorem ggX3_findFault_X3_toStart : GoodIn wsX3_findFault wsX3_toStart := goodIn_r _ [7, 1, 82, 83, 84, 85, 86] rfl (by decide +kernel)
set_option maxRecDepth 20000 in
theorem gX3_findFault_X3_toStart : GoodIn wsX3_findFault (wsV RX3 39 RX3 yX3_toStart wsX3_toStart) := goodIn_app (goodIn_of _ (by decide +kernel)) ggX3_findFault_X3_toStart
set_option maxRecDepth 20000 in
theorem ggX3_findFault_X3_readCommand : GoodIn wsX3_findFault wsX3_readCommand := goodIn_ca (goodIn_r _ [11, 1, 2, 12, 13, 14, 15, 16, 17, 18, 19, 20, 21, 22, 23, 24, 25, 26, 27, 28, 29, 30, 31, 32, 33, 34, 35, 36, 37, 38, 39, 40, 41, 42, 43, 44, 45, 46, 47, 48, 49, 50, 51, 52, 53, 54, 55, 56, 57, 58, 59, 60, 61, 62, 63, 64, 65, 66, 67, 68, 69, 70, 71, 72, 73, 74, 75, 76, 6, 77, 82, 83, 84, 85, 86, 87, 88, 89, 90] rfl (by decide +kernel)) (goodIn_sub (fun _ h => List.mem_cons_of_mem _ (List.mem_append_right _ h)) (by decide +kernel))
set_option maxRecDepth 20000 in
theorem gX3_findFault_X3_readCommand : GoodIn wsX3_findFault (wsV RX3 42 RX3 yX3_readCommand wsX3_readCommand) := goodIn_app (goodIn_of _ (by decide +kernel)) ggX3_findFault_X3_readCommand
theorem dX3_findFault_0 : decode cX3_findFault 0 = .ok (.aload_n 0, 1) := by decide +kernel
theorem dX3_findFault_1 : decode cX3_findFault 1 = .ok (.invokevirtual 39, 3) := by decide +kernel
theorem dX3_findFault_4 : decode cX3_findFault 4 = .ok (.iconst 0, 1) := by decide +kernel
theorem dX3_findFault_5 : decode cX3_findFault 5 = .ok (.istore_n 1, 1) := by decide +kernel
theorem dX3_findFault_6 : decode cX3_findFault 6 = .ok (.iload_n 1, 1) := by decide +kernel
theorem dX3_findFault_7 : decode cX3_findFault 7 = .ok (.bipush 60, 2) := by decide +kernel
theorem dX3_findFault_9 : decode cX3_findFault 9 = .ok (.if_icmp .ge 38, 3) := by decide +kernel
theorem dX3_findFault_12 : decode cX3_findFault 12 = .ok (.aload_n 0, 1) := by decide +kernel
theorem dX3_findFault_13 : decode cX3_findFault 13 = .ok (.invokevirtual 42, 3) := by decide +kernel
theorem dX3_findFault_16 : decode cX3_findFault 16 = .ok (.ifCond .ne 8, 3) := by decide +kernel
theorem dX3_findFault_19 : decode cX3_findFault 19 = .ok (.aload_n 0, 1) := by decide +kernel
theorem dX3_findFault_20 : decode cX3_findFault 20 = .ok (.getfield 19, 3) := by decide +kernel
theorem dX3_findFault_23 : decode cX3_findFault 23 = .ok (.ireturn, 1) := by decide +kernel
theorem dX3_readCommand_0 : decode cX3_readCommand 0 = .ok (.aload_n 0, 1) := by decide +kernel
theorem dX3_readCommand_1 : decode cX3_readCommand 1 = .ok (.getfield 19, 3) := by decide +kernel
theorem dX3_readCommand_4 : decode cX3_readCommand 4 = .ok (.ifCond .lt 29, 3) := by decide +kernel
theorem dX3_readCommand_7 : decode cX3_readCommand 7 = .ok (.aload_n 0, 1) := by decide +kernel
theorem dX3_readCommand_8 : decode cX3_readCommand 8 = .ok (.getfield 19, 3) := by decide +kernel
theorem dX3_readCommand_11 : decode cX3_readCommand 11 = .ok (.aload_n 0, 1) := by decide +kernel
theorem dX3_readCommand_12 : decode cX3_readCommand 12 = .ok (.getfield 15, 3) := by decide +kernel
theorem dX3_readCommand_15 : decode cX3_readCommand 15 = .ok (.if_icmp .ge 18, 3) := by decide +kernel
theorem dX3_readCommand_33 : decode cX3_readCommand 33 = .ok (.aconst_null, 1) := by decide +kernel
theorem dX3_readCommand_34 : decode cX3_readCommand 34 = .ok (.astore_n 1, 1) := by decide +kernel
theorem dX3_readCommand_35 : decode cX3_readCommand 35 = .ok (.aload_n 1, 1) := by decide +kernel
theorem dX3_readCommand_36 : decode cX3_readCommand 36 = .ok (.ifnonnull 5, 3) := by decide +kernel
theorem dX3_readCommand_39 : decode cX3_readCommand 39 = .ok (.iconst 0, 1) := by decide +kernel
theorem dX3_readCommand_40 : decode cX3_readCommand 40 = .ok (.ireturn, 1) := by decide +kernel
set_option maxRecDepth 20000 in
theorem ggX4_init_X8_init : GoodIn wsX4_init wsX8_init := goodIn_r _ [12, 13, 2, 3, 14, 15, 16, 17, 18, 19, 20, 21, 22, 23, 24, 25, 26, 27, 28, 29, 30, 31, 32, 33, 37, 38, 39, 40, 41, 42, 43, 44, 45, 46, 47, 48, 49] rfl (by decide +kernel)
set_option maxRecDepth 20000 in
theorem gX4_init_X8_init : GoodIn wsX4_init (wsX8_init) := ggX4_init_X8_init
theorem dX4_init_0 : decode cX4_init 0 = .ok (.aload_n 0, 1) := by decide +kernel
theorem dX4_init_1 : decode cX4_init 1 = .ok (.invokespecial 3, 3) := by decide +kernel
theorem dX4_init_4 : decode cX4_init 4 = .ok (.aload_n 0, 1) := by decide +kernel
theorem dX4_init_5 : decode cX4_init 5 = .ok (.bipush 8, 2) := by decide +kernel
theorem dX4_init_7 : decode cX4_init 7 = .ok (.anewarray 9, 3) := by decide +kernel
theorem dX4_init_10 : decode cX4_init 10 = .ok (.putfield 11, 3) := by decide +kernel
theorem dX4_init_13 : decode cX4_init 13 = .ok (.aload_n 0, 1) := by decide +kernel
theorem dX4_init_14 : decode cX4_init 14 = .ok (.iconst 0, 1) := by decide +kernel
theorem dX4_init_15 : decode cX4_init 15 = .ok (.putfield 17, 3) := by decide +kernel
theorem dX4_init_18 : decode cX4_init 18 = .ok (.aload_n 0, 1) := by decide +kernel
theorem dX4_init_19 : decode cX4_init 19 = .ok (.iconst 0, 1) := by decide +kernel
theorem dX4_init_20 : decode cX4_init 20 = .ok (.putfield 21, 3) := by decide +kernel
theorem dX4_init_23 : decode cX4_init 23 = .ok (.iconst 0, 1) := by decide +kernel
theorem dX4_init_24 : decode cX4_init 24 = .ok (.istore_n 2, 1) := by decide +kernel
theorem dX4_init_25 : decode cX4_init 25 = .ok (.iload_n 2, 1) := by decide +kernel
theorem dX4_init_26 : decode cX4_init 26 = .ok (.bipush 8, 2) := by decide +kernel
theorem dX4_init_28 : decode cX4_init 28 = .ok (.if_icmp .ge 23, 3) := by decide +kernel
theorem dX4_init_31 : decode cX4_init 31 = .ok (.aload_n 0, 1) := by decide +kernel
theorem dX4_init_32 : decode cX4_init 32 = .ok (.getfield 11, 3) := by decide +kernel
theorem dX4_init_35 : decode cX4_init 35 = .ok (.iload_n 2, 1) := by decide +kernel
theorem dX4_init_36 : decode cX4_init 36 = .ok (.new 9, 3) := by decide +kernel
theorem dX4_init_39 : decode cX4_init 39 = .ok (.dup, 1) := by decide +kernel
theorem dX4_init_40 : decode cX4_init 40 = .ok (.aload_n 1, 1) := by decide +kernel
theorem dX4_init_41 : decode cX4_init 41 = .ok (.invokespecial 24, 3) := by decide +kernel
theorem dX4_init_44 : decode cX4_init 44 = .ok (.aastore, 1) := by decide +kernel
theorem dX4_init_45 : decode cX4_init 45 = .ok (.iinc 2 1, 3) := by decide +kernel
theorem dX4_init_48 : decode cX4_init 48 = .ok (.goto (-23), 3) := by decide +kernel
theorem dX4_init_51 : decode cX4_init 51 = .ok (.return_, 1) := by decide +kernel
set_option maxRecDepth 20000 in
theorem ggX4_keep_X8_copyFrom : GoodIn wsX4_keep wsX8_copyFrom := goodIn_r _ [12, 13, 14, 15, 16, 17, 18, 19, 20, 21, 22, 23, 24, 25, 26, 27, 28, 29, 30, 31, 32, 33, 34, 35, 39, 40, 41, 42, 43, 44, 45, 46, 47, 48, 49, 50, 51] rfl (by decide +kernel)
set_option maxRecDepth 20000 in
theorem gX4_keep_X8_copyFrom : GoodIn wsX4_keep (wsV RX4 27 RX8 yX8_copyFrom wsX8_copyFrom) := goodIn_app (goodIn_of _ (by decide +kernel)) ggX4_keep_X8_copyFrom
theorem dX4_keep_0 : decode cX4_keep 0 = .ok (.aload_n 0, 1) := by decide +kernel
theorem dX4_keep_1 : decode cX4_keep 1 = .ok (.aload_n 0, 1) := by decide +kernel
theorem dX4_keep_2 : decode cX4_keep 2 = .ok (.getfield 17, 3) := by decide +kernel
theorem dX4_keep_5 : decode cX4_keep 5 = .ok (.iconst 1, 1) := by decide +kernel
theorem dX4_keep_6 : decode cX4_keep 6 = .ok (.iadd, 1) := by decide +kernel
theorem dX4_keep_7 : decode cX4_keep 7 = .ok (.bipush 8, 2) := by decide +kernel
theorem dX4_keep_9 : decode cX4_keep 9 = .ok (.irem, 1) := by decide +kernel
theorem dX4_keep_10 : decode cX4_keep 10 = .ok (.putfield 17, 3) := by decide +kernel
theorem dX4_keep_13 : decode cX4_keep 13 = .ok (.aload_n 0, 1) := by decide +kernel
theorem dX4_keep_14 : decode cX4_keep 14 = .ok (.getfield 11, 3) := by decide +kernel
theorem dX4_keep_17 : decode cX4_keep 17 = .ok (.aload_n 0, 1) := by decide +kernel
theorem dX4_keep_18 : decode cX4_keep 18 = .ok (.getfield 17, 3) := by decide +kernel
theorem dX4_keep_21 : decode cX4_keep 21 = .ok (.aaload, 1) := by decide +kernel
theorem dX4_keep_22 : decode cX4_keep 22 = .ok (.aload_n 1, 1) := by decide +kernel
theorem dX4_keep_23 : decode cX4_keep 23 = .ok (.invokevirtual 27, 3) := by decide +kernel
theorem dX4_keep_26 : decode cX4_keep 26 = .ok (.aload_n 0, 1) := by decide +kernel
theorem dX4_keep_27 : decode cX4_keep 27 = .ok (.aload_n 0, 1) := by decide +kernel
theorem dX4_keep_28 : decode cX4_keep 28 = .ok (.getfield 21, 3) := by decide +kernel
theorem dX4_keep_31 : decode cX4_keep 31 = .ok (.iconst 1, 1) := by decide +kernel
theorem dX4_keep_32 : decode cX4_keep 32 = .ok (.iadd, 1) := by decide +kernel
theorem dX4_keep_33 : decode cX4_keep 33 = .ok (.bipush 8, 2) := by decide +kernel
theorem dX4_keep_35 : decode cX4_keep 35 = .ok (.invokestatic 31, 3) := by decide +kernel
theorem dX4_keep_38 : decode cX4_keep 38 = .ok (.putfield 21, 3) := by decide +kernel
theorem dX4_keep_41 : decode cX4_keep 41 = .ok (.return_, 1) := by decide +kernel
theorem dX5_init_0 : decode cX5_init 0 = .ok (.aload_n 0, 1) := by decide +kernel
theorem dX5_init_1 : decode cX5_init 1 = .ok (.invokespecial 3, 3) := by decide +kernel
theorem dX5_init_4 : decode cX5_init 4 = .ok (.aload_n 0, 1) := by decide +kernel
theorem dX5_init_5 : decode cX5_init 5 = .ok (.bipush 64, 2) := by decide +kernel
theorem dX5_init_7 : decode cX5_init 7 = .ok (.newarray .int, 2) := by decide +kernel
theorem dX5_init_9 : decode cX5_init 9 = .ok (.putfield 11, 3) := by decide +kernel
theorem dX5_init_12 : decode cX5_init 12 = .ok (.aload_n 0, 1) := by decide +kernel
theorem dX5_init_13 : decode cX5_init 13 = .ok (.iconst 0, 1) := by decide +kernel
theorem dX5_init_14 : decode cX5_init 14 = .ok (.putfield 15, 3) := by decide +kernel
theorem dX5_init_17 : decode cX5_init 17 = .ok (.aload_n 0, 1) := by decide +kernel
theorem dX5_init_18 : decode cX5_init 18 = .ok (.iconst 0, 1) := by decide +kernel
theorem dX5_init_19 : decode cX5_init 19 = .ok (.putfield 19, 3) := by decide +kernel
theorem dX5_init_22 : decode cX5_init 22 = .ok (.return_, 1) := by decide +kernel
theorem dX5_has_0 : decode cX5_has 0 = .ok (.iload_n 1, 1) := by decide +kernel
theorem dX5_has_1 : decode cX5_has 1 = .ok (.ifCond .lt 15, 3) := by decide +kernel
theorem dX5_has_4 : decode cX5_has 4 = .ok (.iload_n 1, 1) := by decide +kernel
theorem dX5_has_5 : decode cX5_has 5 = .ok (.aload_n 0, 1) := by decide +kernel
theorem dX5_has_6 : decode cX5_has 6 = .ok (.getfield 15, 3) := by decide +kernel
theorem dX5_has_9 : decode cX5_has 9 = .ok (.if_icmp .ge 7, 3) := by decide +kernel
theorem dX5_has_16 : decode cX5_has 16 = .ok (.iconst 0, 1) := by decide +kernel
theorem dX5_has_17 : decode cX5_has 17 = .ok (.ireturn, 1) := by decide +kernel
theorem dX5_removeFirst_0 : decode cX5_removeFirst 0 = .ok (.iload_n 1, 1) := by decide +kernel
theorem dX5_removeFirst_1 : decode cX5_removeFirst 1 = .ok (.ifCond .lt 40, 3) := by decide +kernel
theorem dX5_removeFirst_4 : decode cX5_removeFirst 4 = .ok (.iload_n 1, 1) := by decide +kernel
theorem dX5_removeFirst_5 : decode cX5_removeFirst 5 = .ok (.aload_n 0, 1) := by decide +kernel
theorem dX5_removeFirst_6 : decode cX5_removeFirst 6 = .ok (.getfield 15, 3) := by decide +kernel
theorem dX5_removeFirst_9 : decode cX5_removeFirst 9 = .ok (.if_icmp .gt 32, 3) := by decide +kernel
theorem dX5_removeFirst_12 : decode cX5_removeFirst 12 = .ok (.aload_n 0, 1) := by decide +kernel
theorem dX5_removeFirst_13 : decode cX5_removeFirst 13 = .ok (.getfield 11, 3) := by decide +kernel
theorem dX5_removeFirst_16 : decode cX5_removeFirst 16 = .ok (.iload_n 1, 1) := by decide +kernel
theorem dX5_removeFirst_17 : decode cX5_removeFirst 17 = .ok (.aload_n 0, 1) := by decide +kernel
theorem dX5_removeFirst_18 : decode cX5_removeFirst 18 = .ok (.getfield 11, 3) := by decide +kernel
theorem dX5_removeFirst_21 : decode cX5_removeFirst 21 = .ok (.iconst 0, 1) := by decide +kernel
theorem dX5_removeFirst_22 : decode cX5_removeFirst 22 = .ok (.aload_n 0, 1) := by decide +kernel
theorem dX5_removeFirst_23 : decode cX5_removeFirst 23 = .ok (.getfield 15, 3) := by decide +kernel
theorem dX5_removeFirst_26 : decode cX5_removeFirst 26 = .ok (.iload_n 1, 1) := by decide +kernel
theorem dX5_removeFirst_27 : decode cX5_removeFirst 27 = .ok (.isub, 1) := by decide +kernel
theorem dX5_removeFirst_28 : decode cX5_removeFirst 28 = .ok (.invokestatic 45, 3) := by decide +kernel
theorem dX5_removeFirst_31 : decode cX5_removeFirst 31 = .ok (.aload_n 0, 1) := by decide +kernel
theorem dX5_removeFirst_32 : decode cX5_removeFirst 32 = .ok (.dup, 1) := by decide +kernel
theorem dX5_removeFirst_33 : decode cX5_removeFirst 33 = .ok (.getfield 15, 3) := by decide +kernel
theorem dX5_removeFirst_36 : decode cX5_removeFirst 36 = .ok (.iload_n 1, 1) := by decide +kernel
theorem dX5_removeFirst_37 : decode cX5_removeFirst 37 = .ok (.isub, 1) := by decide +kernel
theorem dX5_removeFirst_38 : decode cX5_removeFirst 38 = .ok (.putfield 15, 3) := by decide +kernel
theorem dX5_removeFirst_41 : decode cX5_removeFirst 41 = .ok (.return_, 1) := by decide +kernel
theorem dX5_takeOver_0 : decode cX5_takeOver 0 = .ok (.aload_n 0, 1) := by decide +kernel
theorem dX5_takeOver_1 : decode cX5_takeOver 1 = .ok (.getfield 11, 3) := by decide +kernel
theorem dX5_takeOver_4 : decode cX5_takeOver 4 = .ok (.arraylength, 1) := by decide +kernel
theorem dX5_takeOver_5 : decode cX5_takeOver 5 = .ok (.aload_n 1, 1) := by decide +kernel
theorem dX5_takeOver_6 : decode cX5_takeOver 6 = .ok (.getfield 15, 3) := by decide +kernel
theorem dX5_takeOver_9 : decode cX5_takeOver 9 = .ok (.if_icmp .ge 15, 3) := by decide +kernel
theorem dX5_takeOver_24 : decode cX5_takeOver 24 = .ok (.aload_n 1, 1) := by decide +kernel
theorem dX5_takeOver_25 : decode cX5_takeOver 25 = .ok (.getfield 11, 3) := by decide +kernel
theorem dX5_takeOver_28 : decode cX5_takeOver 28 = .ok (.iconst 0, 1) := by decide +kernel
theorem dX5_takeOver_29 : decode cX5_takeOver 29 = .ok (.aload_n 0, 1) := by decide +kernel
theorem dX5_takeOver_30 : decode cX5_takeOver 30 = .ok (.getfield 11, 3) := by decide +kernel
theorem dX5_takeOver_33 : decode cX5_takeOver 33 = .ok (.iconst 0, 1) := by decide +kernel
theorem dX5_takeOver_34 : decode cX5_takeOver 34 = .ok (.aload_n 1, 1) := by decide +kernel
theorem dX5_takeOver_35 : decode cX5_takeOver 35 = .ok (.getfield 15, 3) := by decide +kernel
theorem dX5_takeOver_38 : decode cX5_takeOver 38 = .ok (.invokestatic 45, 3) := by decide +kernel
theorem dX5_takeOver_41 : decode cX5_takeOver 41 = .ok (.aload_n 0, 1) := by decide +kernel
theorem dX5_takeOver_42 : decode cX5_takeOver 42 = .ok (.aload_n 1, 1) := by decide +kernel
theorem dX5_takeOver_43 : decode cX5_takeOver 43 = .ok (.getfield 15, 3) := by decide +kernel
theorem dX5_takeOver_46 : decode cX5_takeOver 46 = .ok (.putfield 15, 3) := by decide +kernel
theorem dX5_takeOver_49 : decode cX5_takeOver 49 = .ok (.aload_n 0, 1) := by decide +kernel
theorem dX5_takeOver_50 : decode cX5_takeOver 50 = .ok (.aload_n 1, 1) := by decide +kernel
theorem dX5_takeOver_51 : decode cX5_takeOver 51 = .ok (.getfield 19, 3) := by decide +kernel
theorem dX5_takeOver_54 : decode cX5_takeOver 54 = .ok (.putfield 19, 3) := by decide +kernel
theorem dX5_takeOver_57 : decode cX5_takeOver 57 = .ok (.return_, 1) := by decide +kernel
theorem dX6_init_0 : decode cX6_init 0 = .ok (.aload_n 0, 1) := by decide +kernel
theorem dX6_init_1 : decode cX6_init 1 = .ok (.invokespecial 1, 3) := by decide +kernel
theorem dX6_init_4 : decode cX6_init 4 = .ok (.aload_n 0, 1) := by decide +kernel
theorem dX6_init_5 : decode cX6_init 5 = .ok (.iload_n 1, 1) := by decide +kernel
theorem dX6_init_6 : decode cX6_init 6 = .ok (.putfield 7, 3) := by decide +kernel
theorem dX6_init_9 : decode cX6_init 9 = .ok (.aload_n 0, 1) := by decide +kernel
theorem dX6_init_10 : decode cX6_init 10 = .ok (.iload_n 2, 1) := by decide +kernel
theorem dX6_init_11 : decode cX6_init 11 = .ok (.putfield 13, 3) := by decide +kernel
theorem dX6_init_14 : decode cX6_init 14 = .ok (.aload_n 0, 1) := by decide +kernel
theorem dX6_init_15 : decode cX6_init 15 = .ok (.iload_n 3, 1) := by decide +kernel
theorem dX6_init_16 : decode cX6_init 16 = .ok (.putfield 16, 3) := by decide +kernel
theorem dX6_init_19 : decode cX6_init 19 = .ok (.aload_n 0, 1) := by decide +kernel
theorem dX6_init_20 : decode cX6_init 20 = .ok (.aload 4, 2) := by decide +kernel
theorem dX6_init_22 : decode cX6_init 22 = .ok (.putfield 19, 3) := by decide +kernel
theorem dX6_init_25 : decode cX6_init 25 = .ok (.return_, 1) := by decide +kernel
theorem dX7_init_0 : decode cX7_init 0 = .ok (.aload_n 0, 1) := by decide +kernel
theorem dX7_init_1 : decode cX7_init 1 = .ok (.invokespecial 1, 3) := by decide +kernel
theorem dX7_init_4 : decode cX7_init 4 = .ok (.aload_n 0, 1) := by decide +kernel
theorem dX7_init_5 : decode cX7_init 5 = .ok (.iload_n 1, 1) := by decide +kernel
theorem dX7_init_6 : decode cX7_init 6 = .ok (.putfield 7, 3) := by decide +kernel
theorem dX7_init_9 : decode cX7_init 9 = .ok (.aload_n 0, 1) := by decide +kernel
theorem dX7_init_10 : decode cX7_init 10 = .ok (.iload_n 2, 1) := by decide +kernel
theorem dX7_init_11 : decode cX7_init 11 = .ok (.putfield 13, 3) := by decide +kernel
theorem dX7_init_14 : decode cX7_init 14 = .ok (.aload_n 0, 1) := by decide +kernel
theorem dX7_init_15 : decode cX7_init 15 = .ok (.aload_n 3, 1) := by decide +kernel
theorem dX7_init_16 : decode cX7_init 16 = .ok (.putfield 16, 3) := by decide +kernel
theorem dX7_init_19 : decode cX7_init 19 = .ok (.return_, 1) := by decide +kernel
set_option maxRecDepth 20000 in
theorem ggX8_init_X5_init : GoodIn wsX8_init wsX5_init := goodIn_r _ [19, 20, 2, 3, 4, 21, 22, 23, 34, 35, 36] rfl (by decide +kernel)
set_option maxRecDepth 20000 in
theorem gX8_init_X5_init_n23 : GoodIn wsX8_init (wsX5_init) := ggX8_init_X5_init
theorem dX8_init_0 : decode cX8_init 0 = .ok (.aload_n 0, 1) := by decide +kernel
theorem dX8_init_1 : decode cX8_init 1 = .ok (.invokespecial 3, 3) := by decide +kernel
theorem dX8_init_4 : decode cX8_init 4 = .ok (.aload_n 0, 1) := by decide +kernel
theorem dX8_init_5 : decode cX8_init 5 = .ok (.bipush 6, 2) := by decide +kernel
theorem dX8_init_7 : decode cX8_init 7 = .ok (.newarray .int, 2) := by decide +kernel
theorem dX8_init_9 : decode cX8_init 9 = .ok (.putfield 9, 3) := by decide +kernel
theorem dX8_init_12 : decode cX8_init 12 = .ok (.aload_n 0, 1) := by decide +kernel
theorem dX8_init_13 : decode cX8_init 13 = .ok (.bipush 36, 2) := by decide +kernel
theorem dX8_init_15 : decode cX8_init 15 = .ok (.newarray .int, 2) := by decide +kernel
theorem dX8_init_17 : decode cX8_init 17 = .ok (.putfield 15, 3) := by decide +kernel
theorem dX8_init_20 : decode cX8_init 20 = .ok (.aload_n 0, 1) := by decide +kernel
theorem dX8_init_21 : decode cX8_init 21 = .ok (.bipush 36, 2) := by decide +kernel
theorem dX8_init_23 : decode cX8_init 23 = .ok (.newarray .int, 2) := by decide +kernel
theorem dX8_init_25 : decode cX8_init 25 = .ok (.putfield 18, 3) := by decide +kernel
theorem dX8_init_28 : decode cX8_init 28 = .ok (.aload_n 0, 1) := by decide +kernel
theorem dX8_init_29 : decode cX8_init 29 = .ok (.new 21, 3) := by decide +kernel
theorem dX8_init_32 : decode cX8_init 32 = .ok (.dup, 1) := by decide +kernel
theorem dX8_init_33 : decode cX8_init 33 = .ok (.invokespecial 23, 3) := by decide +kernel
theorem dX8_init_36 : decode cX8_init 36 = .ok (.putfield 24, 3) := by decide +kernel
theorem dX8_init_39 : decode cX8_init 39 = .ok (.aload_n 0, 1) := by decide +kernel
theorem dX8_init_40 : decode cX8_init 40 = .ok (.iconst 0, 1) := by decide +kernel
theorem dX8_init_41 : decode cX8_init 41 = .ok (.putfield 28, 3) := by decide +kernel
theorem dX8_init_44 : decode cX8_init 44 = .ok (.aload_n 0, 1) := by decide +kernel
theorem dX8_init_45 : decode cX8_init 45 = .ok (.iconst 0, 1) := by decide +kernel
theorem dX8_init_46 : decode cX8_init 46 = .ok (.putfield 32, 3) := by decide +kernel
theorem dX8_init_49 : decode cX8_init 49 = .ok (.aload_n 0, 1) := by decide +kernel
theorem dX8_init_50 : decode cX8_init 50 = .ok (.iconst 0, 1) := by decide +kernel
theorem dX8_init_51 : decode cX8_init 51 = .ok (.putfield 35, 3) := by decide +kernel
theorem dX8_init_54 : decode cX8_init 54 = .ok (.aload_n 0, 1) := by decide +kernel
theorem dX8_init_55 : decode cX8_init 55 = .ok (.iconst 0, 1) := by decide +kernel
theorem dX8_init_56 : decode cX8_init 56 = .ok (.putfield 38, 3) := by decide +kernel
theorem dX8_init_59 : decode cX8_init 59 = .ok (.aload_n 0, 1) := by decide +kernel
theorem dX8_init_60 : decode cX8_init 60 = .ok (.iconst 0, 1) := by decide +kernel
theorem dX8_init_61 : decode cX8_init 61 = .ok (.putfield 41, 3) := by decide +kernel
theorem dX8_init_64 : decode cX8_init 64 = .ok (.aload_n 0, 1) := by decide +kernel
theorem dX8_init_65 : decode cX8_init 65 = .ok (.aload_n 1, 1) := by decide +kernel
theorem dX8_init_66 : decode cX8_init 66 = .ok (.putfield 44, 3) := by decide +kernel
theorem dX8_init_69 : decode cX8_init 69 = .ok (.return_, 1) := by decide +kernel
set_option maxRecDepth 20000 in
theorem ggX8_copyFrom_X5_takeOver : GoodIn wsX8_copyFrom wsX5_takeOver := goodIn_r _ [18, 19, 20, 21, 22, 3, 4, 5, 23, 34, 35, 36] rfl (by decide +kernel)
set_option maxRecDepth 20000 in
theorem gX8_copyFrom_X5_takeOver : GoodIn wsX8_copyFrom (wsV RX8 54 RX5 yX5_takeOver wsX5_takeOver) := goodIn_app (goodIn_of _ (by decide +kernel)) ggX8_copyFrom_X5_takeOver
theorem dX8_copyFrom_0 : decode cX8_copyFrom 0 = .ok (.aload_n 1, 1) := by decide +kernel
theorem dX8_copyFrom_1 : decode cX8_copyFrom 1 = .ok (.getfield 9, 3) := by decide +kernel
theorem dX8_copyFrom_4 : decode cX8_copyFrom 4 = .ok (.iconst 0, 1) := by decide +kernel
theorem dX8_copyFrom_5 : decode cX8_copyFrom 5 = .ok (.aload_n 0, 1) := by decide +kernel
theorem dX8_copyFrom_6 : decode cX8_copyFrom 6 = .ok (.getfield 9, 3) := by decide +kernel
theorem dX8_copyFrom_9 : decode cX8_copyFrom 9 = .ok (.iconst 0, 1) := by decide +kernel
theorem dX8_copyFrom_10 : decode cX8_copyFrom 10 = .ok (.bipush 6, 2) := by decide +kernel
theorem dX8_copyFrom_12 : decode cX8_copyFrom 12 = .ok (.invokestatic 48, 3) := by decide +kernel
theorem dX8_copyFrom_15 : decode cX8_copyFrom 15 = .ok (.aload_n 1, 1) := by decide +kernel
theorem dX8_copyFrom_16 : decode cX8_copyFrom 16 = .ok (.getfield 15, 3) := by decide +kernel
theorem dX8_copyFrom_19 : decode cX8_copyFrom 19 = .ok (.iconst 0, 1) := by decide +kernel
theorem dX8_copyFrom_20 : decode cX8_copyFrom 20 = .ok (.aload_n 0, 1) := by decide +kernel
theorem dX8_copyFrom_21 : decode cX8_copyFrom 21 = .ok (.getfield 15, 3) := by decide +kernel
theorem dX8_copyFrom_24 : decode cX8_copyFrom 24 = .ok (.iconst 0, 1) := by decide +kernel
theorem dX8_copyFrom_25 : decode cX8_copyFrom 25 = .ok (.bipush 36, 2) := by decide +kernel
theorem dX8_copyFrom_27 : decode cX8_copyFrom 27 = .ok (.invokestatic 48, 3) := by decide +kernel
theorem dX8_copyFrom_30 : decode cX8_copyFrom 30 = .ok (.aload_n 1, 1) := by decide +kernel
theorem dX8_copyFrom_31 : decode cX8_copyFrom 31 = .ok (.getfield 18, 3) := by decide +kernel
theorem dX8_copyFrom_34 : decode cX8_copyFrom 34 = .ok (.iconst 0, 1) := by decide +kernel
theorem dX8_copyFrom_35 : decode cX8_copyFrom 35 = .ok (.aload_n 0, 1) := by decide +kernel
theorem dX8_copyFrom_36 : decode cX8_copyFrom 36 = .ok (.getfield 18, 3) := by decide +kernel
theorem dX8_copyFrom_39 : decode cX8_copyFrom 39 = .ok (.iconst 0, 1) := by decide +kernel
theorem dX8_copyFrom_40 : decode cX8_copyFrom 40 = .ok (.bipush 36, 2) := by decide +kernel
theorem dX8_copyFrom_42 : decode cX8_copyFrom 42 = .ok (.invokestatic 48, 3) := by decide +kernel
theorem dX8_copyFrom_45 : decode cX8_copyFrom 45 = .ok (.aload_n 0, 1) := by decide +kernel
theorem dX8_copyFrom_46 : decode cX8_copyFrom 46 = .ok (.getfield 24, 3) := by decide +kernel
theorem dX8_copyFrom_49 : decode cX8_copyFrom 49 = .ok (.aload_n 1, 1) := by decide +kernel
theorem dX8_copyFrom_50 : decode cX8_copyFrom 50 = .ok (.getfield 24, 3) := by decide +kernel
theorem dX8_copyFrom_53 : decode cX8_copyFrom 53 = .ok (.invokevirtual 54, 3) := by decide +kernel
theorem dX8_copyFrom_56 : decode cX8_copyFrom 56 = .ok (.aload_n 0, 1) := by decide +kernel
theorem dX8_copyFrom_57 : decode cX8_copyFrom 57 = .ok (.aload_n 1, 1) := by decide +kernel
theorem dX8_copyFrom_58 : decode cX8_copyFrom 58 = .ok (.getfield 28, 3) := by decide +kernel
theorem dX8_copyFrom_61 : decode cX8_copyFrom 61 = .ok (.putfield 28, 3) := by decide +kernel
theorem dX8_copyFrom_64 : decode cX8_copyFrom 64 = .ok (.aload_n 0, 1) := by decide +kernel
theorem dX8_copyFrom_65 : decode cX8_copyFrom 65 = .ok (.aload_n 1, 1) := by decide +kernel
theorem dX8_copyFrom_66 : decode cX8_copyFrom 66 = .ok (.getfield 32, 3) := by decide +kernel
theorem dX8_copyFrom_69 : decode cX8_copyFrom 69 = .ok (.putfield 32, 3) := by decide +kernel
theorem dX8_copyFrom_72 : decode cX8_copyFrom 72 = .ok (.aload_n 0, 1) := by decide +kernel
theorem dX8_copyFrom_73 : decode cX8_copyFrom 73 = .ok (.aload_n 1, 1) := by decide +kernel
theorem dX8_copyFrom_74 : decode cX8_copyFrom 74 = .ok (.getfield 35, 3) := by decide +kernel
theorem dX8_copyFrom_77 : decode cX8_copyFrom 77 = .ok (.putfield 35, 3) := by decide +kernel
theorem dX8_copyFrom_80 : decode cX8_copyFrom 80 = .ok (.aload_n 0, 1) := by decide +kernel
theorem dX8_copyFrom_81 : decode cX8_copyFrom 81 = .ok (.aload_n 1, 1) := by decide +kernel
theorem dX8_copyFrom_82 : decode cX8_copyFrom 82 = .ok (.getfield 38, 3) := by decide +kernel
theorem dX8_copyFrom_85 : decode cX8_copyFrom 85 = .ok (.putfield 38, 3) := by decide +kernel
theorem dX8_copyFrom_88 : decode cX8_copyFrom 88 = .ok (.aload_n 0, 1) := by decide +kernel
theorem dX8_copyFrom_89 : decode cX8_copyFrom 89 = .ok (.aload_n 1, 1) := by decide +kernel
theorem dX8_copyFrom_90 : decode cX8_copyFrom 90 = .ok (.getfield 41, 3) := by decide +kernel
theorem dX8_copyFrom_93 : decode cX8_copyFrom 93 = .ok (.putfield 41, 3) := by decide +kernel
theorem dX8_copyFrom_96 : decode cX8_copyFrom 96 = .ok (.return_, 1) := by decide +kernel
theorem dX8_has_0 : decode cX8_has 0 = .ok (.iload_n 1, 1) := by decide +kernel
theorem dX8_has_1 : decode cX8_has 1 = .ok (.ifCond .lt 15, 3) := by decide +kernel
theorem dX8_has_4 : decode cX8_has 4 = .ok (.iload_n 1, 1) := by decide +kernel
theorem dX8_has_5 : decode cX8_has 5 = .ok (.aload_n 0, 1) := by decide +kernel
theorem dX8_has_6 : decode cX8_has 6 = .ok (.getfield 28, 3) := by decide +kernel
theorem dX8_has_9 : decode cX8_has 9 = .ok (.if_icmp .ge 7, 3) := by decide +kernel
theorem dX8_has_12 : decode cX8_has 12 = .ok (.iconst 1, 1) := by decide +kernel
theorem dX8_has_13 : decode cX8_has 13 = .ok (.goto 4, 3) := by decide +kernel
theorem dX8_has_16 : decode cX8_has 16 = .ok (.iconst 0, 1) := by decide +kernel
theorem dX8_has_17 : decode cX8_has 17 = .ok (.ireturn, 1) := by decide +kernel
theorem dX8_pair_0 : decode cX8_pair 0 = .ok (.iload_n 0, 1) := by decide +kernel
theorem dX8_pair_1 : decode cX8_pair 1 = .ok (.ifCond .lt 23, 3) := by decide +kernel
theorem dX8_pair_4 : decode cX8_pair 4 = .ok (.iload_n 0, 1) := by decide +kernel
theorem dX8_pair_5 : decode cX8_pair 5 = .ok (.bipush 6, 2) := by decide +kernel
theorem dX8_pair_7 : decode cX8_pair 7 = .ok (.if_icmp .ge 17, 3) := by decide +kernel
theorem dX8_pair_10 : decode cX8_pair 10 = .ok (.iload_n 1, 1) := by decide +kernel
theorem dX8_pair_11 : decode cX8_pair 11 = .ok (.ifCond .lt 13, 3) := by decide +kernel
theorem dX8_pair_14 : decode cX8_pair 14 = .ok (.iload_n 1, 1) := by decide +kernel
theorem dX8_pair_15 : decode cX8_pair 15 = .ok (.bipush 6, 2) := by decide +kernel
theorem dX8_pair_17 : decode cX8_pair 17 = .ok (.if_icmp .ge 7, 3) := by decide +kernel
theorem dX8_pair_20 : decode cX8_pair 20 = .ok (.iconst 1, 1) := by decide +kernel
theorem dX8_pair_21 : decode cX8_pair 21 = .ok (.goto 4, 3) := by decide +kernel
theorem dX8_pair_25 : decode cX8_pair 25 = .ok (.istore_n 2, 1) := by decide +kernel
theorem dX8_pair_26 : decode cX8_pair 26 = .ok (.iload_n 2, 1) := by decide +kernel
theorem dX8_pair_27 : decode cX8_pair 27 = .ok (.ifCond .eq 12, 3) := by decide +kernel
theorem dX8_pair_30 : decode cX8_pair 30 = .ok (.iload_n 0, 1) := by decide +kernel
theorem dX8_pair_31 : decode cX8_pair 31 = .ok (.bipush 6, 2) := by decide +kernel
theorem dX8_pair_33 : decode cX8_pair 33 = .ok (.imul, 1) := by decide +kernel
theorem dX8_pair_34 : decode cX8_pair 34 = .ok (.iload_n 1, 1) := by decide +kernel
theorem dX8_pair_35 : decode cX8_pair 35 = .ok (.iadd, 1) := by decide +kernel
theorem dX8_pair_36 : decode cX8_pair 36 = .ok (.goto 4, 3) := by decide +kernel
theorem dX8_pair_40 : decode cX8_pair 40 = .ok (.ireturn, 1) := by decide +kernel
set_option maxRecDepth 20000 in
theorem ggX8_areNeighbours_X8_has : GoodIn wsX8_areNeighbours wsX8_has := goodIn_r _ [7, 8, 12, 13, 14, 15, 16, 17, 18, 19, 20, 21] rfl (by decide +kernel)
set_option maxRecDepth 20000 in
theorem gX8_areNeighbours_X8_has : GoodIn wsX8_areNeighbours (wsV RX8 58 RX8 yX8_has wsX8_has) := goodIn_app (goodIn_of _ (by decide +kernel)) ggX8_areNeighbours_X8_has
set_option maxRecDepth 20000 in
theorem ggX8_areNeighbours_X8_pair : GoodIn wsX8_areNeighbours wsX8_pair := goodIn_r _ [11] rfl (by decide +kernel)
set_option maxRecDepth 20000 in
theorem gX8_areNeighbours_X8_pair : GoodIn wsX8_areNeighbours (va_wsS RX8 62 yX8_pair wsX8_pair) := goodIn_app (goodIn_of _ (by decide +kernel)) ggX8_areNeighbours_X8_pair
theorem dX8_areNeighbours_0 : decode cX8_areNeighbours 0 = .ok (.aload_n 0, 1) := by decide +kernel
theorem dX8_areNeighbours_1 : decode cX8_areNeighbours 1 = .ok (.iload_n 1, 1) := by decide +kernel
theorem dX8_areNeighbours_2 : decode cX8_areNeighbours 2 = .ok (.invokevirtual 58, 3) := by decide +kernel
theorem dX8_areNeighbours_5 : decode cX8_areNeighbours 5 = .ok (.ifCond .eq 43, 3) := by decide +kernel
theorem dX8_areNeighbours_8 : decode cX8_areNeighbours 8 = .ok (.aload_n 0, 1) := by decide +kernel
theorem dX8_areNeighbours_9 : decode cX8_areNeighbours 9 = .ok (.iload_n 2, 1) := by decide +kernel
theorem dX8_areNeighbours_10 : decode cX8_areNeighbours 10 = .ok (.invokevirtual 58, 3) := by decide +kernel
theorem dX8_areNeighbours_13 : decode cX8_areNeighbours 13 = .ok (.ifCond .eq 35, 3) := by decide +kernel
theorem dX8_areNeighbours_16 : decode cX8_areNeighbours 16 = .ok (.aload_n 0, 1) := by decide +kernel
theorem dX8_areNeighbours_17 : decode cX8_areNeighbours 17 = .ok (.getfield 15, 3) := by decide +kernel
theorem dX8_areNeighbours_20 : decode cX8_areNeighbours 20 = .ok (.iload_n 1, 1) := by decide +kernel
theorem dX8_areNeighbours_21 : decode cX8_areNeighbours 21 = .ok (.iload_n 2, 1) := by decide +kernel
theorem dX8_areNeighbours_22 : decode cX8_areNeighbours 22 = .ok (.invokestatic 62, 3) := by decide +kernel
theorem dX8_areNeighbours_25 : decode cX8_areNeighbours 25 = .ok (.iaload, 1) := by decide +kernel
theorem dX8_areNeighbours_26 : decode cX8_areNeighbours 26 = .ok (.ifCond .le 22, 3) := by decide +kernel
theorem dX8_areNeighbours_48 : decode cX8_areNeighbours 48 = .ok (.iconst 0, 1) := by decide +kernel
theorem dX8_areNeighbours_49 : decode cX8_areNeighbours 49 = .ok (.ireturn, 1) := by decide +kernel
set_option maxRecDepth 20000 in
theorem ggX8_pageIn_X8_pair : GoodIn wsX8_pageIn wsX8_pair := goodIn_r _ [6] rfl (by decide +kernel)
set_option maxRecDepth 20000 in
theorem gX8_pageIn_X8_pair : GoodIn wsX8_pageIn (va_wsS RX8 62 yX8_pair wsX8_pair) := goodIn_app (goodIn_of _ (by decide +kernel)) ggX8_pageIn_X8_pair
set_option maxRecDepth 20000 in
theorem ggX8_pageIn_X1_numbered : GoodIn wsX8_pageIn wsX1_numbered := goodIn_r _ [11, 12, 13, 14, 15, 16, 17, 18, 19, 20, 21, 22, 23, 24, 25, 26, 27, 28, 29, 30, 31, 32, 33, 34, 35, 36, 37, 48, 49, 50, 51, 52] rfl (by decide +kernel)
set_option maxRecDepth 20000 in
theorem gX8_pageIn_X1_numbered : GoodIn wsX8_pageIn (wsV RX8 66 RX1 yX1_numbered wsX1_numbered) := goodIn_app (goodIn_of _ (by decide +kernel)) ggX8_pageIn_X1_numbered
theorem dX8_pageIn_0 : decode cX8_pageIn 0 = .ok (.aload_n 0, 1) := by decide +kernel
theorem dX8_pageIn_1 : decode cX8_pageIn 1 = .ok (.getfield 44, 3) := by decide +kernel
theorem dX8_pageIn_4 : decode cX8_pageIn 4 = .ok (.aload_n 0, 1) := by decide +kernel
theorem dX8_pageIn_5 : decode cX8_pageIn 5 = .ok (.getfield 18, 3) := by decide +kernel
theorem dX8_pageIn_8 : decode cX8_pageIn 8 = .ok (.iload_n 1, 1) := by decide +kernel
theorem dX8_pageIn_9 : decode cX8_pageIn 9 = .ok (.iload_n 2, 1) := by decide +kernel
theorem dX8_pageIn_10 : decode cX8_pageIn 10 = .ok (.invokestatic 62, 3) := by decide +kernel
theorem dX8_pageIn_13 : decode cX8_pageIn 13 = .ok (.iaload, 1) := by decide +kernel
theorem dX8_pageIn_14 : decode cX8_pageIn 14 = .ok (.invokevirtual 66, 3) := by decide +kernel
theorem dX8_pageIn_17 : decode cX8_pageIn 17 = .ok (.areturn, 1) := by decide +kernel
theorem dX8_countCanals_0 : decode cX8_countCanals 0 = .ok (.iconst 0, 1) := by decide +kernel
theorem dX8_countCanals_1 : decode cX8_countCanals 1 = .ok (.istore_n 1, 1) := by decide +kernel
theorem dX8_countCanals_2 : decode cX8_countCanals 2 = .ok (.iconst 0, 1) := by decide +kernel
theorem dX8_countCanals_3 : decode cX8_countCanals 3 = .ok (.istore_n 2, 1) := by decide +kernel
theorem dX8_countCanals_4 : decode cX8_countCanals 4 = .ok (.iload_n 2, 1) := by decide +kernel
theorem dX8_countCanals_5 : decode cX8_countCanals 5 = .ok (.aload_n 0, 1) := by decide +kernel
theorem dX8_countCanals_6 : decode cX8_countCanals 6 = .ok (.getfield 28, 3) := by decide +kernel
theorem dX8_countCanals_9 : decode cX8_countCanals 9 = .ok (.if_icmp .ge 17, 3) := by decide +kernel
theorem dX8_countCanals_26 : decode cX8_countCanals 26 = .ok (.iload_n 1, 1) := by decide +kernel
theorem dX8_countCanals_27 : decode cX8_countCanals 27 = .ok (.iconst 2, 1) := by decide +kernel
theorem dX8_countCanals_28 : decode cX8_countCanals 28 = .ok (.idiv, 1) := by decide +kernel
theorem dX8_countCanals_29 : decode cX8_countCanals 29 = .ok (.ireturn, 1) := by decide +kernel
theorem dX8_countPages_0 : decode cX8_countPages 0 = .ok (.iconst 0, 1) := by decide +kernel
theorem dX8_countPages_1 : decode cX8_countPages 1 = .ok (.istore_n 1, 1) := by decide +kernel
theorem dX8_countPages_2 : decode cX8_countPages 2 = .ok (.iconst 0, 1) := by decide +kernel
theorem dX8_countPages_3 : decode cX8_countPages 3 = .ok (.istore_n 2, 1) := by decide +kernel
theorem dX8_countPages_4 : decode cX8_countPages 4 = .ok (.iload_n 2, 1) := by decide +kernel
theorem dX8_countPages_5 : decode cX8_countPages 5 = .ok (.aload_n 0, 1) := by decide +kernel
theorem dX8_countPages_6 : decode cX8_countPages 6 = .ok (.getfield 28, 3) := by decide +kernel
theorem dX8_countPages_9 : decode cX8_countPages 9 = .ok (.if_icmp .ge 17, 3) := by decide +kernel
theorem dX8_countPages_26 : decode cX8_countPages 26 = .ok (.iload_n 1, 1) := by decide +kernel
theorem dX8_countPages_27 : decode cX8_countPages 27 = .ok (.ireturn, 1) := by decide +kernel
set_option maxRecDepth 20000 in
theorem ggX8_against_Jx29ce0_ordinal_8abf5 : GoodIn wsX8_against wsJx29ce0_ordinal_8abf5 := goodIn_r _ [9, 10] rfl (by decide +kernel)
set_option maxRecDepth 20000 in
theorem gX8_against_Jx29ce0_ordinal_8abf5_u118X2 : GoodIn wsX8_against (va_wsU RX8 118 RX2 "java/lang/Enum" ⟨"CanalMaps$Change", "ordinal", "()I"⟩ yJx29ce0_ordinal_8abf5 wsJx29ce0_ordinal_8abf5) := goodIn_app (goodIn_of _ (by decide +kernel)) ggX8_against_Jx29ce0_ordinal_8abf5
set_option maxRecDepth 20000 in
theorem ggX8_against_X8_because : GoodIn wsX8_against wsX8_because := goodIn_r _ [14, 15, 16, 17, 18, 19, 20, 21, 22, 23, 24, 25, 26, 69, 70, 71] rfl (by decide +kernel)
set_option maxRecDepth 20000 in
theorem gX8_against_X8_because : GoodIn wsX8_against (va_wsS RX8 124 yX8_because wsX8_because) := goodIn_app (goodIn_of _ (by decide +kernel)) ggX8_against_X8_because
set_option maxRecDepth 20000 in
theorem ggX8_against_X8_againstCanal : GoodIn wsX8_against wsX8_againstCanal := goodIn_ca (goodIn_r _ [30, 31, 32, 33, 13, 34, 35, 36, 37, 38, 2, 11, 12, 14, 15, 16, 17, 18, 19, 20, 21, 22, 23, 24, 25, 26, 39, 40, 41, 42, 43, 44, 45, 46, 56, 57, 58, 59, 60, 61, 62, 63, 64, 65, 69, 70, 71] rfl (by decide +kernel)) (goodIn_sub (fun _ h => List.mem_cons_of_mem _ (List.mem_append_right _ h)) (by decide +kernel))
set_option maxRecDepth 20000 in
theorem gX8_against_X8_againstCanal : GoodIn wsX8_against (wsV RX8 128 RX8 yX8_againstCanal wsX8_againstCanal) := goodIn_app (goodIn_of _ (by decide +kernel)) ggX8_against_X8_againstCanal
set_option maxRecDepth 20000 in
theorem ggX8_against_X8_againstClosing : GoodIn wsX8_against wsX8_againstClosing := goodIn_ca (goodIn_r _ [50, 31, 32, 33, 13, 34, 35, 36, 37, 38, 2, 11, 12, 14, 15, 16, 17, 18, 19, 20, 21, 22, 23, 24, 25, 26, 39, 40, 41, 42, 43, 44, 45, 46, 56, 57, 58, 59, 60, 61, 62, 63, 64, 65, 69, 70, 71] rfl (by decide +kernel)) (goodIn_sub (fun _ h => List.mem_cons_of_mem _ (List.mem_append_right _ h)) (by decide +kernel))
set_option maxRecDepth 20000 in
theorem gX8_against_X8_againstClosing : GoodIn wsX8_against (wsV RX8 132 RX8 yX8_againstClosing wsX8_againstClosing) := goodIn_app (goodIn_of _ (by decide +kernel)) ggX8_against_X8_againstClosing
set_option maxRecDepth 20000 in
theorem ggX8_against_X8_againstDistrict : GoodIn wsX8_against wsX8_againstDistrict := goodIn_ca (goodIn_r _ [54, 55, 35, 36, 37, 13, 38, 2, 11, 12, 14, 15, 16, 17, 18, 19, 20, 21, 22, 23, 24, 25, 26, 56, 57, 58, 59, 60, 61, 62, 63, 64, 65, 69, 70, 71] rfl (by decide +kernel)) (goodIn_sub (fun _ h => List.mem_cons_of_mem _ (List.mem_append_right _ h)) (by decide +kernel))
set_option maxRecDepth 20000 in
theorem gX8_against_X8_againstDistrict : GoodIn wsX8_against (wsV RX8 135 RX8 yX8_againstDistrict wsX8_againstDistrict) := goodIn_app (goodIn_of _ (by decide +kernel)) ggX8_against_X8_againstDistrict
theorem dX8_against_0 : decode cX8_against 0 = .ok (.getstatic 113, 3) := by decide +kernel
theorem dX8_against_3 : decode cX8_against 3 = .ok (.aload_n 1, 1) := by decide +kernel
theorem dX8_against_4 : decode cX8_against 4 = .ok (.invokevirtual 118, 3) := by decide +kernel
theorem dX8_against_7 : decode cX8_against 7 = .ok (.iaload, 1) := by decide +kernel
theorem dX8_against_8 : decode cX8_against 8 = .ok (.tableswitch 100 1 5 #[36, 56, 65, 72, 79], 36) := by decide +kernel
theorem dX8_against_44 : decode cX8_against 44 = .ok (.aload_n 0, 1) := by decide +kernel
theorem dX8_against_45 : decode cX8_against 45 = .ok (.getfield 28, 3) := by decide +kernel
theorem dX8_against_48 : decode cX8_against 48 = .ok (.bipush 6, 2) := by decide +kernel
theorem dX8_against_50 : decode cX8_against 50 = .ok (.if_icmp .ge 7, 3) := by decide +kernel
theorem dX8_against_53 : decode cX8_against 53 = .ok (.aconst_null, 1) := by decide +kernel
theorem dX8_against_54 : decode cX8_against 54 = .ok (.goto 9, 3) := by decide +kernel
theorem dX8_against_63 : decode cX8_against 63 = .ok (.areturn, 1) := by decide +kernel
theorem dX8_against_64 : decode cX8_against 64 = .ok (.aload_n 0, 1) := by decide +kernel
theorem dX8_against_65 : decode cX8_against 65 = .ok (.iload_n 2, 1) := by decide +kernel
theorem dX8_against_66 : decode cX8_against 66 = .ok (.iload_n 3, 1) := by decide +kernel
theorem dX8_against_67 : decode cX8_against 67 = .ok (.iload 4, 2) := by decide +kernel
theorem dX8_against_69 : decode cX8_against 69 = .ok (.invokevirtual 128, 3) := by decide +kernel
theorem dX8_against_72 : decode cX8_against 72 = .ok (.areturn, 1) := by decide +kernel
theorem dX8_against_73 : decode cX8_against 73 = .ok (.aload_n 0, 1) := by decide +kernel
theorem dX8_against_74 : decode cX8_against 74 = .ok (.iload_n 2, 1) := by decide +kernel
theorem dX8_against_75 : decode cX8_against 75 = .ok (.iload_n 3, 1) := by decide +kernel
theorem dX8_against_76 : decode cX8_against 76 = .ok (.invokevirtual 132, 3) := by decide +kernel
theorem dX8_against_79 : decode cX8_against 79 = .ok (.areturn, 1) := by decide +kernel
theorem dX8_against_80 : decode cX8_against 80 = .ok (.aload_n 0, 1) := by decide +kernel
theorem dX8_against_81 : decode cX8_against 81 = .ok (.iload_n 2, 1) := by decide +kernel
theorem dX8_against_82 : decode cX8_against 82 = .ok (.iload_n 3, 1) := by decide +kernel
theorem dX8_against_83 : decode cX8_against 83 = .ok (.invokevirtual 135, 3) := by decide +kernel
theorem dX8_against_86 : decode cX8_against 86 = .ok (.areturn, 1) := by decide +kernel
theorem dX8_against_87 : decode cX8_against 87 = .ok (.aload_n 0, 1) := by decide +kernel
theorem dX8_against_88 : decode cX8_against 88 = .ok (.getfield 24, 3) := by decide +kernel
theorem dX8_against_91 : decode cX8_against 91 = .ok (.getfield 138, 3) := by decide +kernel
theorem dX8_against_94 : decode cX8_against 94 = .ok (.ifCond .le 7, 3) := by decide +kernel
theorem dX8_against_101 : decode cX8_against 101 = .ok (.bipush 7, 2) := by decide +kernel
theorem dX8_against_103 : decode cX8_against 103 = .ok (.iconst 0, 1) := by decide +kernel
theorem dX8_against_104 : decode cX8_against 104 = .ok (.invokestatic 124, 3) := by decide +kernel
theorem dX8_against_107 : decode cX8_against 107 = .ok (.areturn, 1) := by decide +kernel
theorem dX8_against_108 : decode cX8_against 108 = .ok (.iload_n 2, 1) := by decide +kernel
theorem dX8_against_109 : decode cX8_against 109 = .ok (.iconst 1, 1) := by decide +kernel
theorem dX8_against_110 : decode cX8_against 110 = .ok (.if_icmp .lt 13, 3) := by decide +kernel
theorem dX8_against_113 : decode cX8_against 113 = .ok (.iload_n 2, 1) := by decide +kernel
theorem dX8_against_114 : decode cX8_against 114 = .ok (.bipush 99, 2) := by decide +kernel
theorem dX8_against_116 : decode cX8_against 116 = .ok (.if_icmp .gt 7, 3) := by decide +kernel
theorem dX8_against_119 : decode cX8_against 119 = .ok (.aconst_null, 1) := by decide +kernel
theorem dX8_against_120 : decode cX8_against 120 = .ok (.goto 8, 3) := by decide +kernel
theorem dX8_against_123 : decode cX8_against 123 = .ok (.iconst 1, 1) := by decide +kernel
theorem dX8_against_124 : decode cX8_against 124 = .ok (.iconst 0, 1) := by decide +kernel
theorem dX8_against_125 : decode cX8_against 125 = .ok (.invokestatic 124, 3) := by decide +kernel
theorem dX8_against_128 : decode cX8_against 128 = .ok (.areturn, 1) := by decide +kernel
set_option maxRecDepth 20000 in
theorem ggX8_againstPair_X8_has : GoodIn wsX8_againstPair wsX8_has := goodIn_r _ [5, 6, 22, 23, 24, 25, 26, 27, 28, 29, 30, 31] rfl (by decide +kernel)
set_option maxRecDepth 20000 in
theorem gX8_againstPair_X8_has : GoodIn wsX8_againstPair (wsV RX8 58 RX8 yX8_has wsX8_has) := goodIn_app (goodIn_of _ (by decide +kernel)) ggX8_againstPair_X8_has
set_option maxRecDepth 20000 in
theorem ggX8_againstPair_X8_because : GoodIn wsX8_againstPair wsX8_because := goodIn_r _ [9, 10, 11, 12, 13, 14, 15, 16, 17, 18, 19, 20, 21, 32, 33, 34] rfl (by decide +kernel)
set_option maxRecDepth 20000 in
theorem gX8_againstPair_X8_because : GoodIn wsX8_againstPair (va_wsS RX8 124 yX8_because wsX8_because) := goodIn_app (goodIn_of _ (by decide +kernel)) ggX8_againstPair_X8_because
theorem dX8_againstPair_0 : decode cX8_againstPair 0 = .ok (.aload_n 0, 1) := by decide +kernel
theorem dX8_againstPair_1 : decode cX8_againstPair 1 = .ok (.iload_n 1, 1) := by decide +kernel
theorem dX8_againstPair_2 : decode cX8_againstPair 2 = .ok (.invokevirtual 58, 3) := by decide +kernel
theorem dX8_againstPair_5 : decode cX8_againstPair 5 = .ok (.ifCond .ne 9, 3) := by decide +kernel
theorem dX8_againstPair_8 : decode cX8_againstPair 8 = .ok (.iconst 3, 1) := by decide +kernel
theorem dX8_againstPair_9 : decode cX8_againstPair 9 = .ok (.iload_n 1, 1) := by decide +kernel
theorem dX8_againstPair_10 : decode cX8_againstPair 10 = .ok (.invokestatic 124, 3) := by decide +kernel
theorem dX8_againstPair_13 : decode cX8_againstPair 13 = .ok (.areturn, 1) := by decide +kernel
set_option maxRecDepth 20000 in
theorem ggX8_againstCanal_X8_againstPair : GoodIn wsX8_againstCanal wsX8_againstPair := goodIn_r _ [5, 6, 7, 8, 4, 9, 10, 11, 12, 13, 14, 15, 16, 17, 18, 19, 20, 21, 22, 23, 24, 25, 34, 35, 36, 37, 38, 39, 40, 41, 42, 43, 44, 45, 46] rfl (by decide +kernel)
set_option maxRecDepth 20000 in
theorem gX8_againstCanal_X8_againstPair : GoodIn wsX8_againstCanal (wsV RX8 141 RX8 yX8_againstPair wsX8_againstPair) := goodIn_app (goodIn_of _ (by decide +kernel)) ggX8_againstCanal_X8_againstPair
theorem dX8_againstCanal_0 : decode cX8_againstCanal 0 = .ok (.aload_n 0, 1) := by decide +kernel
theorem dX8_againstCanal_1 : decode cX8_againstCanal 1 = .ok (.iload_n 1, 1) := by decide +kernel
theorem dX8_againstCanal_2 : decode cX8_againstCanal 2 = .ok (.iload_n 2, 1) := by decide +kernel
theorem dX8_againstCanal_3 : decode cX8_againstCanal 3 = .ok (.invokevirtual 141, 3) := by decide +kernel
theorem dX8_againstCanal_6 : decode cX8_againstCanal 6 = .ok (.astore 4, 2) := by decide +kernel
theorem dX8_againstCanal_8 : decode cX8_againstCanal 8 = .ok (.aload 4, 2) := by decide +kernel
theorem dX8_againstCanal_10 : decode cX8_againstCanal 10 = .ok (.ifnull 6, 3) := by decide +kernel
theorem dX8_againstCanal_13 : decode cX8_againstCanal 13 = .ok (.aload 4, 2) := by decide +kernel
theorem dX8_againstCanal_15 : decode cX8_againstCanal 15 = .ok (.areturn, 1) := by decide +kernel
set_option maxRecDepth 20000 in
theorem ggX8_againstClosing_X8_againstPair : GoodIn wsX8_againstClosing wsX8_againstPair := goodIn_r _ [5, 6, 7, 8, 4, 9, 10, 11, 12, 13, 14, 15, 16, 17, 18, 19, 20, 21, 22, 23, 24, 25, 34, 35, 36, 37, 38, 39, 40, 41, 42, 43, 44, 45, 46] rfl (by decide +kernel)
set_option maxRecDepth 20000 in
theorem gX8_againstClosing_X8_againstPair : GoodIn wsX8_againstClosing (wsV RX8 141 RX8 yX8_againstPair wsX8_againstPair) := goodIn_app (goodIn_of _ (by decide +kernel)) ggX8_againstClosing_X8_againstPair
theorem dX8_againstClosing_0 : decode cX8_againstClosing 0 = .ok (.aload_n 0, 1) := by decide +kernel
theorem dX8_againstClosing_1 : decode cX8_againstClosing 1 = .ok (.iload_n 1, 1) := by decide +kernel
theorem dX8_againstClosing_2 : decode cX8_againstClosing 2 = .ok (.iload_n 2, 1) := by decide +kernel
theorem dX8_againstClosing_3 : decode cX8_againstClosing 3 = .ok (.invokevirtual 141, 3) := by decide +kernel
theorem dX8_againstClosing_6 : decode cX8_againstClosing 6 = .ok (.astore_n 3, 1) := by decide +kernel
theorem dX8_againstClosing_7 : decode cX8_againstClosing 7 = .ok (.aload_n 3, 1) := by decide +kernel
theorem dX8_againstClosing_8 : decode cX8_againstClosing 8 = .ok (.ifnull 5, 3) := by decide +kernel
theorem dX8_againstClosing_11 : decode cX8_againstClosing 11 = .ok (.aload_n 3, 1) := by decide +kernel
theorem dX8_againstClosing_12 : decode cX8_againstClosing 12 = .ok (.areturn, 1) := by decide +kernel
set_option maxRecDepth 20000 in
theorem ggX8_againstDistrict_X8_has : GoodIn wsX8_againstDistrict wsX8_has := goodIn_r _ [6, 7, 23, 24, 25, 26, 27, 28, 29, 30, 31, 32] rfl (by decide +kernel)
set_option maxRecDepth 20000 in
theorem gX8_againstDistrict_X8_has : GoodIn wsX8_againstDistrict (wsV RX8 58 RX8 yX8_has wsX8_has) := goodIn_app (goodIn_of _ (by decide +kernel)) ggX8_againstDistrict_X8_has
set_option maxRecDepth 20000 in
theorem ggX8_againstDistrict_X8_because : GoodIn wsX8_againstDistrict wsX8_because := goodIn_r _ [10, 11, 12, 13, 14, 15, 16, 17, 18, 19, 20, 21, 22, 33, 34, 35] rfl (by decide +kernel)
set_option maxRecDepth 20000 in
theorem gX8_againstDistrict_X8_because : GoodIn wsX8_againstDistrict (va_wsS RX8 124 yX8_because wsX8_because) := goodIn_app (goodIn_of _ (by decide +kernel)) ggX8_againstDistrict_X8_because
theorem dX8_againstDistrict_0 : decode cX8_againstDistrict 0 = .ok (.aload_n 0, 1) := by decide +kernel
theorem dX8_againstDistrict_1 : decode cX8_againstDistrict 1 = .ok (.iload_n 1, 1) := by decide +kernel
theorem dX8_againstDistrict_2 : decode cX8_againstDistrict 2 = .ok (.invokevirtual 58, 3) := by decide +kernel
theorem dX8_againstDistrict_5 : decode cX8_againstDistrict 5 = .ok (.ifCond .ne 9, 3) := by decide +kernel
theorem dX8_againstDistrict_8 : decode cX8_againstDistrict 8 = .ok (.iconst 3, 1) := by decide +kernel
theorem dX8_againstDistrict_9 : decode cX8_againstDistrict 9 = .ok (.iload_n 1, 1) := by decide +kernel
theorem dX8_againstDistrict_10 : decode cX8_againstDistrict 10 = .ok (.invokestatic 124, 3) := by decide +kernel
theorem dX8_againstDistrict_13 : decode cX8_againstDistrict 13 = .ok (.areturn, 1) := by decide +kernel
set_option maxRecDepth 20000 in
theorem ggX8_because_X7_init : GoodIn wsX8_because wsX7_init := goodIn_r _ [6, 7, 8, 9, 10, 11, 12, 13, 14, 15] rfl (by decide +kernel)
set_option maxRecDepth 20000 in
theorem gX8_because_X7_init : GoodIn wsX8_because (wsX7_init) := ggX8_because_X7_init
theorem dX8_because_0 : decode cX8_because 0 = .ok (.new 144, 3) := by decide +kernel
theorem dX8_because_3 : decode cX8_because 3 = .ok (.dup, 1) := by decide +kernel
theorem dX8_because_4 : decode cX8_because 4 = .ok (.iload_n 0, 1) := by decide +kernel
theorem dX8_because_5 : decode cX8_because 5 = .ok (.iload_n 1, 1) := by decide +kernel
theorem dX8_because_6 : decode cX8_because 6 = .ok (.aconst_null, 1) := by decide +kernel
theorem dX8_because_7 : decode cX8_because 7 = .ok (.invokespecial 146, 3) := by decide +kernel
theorem dX8_because_10 : decode cX8_because 10 = .ok (.areturn, 1) := by decide +kernel
set_option maxRecDepth 20000 in
theorem ggX8_carryOut_Jx29ce0_ordinal_8abf5 : GoodIn wsX8_carryOut wsJx29ce0_ordinal_8abf5 := goodIn_r _ [8, 9] rfl (by decide +kernel)
set_option maxRecDepth 20000 in
theorem gX8_carryOut_Jx29ce0_ordinal_8abf5_u118X2 : GoodIn wsX8_carryOut (va_wsU RX8 118 RX2 "java/lang/Enum" ⟨"CanalMaps$Change", "ordinal", "()I"⟩ yJx29ce0_ordinal_8abf5 wsJx29ce0_ordinal_8abf5) := goodIn_app (goodIn_of _ (by decide +kernel)) ggX8_carryOut_Jx29ce0_ordinal_8abf5
set_option maxRecDepth 20000 in
theorem ggX8_carryOut_X8_addSurveyor : GoodIn wsX8_carryOut wsX8_addSurveyor := goodIn_ca (goodIn_r _ [14, 15, 16, 17, 18, 13, 19, 20, 21, 22, 23, 24, 25, 26, 27, 28, 29, 30, 31, 32, 33, 34, 35, 36, 37, 38, 39, 40, 41, 42, 43, 44, 45, 46, 47, 48, 49, 50, 51, 52, 53, 54, 55, 56, 57, 58, 59, 60, 61, 62, 63, 64, 65, 66, 67, 68, 69, 70, 71, 72, 73, 74, 75, 76, 77, 78, 79, 80, 81, 82, 83, 84, 85, 86, 87, 88, 89, 90, 91, 92, 93, 94, 95, 96, 97, 98, 99, 100, 101, 102, 103, 104, 105, 106, 107, 108, 109, 110, 111, 112, 113, 114, 115, 116, 117, 118, 119, 120, 121, 122, 123, 124, 125, 126, 127, 128, 129, 130, 131, 132, 133, 134, 135, 136, 137, 138, 139, 140, 141, 142, 143, 144, 145, 146, 147, 148, 149, 150, 151, 2, 152, 153, 154, 155, 156, 157, 158, 159, 160, 161, 162, 163, 164, 165, 166, 167, 168, 169, 241, 242, 243, 244, 245, 246, 247, 248, 249, 250, 254, 255, 256, 257, 258, 259, 260, 261, 262, 251, 252, 253] rfl (by decide +kernel)) (goodIn_sub (fun _ h => List.mem_cons_of_mem _ (List.mem_append_right _ h)) (by decide +kernel))
set_option maxRecDepth 20000 in
theorem gX8_carryOut_X8_addSurveyor : GoodIn wsX8_carryOut (wsV RX8 149 RX8 yX8_addSurveyor wsX8_addSurveyor) := goodIn_app (goodIn_of _ (by decide +kernel)) ggX8_carryOut_X8_addSurveyor
set_option maxRecDepth 20000 in
theorem ggX8_carryOut_X8_tickOnce : GoodIn wsX8_carryOut wsX8_tickOnce := goodIn_ca (goodIn_r _ [233, 2, 25, 15, 205, 206, 207, 13, 208, 26, 45, 46, 47, 48, 21, 38, 39, 40, 49, 50, 51, 52, 53, 54, 55, 56, 57, 58, 59, 60, 61, 62, 63, 64, 65, 66, 67, 68, 69, 70, 71, 72, 73, 74, 75, 76, 77, 78, 79, 209, 210, 211, 212, 16, 17, 18, 19, 20, 22, 23, 24, 27, 28, 29, 30, 31, 32, 33, 34, 35, 36, 37, 41, 42, 43, 44, 80, 81, 82, 83, 84, 85, 86, 87, 88, 89, 90, 91, 92, 93, 94, 95, 96, 97, 98, 99, 100, 101, 102, 103, 104, 105, 106, 107, 108, 109, 110, 111, 112, 113, 114, 115, 116, 117, 118, 119, 120, 121, 122, 123, 124, 125, 126, 127, 128, 129, 130, 131, 132, 133, 134, 135, 136, 137, 138, 139, 140, 141, 142, 143, 144, 145, 146, 147, 148, 149, 150, 151, 152, 153, 154, 155, 156, 157, 158, 159, 160, 161, 162, 163, 164, 165, 166, 167, 168, 169, 234, 235, 236, 237, 184, 238, 239, 190, 191, 192, 193, 194, 195, 196, 197, 198, 199, 200, 240, 202, 203, 204, 217, 218, 219, 220, 221, 222, 223, 224, 225, 226, 227, 228, 229, 241, 242, 243, 244, 245, 246, 247, 248, 249, 250, 251, 252, 253, 258, 259, 260, 261, 262, 254, 255, 256, 257] rfl (by decide +kernel)) (goodIn_sub (fun _ h => List.mem_cons_of_mem _ (List.mem_append_right _ h)) (by decide +kernel))
set_option maxRecDepth 20000 in
theorem gX8_carryOut_X8_tickOnce : GoodIn wsX8_carryOut (wsV RX8 162 RX8 yX8_tickOnce wsX8_tickOnce) := goodIn_app (goodIn_of _ (by decide +kernel)) ggX8_carryOut_X8_tickOnce
theorem dX8_carryOut_0 : decode cX8_carryOut 0 = .ok (.getstatic 113, 3) := by decide +kernel
theorem dX8_carryOut_3 : decode cX8_carryOut 3 = .ok (.aload_n 1, 1) := by decide +kernel
theorem dX8_carryOut_4 : decode cX8_carryOut 4 = .ok (.invokevirtual 118, 3) := by decide +kernel
theorem dX8_carryOut_7 : decode cX8_carryOut 7 = .ok (.iaload, 1) := by decide +kernel
theorem dX8_carryOut_8 : decode cX8_carryOut 8 = .ok (.tableswitch 70 1 5 #[36, 41, 50, 58, 65], 36) := by decide +kernel
theorem dX8_carryOut_44 : decode cX8_carryOut 44 = .ok (.aload_n 0, 1) := by decide +kernel
theorem dX8_carryOut_45 : decode cX8_carryOut 45 = .ok (.invokevirtual 149, 3) := by decide +kernel
theorem dX8_carryOut_48 : decode cX8_carryOut 48 = .ok (.ireturn, 1) := by decide +kernel
theorem dX8_carryOut_78 : decode cX8_carryOut 78 = .ok (.iconst 0, 1) := by decide +kernel
theorem dX8_carryOut_79 : decode cX8_carryOut 79 = .ok (.istore 5, 2) := by decide +kernel
theorem dX8_carryOut_81 : decode cX8_carryOut 81 = .ok (.iload 5, 2) := by decide +kernel
theorem dX8_carryOut_83 : decode cX8_carryOut 83 = .ok (.iload_n 2, 1) := by decide +kernel
theorem dX8_carryOut_84 : decode cX8_carryOut 84 = .ok (.if_icmp .ge 20, 3) := by decide +kernel
theorem dX8_carryOut_87 : decode cX8_carryOut 87 = .ok (.iload 5, 2) := by decide +kernel
theorem dX8_carryOut_89 : decode cX8_carryOut 89 = .ok (.bipush 99, 2) := by decide +kernel
theorem dX8_carryOut_91 : decode cX8_carryOut 91 = .ok (.if_icmp .ge 13, 3) := by decide +kernel
theorem dX8_carryOut_94 : decode cX8_carryOut 94 = .ok (.aload_n 0, 1) := by decide +kernel
theorem dX8_carryOut_95 : decode cX8_carryOut 95 = .ok (.invokevirtual 162, 3) := by decide +kernel
theorem dX8_carryOut_98 : decode cX8_carryOut 98 = .ok (.iinc 5 1, 3) := by decide +kernel
theorem dX8_carryOut_101 : decode cX8_carryOut 101 = .ok (.goto (-20), 3) := by decide +kernel
theorem dX8_carryOut_104 : decode cX8_carryOut 104 = .ok (.aload_n 0, 1) := by decide +kernel
theorem dX8_carryOut_105 : decode cX8_carryOut 105 = .ok (.getfield 24, 3) := by decide +kernel
theorem dX8_carryOut_108 : decode cX8_carryOut 108 = .ok (.getfield 138, 3) := by decide +kernel
theorem dX8_carryOut_111 : decode cX8_carryOut 111 = .ok (.ireturn, 1) := by decide +kernel
set_option maxRecDepth 20000 in
theorem ggX8_addSurveyor_X8_renew : GoodIn wsX8_addSurveyor wsX8_renew := goodIn_ca (goodIn_r _ [6, 7, 1, 8, 9, 10, 11, 12, 13, 14, 15, 16, 17, 5, 18, 19, 20, 21, 22, 23, 24, 25, 26, 27, 28, 29, 30, 31, 32, 33, 34, 35, 36, 37, 38, 39, 40, 41, 42, 43, 44, 45, 46, 47, 48, 49, 50, 51, 52, 53, 54, 55, 56, 57, 58, 59, 60, 61, 62, 63, 64, 65, 66, 67, 68, 69, 70, 71, 72, 73, 74, 75, 76, 77, 78, 79, 80, 81, 82, 83, 84, 85, 86, 87, 88, 89, 90, 91, 92, 93, 94, 95, 96, 97, 98, 99, 100, 101, 102, 103, 104, 105, 106, 107, 108, 109, 110, 111, 112, 113, 114, 115, 116, 117, 118, 119, 120, 121, 122, 123, 124, 125, 126, 127, 128, 129, 130, 131, 132, 133, 134, 135, 136, 137, 138, 139, 140, 141, 142, 143, 144, 145, 146, 147, 148, 149, 150, 151, 152, 153, 154, 155, 156, 157, 158, 159, 160, 161, 162, 163, 164, 165, 166, 167, 168, 169, 170, 171, 172, 173, 174, 175, 176, 177, 178, 179] rfl (by decide +kernel)) (goodIn_sub (fun _ h => List.mem_cons_of_mem _ (List.mem_append_right _ h)) (by decide +kernel))
set_option maxRecDepth 20000 in
theorem gX8_addSurveyor_X8_renew : GoodIn wsX8_addSurveyor (wsV RX8 165 RX8 yX8_renew wsX8_renew) := goodIn_app (goodIn_of _ (by decide +kernel)) ggX8_addSurveyor_X8_renew
theorem dX8_addSurveyor_0 : decode cX8_addSurveyor 0 = .ok (.aload_n 0, 1) := by decide +kernel
theorem dX8_addSurveyor_1 : decode cX8_addSurveyor 1 = .ok (.getfield 28, 3) := by decide +kernel
theorem dX8_addSurveyor_4 : decode cX8_addSurveyor 4 = .ok (.istore_n 1, 1) := by decide +kernel
theorem dX8_addSurveyor_5 : decode cX8_addSurveyor 5 = .ok (.aload_n 0, 1) := by decide +kernel
theorem dX8_addSurveyor_6 : decode cX8_addSurveyor 6 = .ok (.dup, 1) := by decide +kernel
theorem dX8_addSurveyor_7 : decode cX8_addSurveyor 7 = .ok (.getfield 28, 3) := by decide +kernel
theorem dX8_addSurveyor_10 : decode cX8_addSurveyor 10 = .ok (.iconst 1, 1) := by decide +kernel
theorem dX8_addSurveyor_11 : decode cX8_addSurveyor 11 = .ok (.iadd, 1) := by decide +kernel
theorem dX8_addSurveyor_12 : decode cX8_addSurveyor 12 = .ok (.putfield 28, 3) := by decide +kernel
theorem dX8_addSurveyor_15 : decode cX8_addSurveyor 15 = .ok (.aload_n 0, 1) := by decide +kernel
theorem dX8_addSurveyor_16 : decode cX8_addSurveyor 16 = .ok (.iload_n 1, 1) := by decide +kernel
theorem dX8_addSurveyor_17 : decode cX8_addSurveyor 17 = .ok (.invokevirtual 165, 3) := by decide +kernel
theorem dX8_addSurveyor_20 : decode cX8_addSurveyor 20 = .ok (.iload_n 1, 1) := by decide +kernel
theorem dX8_addSurveyor_21 : decode cX8_addSurveyor 21 = .ok (.ireturn, 1) := by decide +kernel
set_option maxRecDepth 20000 in
theorem ggX8_tickOnce_X5_removeFirst : GoodIn wsX8_tickOnce wsX5_removeFirst := goodIn_r _ [199, 153, 155, 200, 141, 142, 143, 211, 212, 213] rfl (by decide +kernel)
set_option maxRecDepth 20000 in
theorem gX8_tickOnce_X5_removeFirst : GoodIn wsX8_tickOnce (wsV RX8 188 RX5 yX5_removeFirst wsX5_removeFirst) := goodIn_app (goodIn_of _ (by decide +kernel)) ggX8_tickOnce_X5_removeFirst
theorem dX8_tickOnce_0 : decode cX8_tickOnce 0 = .ok (.aload_n 0, 1) := by decide +kernel
theorem dX8_tickOnce_1 : decode cX8_tickOnce 1 = .ok (.getfield 24, 3) := by decide +kernel
theorem dX8_tickOnce_4 : decode cX8_tickOnce 4 = .ok (.getfield 138, 3) := by decide +kernel
theorem dX8_tickOnce_7 : decode cX8_tickOnce 7 = .ok (.istore_n 1, 1) := by decide +kernel
theorem dX8_tickOnce_8 : decode cX8_tickOnce 8 = .ok (.aload_n 0, 1) := by decide +kernel
theorem dX8_tickOnce_9 : decode cX8_tickOnce 9 = .ok (.dup, 1) := by decide +kernel
theorem dX8_tickOnce_10 : decode cX8_tickOnce 10 = .ok (.getfield 32, 3) := by decide +kernel
theorem dX8_tickOnce_13 : decode cX8_tickOnce 13 = .ok (.iconst 1, 1) := by decide +kernel
theorem dX8_tickOnce_14 : decode cX8_tickOnce 14 = .ok (.iadd, 1) := by decide +kernel
theorem dX8_tickOnce_15 : decode cX8_tickOnce 15 = .ok (.putfield 32, 3) := by decide +kernel
theorem dX8_tickOnce_18 : decode cX8_tickOnce 18 = .ok (.iconst 0, 1) := by decide +kernel
theorem dX8_tickOnce_19 : decode cX8_tickOnce 19 = .ok (.istore_n 2, 1) := by decide +kernel
theorem dX8_tickOnce_20 : decode cX8_tickOnce 20 = .ok (.iload_n 2, 1) := by decide +kernel
theorem dX8_tickOnce_21 : decode cX8_tickOnce 21 = .ok (.aload_n 0, 1) := by decide +kernel
theorem dX8_tickOnce_22 : decode cX8_tickOnce 22 = .ok (.getfield 28, 3) := by decide +kernel
theorem dX8_tickOnce_25 : decode cX8_tickOnce 25 = .ok (.if_icmp .ge 36, 3) := by decide +kernel
theorem dX8_tickOnce_61 : decode cX8_tickOnce 61 = .ok (.iconst 0, 1) := by decide +kernel
theorem dX8_tickOnce_62 : decode cX8_tickOnce 62 = .ok (.istore_n 2, 1) := by decide +kernel
theorem dX8_tickOnce_63 : decode cX8_tickOnce 63 = .ok (.iload_n 2, 1) := by decide +kernel
theorem dX8_tickOnce_64 : decode cX8_tickOnce 64 = .ok (.iload_n 1, 1) := by decide +kernel
theorem dX8_tickOnce_65 : decode cX8_tickOnce 65 = .ok (.if_icmp .ge 14, 3) := by decide +kernel
theorem dX8_tickOnce_79 : decode cX8_tickOnce 79 = .ok (.aload_n 0, 1) := by decide +kernel
theorem dX8_tickOnce_80 : decode cX8_tickOnce 80 = .ok (.getfield 24, 3) := by decide +kernel
theorem dX8_tickOnce_83 : decode cX8_tickOnce 83 = .ok (.iload_n 1, 1) := by decide +kernel
theorem dX8_tickOnce_84 : decode cX8_tickOnce 84 = .ok (.invokevirtual 188, 3) := by decide +kernel
theorem dX8_tickOnce_87 : decode cX8_tickOnce 87 = .ok (.return_, 1) := by decide +kernel
set_option maxRecDepth 20000 in
theorem ggX8_renew_X8_areNeighbours : GoodIn wsX8_renew wsX8_areNeighbours := goodIn_ca (goodIn_r _ [14, 15, 16, 17, 18, 19, 13, 20, 2, 21, 22, 23, 154, 155, 156, 157, 158, 159, 160, 161, 162, 163] rfl (by decide +kernel)) (goodIn_sub (fun _ h => List.mem_cons_of_mem _ (List.mem_append_right _ h)) (by decide +kernel))
set_option maxRecDepth 20000 in
theorem gX8_renew_X8_areNeighbours : GoodIn wsX8_renew (wsV RX8 81 RX8 yX8_areNeighbours wsX8_areNeighbours) := goodIn_app (goodIn_of _ (by decide +kernel)) ggX8_renew_X8_areNeighbours
set_option maxRecDepth 20000 in
theorem ggX8_renew_X8_pageIn : GoodIn wsX8_renew wsX8_pageIn := goodIn_ca (goodIn_r _ [31, 3, 8, 21, 22, 13, 23, 32, 33, 34, 35, 36, 37, 38, 39, 40, 41, 42, 43, 44, 45, 46, 47, 48, 49, 50, 51, 52, 53, 54, 55, 56, 57, 58, 59, 60, 61, 62, 154, 155, 156, 157, 158, 159, 160, 161, 162, 163, 168, 169, 170, 171, 172] rfl (by decide +kernel)) (goodIn_sub (fun _ h => List.mem_cons_of_mem _ (List.mem_append_right _ h)) (by decide +kernel))
set_option maxRecDepth 20000 in
theorem gX8_renew_X8_pageIn : GoodIn wsX8_renew (wsV RX8 88 RX8 yX8_pageIn wsX8_pageIn) := goodIn_app (goodIn_of _ (by decide +kernel)) ggX8_renew_X8_pageIn
set_option maxRecDepth 20000 in
theorem ggX8_renew_X6_init : GoodIn wsX8_renew wsX6_init := goodIn_r _ [65, 66, 67, 68, 69, 70, 71, 72, 164, 165, 166, 167] rfl (by decide +kernel)
set_option maxRecDepth 20000 in
theorem gX8_renew_X6_init : GoodIn wsX8_renew (wsX6_init) := ggX8_renew_X6_init
set_option maxRecDepth 20000 in
theorem ggX8_renew_X1_put : GoodIn wsX8_renew wsX1_put := goodIn_r _ [76, 37, 77, 40, 41, 42, 43, 44, 45, 78, 79, 80, 81, 82, 83, 62, 84, 85, 86, 87, 88, 89, 90, 91, 92, 93, 94, 95, 96, 97, 98, 99, 100, 101, 102, 103, 104, 105, 106, 107, 108, 109, 110, 111, 112, 113, 114, 115, 116, 117, 118, 119, 120, 121, 122, 123, 124, 125, 126, 127, 128, 129, 130, 168, 169, 170, 171, 172] rfl (by decide +kernel)
set_option maxRecDepth 20000 in
theorem gX8_renew_X1_put : GoodIn wsX8_renew (wsV RX8 201 RX1 yX1_put wsX1_put) := goodIn_app (goodIn_of _ (by decide +kernel)) ggX8_renew_X1_put
set_option maxRecDepth 20000 in
theorem ggX8_renew_X8_pair : GoodIn wsX8_renew wsX8_pair := goodIn_r _ [23] rfl (by decide +kernel)
set_option maxRecDepth 20000 in
theorem gX8_renew_X8_pair : GoodIn wsX8_renew (va_wsS RX8 62 yX8_pair wsX8_pair) := goodIn_app (goodIn_of _ (by decide +kernel)) ggX8_renew_X8_pair
set_option maxRecDepth 20000 in
theorem ggX8_renew_X8_sendToNeighbours : GoodIn wsX8_renew wsX8_sendToNeighbours := goodIn_ca (goodIn_r _ [134, 2, 135, 10, 11, 12, 13, 14, 15, 16, 17, 18, 19, 20, 21, 22, 23, 136, 137, 138, 139, 140, 141, 142, 143, 144, 145, 146, 113, 147, 148, 149, 150, 151, 152, 153, 1, 124, 125, 99, 126, 127, 128, 129, 130, 154, 155, 156, 157, 158, 159, 160, 161, 162, 163, 173, 174, 175] rfl (by decide +kernel)) (goodIn_sub (fun _ h => List.mem_cons_of_mem _ (List.mem_append_right _ h)) (by decide +kernel))
set_option maxRecDepth 20000 in
theorem gX8_renew_X8_sendToNeighbours : GoodIn wsX8_renew (wsV RX8 204 RX8 yX8_sendToNeighbours wsX8_sendToNeighbours) := goodIn_app (goodIn_of _ (by decide +kernel)) ggX8_renew_X8_sendToNeighbours
theorem dX8_renew_0 : decode cX8_renew 0 = .ok (.bipush 6, 2) := by decide +kernel
theorem dX8_renew_2 : decode cX8_renew 2 = .ok (.newarray .int, 2) := by decide +kernel
theorem dX8_renew_4 : decode cX8_renew 4 = .ok (.astore_n 2, 1) := by decide +kernel
theorem dX8_renew_5 : decode cX8_renew 5 = .ok (.iconst 0, 1) := by decide +kernel
theorem dX8_renew_6 : decode cX8_renew 6 = .ok (.istore_n 3, 1) := by decide +kernel
theorem dX8_renew_7 : decode cX8_renew 7 = .ok (.iload_n 3, 1) := by decide +kernel
theorem dX8_renew_8 : decode cX8_renew 8 = .ok (.aload_n 0, 1) := by decide +kernel
theorem dX8_renew_9 : decode cX8_renew 9 = .ok (.getfield 28, 3) := by decide +kernel
theorem dX8_renew_12 : decode cX8_renew 12 = .ok (.if_icmp .ge 31, 3) := by decide +kernel
theorem dX8_renew_15 : decode cX8_renew 15 = .ok (.aload_n 2, 1) := by decide +kernel
theorem dX8_renew_16 : decode cX8_renew 16 = .ok (.iload_n 3, 1) := by decide +kernel
theorem dX8_renew_17 : decode cX8_renew 17 = .ok (.aload_n 0, 1) := by decide +kernel
theorem dX8_renew_18 : decode cX8_renew 18 = .ok (.iload_n 1, 1) := by decide +kernel
theorem dX8_renew_19 : decode cX8_renew 19 = .ok (.iload_n 3, 1) := by decide +kernel
theorem dX8_renew_20 : decode cX8_renew 20 = .ok (.invokevirtual 81, 3) := by decide +kernel
theorem dX8_renew_23 : decode cX8_renew 23 = .ok (.ifCond .eq 12, 3) := by decide +kernel
theorem dX8_renew_35 : decode cX8_renew 35 = .ok (.iconst 0, 1) := by decide +kernel
theorem dX8_renew_36 : decode cX8_renew 36 = .ok (.iastore, 1) := by decide +kernel
theorem dX8_renew_37 : decode cX8_renew 37 = .ok (.iinc 3 1, 3) := by decide +kernel
theorem dX8_renew_40 : decode cX8_renew 40 = .ok (.goto (-33), 3) := by decide +kernel
theorem dX8_renew_43 : decode cX8_renew 43 = .ok (.aload_n 0, 1) := by decide +kernel
theorem dX8_renew_44 : decode cX8_renew 44 = .ok (.iload_n 1, 1) := by decide +kernel
theorem dX8_renew_45 : decode cX8_renew 45 = .ok (.iload_n 1, 1) := by decide +kernel
theorem dX8_renew_46 : decode cX8_renew 46 = .ok (.invokevirtual 88, 3) := by decide +kernel
theorem dX8_renew_49 : decode cX8_renew 49 = .ok (.getfield 105, 3) := by decide +kernel
theorem dX8_renew_52 : decode cX8_renew 52 = .ok (.iconst 1, 1) := by decide +kernel
theorem dX8_renew_53 : decode cX8_renew 53 = .ok (.iadd, 1) := by decide +kernel
theorem dX8_renew_54 : decode cX8_renew 54 = .ok (.istore_n 3, 1) := by decide +kernel
theorem dX8_renew_55 : decode cX8_renew 55 = .ok (.aload_n 0, 1) := by decide +kernel
theorem dX8_renew_56 : decode cX8_renew 56 = .ok (.getfield 44, 3) := by decide +kernel
theorem dX8_renew_59 : decode cX8_renew 59 = .ok (.new 77, 3) := by decide +kernel
theorem dX8_renew_62 : decode cX8_renew 62 = .ok (.dup, 1) := by decide +kernel
theorem dX8_renew_63 : decode cX8_renew 63 = .ok (.iload_n 1, 1) := by decide +kernel
theorem dX8_renew_64 : decode cX8_renew 64 = .ok (.iload_n 3, 1) := by decide +kernel
theorem dX8_renew_65 : decode cX8_renew 65 = .ok (.aload_n 0, 1) := by decide +kernel
theorem dX8_renew_66 : decode cX8_renew 66 = .ok (.getfield 32, 3) := by decide +kernel
theorem dX8_renew_69 : decode cX8_renew 69 = .ok (.aload_n 2, 1) := by decide +kernel
theorem dX8_renew_70 : decode cX8_renew 70 = .ok (.invokespecial 198, 3) := by decide +kernel
theorem dX8_renew_73 : decode cX8_renew 73 = .ok (.invokevirtual 201, 3) := by decide +kernel
theorem dX8_renew_76 : decode cX8_renew 76 = .ok (.istore 4, 2) := by decide +kernel
theorem dX8_renew_78 : decode cX8_renew 78 = .ok (.aload_n 0, 1) := by decide +kernel
theorem dX8_renew_79 : decode cX8_renew 79 = .ok (.getfield 18, 3) := by decide +kernel
theorem dX8_renew_82 : decode cX8_renew 82 = .ok (.iload_n 1, 1) := by decide +kernel
theorem dX8_renew_83 : decode cX8_renew 83 = .ok (.iload_n 1, 1) := by decide +kernel
theorem dX8_renew_84 : decode cX8_renew 84 = .ok (.invokestatic 62, 3) := by decide +kernel
theorem dX8_renew_87 : decode cX8_renew 87 = .ok (.iload 4, 2) := by decide +kernel
theorem dX8_renew_89 : decode cX8_renew 89 = .ok (.iastore, 1) := by decide +kernel
theorem dX8_renew_90 : decode cX8_renew 90 = .ok (.aload_n 0, 1) := by decide +kernel
theorem dX8_renew_91 : decode cX8_renew 91 = .ok (.dup, 1) := by decide +kernel
theorem dX8_renew_92 : decode cX8_renew 92 = .ok (.getfield 41, 3) := by decide +kernel
theorem dX8_renew_95 : decode cX8_renew 95 = .ok (.iconst 1, 1) := by decide +kernel
theorem dX8_renew_96 : decode cX8_renew 96 = .ok (.iadd, 1) := by decide +kernel
theorem dX8_renew_97 : decode cX8_renew 97 = .ok (.putfield 41, 3) := by decide +kernel
theorem dX8_renew_100 : decode cX8_renew 100 = .ok (.aload_n 0, 1) := by decide +kernel
theorem dX8_renew_101 : decode cX8_renew 101 = .ok (.iload_n 1, 1) := by decide +kernel
theorem dX8_renew_102 : decode cX8_renew 102 = .ok (.iload 4, 2) := by decide +kernel
theorem dX8_renew_104 : decode cX8_renew 104 = .ok (.iconst (-1), 1) := by decide +kernel
theorem dX8_renew_105 : decode cX8_renew 105 = .ok (.invokevirtual 204, 3) := by decide +kernel
theorem dX8_renew_108 : decode cX8_renew 108 = .ok (.return_, 1) := by decide +kernel
set_option maxRecDepth 20000 in
theorem ggX8_sendToNeighbours_X8_areNeighbours : GoodIn wsX8_sendToNeighbours wsX8_areNeighbours := goodIn_ca (goodIn_r _ [7, 8, 9, 10, 11, 12, 6, 13, 1, 14, 15, 16, 45, 46, 47, 48, 49, 50, 51, 52, 53, 54] rfl (by decide +kernel)) (goodIn_sub (fun _ h => List.mem_cons_of_mem _ (List.mem_append_right _ h)) (by decide +kernel))
set_option maxRecDepth 20000 in
theorem gX8_sendToNeighbours_X8_areNeighbours : GoodIn wsX8_sendToNeighbours (wsV RX8 81 RX8 yX8_areNeighbours wsX8_areNeighbours) := goodIn_app (goodIn_of _ (by decide +kernel)) ggX8_sendToNeighbours_X8_areNeighbours
theorem dX8_sendToNeighbours_0 : decode cX8_sendToNeighbours 0 = .ok (.iconst 0, 1) := by decide +kernel
theorem dX8_sendToNeighbours_1 : decode cX8_sendToNeighbours 1 = .ok (.istore 4, 2) := by decide +kernel
theorem dX8_sendToNeighbours_3 : decode cX8_sendToNeighbours 3 = .ok (.iload 4, 2) := by decide +kernel
theorem dX8_sendToNeighbours_5 : decode cX8_sendToNeighbours 5 = .ok (.aload_n 0, 1) := by decide +kernel
theorem dX8_sendToNeighbours_6 : decode cX8_sendToNeighbours 6 = .ok (.getfield 28, 3) := by decide +kernel
theorem dX8_sendToNeighbours_9 : decode cX8_sendToNeighbours 9 = .ok (.if_icmp .ge 36, 3) := by decide +kernel
theorem dX8_sendToNeighbours_12 : decode cX8_sendToNeighbours 12 = .ok (.iload 4, 2) := by decide +kernel
theorem dX8_sendToNeighbours_14 : decode cX8_sendToNeighbours 14 = .ok (.iload_n 3, 1) := by decide +kernel
theorem dX8_sendToNeighbours_15 : decode cX8_sendToNeighbours 15 = .ok (.if_icmp .eq 24, 3) := by decide +kernel
theorem dX8_sendToNeighbours_18 : decode cX8_sendToNeighbours 18 = .ok (.aload_n 0, 1) := by decide +kernel
theorem dX8_sendToNeighbours_19 : decode cX8_sendToNeighbours 19 = .ok (.iload_n 1, 1) := by decide +kernel
theorem dX8_sendToNeighbours_20 : decode cX8_sendToNeighbours 20 = .ok (.iload 4, 2) := by decide +kernel
theorem dX8_sendToNeighbours_22 : decode cX8_sendToNeighbours 22 = .ok (.invokevirtual 81, 3) := by decide +kernel
theorem dX8_sendToNeighbours_25 : decode cX8_sendToNeighbours 25 = .ok (.ifCond .eq 14, 3) := by decide +kernel
theorem dX8_sendToNeighbours_39 : decode cX8_sendToNeighbours 39 = .ok (.iinc 4 1, 3) := by decide +kernel
theorem dX8_sendToNeighbours_42 : decode cX8_sendToNeighbours 42 = .ok (.goto (-39), 3) := by decide +kernel
theorem dX8_sendToNeighbours_45 : decode cX8_sendToNeighbours 45 = .ok (.return_, 1) := by decide +kernel
theorem dX9_init_0 : decode cX9_init 0 = .ok (.aload_n 0, 1) := by decide +kernel
theorem dX9_init_1 : decode cX9_init 1 = .ok (.invokespecial 3, 3) := by decide +kernel
theorem dX9_init_4 : decode cX9_init 4 = .ok (.aload_n 0, 1) := by decide +kernel
theorem dX9_init_5 : decode cX9_init 5 = .ok (.bipush 36, 2) := by decide +kernel
theorem dX9_init_7 : decode cX9_init 7 = .ok (.newarray .int, 2) := by decide +kernel
theorem dX9_init_9 : decode cX9_init 9 = .ok (.putfield 9, 3) := by decide +kernel
theorem dX9_init_12 : decode cX9_init 12 = .ok (.aload_n 0, 1) := by decide +kernel
theorem dX9_init_13 : decode cX9_init 13 = .ok (.bipush 6, 2) := by decide +kernel
theorem dX9_init_15 : decode cX9_init 15 = .ok (.newarray .int, 2) := by decide +kernel
theorem dX9_init_17 : decode cX9_init 17 = .ok (.putfield 15, 3) := by decide +kernel
theorem dX9_init_20 : decode cX9_init 20 = .ok (.return_, 1) := by decide +kernel
set_option maxRecDepth 20000 in
theorem ggX10_init_X9_init : GoodIn wsX10_init wsX9_init := goodIn_r _ [33, 34, 2, 3, 35, 36, 37, 188, 189] rfl (by decide +kernel)
set_option maxRecDepth 20000 in
theorem gX10_init_X9_init_n11 : GoodIn wsX10_init (wsX9_init) := ggX10_init_X9_init
set_option maxRecDepth 20000 in
theorem ggX10_init_X3_init : GoodIn wsX10_init wsX3_init := goodIn_r _ [39, 40, 2, 3, 41, 42, 43, 44, 45, 46, 35, 47, 200, 201, 202, 203, 204] rfl (by decide +kernel)
set_option maxRecDepth 20000 in
theorem gX10_init_X3_init_n18 : GoodIn wsX10_init (wsX3_init) := ggX10_init_X3_init
set_option maxRecDepth 20000 in
theorem ggX10_init_J4_init_da8c8 : GoodIn wsX10_init wsJ4_init_da8c8 := goodIn_r _ [50, 51, 52, 53, 54, 55, 2, 3, 56, 57, 58, 59, 60, 61, 62, 63, 64, 65, 66, 67, 205, 206, 207, 208] rfl (by decide +kernel)
set_option maxRecDepth 20000 in
theorem gX10_init_J4_init_da8c8 : GoodIn wsX10_init (wsJ4_init_da8c8) := ggX10_init_J4_init_da8c8
set_option maxRecDepth 20000 in
theorem ggX10_init_X1_init : GoodIn wsX10_init wsX1_init := goodIn_r _ [70, 71, 2, 3, 72, 73, 74, 75, 76, 77, 78, 35, 79, 80, 81, 82, 83, 84, 85, 86, 87, 88, 89, 90, 91, 92, 93, 94, 95, 96, 97, 98, 99, 100, 101, 102, 103, 104, 105, 106, 107, 108, 109, 110, 111, 112, 113, 114, 115, 116, 117, 118, 119, 120, 121, 122, 123, 124, 125, 126, 127, 128, 129, 130, 131, 132, 133, 134, 135, 136, 137, 138, 139, 140, 141, 142, 143, 144, 145, 146, 147, 148, 149, 150, 151, 152, 153, 154, 155, 224, 225, 226, 209, 210, 227, 228, 229, 230] rfl (by decide +kernel)
set_option maxRecDepth 20000 in
theorem gX10_init_X1_init : GoodIn wsX10_init (wsX1_init) := ggX10_init_X1_init
set_option maxRecDepth 20000 in
theorem ggX10_init_X8_init : GoodIn wsX10_init wsX8_init := goodIn_r _ [158, 159, 2, 3, 35, 160, 161, 162, 163, 164, 165, 166, 167, 168, 169, 170, 171, 172, 173, 174, 175, 176, 177, 178, 211, 212, 213, 214, 215, 216, 217, 218, 219, 220, 231, 232, 233] rfl (by decide +kernel)
set_option maxRecDepth 20000 in
theorem gX10_init_X8_init : GoodIn wsX10_init (wsX8_init) := ggX10_init_X8_init
set_option maxRecDepth 20000 in
theorem ggX10_init_X4_init : GoodIn wsX10_init wsX4_init := goodIn_r _ [181, 182, 2, 3, 183, 184, 185, 186, 23, 24, 187, 157, 158, 159, 35, 160, 161, 162, 163, 164, 165, 166, 167, 168, 169, 170, 171, 172, 173, 174, 175, 176, 177, 178, 221, 222, 223, 211, 212, 213, 214, 215, 216, 217, 218, 219, 220, 231, 232, 233] rfl (by decide +kernel)
set_option maxRecDepth 20000 in
theorem gX10_init_X4_init : GoodIn wsX10_init (wsX4_init) := ggX10_init_X4_init
theorem dX10_init_0 : decode cX10_init 0 = .ok (.aload_n 0, 1) := by decide +kernel
theorem dX10_init_1 : decode cX10_init 1 = .ok (.invokespecial 3, 3) := by decide +kernel
theorem dX10_init_4 : decode cX10_init 4 = .ok (.aload_n 0, 1) := by decide +kernel
theorem dX10_init_5 : decode cX10_init 5 = .ok (.new 9, 3) := by decide +kernel
theorem dX10_init_8 : decode cX10_init 8 = .ok (.dup, 1) := by decide +kernel
theorem dX10_init_9 : decode cX10_init 9 = .ok (.invokespecial 11, 3) := by decide +kernel
theorem dX10_init_12 : decode cX10_init 12 = .ok (.putfield 12, 3) := by decide +kernel
theorem dX10_init_15 : decode cX10_init 15 = .ok (.aload_n 0, 1) := by decide +kernel
theorem dX10_init_16 : decode cX10_init 16 = .ok (.new 16, 3) := by decide +kernel
theorem dX10_init_19 : decode cX10_init 19 = .ok (.dup, 1) := by decide +kernel
theorem dX10_init_20 : decode cX10_init 20 = .ok (.invokespecial 18, 3) := by decide +kernel
theorem dX10_init_23 : decode cX10_init 23 = .ok (.putfield 19, 3) := by decide +kernel
theorem dX10_init_26 : decode cX10_init 26 = .ok (.aload_n 0, 1) := by decide +kernel
theorem dX10_init_27 : decode cX10_init 27 = .ok (.new 23, 3) := by decide +kernel
theorem dX10_init_30 : decode cX10_init 30 = .ok (.dup, 1) := by decide +kernel
theorem dX10_init_31 : decode cX10_init 31 = .ok (.invokespecial 25, 3) := by decide +kernel
theorem dX10_init_34 : decode cX10_init 34 = .ok (.putfield 26, 3) := by decide +kernel
theorem dX10_init_37 : decode cX10_init 37 = .ok (.aload_n 0, 1) := by decide +kernel
theorem dX10_init_38 : decode cX10_init 38 = .ok (.iconst 0, 1) := by decide +kernel
theorem dX10_init_39 : decode cX10_init 39 = .ok (.putfield 30, 3) := by decide +kernel
theorem dX10_init_42 : decode cX10_init 42 = .ok (.aload_n 0, 1) := by decide +kernel
theorem dX10_init_43 : decode cX10_init 43 = .ok (.iconst (-1), 1) := by decide +kernel
theorem dX10_init_44 : decode cX10_init 44 = .ok (.putfield 34, 3) := by decide +kernel
theorem dX10_init_47 : decode cX10_init 47 = .ok (.aload_n 0, 1) := by decide +kernel
theorem dX10_init_48 : decode cX10_init 48 = .ok (.aconst_null, 1) := by decide +kernel
theorem dX10_init_49 : decode cX10_init 49 = .ok (.putfield 38, 3) := by decide +kernel
theorem dX10_init_52 : decode cX10_init 52 = .ok (.new 42, 3) := by decide +kernel
theorem dX10_init_55 : decode cX10_init 55 = .ok (.dup, 1) := by decide +kernel
theorem dX10_init_56 : decode cX10_init 56 = .ok (.invokespecial 44, 3) := by decide +kernel
theorem dX10_init_59 : decode cX10_init 59 = .ok (.astore_n 1, 1) := by decide +kernel
theorem dX10_init_60 : decode cX10_init 60 = .ok (.aload_n 0, 1) := by decide +kernel
theorem dX10_init_61 : decode cX10_init 61 = .ok (.new 45, 3) := by decide +kernel
theorem dX10_init_64 : decode cX10_init 64 = .ok (.dup, 1) := by decide +kernel
theorem dX10_init_65 : decode cX10_init 65 = .ok (.aload_n 1, 1) := by decide +kernel
theorem dX10_init_66 : decode cX10_init 66 = .ok (.invokespecial 47, 3) := by decide +kernel
theorem dX10_init_69 : decode cX10_init 69 = .ok (.putfield 50, 3) := by decide +kernel
theorem dX10_init_72 : decode cX10_init 72 = .ok (.aload_n 0, 1) := by decide +kernel
theorem dX10_init_73 : decode cX10_init 73 = .ok (.new 45, 3) := by decide +kernel
theorem dX10_init_76 : decode cX10_init 76 = .ok (.dup, 1) := by decide +kernel
theorem dX10_init_77 : decode cX10_init 77 = .ok (.aload_n 1, 1) := by decide +kernel
theorem dX10_init_78 : decode cX10_init 78 = .ok (.invokespecial 47, 3) := by decide +kernel
theorem dX10_init_81 : decode cX10_init 81 = .ok (.putfield 54, 3) := by decide +kernel
theorem dX10_init_84 : decode cX10_init 84 = .ok (.aload_n 0, 1) := by decide +kernel
theorem dX10_init_85 : decode cX10_init 85 = .ok (.new 45, 3) := by decide +kernel
theorem dX10_init_88 : decode cX10_init 88 = .ok (.dup, 1) := by decide +kernel
theorem dX10_init_89 : decode cX10_init 89 = .ok (.aload_n 1, 1) := by decide +kernel
theorem dX10_init_90 : decode cX10_init 90 = .ok (.invokespecial 47, 3) := by decide +kernel
theorem dX10_init_93 : decode cX10_init 93 = .ok (.putfield 57, 3) := by decide +kernel
theorem dX10_init_96 : decode cX10_init 96 = .ok (.aload_n 0, 1) := by decide +kernel
theorem dX10_init_97 : decode cX10_init 97 = .ok (.new 60, 3) := by decide +kernel
theorem dX10_init_100 : decode cX10_init 100 = .ok (.dup, 1) := by decide +kernel
theorem dX10_init_101 : decode cX10_init 101 = .ok (.aload_n 1, 1) := by decide +kernel
theorem dX10_init_102 : decode cX10_init 102 = .ok (.invokespecial 62, 3) := by decide +kernel
theorem dX10_init_105 : decode cX10_init 105 = .ok (.putfield 63, 3) := by decide +kernel
theorem dX10_init_108 : decode cX10_init 108 = .ok (.return_, 1) := by decide +kernel
set_option maxRecDepth 20000 in
theorem ggX10_come_X10_change : GoodIn wsX10_come wsX10_change := goodIn_ca (goodIn_ca (goodIn_r _ [6, 7, 8, 9, 10, 11, 12, 13, 14, 15, 16, 17, 18, 19, 20, 21, 22, 23, 24, 25, 26, 27, 28, 29, 30, 31, 32, 33, 34, 35, 36, 37, 38, 39, 40, 41, 42, 43, 44, 45, 46, 47, 48, 49, 50, 51, 52, 53, 54, 55, 56, 57, 58, 59, 60, 61, 62, 63, 64, 65, 66, 67, 68, 69, 70, 5, 71, 72, 73, 74, 75, 76, 77, 78, 79, 80, 81, 82, 83, 84, 85, 86, 87, 88, 89, 90, 91, 92, 93, 94, 95, 96, 97, 98, 99, 100, 101, 102, 103, 104, 105, 106, 107, 108, 109, 110, 111, 112, 113, 114, 115, 116, 117, 118, 119, 120, 121, 122, 123, 124, 125, 126, 127, 128, 129, 130, 131, 132, 133, 134, 135, 136, 137, 138, 139, 140, 141, 142, 143, 144, 145, 146, 147, 148, 149, 150, 151, 152, 153, 154, 155, 156, 157, 158, 159, 160, 161, 162, 163, 164, 165, 166, 167, 168, 169, 170, 171, 172, 173, 174, 175, 176, 177, 178, 179, 180, 181, 182, 183, 184, 185, 186, 187, 188, 189, 190, 191, 192, 193, 194, 195, 196, 197, 198, 199, 200, 201, 202, 203, 204, 205, 206, 207, 208, 209, 210, 211, 212, 213, 214, 215, 216, 217, 218, 219, 220, 221, 222, 223, 224, 225, 226, 227, 228, 229, 230, 231, 232, 233, 234, 235, 236, 237, 238, 239, 240, 241, 242, 243, 244, 245, 246, 247, 248, 249, 250, 251, 252, 253, 254, 255, 256, 257, 258, 259, 260, 261, 262, 263, 264, 265, 266, 267, 268, 269, 270, 271, 272, 273, 274, 275, 276, 277, 278, 279, 280, 281, 282, 283, 284, 285, 286, 287, 288, 289, 290, 291, 292, 293, 294, 295, 296, 297, 298, 299, 300, 301, 302, 303, 304, 305, 306, 307, 308, 309, 310, 311, 312, 313, 314, 315, 316, 317, 318, 319, 320, 321, 322, 323, 324, 325, 326, 327, 328, 329, 330, 331, 332, 333, 334, 335, 336, 337, 338, 339, 340, 341, 342, 343, 344, 345, 346, 347, 348] rfl (by decide +kernel)) (goodIn_sub (fun _ h => List.mem_cons_of_mem _ (List.mem_append_left _ (List.mem_append_right _ h))) (by decide +kernel))) (goodIn_sub (fun _ h => List.mem_cons_of_mem _ (List.mem_append_right _ h)) (by decide +kernel))
set_option maxRecDepth 20000 in
theorem gX10_come_X10_change : GoodIn wsX10_come (wsV RX10 73 RX10 yX10_change wsX10_change) := goodIn_app (goodIn_of _ (by decide +kernel)) ggX10_come_X10_change
theorem dX10_come_0 : decode cX10_come 0 = .ok (.aload_n 0, 1) := by decide +kernel
theorem dX10_come_1 : decode cX10_come 1 = .ok (.getstatic 67, 3) := by decide +kernel
theorem dX10_come_4 : decode cX10_come 4 = .ok (.iconst 0, 1) := by decide +kernel
theorem dX10_come_5 : decode cX10_come 5 = .ok (.iconst 0, 1) := by decide +kernel
theorem dX10_come_6 : decode cX10_come 6 = .ok (.iconst 0, 1) := by decide +kernel
theorem dX10_come_7 : decode cX10_come 7 = .ok (.invokevirtual 73, 3) := by decide +kernel
theorem dX10_come_10 : decode cX10_come 10 = .ok (.ireturn, 1) := by decide +kernel
set_option maxRecDepth 20000 in
theorem ggX10_canal_X10_change : GoodIn wsX10_canal wsX10_change := goodIn_ca (goodIn_ca (goodIn_r _ [6, 7, 8, 9, 10, 11, 12, 13, 14, 15, 16, 17, 18, 19, 20, 21, 22, 23, 24, 25, 26, 27, 28, 29, 30, 31, 32, 33, 34, 35, 36, 37, 38, 39, 40, 41, 42, 43, 44, 45, 46, 47, 48, 49, 50, 51, 52, 53, 54, 55, 56, 57, 58, 59, 60, 61, 62, 63, 64, 65, 66, 67, 68, 69, 70, 5, 71, 72, 73, 74, 75, 76, 77, 78, 79, 80, 81, 82, 83, 84, 85, 86, 87, 88, 89, 90, 91, 92, 93, 94, 95, 96, 97, 98, 99, 100, 101, 102, 103, 104, 105, 106, 107, 108, 109, 110, 111, 112, 113, 114, 115, 116, 117, 118, 119, 120, 121, 122, 123, 124, 125, 126, 127, 128, 129, 130, 131, 132, 133, 134, 135, 136, 137, 138, 139, 140, 141, 142, 143, 144, 145, 146, 147, 148, 149, 150, 151, 152, 153, 154, 155, 156, 157, 158, 159, 160, 161, 162, 163, 164, 165, 166, 167, 168, 169, 170, 171, 172, 173, 174, 175, 176, 177, 178, 179, 180, 181, 182, 183, 184, 185, 186, 187, 188, 189, 190, 191, 192, 193, 194, 195, 196, 197, 198, 199, 200, 201, 202, 203, 204, 205, 206, 207, 208, 209, 210, 211, 212, 213, 214, 215, 216, 217, 218, 219, 220, 221, 222, 223, 224, 225, 226, 227, 228, 229, 230, 231, 232, 233, 234, 235, 236, 237, 238, 239, 240, 241, 242, 243, 244, 245, 246, 247, 248, 249, 250, 251, 252, 253, 254, 255, 256, 257, 258, 259, 260, 261, 262, 263, 264, 265, 266, 267, 268, 269, 270, 271, 272, 273, 274, 275, 276, 277, 278, 279, 280, 281, 282, 283, 284, 285, 286, 287, 288, 289, 290, 291, 292, 293, 294, 295, 296, 297, 298, 299, 300, 301, 302, 303, 304, 305, 306, 307, 308, 309, 310, 311, 312, 313, 314, 315, 316, 317, 318, 319, 320, 321, 322, 323, 324, 325, 326, 327, 328, 329, 330, 331, 332, 333, 334, 335, 336, 337, 338, 339, 340, 341, 342, 343, 344, 345, 346, 347, 348] rfl (by decide +kernel)) (goodIn_sub (fun _ h => List.mem_cons_of_mem _ (List.mem_append_left _ (List.mem_append_right _ h))) (by decide +kernel))) (goodIn_sub (fun _ h => List.mem_cons_of_mem _ (List.mem_append_right _ h)) (by decide +kernel))
set_option maxRecDepth 20000 in
theorem gX10_canal_X10_change : GoodIn wsX10_canal (wsV RX10 73 RX10 yX10_change wsX10_change) := goodIn_app (goodIn_of _ (by decide +kernel)) ggX10_canal_X10_change
theorem dX10_canal_0 : decode cX10_canal 0 = .ok (.aload_n 0, 1) := by decide +kernel
theorem dX10_canal_1 : decode cX10_canal 1 = .ok (.getstatic 77, 3) := by decide +kernel
theorem dX10_canal_4 : decode cX10_canal 4 = .ok (.iload_n 1, 1) := by decide +kernel
theorem dX10_canal_5 : decode cX10_canal 5 = .ok (.iload_n 2, 1) := by decide +kernel
theorem dX10_canal_6 : decode cX10_canal 6 = .ok (.iload_n 3, 1) := by decide +kernel
theorem dX10_canal_7 : decode cX10_canal 7 = .ok (.invokevirtual 73, 3) := by decide +kernel
set_option maxRecDepth 20000 in
theorem ggX10_close_X10_change : GoodIn wsX10_close wsX10_change := goodIn_ca (goodIn_ca (goodIn_r _ [6, 7, 8, 9, 10, 11, 12, 13, 14, 15, 16, 17, 18, 19, 20, 21, 22, 23, 24, 25, 26, 27, 28, 29, 30, 31, 32, 33, 34, 35, 36, 37, 38, 39, 40, 41, 42, 43, 44, 45, 46, 47, 48, 49, 50, 51, 52, 53, 54, 55, 56, 57, 58, 59, 60, 61, 62, 63, 64, 65, 66, 67, 68, 69, 70, 5, 71, 72, 73, 74, 75, 76, 77, 78, 79, 80, 81, 82, 83, 84, 85, 86, 87, 88, 89, 90, 91, 92, 93, 94, 95, 96, 97, 98, 99, 100, 101, 102, 103, 104, 105, 106, 107, 108, 109, 110, 111, 112, 113, 114, 115, 116, 117, 118, 119, 120, 121, 122, 123, 124, 125, 126, 127, 128, 129, 130, 131, 132, 133, 134, 135, 136, 137, 138, 139, 140, 141, 142, 143, 144, 145, 146, 147, 148, 149, 150, 151, 152, 153, 154, 155, 156, 157, 158, 159, 160, 161, 162, 163, 164, 165, 166, 167, 168, 169, 170, 171, 172, 173, 174, 175, 176, 177, 178, 179, 180, 181, 182, 183, 184, 185, 186, 187, 188, 189, 190, 191, 192, 193, 194, 195, 196, 197, 198, 199, 200, 201, 202, 203, 204, 205, 206, 207, 208, 209, 210, 211, 212, 213, 214, 215, 216, 217, 218, 219, 220, 221, 222, 223, 224, 225, 226, 227, 228, 229, 230, 231, 232, 233, 234, 235, 236, 237, 238, 239, 240, 241, 242, 243, 244, 245, 246, 247, 248, 249, 250, 251, 252, 253, 254, 255, 256, 257, 258, 259, 260, 261, 262, 263, 264, 265, 266, 267, 268, 269, 270, 271, 272, 273, 274, 275, 276, 277, 278, 279, 280, 281, 282, 283, 284, 285, 286, 287, 288, 289, 290, 291, 292, 293, 294, 295, 296, 297, 298, 299, 300, 301, 302, 303, 304, 305, 306, 307, 308, 309, 310, 311, 312, 313, 314, 315, 316, 317, 318, 319, 320, 321, 322, 323, 324, 325, 326, 327, 328, 329, 330, 331, 332, 333, 334, 335, 336, 337, 338, 339, 340, 341, 342, 343, 344, 345, 346, 347, 348] rfl (by decide +kernel)) (goodIn_sub (fun _ h => List.mem_cons_of_mem _ (List.mem_append_left _ (List.mem_append_right _ h))) (by decide +kernel))) (goodIn_sub (fun _ h => List.mem_cons_of_mem _ (List.mem_append_right _ h)) (by decide +kernel))
set_option maxRecDepth 20000 in
theorem gX10_close_X10_change : GoodIn wsX10_close (wsV RX10 73 RX10 yX10_change wsX10_change) := goodIn_app (goodIn_of _ (by decide +kernel)) ggX10_close_X10_change
theorem dX10_close_0 : decode cX10_close 0 = .ok (.aload_n 0, 1) := by decide +kernel
theorem dX10_close_1 : decode cX10_close 1 = .ok (.getstatic 80, 3) := by decide +kernel
theorem dX10_close_4 : decode cX10_close 4 = .ok (.iload_n 1, 1) := by decide +kernel
theorem dX10_close_5 : decode cX10_close 5 = .ok (.iload_n 2, 1) := by decide +kernel
theorem dX10_close_6 : decode cX10_close 6 = .ok (.iconst 0, 1) := by decide +kernel
theorem dX10_close_7 : decode cX10_close 7 = .ok (.invokevirtual 73, 3) := by decide +kernel
set_option maxRecDepth 20000 in
theorem ggX10_district_X10_change : GoodIn wsX10_district wsX10_change := goodIn_ca (goodIn_ca (goodIn_r _ [6, 7, 8, 9, 10, 11, 12, 13, 14, 15, 16, 17, 18, 19, 20, 21, 22, 23, 24, 25, 26, 27, 28, 29, 30, 31, 32, 33, 34, 35, 36, 37, 38, 39, 40, 41, 42, 43, 44, 45, 46, 47, 48, 49, 50, 51, 52, 53, 54, 55, 56, 57, 58, 59, 60, 61, 62, 63, 64, 65, 66, 67, 68, 69, 70, 5, 71, 72, 73, 74, 75, 76, 77, 78, 79, 80, 81, 82, 83, 84, 85, 86, 87, 88, 89, 90, 91, 92, 93, 94, 95, 96, 97, 98, 99, 100, 101, 102, 103, 104, 105, 106, 107, 108, 109, 110, 111, 112, 113, 114, 115, 116, 117, 118, 119, 120, 121, 122, 123, 124, 125, 126, 127, 128, 129, 130, 131, 132, 133, 134, 135, 136, 137, 138, 139, 140, 141, 142, 143, 144, 145, 146, 147, 148, 149, 150, 151, 152, 153, 154, 155, 156, 157, 158, 159, 160, 161, 162, 163, 164, 165, 166, 167, 168, 169, 170, 171, 172, 173, 174, 175, 176, 177, 178, 179, 180, 181, 182, 183, 184, 185, 186, 187, 188, 189, 190, 191, 192, 193, 194, 195, 196, 197, 198, 199, 200, 201, 202, 203, 204, 205, 206, 207, 208, 209, 210, 211, 212, 213, 214, 215, 216, 217, 218, 219, 220, 221, 222, 223, 224, 225, 226, 227, 228, 229, 230, 231, 232, 233, 234, 235, 236, 237, 238, 239, 240, 241, 242, 243, 244, 245, 246, 247, 248, 249, 250, 251, 252, 253, 254, 255, 256, 257, 258, 259, 260, 261, 262, 263, 264, 265, 266, 267, 268, 269, 270, 271, 272, 273, 274, 275, 276, 277, 278, 279, 280, 281, 282, 283, 284, 285, 286, 287, 288, 289, 290, 291, 292, 293, 294, 295, 296, 297, 298, 299, 300, 301, 302, 303, 304, 305, 306, 307, 308, 309, 310, 311, 312, 313, 314, 315, 316, 317, 318, 319, 320, 321, 322, 323, 324, 325, 326, 327, 328, 329, 330, 331, 332, 333, 334, 335, 336, 337, 338, 339, 340, 341, 342, 343, 344, 345, 346, 347, 348] rfl (by decide +kernel)) (goodIn_sub (fun _ h => List.mem_cons_of_mem _ (List.mem_append_left _ (List.mem_append_right _ h))) (by decide +kernel))) (goodIn_sub (fun _ h => List.mem_cons_of_mem _ (List.mem_append_right _ h)) (by decide +kernel))
set_option maxRecDepth 20000 in
theorem gX10_district_X10_change : GoodIn wsX10_district (wsV RX10 73 RX10 yX10_change wsX10_change) := goodIn_app (goodIn_of _ (by decide +kernel)) ggX10_district_X10_change
theorem dX10_district_0 : decode cX10_district 0 = .ok (.aload_n 0, 1) := by decide +kernel
theorem dX10_district_1 : decode cX10_district 1 = .ok (.getstatic 83, 3) := by decide +kernel
theorem dX10_district_4 : decode cX10_district 4 = .ok (.iload_n 1, 1) := by decide +kernel
theorem dX10_district_5 : decode cX10_district 5 = .ok (.iload_n 2, 1) := by decide +kernel
theorem dX10_district_6 : decode cX10_district 6 = .ok (.iconst 0, 1) := by decide +kernel
theorem dX10_district_7 : decode cX10_district 7 = .ok (.invokevirtual 73, 3) := by decide +kernel
set_option maxRecDepth 20000 in
theorem ggX10_lose_X10_change : GoodIn wsX10_lose wsX10_change := goodIn_ca (goodIn_ca (goodIn_r _ [6, 7, 8, 9, 10, 11, 12, 13, 14, 15, 16, 17, 18, 19, 20, 21, 22, 23, 24, 25, 26, 27, 28, 29, 30, 31, 32, 33, 34, 35, 36, 37, 38, 39, 40, 41, 42, 43, 44, 45, 46, 47, 48, 49, 50, 51, 52, 53, 54, 55, 56, 57, 58, 59, 60, 61, 62, 63, 64, 65, 66, 67, 68, 69, 70, 5, 71, 72, 73, 74, 75, 76, 77, 78, 79, 80, 81, 82, 83, 84, 85, 86, 87, 88, 89, 90, 91, 92, 93, 94, 95, 96, 97, 98, 99, 100, 101, 102, 103, 104, 105, 106, 107, 108, 109, 110, 111, 112, 113, 114, 115, 116, 117, 118, 119, 120, 121, 122, 123, 124, 125, 126, 127, 128, 129, 130, 131, 132, 133, 134, 135, 136, 137, 138, 139, 140, 141, 142, 143, 144, 145, 146, 147, 148, 149, 150, 151, 152, 153, 154, 155, 156, 157, 158, 159, 160, 161, 162, 163, 164, 165, 166, 167, 168, 169, 170, 171, 172, 173, 174, 175, 176, 177, 178, 179, 180, 181, 182, 183, 184, 185, 186, 187, 188, 189, 190, 191, 192, 193, 194, 195, 196, 197, 198, 199, 200, 201, 202, 203, 204, 205, 206, 207, 208, 209, 210, 211, 212, 213, 214, 215, 216, 217, 218, 219, 220, 221, 222, 223, 224, 225, 226, 227, 228, 229, 230, 231, 232, 233, 234, 235, 236, 237, 238, 239, 240, 241, 242, 243, 244, 245, 246, 247, 248, 249, 250, 251, 252, 253, 254, 255, 256, 257, 258, 259, 260, 261, 262, 263, 264, 265, 266, 267, 268, 269, 270, 271, 272, 273, 274, 275, 276, 277, 278, 279, 280, 281, 282, 283, 284, 285, 286, 287, 288, 289, 290, 291, 292, 293, 294, 295, 296, 297, 298, 299, 300, 301, 302, 303, 304, 305, 306, 307, 308, 309, 310, 311, 312, 313, 314, 315, 316, 317, 318, 319, 320, 321, 322, 323, 324, 325, 326, 327, 328, 329, 330, 331, 332, 333, 334, 335, 336, 337, 338, 339, 340, 341, 342, 343, 344, 345, 346, 347, 348] rfl (by decide +kernel)) (goodIn_sub (fun _ h => List.mem_cons_of_mem _ (List.mem_append_left _ (List.mem_append_right _ h))) (by decide +kernel))) (goodIn_sub (fun _ h => List.mem_cons_of_mem _ (List.mem_append_right _ h)) (by decide +kernel))
set_option maxRecDepth 20000 in
theorem gX10_lose_X10_change : GoodIn wsX10_lose (wsV RX10 73 RX10 yX10_change wsX10_change) := goodIn_app (goodIn_of _ (by decide +kernel)) ggX10_lose_X10_change
theorem dX10_lose_0 : decode cX10_lose 0 = .ok (.aload_n 0, 1) := by decide +kernel
theorem dX10_lose_1 : decode cX10_lose 1 = .ok (.getstatic 86, 3) := by decide +kernel
theorem dX10_lose_4 : decode cX10_lose 4 = .ok (.iconst 0, 1) := by decide +kernel
theorem dX10_lose_5 : decode cX10_lose 5 = .ok (.iconst 0, 1) := by decide +kernel
theorem dX10_lose_6 : decode cX10_lose 6 = .ok (.iconst 0, 1) := by decide +kernel
theorem dX10_lose_7 : decode cX10_lose 7 = .ok (.invokevirtual 73, 3) := by decide +kernel
set_option maxRecDepth 20000 in
theorem ggX10_pass_X10_change : GoodIn wsX10_pass wsX10_change := goodIn_ca (goodIn_ca (goodIn_r _ [6, 7, 8, 9, 10, 11, 12, 13, 14, 15, 16, 17, 18, 19, 20, 21, 22, 23, 24, 25, 26, 27, 28, 29, 30, 31, 32, 33, 34, 35, 36, 37, 38, 39, 40, 41, 42, 43, 44, 45, 46, 47, 48, 49, 50, 51, 52, 53, 54, 55, 56, 57, 58, 59, 60, 61, 62, 63, 64, 65, 66, 67, 68, 69, 70, 5, 71, 72, 73, 74, 75, 76, 77, 78, 79, 80, 81, 82, 83, 84, 85, 86, 87, 88, 89, 90, 91, 92, 93, 94, 95, 96, 97, 98, 99, 100, 101, 102, 103, 104, 105, 106, 107, 108, 109, 110, 111, 112, 113, 114, 115, 116, 117, 118, 119, 120, 121, 122, 123, 124, 125, 126, 127, 128, 129, 130, 131, 132, 133, 134, 135, 136, 137, 138, 139, 140, 141, 142, 143, 144, 145, 146, 147, 148, 149, 150, 151, 152, 153, 154, 155, 156, 157, 158, 159, 160, 161, 162, 163, 164, 165, 166, 167, 168, 169, 170, 171, 172, 173, 174, 175, 176, 177, 178, 179, 180, 181, 182, 183, 184, 185, 186, 187, 188, 189, 190, 191, 192, 193, 194, 195, 196, 197, 198, 199, 200, 201, 202, 203, 204, 205, 206, 207, 208, 209, 210, 211, 212, 213, 214, 215, 216, 217, 218, 219, 220, 221, 222, 223, 224, 225, 226, 227, 228, 229, 230, 231, 232, 233, 234, 235, 236, 237, 238, 239, 240, 241, 242, 243, 244, 245, 246, 247, 248, 249, 250, 251, 252, 253, 254, 255, 256, 257, 258, 259, 260, 261, 262, 263, 264, 265, 266, 267, 268, 269, 270, 271, 272, 273, 274, 275, 276, 277, 278, 279, 280, 281, 282, 283, 284, 285, 286, 287, 288, 289, 290, 291, 292, 293, 294, 295, 296, 297, 298, 299, 300, 301, 302, 303, 304, 305, 306, 307, 308, 309, 310, 311, 312, 313, 314, 315, 316, 317, 318, 319, 320, 321, 322, 323, 324, 325, 326, 327, 328, 329, 330, 331, 332, 333, 334, 335, 336, 337, 338, 339, 340, 341, 342, 343, 344, 345, 346, 347, 348] rfl (by decide +kernel)) (goodIn_sub (fun _ h => List.mem_cons_of_mem _ (List.mem_append_left _ (List.mem_append_right _ h))) (by decide +kernel))) (goodIn_sub (fun _ h => List.mem_cons_of_mem _ (List.mem_append_right _ h)) (by decide +kernel))
set_option maxRecDepth 20000 in
theorem gX10_pass_X10_change : GoodIn wsX10_pass (wsV RX10 73 RX10 yX10_change wsX10_change) := goodIn_app (goodIn_of _ (by decide +kernel)) ggX10_pass_X10_change
theorem dX10_pass_0 : decode cX10_pass 0 = .ok (.aload_n 0, 1) := by decide +kernel
theorem dX10_pass_1 : decode cX10_pass 1 = .ok (.getstatic 89, 3) := by decide +kernel
theorem dX10_pass_4 : decode cX10_pass 4 = .ok (.iload_n 1, 1) := by decide +kernel
theorem dX10_pass_5 : decode cX10_pass 5 = .ok (.iconst 0, 1) := by decide +kernel
theorem dX10_pass_6 : decode cX10_pass 6 = .ok (.iconst 0, 1) := by decide +kernel
theorem dX10_pass_7 : decode cX10_pass 7 = .ok (.invokevirtual 73, 3) := by decide +kernel
theorem dX10_pass_10 : decode cX10_pass 10 = .ok (.ireturn, 1) := by decide +kernel
set_option maxRecDepth 20000 in
theorem ggX10_change_X8_against : GoodIn wsX10_change wsX8_against := goodIn_ca (goodIn_r _ [7, 8, 9, 10, 11, 12, 13, 14, 15, 16, 17, 18, 19, 6, 20, 21, 22, 23, 24, 25, 26, 27, 28, 29, 30, 31, 32, 33, 34, 35, 36, 37, 38, 39, 40, 41, 42, 43, 44, 45, 46, 47, 48, 49, 50, 51, 52, 53, 54, 55, 56, 57, 58, 59, 60, 61, 316, 317, 318, 319, 320, 321, 322, 323, 324, 325, 326, 327, 328, 329, 330, 331] rfl (by decide +kernel)) (goodIn_sub (fun _ h => List.mem_cons_of_mem _ (List.mem_append_left _ (List.mem_append_right _ h))) (by decide +kernel))
set_option maxRecDepth 20000 in
theorem gX10_change_X8_against : GoodIn wsX10_change (wsV RX10 92 RX8 yX8_against wsX8_against) := goodIn_app (goodIn_of _ (by decide +kernel)) ggX10_change_X8_against
set_option maxRecDepth 20000 in
theorem ggX10_change_X10_heed : GoodIn wsX10_change wsX10_heed := goodIn_ca (goodIn_r _ [66, 67, 68, 69, 306, 307, 308, 309, 310, 311, 312, 313, 314, 315] rfl (by decide +kernel)) (goodIn_sub (fun _ h => List.mem_cons_of_mem _ (List.mem_append_right _ h)) (by decide +kernel))
set_option maxRecDepth 20000 in
theorem gX10_change_X10_heed : GoodIn wsX10_change (wsV RX10 96 RX10 yX10_heed wsX10_heed) := goodIn_app (goodIn_of _ (by decide +kernel)) ggX10_change_X10_heed
set_option maxRecDepth 20000 in
theorem ggX10_change_X4_keep : GoodIn wsX10_change wsX4_keep := goodIn_r _ [74, 75, 76, 77, 78, 79, 80, 81, 82, 83, 84, 6, 85, 61, 86, 87, 88, 89, 49, 90, 10, 9, 91, 92, 93, 94, 95, 96, 97, 98, 99, 100, 101, 102, 103, 104, 332, 333, 334, 316, 317, 318, 319, 320, 321, 322, 323, 324, 325, 326, 327, 328] rfl (by decide +kernel)
set_option maxRecDepth 20000 in
theorem gX10_change_X4_keep : GoodIn wsX10_change (wsV RX10 100 RX4 yX4_keep wsX4_keep) := goodIn_app (goodIn_of _ (by decide +kernel)) ggX10_change_X4_keep
set_option maxRecDepth 20000 in
theorem ggX10_change_X8_carryOut : GoodIn wsX10_change wsX8_carryOut := goodIn_ca (goodIn_r _ [108, 8, 10, 11, 12, 13, 14, 15, 16, 17, 109, 110, 111, 6, 112, 9, 113, 114, 115, 116, 102, 117, 118, 119, 120, 91, 90, 94, 121, 122, 123, 124, 49, 61, 41, 42, 43, 44, 50, 51, 52, 45, 46, 47, 48, 125, 126, 127, 128, 129, 130, 131, 132, 133, 134, 135, 136, 137, 138, 139, 140, 141, 142, 143, 144, 145, 146, 147, 148, 149, 150, 151, 152, 153, 154, 155, 156, 157, 158, 159, 160, 161, 162, 163, 28, 29, 164, 165, 166, 167, 168, 169, 170, 171, 172, 173, 174, 175, 176, 177, 178, 179, 180, 181, 182, 183, 184, 185, 186, 187, 188, 189, 190, 191, 192, 193, 80, 194, 195, 196, 197, 198, 199, 200, 201, 202, 203, 204, 205, 206, 207, 208, 209, 210, 211, 212, 213, 214, 215, 216, 217, 218, 79, 81, 219, 87, 88, 89, 220, 221, 222, 223, 224, 225, 226, 98, 227, 101, 228, 100, 104, 229, 230, 231, 232, 233, 234, 235, 236, 237, 238, 239, 240, 241, 242, 243, 244, 245, 246, 247, 248, 249, 250, 251, 93, 252, 253, 254, 255, 256, 257, 258, 259, 260, 261, 262, 263, 264, 265, 266, 267, 268, 269, 270, 271, 272, 273, 274, 275, 276, 277, 278, 279, 280, 281, 282, 283, 284, 285, 286, 287, 288, 289, 290, 291, 292, 293, 294, 295, 103, 296, 297, 298, 299, 300, 301, 302, 303, 92, 304, 305, 316, 317, 318, 319, 320, 321, 322, 323, 324, 325, 326, 327, 328, 335, 336, 337, 338, 339, 340, 341, 342, 343] rfl (by decide +kernel)) (goodIn_sub (fun _ h => List.mem_cons_of_mem _ (List.mem_append_left _ (List.mem_append_right _ h))) (by decide +kernel))
set_option maxRecDepth 20000 in
theorem gX10_change_X8_carryOut : GoodIn wsX10_change (wsV RX10 104 RX8 yX8_carryOut wsX8_carryOut) := goodIn_app (goodIn_of _ (by decide +kernel)) ggX10_change_X8_carryOut
theorem dX10_change_0 : decode cX10_change 0 = .ok (.aload_n 0, 1) := by decide +kernel
theorem dX10_change_1 : decode cX10_change 1 = .ok (.aload_n 0, 1) := by decide +kernel
theorem dX10_change_2 : decode cX10_change 2 = .ok (.getfield 50, 3) := by decide +kernel
theorem dX10_change_5 : decode cX10_change 5 = .ok (.aload_n 1, 1) := by decide +kernel
theorem dX10_change_6 : decode cX10_change 6 = .ok (.iload_n 2, 1) := by decide +kernel
theorem dX10_change_7 : decode cX10_change 7 = .ok (.iload_n 3, 1) := by decide +kernel
theorem dX10_change_8 : decode cX10_change 8 = .ok (.iload 4, 2) := by decide +kernel
theorem dX10_change_10 : decode cX10_change 10 = .ok (.invokevirtual 92, 3) := by decide +kernel
theorem dX10_change_13 : decode cX10_change 13 = .ok (.invokevirtual 96, 3) := by decide +kernel
theorem dX10_change_16 : decode cX10_change 16 = .ok (.aload_n 0, 1) := by decide +kernel
theorem dX10_change_17 : decode cX10_change 17 = .ok (.getfield 63, 3) := by decide +kernel
theorem dX10_change_20 : decode cX10_change 20 = .ok (.aload_n 0, 1) := by decide +kernel
theorem dX10_change_21 : decode cX10_change 21 = .ok (.getfield 50, 3) := by decide +kernel
theorem dX10_change_24 : decode cX10_change 24 = .ok (.invokevirtual 100, 3) := by decide +kernel
theorem dX10_change_27 : decode cX10_change 27 = .ok (.aload_n 0, 1) := by decide +kernel
theorem dX10_change_28 : decode cX10_change 28 = .ok (.getfield 50, 3) := by decide +kernel
theorem dX10_change_31 : decode cX10_change 31 = .ok (.aload_n 1, 1) := by decide +kernel
theorem dX10_change_32 : decode cX10_change 32 = .ok (.iload_n 2, 1) := by decide +kernel
theorem dX10_change_33 : decode cX10_change 33 = .ok (.iload_n 3, 1) := by decide +kernel
theorem dX10_change_34 : decode cX10_change 34 = .ok (.iload 4, 2) := by decide +kernel
theorem dX10_change_36 : decode cX10_change 36 = .ok (.invokevirtual 104, 3) := by decide +kernel
theorem dX10_change_39 : decode cX10_change 39 = .ok (.ireturn, 1) := by decide +kernel
theorem dX10_heed_0 : decode cX10_heed 0 = .ok (.aload_n 1, 1) := by decide +kernel
theorem dX10_heed_1 : decode cX10_heed 1 = .ok (.ifnull 18, 3) := by decide +kernel
theorem dX10_heed_4 : decode cX10_heed 4 = .ok (.aload_n 0, 1) := by decide +kernel
theorem dX10_heed_5 : decode cX10_heed 5 = .ok (.aload_n 1, 1) := by decide +kernel
theorem dX10_heed_6 : decode cX10_heed 6 = .ok (.putfield 38, 3) := by decide +kernel
theorem dX10_heed_9 : decode cX10_heed 9 = .ok (.new 107, 3) := by decide +kernel
theorem dX10_heed_12 : decode cX10_heed 12 = .ok (.dup, 1) := by decide +kernel
theorem dX10_heed_13 : decode cX10_heed 13 = .ok (.ldc 109, 2) := by decide +kernel
theorem dX10_heed_15 : decode cX10_heed 15 = .ok (.invokespecial 111, 3) := by decide +kernel
theorem dX10_heed_18 : decode cX10_heed 18 = .ok (.athrow, 1) := by decide +kernel
theorem dX10_heed_19 : decode cX10_heed 19 = .ok (.return_, 1) := by decide +kernel
set_option maxRecDepth 20000 in
theorem ggX10_surveyorOf_X10_needSurveyor : GoodIn wsX10_surveyorOf wsX10_needSurveyor := goodIn_ca (goodIn_r _ [8, 9, 10, 3, 11, 12, 13, 14, 15, 16, 110, 111, 112, 113, 114, 115, 116, 117, 118, 119, 124, 125, 126, 127, 128, 129, 130, 131, 132, 133] rfl (by decide +kernel)) (goodIn_sub (fun _ h => List.mem_cons_of_mem _ (List.mem_append_left _ (List.mem_append_right _ h))) (by decide +kernel))
set_option maxRecDepth 20000 in
theorem gX10_surveyorOf_X10_needSurveyor : GoodIn wsX10_surveyorOf (wsV RX10 114 RX10 yX10_needSurveyor wsX10_needSurveyor) := goodIn_app (goodIn_of _ (by decide +kernel)) ggX10_surveyorOf_X10_needSurveyor
theorem dX10_surveyorOf_0 : decode cX10_surveyorOf 0 = .ok (.aload_n 0, 1) := by decide +kernel
theorem dX10_surveyorOf_1 : decode cX10_surveyorOf 1 = .ok (.iload_n 1, 1) := by decide +kernel
theorem dX10_surveyorOf_2 : decode cX10_surveyorOf 2 = .ok (.invokevirtual 114, 3) := by decide +kernel
set_option maxRecDepth 20000 in
theorem ggX10_cost_X10_needSurveyor : GoodIn wsX10_cost wsX10_needSurveyor := goodIn_ca (goodIn_r _ [8, 9, 10, 3, 11, 12, 13, 14, 15, 16, 25, 26, 27, 28, 29, 30, 31, 32, 33, 34, 35, 36, 37, 38, 39, 40, 41, 42, 43, 44] rfl (by decide +kernel)) (goodIn_sub (fun _ h => List.mem_cons_of_mem _ (List.mem_append_left _ (List.mem_append_right _ h))) (by decide +kernel))
set_option maxRecDepth 20000 in
theorem gX10_cost_X10_needSurveyor : GoodIn wsX10_cost (wsV RX10 114 RX10 yX10_needSurveyor wsX10_needSurveyor) := goodIn_app (goodIn_of _ (by decide +kernel)) ggX10_cost_X10_needSurveyor
theorem dX10_cost_0 : decode cX10_cost 0 = .ok (.aload_n 0, 1) := by decide +kernel
theorem dX10_cost_1 : decode cX10_cost 1 = .ok (.iload_n 1, 1) := by decide +kernel
theorem dX10_cost_2 : decode cX10_cost 2 = .ok (.invokevirtual 114, 3) := by decide +kernel
set_option maxRecDepth 20000 in
theorem ggX10_page_X10_needSurveyor : GoodIn wsX10_page wsX10_needSurveyor := goodIn_ca (goodIn_r _ [10, 11, 12, 5, 13, 14, 15, 16, 17, 18, 75, 76, 77, 78, 79, 80, 81, 82, 83, 84, 89, 90, 91, 92, 93, 94, 95, 96, 97, 98] rfl (by decide +kernel)) (goodIn_sub (fun _ h => List.mem_cons_of_mem _ (List.mem_append_left _ (List.mem_append_right _ h))) (by decide +kernel))
set_option maxRecDepth 20000 in
theorem gX10_page_X10_needSurveyor : GoodIn wsX10_page (wsV RX10 114 RX10 yX10_needSurveyor wsX10_needSurveyor) := goodIn_app (goodIn_of _ (by decide +kernel)) ggX10_page_X10_needSurveyor
theorem dX10_page_0 : decode cX10_page 0 = .ok (.aload_n 0, 1) := by decide +kernel
theorem dX10_page_1 : decode cX10_page 1 = .ok (.iload_n 1, 1) := by decide +kernel
theorem dX10_page_2 : decode cX10_page 2 = .ok (.invokevirtual 114, 3) := by decide +kernel
set_option maxRecDepth 20000 in
theorem ggX10_told_X10_needSurveyor : GoodIn wsX10_told wsX10_needSurveyor := goodIn_ca (goodIn_r _ [8, 9, 10, 3, 11, 12, 13, 14, 15, 16, 63, 64, 65, 66, 67, 68, 69, 70, 71, 72, 73, 74, 75, 76, 77, 78, 79, 80, 81, 82] rfl (by decide +kernel)) (goodIn_sub (fun _ h => List.mem_cons_of_mem _ (List.mem_append_left _ (List.mem_append_right _ h))) (by decide +kernel))
set_option maxRecDepth 20000 in
theorem gX10_told_X10_needSurveyor : GoodIn wsX10_told (wsV RX10 114 RX10 yX10_needSurveyor wsX10_needSurveyor) := goodIn_app (goodIn_of _ (by decide +kernel)) ggX10_told_X10_needSurveyor
theorem dX10_told_0 : decode cX10_told 0 = .ok (.aload_n 0, 1) := by decide +kernel
theorem dX10_told_1 : decode cX10_told 1 = .ok (.iload_n 1, 1) := by decide +kernel
theorem dX10_told_2 : decode cX10_told 2 = .ok (.invokevirtual 114, 3) := by decide +kernel
set_option maxRecDepth 20000 in
theorem ggX10_letter_X5_has : GoodIn wsX10_letter wsX5_has := goodIn_r _ [10, 11, 92, 93, 94] rfl (by decide +kernel)
set_option maxRecDepth 20000 in
theorem gX10_letter_X5_has : GoodIn wsX10_letter (wsV RX10 186 RX5 yX5_has wsX5_has) := goodIn_app (goodIn_of _ (by decide +kernel)) ggX10_letter_X5_has
theorem dX10_letter_0 : decode cX10_letter 0 = .ok (.iload_n 2, 1) := by decide +kernel
theorem dX10_letter_1 : decode cX10_letter 1 = .ok (.ifCond .lt 8, 3) := by decide +kernel
theorem dX10_letter_4 : decode cX10_letter 4 = .ok (.iload_n 2, 1) := by decide +kernel
theorem dX10_letter_5 : decode cX10_letter 5 = .ok (.iconst 3, 1) := by decide +kernel
theorem dX10_letter_6 : decode cX10_letter 6 = .ok (.if_icmp .le 13, 3) := by decide +kernel
theorem dX10_letter_9 : decode cX10_letter 9 = .ok (.new 149, 3) := by decide +kernel
theorem dX10_letter_12 : decode cX10_letter 12 = .ok (.dup, 1) := by decide +kernel
theorem dX10_letter_13 : decode cX10_letter 13 = .ok (.ldc 184, 2) := by decide +kernel
theorem dX10_letter_15 : decode cX10_letter 15 = .ok (.invokespecial 153, 3) := by decide +kernel
theorem dX10_letter_18 : decode cX10_letter 18 = .ok (.athrow, 1) := by decide +kernel
theorem dX10_letter_19 : decode cX10_letter 19 = .ok (.aload_n 0, 1) := by decide +kernel
theorem dX10_letter_20 : decode cX10_letter 20 = .ok (.getfield 50, 3) := by decide +kernel
theorem dX10_letter_23 : decode cX10_letter 23 = .ok (.getfield 140, 3) := by decide +kernel
theorem dX10_letter_26 : decode cX10_letter 26 = .ok (.iload_n 1, 1) := by decide +kernel
theorem dX10_letter_27 : decode cX10_letter 27 = .ok (.invokevirtual 186, 3) := by decide +kernel
theorem dX10_letter_30 : decode cX10_letter 30 = .ok (.ifCond .ne 13, 3) := by decide +kernel
theorem dX10_letter_33 : decode cX10_letter 33 = .ok (.new 158, 3) := by decide +kernel
theorem dX10_letter_36 : decode cX10_letter 36 = .ok (.dup, 1) := by decide +kernel
theorem dX10_letter_37 : decode cX10_letter 37 = .ok (.ldc 190, 2) := by decide +kernel
theorem dX10_letter_39 : decode cX10_letter 39 = .ok (.invokespecial 162, 3) := by decide +kernel
theorem dX10_letter_42 : decode cX10_letter 42 = .ok (.athrow, 1) := by decide +kernel
set_option maxRecDepth 20000 in
theorem ggX10_distance_X10_needSurveyor : GoodIn wsX10_distance wsX10_needSurveyor := goodIn_ca (goodIn_r _ [7, 8, 9, 2, 10, 11, 12, 13, 14, 15, 100, 101, 102, 103, 104, 105, 106, 107, 108, 109, 110, 111, 112, 113, 114, 115, 116, 117, 118, 119] rfl (by decide +kernel)) (goodIn_sub (fun _ h => List.mem_cons_of_mem _ (List.mem_append_left _ (List.mem_append_left _ (List.mem_append_right _ h)))) (by decide +kernel))
set_option maxRecDepth 20000 in
theorem gX10_distance_X10_needSurveyor : GoodIn wsX10_distance (wsV RX10 114 RX10 yX10_needSurveyor wsX10_needSurveyor) := goodIn_app (goodIn_of _ (by decide +kernel)) ggX10_distance_X10_needSurveyor
theorem dX10_distance_0 : decode cX10_distance 0 = .ok (.aload_n 0, 1) := by decide +kernel
theorem dX10_distance_1 : decode cX10_distance 1 = .ok (.iload_n 1, 1) := by decide +kernel
theorem dX10_distance_2 : decode cX10_distance 2 = .ok (.invokevirtual 114, 3) := by decide +kernel
set_option maxRecDepth 20000 in
theorem ggX10_distanceAgain_X10_needSurveyor : GoodIn wsX10_distanceAgain wsX10_needSurveyor := goodIn_ca (goodIn_r _ [7, 8, 9, 2, 10, 11, 12, 13, 14, 15, 96, 97, 98, 99, 100, 101, 102, 103, 104, 105, 106, 107, 108, 109, 110, 111, 112, 113, 114, 115] rfl (by decide +kernel)) (goodIn_sub (fun _ h => List.mem_cons_of_mem _ (List.mem_append_left _ (List.mem_append_left _ (List.mem_append_right _ h)))) (by decide +kernel))
set_option maxRecDepth 20000 in
theorem gX10_distanceAgain_X10_needSurveyor : GoodIn wsX10_distanceAgain (wsV RX10 114 RX10 yX10_needSurveyor wsX10_needSurveyor) := goodIn_app (goodIn_of _ (by decide +kernel)) ggX10_distanceAgain_X10_needSurveyor
theorem dX10_distanceAgain_0 : decode cX10_distanceAgain 0 = .ok (.aload_n 0, 1) := by decide +kernel
theorem dX10_distanceAgain_1 : decode cX10_distanceAgain 1 = .ok (.iload_n 1, 1) := by decide +kernel
theorem dX10_distanceAgain_2 : decode cX10_distanceAgain 2 = .ok (.invokevirtual 114, 3) := by decide +kernel
set_option maxRecDepth 20000 in
theorem ggX10_next_X10_needSurveyor : GoodIn wsX10_next wsX10_needSurveyor := goodIn_ca (goodIn_r _ [7, 8, 9, 10, 11, 12, 13, 14, 15, 16, 104, 105, 106, 107, 108, 109, 110, 111, 112, 113, 114, 115, 116, 117, 118, 119, 120, 121, 122, 123] rfl (by decide +kernel)) (goodIn_sub (fun _ h => List.mem_cons_of_mem _ (List.mem_append_left _ (List.mem_append_right _ h))) (by decide +kernel))
set_option maxRecDepth 20000 in
theorem gX10_next_X10_needSurveyor : GoodIn wsX10_next (wsV RX10 114 RX10 yX10_needSurveyor wsX10_needSurveyor) := goodIn_app (goodIn_of _ (by decide +kernel)) ggX10_next_X10_needSurveyor
theorem dX10_next_0 : decode cX10_next 0 = .ok (.aload_n 0, 1) := by decide +kernel
theorem dX10_next_1 : decode cX10_next 1 = .ok (.iload_n 1, 1) := by decide +kernel
theorem dX10_next_2 : decode cX10_next 2 = .ok (.invokevirtual 114, 3) := by decide +kernel
set_option maxRecDepth 20000 in
theorem ggX10_reached_X10_needSurveyor : GoodIn wsX10_reached wsX10_needSurveyor := goodIn_ca (goodIn_r _ [8, 9, 10, 2, 11, 12, 13, 14, 15, 16, 95, 96, 97, 98, 99, 100, 101, 102, 103, 104, 105, 106, 107, 108, 109, 110, 111, 112, 113, 114] rfl (by decide +kernel)) (goodIn_sub (fun _ h => List.mem_cons_of_mem _ (List.mem_append_left _ (List.mem_append_right _ h))) (by decide +kernel))
set_option maxRecDepth 20000 in
theorem gX10_reached_X10_needSurveyor : GoodIn wsX10_reached (wsV RX10 114 RX10 yX10_needSurveyor wsX10_needSurveyor) := goodIn_app (goodIn_of _ (by decide +kernel)) ggX10_reached_X10_needSurveyor
theorem dX10_reached_0 : decode cX10_reached 0 = .ok (.aload_n 0, 1) := by decide +kernel
theorem dX10_reached_1 : decode cX10_reached 1 = .ok (.iload_n 1, 1) := by decide +kernel
theorem dX10_reached_2 : decode cX10_reached 2 = .ok (.invokevirtual 114, 3) := by decide +kernel
set_option maxRecDepth 20000 in
theorem ggX10_follow_X10_needSurveyor : GoodIn wsX10_follow wsX10_needSurveyor := goodIn_ca (goodIn_r _ [8, 9, 10, 3, 11, 12, 13, 14, 15, 16, 109, 110, 111, 112, 113, 114, 115, 116, 117, 118, 119, 120, 121, 122, 123, 124, 125, 126, 127, 128] rfl (by decide +kernel)) (goodIn_sub (fun _ h => List.mem_cons_of_mem _ (List.mem_append_left _ (List.mem_append_right _ h))) (by decide +kernel))
set_option maxRecDepth 20000 in
theorem gX10_follow_X10_needSurveyor : GoodIn wsX10_follow (wsV RX10 114 RX10 yX10_needSurveyor wsX10_needSurveyor) := goodIn_app (goodIn_of _ (by decide +kernel)) ggX10_follow_X10_needSurveyor
theorem dX10_follow_0 : decode cX10_follow 0 = .ok (.aload_n 0, 1) := by decide +kernel
theorem dX10_follow_1 : decode cX10_follow 1 = .ok (.iload_n 1, 1) := by decide +kernel
theorem dX10_follow_2 : decode cX10_follow 2 = .ok (.invokevirtual 114, 3) := by decide +kernel
set_option maxRecDepth 20000 in
theorem ggX10_real_X10_needSurveyor : GoodIn wsX10_real wsX10_needSurveyor := goodIn_ca (goodIn_r _ [7, 8, 9, 2, 10, 11, 12, 13, 14, 15, 68, 69, 70, 71, 72, 73, 74, 75, 76, 77, 78, 79, 80, 81, 82, 83, 84, 85, 86, 87] rfl (by decide +kernel)) (goodIn_sub (fun _ h => List.mem_cons_of_mem _ (List.mem_append_left _ (List.mem_append_left _ (List.mem_append_right _ h)))) (by decide +kernel))
set_option maxRecDepth 20000 in
theorem gX10_real_X10_needSurveyor : GoodIn wsX10_real (wsV RX10 114 RX10 yX10_needSurveyor wsX10_needSurveyor) := goodIn_app (goodIn_of _ (by decide +kernel)) ggX10_real_X10_needSurveyor
theorem dX10_real_0 : decode cX10_real 0 = .ok (.aload_n 0, 1) := by decide +kernel
theorem dX10_real_1 : decode cX10_real 1 = .ok (.iload_n 1, 1) := by decide +kernel
theorem dX10_real_2 : decode cX10_real 2 = .ok (.invokevirtual 114, 3) := by decide +kernel
set_option maxRecDepth 20000 in
theorem ggX10_isRight_X10_needSurveyor : GoodIn wsX10_isRight wsX10_needSurveyor := goodIn_ca (goodIn_r _ [8, 9, 10, 3, 11, 12, 13, 14, 15, 16, 110, 111, 112, 113, 114, 115, 116, 117, 118, 119, 120, 121, 122, 123, 124, 125, 126, 127, 128, 129] rfl (by decide +kernel)) (goodIn_sub (fun _ h => List.mem_cons_of_mem _ (List.mem_append_right _ h)) (by decide +kernel))
set_option maxRecDepth 20000 in
theorem gX10_isRight_X10_needSurveyor : GoodIn wsX10_isRight (wsV RX10 114 RX10 yX10_needSurveyor wsX10_needSurveyor) := goodIn_app (goodIn_of _ (by decide +kernel)) ggX10_isRight_X10_needSurveyor
theorem dX10_isRight_0 : decode cX10_isRight 0 = .ok (.aload_n 0, 1) := by decide +kernel
theorem dX10_isRight_1 : decode cX10_isRight 1 = .ok (.iload_n 1, 1) := by decide +kernel
theorem dX10_isRight_2 : decode cX10_isRight 2 = .ok (.invokevirtual 114, 3) := by decide +kernel
set_option maxRecDepth 20000 in
theorem ggX10_agree_X10_needDistrict : GoodIn wsX10_agree wsX10_needDistrict := goodIn_ca (goodIn_r _ [5, 6, 7] rfl (by decide +kernel)) (goodIn_sub (fun _ h => List.mem_cons_of_mem _ (List.mem_append_left _ (List.mem_append_right _ h))) (by decide +kernel))
set_option maxRecDepth 20000 in
theorem gX10_agree_X10_needDistrict : GoodIn wsX10_agree (va_wsS RX10 235 yX10_needDistrict wsX10_needDistrict) := goodIn_app (goodIn_of _ (by decide +kernel)) ggX10_agree_X10_needDistrict
theorem dX10_agree_0 : decode cX10_agree 0 = .ok (.iload_n 1, 1) := by decide +kernel
theorem dX10_agree_1 : decode cX10_agree 1 = .ok (.invokestatic 235, 3) := by decide +kernel
theorem dX10_agree_4 : decode cX10_agree 4 = .ok (.iconst 0, 1) := by decide +kernel
theorem dX10_agree_5 : decode cX10_agree 5 = .ok (.istore_n 2, 1) := by decide +kernel
theorem dX10_agree_6 : decode cX10_agree 6 = .ok (.iload_n 2, 1) := by decide +kernel
theorem dX10_agree_7 : decode cX10_agree 7 = .ok (.aload_n 0, 1) := by decide +kernel
theorem dX10_agree_8 : decode cX10_agree 8 = .ok (.getfield 50, 3) := by decide +kernel
theorem dX10_agree_11 : decode cX10_agree 11 = .ok (.getfield 238, 3) := by decide +kernel
theorem dX10_agree_14 : decode cX10_agree 14 = .ok (.if_icmp .ge 61, 3) := by decide +kernel
theorem dX10_agree_75 : decode cX10_agree 75 = .ok (.iconst 1, 1) := by decide +kernel
theorem dX10_agree_76 : decode cX10_agree 76 = .ok (.ireturn, 1) := by decide +kernel
set_option maxRecDepth 20000 in
theorem ggX10_agreeAgain_X10_needDistrict : GoodIn wsX10_agreeAgain wsX10_needDistrict := goodIn_ca (goodIn_r _ [5, 6, 7] rfl (by decide +kernel)) (goodIn_sub (fun _ h => List.mem_cons_of_mem _ (List.mem_append_left _ (List.mem_append_right _ h))) (by decide +kernel))
set_option maxRecDepth 20000 in
theorem gX10_agreeAgain_X10_needDistrict : GoodIn wsX10_agreeAgain (va_wsS RX10 235 yX10_needDistrict wsX10_needDistrict) := goodIn_app (goodIn_of _ (by decide +kernel)) ggX10_agreeAgain_X10_needDistrict
theorem dX10_agreeAgain_0 : decode cX10_agreeAgain 0 = .ok (.iload_n 1, 1) := by decide +kernel
theorem dX10_agreeAgain_1 : decode cX10_agreeAgain 1 = .ok (.invokestatic 235, 3) := by decide +kernel
theorem dX10_agreeAgain_4 : decode cX10_agreeAgain 4 = .ok (.iconst 0, 1) := by decide +kernel
theorem dX10_agreeAgain_5 : decode cX10_agreeAgain 5 = .ok (.istore_n 2, 1) := by decide +kernel
theorem dX10_agreeAgain_6 : decode cX10_agreeAgain 6 = .ok (.iload_n 2, 1) := by decide +kernel
theorem dX10_agreeAgain_7 : decode cX10_agreeAgain 7 = .ok (.aload_n 0, 1) := by decide +kernel
theorem dX10_agreeAgain_8 : decode cX10_agreeAgain 8 = .ok (.getfield 50, 3) := by decide +kernel
theorem dX10_agreeAgain_11 : decode cX10_agreeAgain 11 = .ok (.getfield 238, 3) := by decide +kernel
theorem dX10_agreeAgain_14 : decode cX10_agreeAgain 14 = .ok (.if_icmp .ge 35, 3) := by decide +kernel
theorem dX10_agreeAgain_49 : decode cX10_agreeAgain 49 = .ok (.iconst 1, 1) := by decide +kernel
theorem dX10_agreeAgain_50 : decode cX10_agreeAgain 50 = .ok (.ireturn, 1) := by decide +kernel
theorem dX10_settledIn_0 : decode cX10_settledIn 0 = .ok (.aload_n 0, 1) := by decide +kernel
theorem dX10_settledIn_1 : decode cX10_settledIn 1 = .ok (.getfield 50, 3) := by decide +kernel
theorem dX10_settledIn_4 : decode cX10_settledIn 4 = .ok (.getfield 140, 3) := by decide +kernel
theorem dX10_settledIn_7 : decode cX10_settledIn 7 = .ok (.getfield 249, 3) := by decide +kernel
theorem dX10_settledIn_10 : decode cX10_settledIn 10 = .ok (.ifCond .ne 5, 3) := by decide +kernel
theorem dX10_settledIn_13 : decode cX10_settledIn 13 = .ok (.iconst 0, 1) := by decide +kernel
theorem dX10_settledIn_14 : decode cX10_settledIn 14 = .ok (.ireturn, 1) := by decide +kernel
set_option maxRecDepth 20000 in
theorem ggX10_members_X10_needDistrict : GoodIn wsX10_members wsX10_needDistrict := goodIn_ca (goodIn_r _ [5, 6, 7] rfl (by decide +kernel)) (goodIn_sub (fun _ h => List.mem_cons_of_mem _ (List.mem_append_left _ (List.mem_append_right _ h))) (by decide +kernel))
set_option maxRecDepth 20000 in
theorem gX10_members_X10_needDistrict : GoodIn wsX10_members (va_wsS RX10 235 yX10_needDistrict wsX10_needDistrict) := goodIn_app (goodIn_of _ (by decide +kernel)) ggX10_members_X10_needDistrict
theorem dX10_members_0 : decode cX10_members 0 = .ok (.iload_n 1, 1) := by decide +kernel
theorem dX10_members_1 : decode cX10_members 1 = .ok (.invokestatic 235, 3) := by decide +kernel
theorem dX10_members_4 : decode cX10_members 4 = .ok (.iconst 0, 1) := by decide +kernel
theorem dX10_members_5 : decode cX10_members 5 = .ok (.istore_n 2, 1) := by decide +kernel
theorem dX10_members_6 : decode cX10_members 6 = .ok (.iconst 0, 1) := by decide +kernel
theorem dX10_members_7 : decode cX10_members 7 = .ok (.istore_n 3, 1) := by decide +kernel
theorem dX10_members_8 : decode cX10_members 8 = .ok (.iload_n 3, 1) := by decide +kernel
theorem dX10_members_9 : decode cX10_members 9 = .ok (.aload_n 0, 1) := by decide +kernel
theorem dX10_members_10 : decode cX10_members 10 = .ok (.getfield 50, 3) := by decide +kernel
theorem dX10_members_13 : decode cX10_members 13 = .ok (.getfield 238, 3) := by decide +kernel
theorem dX10_members_16 : decode cX10_members 16 = .ok (.if_icmp .ge 27, 3) := by decide +kernel
theorem dX10_members_43 : decode cX10_members 43 = .ok (.iload_n 2, 1) := by decide +kernel
theorem dX10_members_44 : decode cX10_members 44 = .ok (.ireturn, 1) := by decide +kernel
theorem dX10_busiest_0 : decode cX10_busiest 0 = .ok (.iconst 0, 1) := by decide +kernel
theorem dX10_busiest_1 : decode cX10_busiest 1 = .ok (.istore_n 2, 1) := by decide +kernel
theorem dX10_busiest_2 : decode cX10_busiest 2 = .ok (.iload_n 2, 1) := by decide +kernel
theorem dX10_busiest_3 : decode cX10_busiest 3 = .ok (.aload_n 0, 1) := by decide +kernel
theorem dX10_busiest_4 : decode cX10_busiest 4 = .ok (.getfield 50, 3) := by decide +kernel
theorem dX10_busiest_7 : decode cX10_busiest 7 = .ok (.getfield 238, 3) := by decide +kernel
theorem dX10_busiest_10 : decode cX10_busiest 10 = .ok (.if_icmp .ge 23, 3) := by decide +kernel
theorem dX10_busiest_33 : decode cX10_busiest 33 = .ok (.new 158, 3) := by decide +kernel
theorem dX10_busiest_36 : decode cX10_busiest 36 = .ok (.dup, 1) := by decide +kernel
theorem dX10_busiest_37 : decode cX10_busiest 37 = .ok (.ldc_w 263, 3) := by decide +kernel
theorem dX10_busiest_40 : decode cX10_busiest 40 = .ok (.invokespecial 162, 3) := by decide +kernel
theorem dX10_busiest_43 : decode cX10_busiest 43 = .ok (.athrow, 1) := by decide +kernel
set_option maxRecDepth 20000 in
theorem ggX10_append_X3_isFull : GoodIn wsX10_append wsX3_isFull := goodIn_r _ [8, 9, 26, 27, 28, 29, 30] rfl (by decide +kernel)
set_option maxRecDepth 20000 in
theorem gX10_append_X3_isFull : GoodIn wsX10_append (wsV RX10 265 RX3 yX3_isFull wsX3_isFull) := goodIn_app (goodIn_of _ (by decide +kernel)) ggX10_append_X3_isFull
set_option maxRecDepth 20000 in
theorem ggX10_append_X3_write : GoodIn wsX10_append wsX3_write := goodIn_ca (goodIn_r _ [13, 14, 9, 15, 5, 6, 7, 8, 26, 27, 28, 29, 30] rfl (by decide +kernel)) (goodIn_sub (fun _ h => List.mem_cons_of_mem _ (List.mem_append_right _ h)) (by decide +kernel))
set_option maxRecDepth 20000 in
theorem gX10_append_X3_write : GoodIn wsX10_append (wsV RX10 273 RX3 yX3_write wsX3_write) := goodIn_app (goodIn_of _ (by decide +kernel)) ggX10_append_X3_write
theorem dX10_append_0 : decode cX10_append 0 = .ok (.aload_n 0, 1) := by decide +kernel
theorem dX10_append_1 : decode cX10_append 1 = .ok (.getfield 19, 3) := by decide +kernel
theorem dX10_append_4 : decode cX10_append 4 = .ok (.invokevirtual 265, 3) := by decide +kernel
theorem dX10_append_7 : decode cX10_append 7 = .ok (.ifCond .eq 14, 3) := by decide +kernel
theorem dX10_append_21 : decode cX10_append 21 = .ok (.aload_n 0, 1) := by decide +kernel
theorem dX10_append_22 : decode cX10_append 22 = .ok (.getfield 19, 3) := by decide +kernel
theorem dX10_append_25 : decode cX10_append 25 = .ok (.iload_n 1, 1) := by decide +kernel
theorem dX10_append_26 : decode cX10_append 26 = .ok (.invokevirtual 273, 3) := by decide +kernel
theorem dX10_append_29 : decode cX10_append 29 = .ok (.aload_n 0, 1) := by decide +kernel
theorem dX10_append_30 : decode cX10_append 30 = .ok (.getfield 19, 3) := by decide +kernel
theorem dX10_append_33 : decode cX10_append 33 = .ok (.getfield 277, 3) := by decide +kernel
theorem dX10_append_36 : decode cX10_append 36 = .ok (.ireturn, 1) := by decide +kernel
set_option maxRecDepth 20000 in
theorem ggX10_commands_X3_findFault : GoodIn wsX10_commands wsX3_findFault := goodIn_ca (goodIn_r _ [12, 13, 14, 15, 16, 17, 11, 18, 19, 20, 21, 22, 23, 24, 25, 26, 27, 28, 29, 30, 31, 32, 33, 34, 35, 36, 37, 38, 39, 40, 41, 42, 43, 44, 45, 46, 47, 48, 49, 50, 51, 52, 53, 54, 55, 56, 57, 58, 59, 60, 61, 62, 63, 64, 65, 66, 67, 68, 69, 70, 71, 72, 73, 74, 75, 76, 77, 78, 79, 80, 81, 82, 83, 84, 85, 86, 87, 88, 89, 90, 91, 92, 424, 425, 426, 427, 428, 429, 430, 431, 432] rfl (by decide +kernel)) (goodIn_sub (fun _ h => List.mem_cons_of_mem _ (List.mem_append_left _ (List.mem_append_right _ h))) (by decide +kernel))
set_option maxRecDepth 20000 in
theorem gX10_commands_X3_findFault : GoodIn wsX10_commands (wsV RX10 280 RX3 yX3_findFault wsX3_findFault) := goodIn_app (goodIn_of _ (by decide +kernel)) ggX10_commands_X3_findFault
set_option maxRecDepth 20000 in
theorem ggX10_commands_X3_clear : GoodIn wsX10_commands wsX3_clear := goodIn_r _ [96, 14, 424, 425, 426, 427, 428] rfl (by decide +kernel)
set_option maxRecDepth 20000 in
theorem gX10_commands_X3_clear : GoodIn wsX10_commands (wsV RX10 283 RX3 yX3_clear wsX3_clear) := goodIn_app (goodIn_of _ (by decide +kernel)) ggX10_commands_X3_clear
theorem dX10_commands_0 : decode cX10_commands 0 = .ok (.aload_n 0, 1) := by decide +kernel
theorem dX10_commands_1 : decode cX10_commands 1 = .ok (.aload_n 0, 1) := by decide +kernel
theorem dX10_commands_2 : decode cX10_commands 2 = .ok (.getfield 19, 3) := by decide +kernel
theorem dX10_commands_5 : decode cX10_commands 5 = .ok (.invokevirtual 280, 3) := by decide +kernel
theorem dX10_commands_8 : decode cX10_commands 8 = .ok (.putfield 34, 3) := by decide +kernel
theorem dX10_commands_11 : decode cX10_commands 11 = .ok (.aload_n 0, 1) := by decide +kernel
theorem dX10_commands_12 : decode cX10_commands 12 = .ok (.getfield 34, 3) := by decide +kernel
theorem dX10_commands_15 : decode cX10_commands 15 = .ok (.iconst (-1), 1) := by decide +kernel
theorem dX10_commands_16 : decode cX10_commands 16 = .ok (.if_icmp .eq 21, 3) := by decide +kernel
theorem dX10_commands_19 : decode cX10_commands 19 = .ok (.aload_n 0, 1) := by decide +kernel
theorem dX10_commands_20 : decode cX10_commands 20 = .ok (.getfield 19, 3) := by decide +kernel
theorem dX10_commands_23 : decode cX10_commands 23 = .ok (.invokevirtual 283, 3) := by decide +kernel
theorem dX10_commands_26 : decode cX10_commands 26 = .ok (.new 149, 3) := by decide +kernel
theorem dX10_commands_29 : decode cX10_commands 29 = .ok (.dup, 1) := by decide +kernel
theorem dX10_commands_30 : decode cX10_commands 30 = .ok (.ldc_w 286, 3) := by decide +kernel
theorem dX10_commands_33 : decode cX10_commands 33 = .ok (.invokespecial 153, 3) := by decide +kernel
theorem dX10_commands_36 : decode cX10_commands 36 = .ok (.athrow, 1) := by decide +kernel
theorem dX10_faultPosition_0 : decode cX10_faultPosition 0 = .ok (.aload_n 0, 1) := by decide +kernel
theorem dX10_faultPosition_1 : decode cX10_faultPosition 1 = .ok (.getfield 34, 3) := by decide +kernel
theorem dX10_faultPosition_4 : decode cX10_faultPosition 4 = .ok (.ireturn, 1) := by decide +kernel
theorem dX10_reason_0 : decode cX10_reason 0 = .ok (.aload_n 0, 1) := by decide +kernel
theorem dX10_reason_1 : decode cX10_reason 1 = .ok (.getfield 38, 3) := by decide +kernel
theorem dX10_reason_4 : decode cX10_reason 4 = .ok (.astore_n 3, 1) := by decide +kernel
theorem dX10_reason_5 : decode cX10_reason 5 = .ok (.iload_n 1, 1) := by decide +kernel
theorem dX10_reason_6 : decode cX10_reason 6 = .ok (.ifCond .eq 12, 3) := by decide +kernel
theorem dX10_reason_9 : decode cX10_reason 9 = .ok (.aload_n 3, 1) := by decide +kernel
theorem dX10_reason_10 : decode cX10_reason 10 = .ok (.ifnull 8, 3) := by decide +kernel
theorem dX10_reason_18 : decode cX10_reason 18 = .ok (.aload_n 3, 1) := by decide +kernel
theorem dX10_reason_19 : decode cX10_reason 19 = .ok (.ifnonnull 14, 3) := by decide +kernel
theorem dX10_reason_22 : decode cX10_reason 22 = .ok (.new 158, 3) := by decide +kernel
theorem dX10_reason_25 : decode cX10_reason 25 = .ok (.dup, 1) := by decide +kernel
theorem dX10_reason_26 : decode cX10_reason 26 = .ok (.ldc_w 317, 3) := by decide +kernel
theorem dX10_reason_29 : decode cX10_reason 29 = .ok (.invokespecial 162, 3) := by decide +kernel
theorem dX10_reason_32 : decode cX10_reason 32 = .ok (.athrow, 1) := by decide +kernel
set_option maxRecDepth 20000 in
theorem ggX10_line_X10_needSurveyor : GoodIn wsX10_line wsX10_needSurveyor := goodIn_ca (goodIn_r _ [7, 8, 9, 2, 10, 11, 12, 13, 14, 15, 257, 258, 259, 260, 261, 262, 263, 264, 265, 266, 267, 268, 269, 270, 271, 272, 273, 274, 275, 276] rfl (by decide +kernel)) (goodIn_sub (fun _ h => List.mem_cons_of_mem _ (List.mem_append_left _ (List.mem_append_right _ h))) (by decide +kernel))
set_option maxRecDepth 20000 in
theorem gX10_line_X10_needSurveyor : GoodIn wsX10_line (wsV RX10 114 RX10 yX10_needSurveyor wsX10_needSurveyor) := goodIn_app (goodIn_of _ (by decide +kernel)) ggX10_line_X10_needSurveyor
theorem dX10_line_0 : decode cX10_line 0 = .ok (.aload_n 0, 1) := by decide +kernel
theorem dX10_line_1 : decode cX10_line 1 = .ok (.iload_n 1, 1) := by decide +kernel
theorem dX10_line_2 : decode cX10_line 2 = .ok (.invokevirtual 114, 3) := by decide +kernel
set_option maxRecDepth 20000 in
theorem ggX10_character_J4_length_8abf5 : GoodIn wsX10_character wsJ4_length_8abf5 := goodIn_r _ [8, 9, 10, 11, 12, 13, 14, 15, 59, 60, 61, 62] rfl (by decide +kernel)
set_option maxRecDepth 20000 in
theorem gX10_character_J4_length_8abf5 : GoodIn wsX10_character (wsV RX10 332 RJ4 yJ4_length_8abf5 wsJ4_length_8abf5) := goodIn_app (goodIn_of _ (by decide +kernel)) ggX10_character_J4_length_8abf5
theorem dX10_character_0 : decode cX10_character 0 = .ok (.iload_n 1, 1) := by decide +kernel
theorem dX10_character_1 : decode cX10_character 1 = .ok (.ifCond .lt 14, 3) := by decide +kernel
theorem dX10_character_4 : decode cX10_character 4 = .ok (.iload_n 1, 1) := by decide +kernel
theorem dX10_character_5 : decode cX10_character 5 = .ok (.aload_n 0, 1) := by decide +kernel
theorem dX10_character_6 : decode cX10_character 6 = .ok (.getfield 26, 3) := by decide +kernel
theorem dX10_character_9 : decode cX10_character 9 = .ok (.invokevirtual 332, 3) := by decide +kernel
theorem dX10_character_12 : decode cX10_character 12 = .ok (.if_icmp .lt 14, 3) := by decide +kernel
theorem dX10_character_15 : decode cX10_character 15 = .ok (.new 341, 3) := by decide +kernel
theorem dX10_character_18 : decode cX10_character 18 = .ok (.dup, 1) := by decide +kernel
theorem dX10_character_19 : decode cX10_character 19 = .ok (.ldc_w 343, 3) := by decide +kernel
theorem dX10_character_22 : decode cX10_character 22 = .ok (.invokespecial 345, 3) := by decide +kernel
theorem dX10_character_25 : decode cX10_character 25 = .ok (.athrow, 1) := by decide +kernel
set_option maxRecDepth 20000 in
theorem ggX10_meanCost_X8_countCanals : GoodIn wsX10_meanCost wsX8_countCanals := goodIn_ca (goodIn_r _ [8, 9, 10, 11, 12, 7, 13, 14, 15, 16, 17, 18, 19, 20, 21, 36, 37, 38, 39, 40, 41, 42, 43, 44, 45] rfl (by decide +kernel)) (goodIn_sub (fun _ h => List.mem_cons_of_mem _ (List.mem_append_right _ h)) (by decide +kernel))
set_option maxRecDepth 20000 in
theorem gX10_meanCost_X8_countCanals : GoodIn wsX10_meanCost (wsV RX10 350 RX8 yX8_countCanals wsX8_countCanals) := goodIn_app (goodIn_of _ (by decide +kernel)) ggX10_meanCost_X8_countCanals
theorem dX10_meanCost_0 : decode cX10_meanCost 0 = .ok (.aload_n 0, 1) := by decide +kernel
theorem dX10_meanCost_1 : decode cX10_meanCost 1 = .ok (.getfield 50, 3) := by decide +kernel
theorem dX10_meanCost_4 : decode cX10_meanCost 4 = .ok (.invokevirtual 350, 3) := by decide +kernel
theorem dX10_meanCost_7 : decode cX10_meanCost 7 = .ok (.istore_n 1, 1) := by decide +kernel
theorem dX10_meanCost_8 : decode cX10_meanCost 8 = .ok (.iload_n 1, 1) := by decide +kernel
theorem dX10_meanCost_9 : decode cX10_meanCost 9 = .ok (.ifCond .ne 14, 3) := by decide +kernel
theorem dX10_meanCost_12 : decode cX10_meanCost 12 = .ok (.new 353, 3) := by decide +kernel
theorem dX10_meanCost_15 : decode cX10_meanCost 15 = .ok (.dup, 1) := by decide +kernel
theorem dX10_meanCost_16 : decode cX10_meanCost 16 = .ok (.ldc_w 355, 3) := by decide +kernel
theorem dX10_meanCost_19 : decode cX10_meanCost 19 = .ok (.invokespecial 357, 3) := by decide +kernel
theorem dX10_meanCost_22 : decode cX10_meanCost 22 = .ok (.athrow, 1) := by decide +kernel
theorem dX10_lostShare_0 : decode cX10_lostShare 0 = .ok (.aload_n 0, 1) := by decide +kernel
theorem dX10_lostShare_1 : decode cX10_lostShare 1 = .ok (.getfield 50, 3) := by decide +kernel
theorem dX10_lostShare_4 : decode cX10_lostShare 4 = .ok (.getfield 140, 3) := by decide +kernel
theorem dX10_lostShare_7 : decode cX10_lostShare 7 = .ok (.getfield 361, 3) := by decide +kernel
theorem dX10_lostShare_10 : decode cX10_lostShare 10 = .ok (.ifCond .ne 14, 3) := by decide +kernel
theorem dX10_lostShare_13 : decode cX10_lostShare 13 = .ok (.new 353, 3) := by decide +kernel
theorem dX10_lostShare_16 : decode cX10_lostShare 16 = .ok (.dup, 1) := by decide +kernel
theorem dX10_lostShare_17 : decode cX10_lostShare 17 = .ok (.ldc_w 364, 3) := by decide +kernel
theorem dX10_lostShare_20 : decode cX10_lostShare 20 = .ok (.invokespecial 357, 3) := by decide +kernel
theorem dX10_lostShare_23 : decode cX10_lostShare 23 = .ok (.athrow, 1) := by decide +kernel
set_option maxRecDepth 20000 in
theorem ggX10_account_X8_countCanals : GoodIn wsX10_account wsX8_countCanals := goodIn_ca (goodIn_r _ [10, 11, 12, 13, 14, 9, 15, 16, 17, 18, 19, 20, 21, 22, 23, 85, 86, 87, 88, 89, 90, 91, 92, 93, 94] rfl (by decide +kernel)) (goodIn_sub (fun _ h => List.mem_cons_of_mem _ (List.mem_append_right _ h)) (by decide +kernel))
set_option maxRecDepth 20000 in
theorem gX10_account_X8_countCanals : GoodIn wsX10_account (wsV RX10 350 RX8 yX8_countCanals wsX8_countCanals) := goodIn_app (goodIn_of _ (by decide +kernel)) ggX10_account_X8_countCanals
set_option maxRecDepth 20000 in
theorem ggX10_account_X8_countPages : GoodIn wsX10_account wsX8_countPages := goodIn_ca (goodIn_r _ [27, 11, 28, 29, 30, 9, 31, 32, 33, 34, 35, 36, 37, 21, 22, 23, 38, 39, 40, 41, 42, 43, 44, 45, 46, 47, 48, 49, 50, 51, 52, 53, 54, 55, 56, 57, 58, 59, 60, 61, 62, 63, 64, 65, 66, 67, 68, 69, 70, 71, 72, 73, 74, 85, 86, 87, 88, 89, 90, 91, 92, 93, 94, 106, 107, 108, 109, 110, 111, 112, 113, 114] rfl (by decide +kernel)) (goodIn_sub (fun _ h => List.mem_cons_of_mem _ (List.mem_append_right _ h)) (by decide +kernel))
set_option maxRecDepth 20000 in
theorem gX10_account_X8_countPages : GoodIn wsX10_account (wsV RX10 378 RX8 yX8_countPages wsX8_countPages) := goodIn_app (goodIn_of _ (by decide +kernel)) ggX10_account_X8_countPages
theorem dX10_account_0 : decode cX10_account 0 = .ok (.iload_n 1, 1) := by decide +kernel
theorem dX10_account_1 : decode cX10_account 1 = .ok (.tableswitch 153 0 10 #[59, 67, 75, 83, 94, 105, 113, 121, 129, 137, 145], 59) := by decide +kernel
theorem dX10_account_60 : decode cX10_account 60 = .ok (.aload_n 0, 1) := by decide +kernel
theorem dX10_account_61 : decode cX10_account 61 = .ok (.getfield 50, 3) := by decide +kernel
theorem dX10_account_64 : decode cX10_account 64 = .ok (.getfield 369, 3) := by decide +kernel
theorem dX10_account_67 : decode cX10_account 67 = .ok (.ireturn, 1) := by decide +kernel
theorem dX10_account_68 : decode cX10_account 68 = .ok (.aload_n 0, 1) := by decide +kernel
theorem dX10_account_69 : decode cX10_account 69 = .ok (.getfield 50, 3) := by decide +kernel
theorem dX10_account_72 : decode cX10_account 72 = .ok (.getfield 238, 3) := by decide +kernel
theorem dX10_account_75 : decode cX10_account 75 = .ok (.ireturn, 1) := by decide +kernel
theorem dX10_account_76 : decode cX10_account 76 = .ok (.aload_n 0, 1) := by decide +kernel
theorem dX10_account_77 : decode cX10_account 77 = .ok (.getfield 50, 3) := by decide +kernel
theorem dX10_account_80 : decode cX10_account 80 = .ok (.invokevirtual 350, 3) := by decide +kernel
theorem dX10_account_83 : decode cX10_account 83 = .ok (.ireturn, 1) := by decide +kernel
theorem dX10_account_84 : decode cX10_account 84 = .ok (.aload_n 0, 1) := by decide +kernel
theorem dX10_account_85 : decode cX10_account 85 = .ok (.getfield 50, 3) := by decide +kernel
theorem dX10_account_88 : decode cX10_account 88 = .ok (.getfield 140, 3) := by decide +kernel
theorem dX10_account_91 : decode cX10_account 91 = .ok (.getfield 249, 3) := by decide +kernel
theorem dX10_account_94 : decode cX10_account 94 = .ok (.ireturn, 1) := by decide +kernel
theorem dX10_account_95 : decode cX10_account 95 = .ok (.aload_n 0, 1) := by decide +kernel
theorem dX10_account_96 : decode cX10_account 96 = .ok (.getfield 50, 3) := by decide +kernel
theorem dX10_account_99 : decode cX10_account 99 = .ok (.getfield 140, 3) := by decide +kernel
theorem dX10_account_102 : decode cX10_account 102 = .ok (.getfield 361, 3) := by decide +kernel
theorem dX10_account_105 : decode cX10_account 105 = .ok (.ireturn, 1) := by decide +kernel
theorem dX10_account_106 : decode cX10_account 106 = .ok (.aload_n 0, 1) := by decide +kernel
theorem dX10_account_107 : decode cX10_account 107 = .ok (.getfield 50, 3) := by decide +kernel
theorem dX10_account_110 : decode cX10_account 110 = .ok (.getfield 372, 3) := by decide +kernel
theorem dX10_account_113 : decode cX10_account 113 = .ok (.ireturn, 1) := by decide +kernel
theorem dX10_account_114 : decode cX10_account 114 = .ok (.aload_n 0, 1) := by decide +kernel
theorem dX10_account_115 : decode cX10_account 115 = .ok (.getfield 50, 3) := by decide +kernel
theorem dX10_account_118 : decode cX10_account 118 = .ok (.getfield 366, 3) := by decide +kernel
theorem dX10_account_121 : decode cX10_account 121 = .ok (.ireturn, 1) := by decide +kernel
theorem dX10_account_122 : decode cX10_account 122 = .ok (.aload_n 0, 1) := by decide +kernel
theorem dX10_account_123 : decode cX10_account 123 = .ok (.getfield 50, 3) := by decide +kernel
theorem dX10_account_126 : decode cX10_account 126 = .ok (.getfield 375, 3) := by decide +kernel
theorem dX10_account_129 : decode cX10_account 129 = .ok (.ireturn, 1) := by decide +kernel
theorem dX10_account_130 : decode cX10_account 130 = .ok (.aload_n 0, 1) := by decide +kernel
theorem dX10_account_131 : decode cX10_account 131 = .ok (.getfield 50, 3) := by decide +kernel
theorem dX10_account_134 : decode cX10_account 134 = .ok (.invokevirtual 378, 3) := by decide +kernel
theorem dX10_account_137 : decode cX10_account 137 = .ok (.ireturn, 1) := by decide +kernel
theorem dX10_account_138 : decode cX10_account 138 = .ok (.aload_n 0, 1) := by decide +kernel
theorem dX10_account_139 : decode cX10_account 139 = .ok (.getfield 63, 3) := by decide +kernel
theorem dX10_account_142 : decode cX10_account 142 = .ok (.getfield 381, 3) := by decide +kernel
theorem dX10_account_145 : decode cX10_account 145 = .ok (.ireturn, 1) := by decide +kernel
theorem dX10_account_146 : decode cX10_account 146 = .ok (.aload_n 0, 1) := by decide +kernel
theorem dX10_account_147 : decode cX10_account 147 = .ok (.getfield 19, 3) := by decide +kernel
theorem dX10_account_150 : decode cX10_account 150 = .ok (.getfield 277, 3) := by decide +kernel
theorem dX10_account_153 : decode cX10_account 153 = .ok (.ireturn, 1) := by decide +kernel
theorem dX10_account_154 : decode cX10_account 154 = .ok (.new 149, 3) := by decide +kernel
theorem dX10_account_157 : decode cX10_account 157 = .ok (.dup, 1) := by decide +kernel
theorem dX10_account_158 : decode cX10_account 158 = .ok (.ldc_w 382, 3) := by decide +kernel
theorem dX10_account_161 : decode cX10_account 161 = .ok (.invokespecial 153, 3) := by decide +kernel
theorem dX10_account_164 : decode cX10_account 164 = .ok (.athrow, 1) := by decide +kernel
theorem dX10_undo_0 : decode cX10_undo 0 = .ok (.aload_n 0, 1) := by decide +kernel
theorem dX10_undo_1 : decode cX10_undo 1 = .ok (.getfield 63, 3) := by decide +kernel
theorem dX10_undo_4 : decode cX10_undo 4 = .ok (.getfield 381, 3) := by decide +kernel
theorem dX10_undo_7 : decode cX10_undo 7 = .ok (.ifCond .ne 14, 3) := by decide +kernel
theorem dX10_undo_10 : decode cX10_undo 10 = .ok (.new 268, 3) := by decide +kernel
theorem dX10_undo_13 : decode cX10_undo 13 = .ok (.dup, 1) := by decide +kernel
theorem dX10_undo_14 : decode cX10_undo 14 = .ok (.ldc_w 384, 3) := by decide +kernel
theorem dX10_undo_17 : decode cX10_undo 17 = .ok (.invokespecial 272, 3) := by decide +kernel
theorem dX10_undo_20 : decode cX10_undo 20 = .ok (.athrow, 1) := by decide +kernel
set_option maxRecDepth 20000 in
theorem ggX10_save_X8_copyFrom : GoodIn wsX10_save wsX8_copyFrom := goodIn_r _ [8, 9, 10, 11, 12, 13, 14, 15, 16, 17, 18, 19, 20, 21, 22, 23, 24, 25, 26, 27, 28, 29, 30, 31, 42, 43, 44, 45, 46, 47, 48, 49, 50, 51, 52, 53, 54] rfl (by decide +kernel)
set_option maxRecDepth 20000 in
theorem gX10_save_X8_copyFrom : GoodIn wsX10_save (wsV RX10 252 RX8 yX8_copyFrom wsX8_copyFrom) := goodIn_app (goodIn_of _ (by decide +kernel)) ggX10_save_X8_copyFrom
theorem dX10_save_0 : decode cX10_save 0 = .ok (.aload_n 0, 1) := by decide +kernel
theorem dX10_save_1 : decode cX10_save 1 = .ok (.getfield 57, 3) := by decide +kernel
theorem dX10_save_4 : decode cX10_save 4 = .ok (.aload_n 0, 1) := by decide +kernel
theorem dX10_save_5 : decode cX10_save 5 = .ok (.getfield 50, 3) := by decide +kernel
theorem dX10_save_8 : decode cX10_save 8 = .ok (.invokevirtual 252, 3) := by decide +kernel
theorem dX10_save_11 : decode cX10_save 11 = .ok (.aload_n 0, 1) := by decide +kernel
theorem dX10_save_12 : decode cX10_save 12 = .ok (.iconst 1, 1) := by decide +kernel
theorem dX10_save_13 : decode cX10_save 13 = .ok (.putfield 30, 3) := by decide +kernel
theorem dX10_save_16 : decode cX10_save 16 = .ok (.aload_n 0, 1) := by decide +kernel
theorem dX10_save_17 : decode cX10_save 17 = .ok (.getfield 50, 3) := by decide +kernel
theorem dX10_save_20 : decode cX10_save 20 = .ok (.getfield 238, 3) := by decide +kernel
theorem dX10_save_23 : decode cX10_save 23 = .ok (.ireturn, 1) := by decide +kernel
theorem dX10_restore_0 : decode cX10_restore 0 = .ok (.aload_n 0, 1) := by decide +kernel
theorem dX10_restore_1 : decode cX10_restore 1 = .ok (.getfield 30, 3) := by decide +kernel
theorem dX10_restore_4 : decode cX10_restore 4 = .ok (.ifCond .ne 14, 3) := by decide +kernel
theorem dX10_restore_7 : decode cX10_restore 7 = .ok (.new 268, 3) := by decide +kernel
theorem dX10_restore_10 : decode cX10_restore 10 = .ok (.dup, 1) := by decide +kernel
theorem dX10_restore_11 : decode cX10_restore 11 = .ok (.ldc_w 389, 3) := by decide +kernel
theorem dX10_restore_14 : decode cX10_restore 14 = .ok (.invokespecial 272, 3) := by decide +kernel
theorem dX10_restore_17 : decode cX10_restore 17 = .ok (.athrow, 1) := by decide +kernel
set_option maxRecDepth 20000 in
theorem ggX10_needSurveyor_X8_has : GoodIn wsX10_needSurveyor wsX8_has := goodIn_r _ [8, 9, 20, 21, 22, 23, 24, 25, 26, 27, 28, 29] rfl (by decide +kernel)
set_option maxRecDepth 20000 in
theorem gX10_needSurveyor_X8_has : GoodIn wsX10_needSurveyor (wsV RX10 394 RX8 yX8_has wsX8_has) := goodIn_app (goodIn_of _ (by decide +kernel)) ggX10_needSurveyor_X8_has
theorem dX10_needSurveyor_0 : decode cX10_needSurveyor 0 = .ok (.aload_n 0, 1) := by decide +kernel
theorem dX10_needSurveyor_1 : decode cX10_needSurveyor 1 = .ok (.getfield 50, 3) := by decide +kernel
theorem dX10_needSurveyor_4 : decode cX10_needSurveyor 4 = .ok (.iload_n 1, 1) := by decide +kernel
theorem dX10_needSurveyor_5 : decode cX10_needSurveyor 5 = .ok (.invokevirtual 394, 3) := by decide +kernel
theorem dX10_needSurveyor_8 : decode cX10_needSurveyor 8 = .ok (.ifCond .ne 14, 3) := by decide +kernel
theorem dX10_needSurveyor_11 : decode cX10_needSurveyor 11 = .ok (.new 341, 3) := by decide +kernel
theorem dX10_needSurveyor_14 : decode cX10_needSurveyor 14 = .ok (.dup, 1) := by decide +kernel
theorem dX10_needSurveyor_15 : decode cX10_needSurveyor 15 = .ok (.ldc_w 395, 3) := by decide +kernel
theorem dX10_needSurveyor_18 : decode cX10_needSurveyor 18 = .ok (.invokespecial 345, 3) := by decide +kernel
theorem dX10_needSurveyor_21 : decode cX10_needSurveyor 21 = .ok (.athrow, 1) := by decide +kernel
theorem dX10_needDistrict_0 : decode cX10_needDistrict 0 = .ok (.iload_n 0, 1) := by decide +kernel
theorem dX10_needDistrict_1 : decode cX10_needDistrict 1 = .ok (.ifCond .lt 8, 3) := by decide +kernel
theorem dX10_needDistrict_4 : decode cX10_needDistrict 4 = .ok (.iload_n 0, 1) := by decide +kernel
theorem dX10_needDistrict_5 : decode cX10_needDistrict 5 = .ok (.iconst 3, 1) := by decide +kernel
theorem dX10_needDistrict_6 : decode cX10_needDistrict 6 = .ok (.if_icmp .lt 14, 3) := by decide +kernel
theorem dX10_needDistrict_9 : decode cX10_needDistrict 9 = .ok (.new 149, 3) := by decide +kernel
theorem dX10_needDistrict_12 : decode cX10_needDistrict 12 = .ok (.dup, 1) := by decide +kernel
theorem dX10_needDistrict_13 : decode cX10_needDistrict 13 = .ok (.ldc_w 397, 3) := by decide +kernel
theorem dX10_needDistrict_16 : decode cX10_needDistrict 16 = .ok (.invokespecial 153, 3) := by decide +kernel
theorem dX10_needDistrict_19 : decode cX10_needDistrict 19 = .ok (.athrow, 1) := by decide +kernel
theorem dX10_needDistrict_20 : decode cX10_needDistrict 20 = .ok (.return_, 1) := by decide +kernel
theorem dX11_init_0 : decode cX11_init 0 = .ok (.aload_n 0, 1) := by decide +kernel
theorem dX11_init_1 : decode cX11_init 1 = .ok (.invokespecial 3, 3) := by decide +kernel
theorem dX11_init_4 : decode cX11_init 4 = .ok (.aload_n 0, 1) := by decide +kernel
theorem dX11_init_5 : decode cX11_init 5 = .ok (.sipush 8277, 3) := by decide +kernel
theorem dX11_init_8 : decode cX11_init 8 = .ok (.newarray .int, 2) := by decide +kernel
theorem dX11_init_10 : decode cX11_init 10 = .ok (.putfield 9, 3) := by decide +kernel
theorem dX11_init_13 : decode cX11_init 13 = .ok (.aload_n 0, 1) := by decide +kernel
theorem dX11_init_14 : decode cX11_init 14 = .ok (.sipush 8277, 3) := by decide +kernel
theorem dX11_init_17 : decode cX11_init 17 = .ok (.newarray .int, 2) := by decide +kernel
theorem dX11_init_19 : decode cX11_init 19 = .ok (.putfield 13, 3) := by decide +kernel
theorem dX11_init_22 : decode cX11_init 22 = .ok (.aload_n 0, 1) := by decide +kernel
theorem dX11_init_23 : decode cX11_init 23 = .ok (.sipush 8277, 3) := by decide +kernel
theorem dX11_init_26 : decode cX11_init 26 = .ok (.newarray .int, 2) := by decide +kernel
theorem dX11_init_28 : decode cX11_init 28 = .ok (.putfield 16, 3) := by decide +kernel
theorem dX11_init_31 : decode cX11_init 31 = .ok (.aload_n 0, 1) := by decide +kernel
theorem dX11_init_32 : decode cX11_init 32 = .ok (.ldc 19, 2) := by decide +kernel
theorem dX11_init_34 : decode cX11_init 34 = .ok (.newarray .int, 2) := by decide +kernel
theorem dX11_init_36 : decode cX11_init 36 = .ok (.putfield 20, 3) := by decide +kernel
theorem dX11_init_39 : decode cX11_init 39 = .ok (.aload_n 0, 1) := by decide +kernel
theorem dX11_init_40 : decode cX11_init 40 = .ok (.sipush 8277, 3) := by decide +kernel
theorem dX11_init_43 : decode cX11_init 43 = .ok (.newarray .int, 2) := by decide +kernel
theorem dX11_init_45 : decode cX11_init 45 = .ok (.putfield 23, 3) := by decide +kernel
theorem dX11_init_48 : decode cX11_init 48 = .ok (.aload_n 0, 1) := by decide +kernel
theorem dX11_init_49 : decode cX11_init 49 = .ok (.ldc 26, 2) := by decide +kernel
theorem dX11_init_51 : decode cX11_init 51 = .ok (.newarray .int, 2) := by decide +kernel
theorem dX11_init_53 : decode cX11_init 53 = .ok (.putfield 27, 3) := by decide +kernel
theorem dX11_init_56 : decode cX11_init 56 = .ok (.aload_n 0, 1) := by decide +kernel
theorem dX11_init_57 : decode cX11_init 57 = .ok (.sipush 240, 3) := by decide +kernel
theorem dX11_init_60 : decode cX11_init 60 = .ok (.newarray .char, 2) := by decide +kernel
theorem dX11_init_62 : decode cX11_init 62 = .ok (.putfield 30, 3) := by decide +kernel
theorem dX11_init_65 : decode cX11_init 65 = .ok (.aload_n 0, 1) := by decide +kernel
theorem dX11_init_66 : decode cX11_init 66 = .ok (.bipush 60, 2) := by decide +kernel
theorem dX11_init_68 : decode cX11_init 68 = .ok (.newarray .char, 2) := by decide +kernel
theorem dX11_init_70 : decode cX11_init 70 = .ok (.putfield 34, 3) := by decide +kernel
theorem dX11_init_73 : decode cX11_init 73 = .ok (.aload_n 0, 1) := by decide +kernel
theorem dX11_init_74 : decode cX11_init 74 = .ok (.iconst 3, 1) := by decide +kernel
theorem dX11_init_75 : decode cX11_init 75 = .ok (.newarray .int, 2) := by decide +kernel
theorem dX11_init_77 : decode cX11_init 77 = .ok (.putfield 37, 3) := by decide +kernel
theorem dX11_init_80 : decode cX11_init 80 = .ok (.aload_n 0, 1) := by decide +kernel
theorem dX11_init_81 : decode cX11_init 81 = .ok (.iconst (-1), 1) := by decide +kernel
theorem dX11_init_82 : decode cX11_init 82 = .ok (.putfield 40, 3) := by decide +kernel
theorem dX11_init_85 : decode cX11_init 85 = .ok (.aload_n 0, 1) := by decide +kernel
theorem dX11_init_86 : decode cX11_init 86 = .ok (.bipush 6, 2) := by decide +kernel
theorem dX11_init_88 : decode cX11_init 88 = .ok (.newarray .int, 2) := by decide +kernel
theorem dX11_init_90 : decode cX11_init 90 = .ok (.putfield 44, 3) := by decide +kernel
theorem dX11_init_93 : decode cX11_init 93 = .ok (.return_, 1) := by decide +kernel
theorem dX11_thrown_0 : decode cX11_thrown 0 = .ok (.aload_n 0, 1) := by decide +kernel
theorem dX11_thrown_1 : decode cX11_thrown 1 = .ok (.getfield 47, 3) := by decide +kernel
theorem dX11_thrown_4 : decode cX11_thrown 4 = .ok (.ireturn, 1) := by decide +kernel
theorem dX11_raises_0 : decode cX11_raises 0 = .ok (.aload_n 0, 1) := by decide +kernel
theorem dX11_raises_1 : decode cX11_raises 1 = .ok (.iload_n 1, 1) := by decide +kernel
theorem dX11_raises_2 : decode cX11_raises 2 = .ok (.putfield 47, 3) := by decide +kernel
theorem dX11_raises_5 : decode cX11_raises 5 = .ok (.iconst 0, 1) := by decide +kernel
theorem dX11_raises_6 : decode cX11_raises 6 = .ok (.ireturn, 1) := by decide +kernel
theorem dX11_in_0 : decode cX11_in 0 = .ok (.iload_n 0, 1) := by decide +kernel
theorem dX11_in_1 : decode cX11_in 1 = .ok (.iload_n 1, 1) := by decide +kernel
theorem dX11_in_2 : decode cX11_in 2 = .ok (.if_icmp .lt 12, 3) := by decide +kernel
theorem dX11_in_5 : decode cX11_in 5 = .ok (.iload_n 0, 1) := by decide +kernel
theorem dX11_in_6 : decode cX11_in 6 = .ok (.iload_n 2, 1) := by decide +kernel
theorem dX11_in_7 : decode cX11_in 7 = .ok (.if_icmp .gt 7, 3) := by decide +kernel
theorem dX11_in_10 : decode cX11_in 10 = .ok (.iconst 1, 1) := by decide +kernel
theorem dX11_in_11 : decode cX11_in 11 = .ok (.goto 4, 3) := by decide +kernel
theorem dX11_in_14 : decode cX11_in 14 = .ok (.iconst 0, 1) := by decide +kernel
theorem dX11_in_15 : decode cX11_in 15 = .ok (.ireturn, 1) := by decide +kernel
theorem dX11_copies_0 : decode cX11_copies 0 = .ok (.bipush 85, 2) := by decide +kernel
theorem dX11_copies_2 : decode cX11_copies 2 = .ok (.aload_n 0, 1) := by decide +kernel
theorem dX11_copies_3 : decode cX11_copies 3 = .ok (.bipush 84, 2) := by decide +kernel
theorem dX11_copies_5 : decode cX11_copies 5 = .ok (.iaload, 1) := by decide +kernel
theorem dX11_copies_6 : decode cX11_copies 6 = .ok (.iadd, 1) := by decide +kernel
theorem dX11_copies_7 : decode cX11_copies 7 = .ok (.istore_n 2, 1) := by decide +kernel
theorem dX11_copies_8 : decode cX11_copies 8 = .ok (.iconst 0, 1) := by decide +kernel
theorem dX11_copies_9 : decode cX11_copies 9 = .ok (.istore_n 3, 1) := by decide +kernel
theorem dX11_copies_10 : decode cX11_copies 10 = .ok (.iload_n 3, 1) := by decide +kernel
theorem dX11_copies_11 : decode cX11_copies 11 = .ok (.iload_n 2, 1) := by decide +kernel
theorem dX11_copies_12 : decode cX11_copies 12 = .ok (.if_icmp .ge 15, 3) := by decide +kernel
theorem dX11_copies_15 : decode cX11_copies 15 = .ok (.aload_n 1, 1) := by decide +kernel
theorem dX11_copies_16 : decode cX11_copies 16 = .ok (.iload_n 3, 1) := by decide +kernel
theorem dX11_copies_17 : decode cX11_copies 17 = .ok (.aload_n 0, 1) := by decide +kernel
theorem dX11_copies_18 : decode cX11_copies 18 = .ok (.iload_n 3, 1) := by decide +kernel
theorem dX11_copies_19 : decode cX11_copies 19 = .ok (.iaload, 1) := by decide +kernel
theorem dX11_copies_20 : decode cX11_copies 20 = .ok (.iastore, 1) := by decide +kernel
theorem dX11_copies_21 : decode cX11_copies 21 = .ok (.iinc 3 1, 3) := by decide +kernel
theorem dX11_copies_24 : decode cX11_copies 24 = .ok (.goto (-14), 3) := by decide +kernel
theorem dX11_copies_27 : decode cX11_copies 27 = .ok (.return_, 1) := by decide +kernel
set_option maxRecDepth 20000 in
theorem ggX11_tries_X11_copies : GoodIn wsX11_tries wsX11_copies := goodIn_ca (goodIn_r _ [9] rfl (by decide +kernel)) (goodIn_sub (fun _ h => List.mem_cons_of_mem _ (List.mem_append_right _ h)) (by decide +kernel))
set_option maxRecDepth 20000 in
theorem gX11_tries_X11_copies : GoodIn wsX11_tries (va_wsS RX11 50 yX11_copies wsX11_copies) := goodIn_app (goodIn_of _ (by decide +kernel)) ggX11_tries_X11_copies
theorem dX11_tries_0 : decode cX11_tries 0 = .ok (.aload_n 0, 1) := by decide +kernel
theorem dX11_tries_1 : decode cX11_tries 1 = .ok (.iconst 0, 1) := by decide +kernel
theorem dX11_tries_2 : decode cX11_tries 2 = .ok (.putfield 47, 3) := by decide +kernel
theorem dX11_tries_5 : decode cX11_tries 5 = .ok (.aload_n 0, 1) := by decide +kernel
theorem dX11_tries_6 : decode cX11_tries 6 = .ok (.getfield 9, 3) := by decide +kernel
theorem dX11_tries_9 : decode cX11_tries 9 = .ok (.aload_n 0, 1) := by decide +kernel
theorem dX11_tries_10 : decode cX11_tries 10 = .ok (.getfield 13, 3) := by decide +kernel
theorem dX11_tries_13 : decode cX11_tries 13 = .ok (.invokestatic 50, 3) := by decide +kernel
theorem dX11_tries_16 : decode cX11_tries 16 = .ok (.aload_n 0, 1) := by decide +kernel
theorem dX11_tries_17 : decode cX11_tries 17 = .ok (.aload_n 0, 1) := by decide +kernel
theorem dX11_tries_18 : decode cX11_tries 18 = .ok (.getfield 54, 3) := by decide +kernel
theorem dX11_tries_21 : decode cX11_tries 21 = .ok (.putfield 57, 3) := by decide +kernel
theorem dX11_tries_24 : decode cX11_tries 24 = .ok (.return_, 1) := by decide +kernel
set_option maxRecDepth 20000 in
theorem ggX11_comesBack_X11_copies : GoodIn wsX11_comesBack wsX11_copies := goodIn_ca (goodIn_r _ [8] rfl (by decide +kernel)) (goodIn_sub (fun _ h => List.mem_cons_of_mem _ (List.mem_append_right _ h)) (by decide +kernel))
set_option maxRecDepth 20000 in
theorem gX11_comesBack_X11_copies : GoodIn wsX11_comesBack (va_wsS RX11 50 yX11_copies wsX11_copies) := goodIn_app (goodIn_of _ (by decide +kernel)) ggX11_comesBack_X11_copies
theorem dX11_comesBack_0 : decode cX11_comesBack 0 = .ok (.aload_n 0, 1) := by decide +kernel
theorem dX11_comesBack_1 : decode cX11_comesBack 1 = .ok (.getfield 13, 3) := by decide +kernel
theorem dX11_comesBack_4 : decode cX11_comesBack 4 = .ok (.aload_n 0, 1) := by decide +kernel
theorem dX11_comesBack_5 : decode cX11_comesBack 5 = .ok (.getfield 9, 3) := by decide +kernel
theorem dX11_comesBack_8 : decode cX11_comesBack 8 = .ok (.invokestatic 50, 3) := by decide +kernel
theorem dX11_comesBack_11 : decode cX11_comesBack 11 = .ok (.aload_n 0, 1) := by decide +kernel
theorem dX11_comesBack_12 : decode cX11_comesBack 12 = .ok (.aload_n 0, 1) := by decide +kernel
theorem dX11_comesBack_13 : decode cX11_comesBack 13 = .ok (.getfield 57, 3) := by decide +kernel
theorem dX11_comesBack_16 : decode cX11_comesBack 16 = .ok (.putfield 54, 3) := by decide +kernel
theorem dX11_comesBack_19 : decode cX11_comesBack 19 = .ok (.return_, 1) := by decide +kernel
theorem dX11_keeps_0 : decode cX11_keeps 0 = .ok (.aload_n 0, 1) := by decide +kernel
theorem dX11_keeps_1 : decode cX11_keeps 1 = .ok (.getfield 60, 3) := by decide +kernel
theorem dX11_keeps_4 : decode cX11_keeps 4 = .ok (.bipush 8, 2) := by decide +kernel
theorem dX11_keeps_6 : decode cX11_keeps 6 = .ok (.if_icmp .ne 43, 3) := by decide +kernel
theorem dX11_keeps_49 : decode cX11_keeps 49 = .ok (.bipush 85, 2) := by decide +kernel
theorem dX11_keeps_51 : decode cX11_keeps 51 = .ok (.aload_n 0, 1) := by decide +kernel
theorem dX11_keeps_52 : decode cX11_keeps 52 = .ok (.getfield 13, 3) := by decide +kernel
theorem dX11_keeps_55 : decode cX11_keeps 55 = .ok (.bipush 84, 2) := by decide +kernel
theorem dX11_keeps_57 : decode cX11_keeps 57 = .ok (.iaload, 1) := by decide +kernel
theorem dX11_keeps_58 : decode cX11_keeps 58 = .ok (.iadd, 1) := by decide +kernel
theorem dX11_keeps_59 : decode cX11_keeps 59 = .ok (.istore_n 2, 1) := by decide +kernel
theorem dX11_keeps_60 : decode cX11_keeps 60 = .ok (.iconst 0, 1) := by decide +kernel
theorem dX11_keeps_61 : decode cX11_keeps 61 = .ok (.istore_n 3, 1) := by decide +kernel
theorem dX11_keeps_62 : decode cX11_keeps 62 = .ok (.iload_n 3, 1) := by decide +kernel
theorem dX11_keeps_63 : decode cX11_keeps 63 = .ok (.iload_n 2, 1) := by decide +kernel
theorem dX11_keeps_64 : decode cX11_keeps 64 = .ok (.if_icmp .ge 30, 3) := by decide +kernel
theorem dX11_keeps_67 : decode cX11_keeps 67 = .ok (.aload_n 0, 1) := by decide +kernel
theorem dX11_keeps_68 : decode cX11_keeps 68 = .ok (.getfield 20, 3) := by decide +kernel
theorem dX11_keeps_71 : decode cX11_keeps 71 = .ok (.sipush 8277, 3) := by decide +kernel
theorem dX11_keeps_74 : decode cX11_keeps 74 = .ok (.aload_n 0, 1) := by decide +kernel
theorem dX11_keeps_75 : decode cX11_keeps 75 = .ok (.getfield 60, 3) := by decide +kernel
theorem dX11_keeps_78 : decode cX11_keeps 78 = .ok (.imul, 1) := by decide +kernel
theorem dX11_keeps_79 : decode cX11_keeps 79 = .ok (.iload_n 3, 1) := by decide +kernel
theorem dX11_keeps_80 : decode cX11_keeps 80 = .ok (.iadd, 1) := by decide +kernel
theorem dX11_keeps_81 : decode cX11_keeps 81 = .ok (.aload_n 0, 1) := by decide +kernel
theorem dX11_keeps_82 : decode cX11_keeps 82 = .ok (.getfield 13, 3) := by decide +kernel
theorem dX11_keeps_85 : decode cX11_keeps 85 = .ok (.iload_n 3, 1) := by decide +kernel
theorem dX11_keeps_86 : decode cX11_keeps 86 = .ok (.iaload, 1) := by decide +kernel
theorem dX11_keeps_87 : decode cX11_keeps 87 = .ok (.iastore, 1) := by decide +kernel
theorem dX11_keeps_88 : decode cX11_keeps 88 = .ok (.iinc 3 1, 3) := by decide +kernel
theorem dX11_keeps_91 : decode cX11_keeps 91 = .ok (.goto (-29), 3) := by decide +kernel
theorem dX11_keeps_94 : decode cX11_keeps 94 = .ok (.aload_n 0, 1) := by decide +kernel
theorem dX11_keeps_95 : decode cX11_keeps 95 = .ok (.dup, 1) := by decide +kernel
theorem dX11_keeps_96 : decode cX11_keeps 96 = .ok (.getfield 60, 3) := by decide +kernel
theorem dX11_keeps_99 : decode cX11_keeps 99 = .ok (.iconst 1, 1) := by decide +kernel
theorem dX11_keeps_100 : decode cX11_keeps 100 = .ok (.iadd, 1) := by decide +kernel
theorem dX11_keeps_101 : decode cX11_keeps 101 = .ok (.putfield 60, 3) := by decide +kernel
theorem dX11_keeps_104 : decode cX11_keeps 104 = .ok (.iload_n 1, 1) := by decide +kernel
theorem dX11_keeps_105 : decode cX11_keeps 105 = .ok (.ireturn, 1) := by decide +kernel
theorem dX11_does_0 : decode cX11_does 0 = .ok (.aload_n 0, 1) := by decide +kernel
theorem dX11_does_1 : decode cX11_does 1 = .ok (.iload_n 1, 1) := by decide +kernel
theorem dX11_does_2 : decode cX11_does 2 = .ok (.putfield 64, 3) := by decide +kernel
theorem dX11_does_5 : decode cX11_does 5 = .ok (.iconst 1, 1) := by decide +kernel
theorem dX11_does_6 : decode cX11_does 6 = .ok (.ireturn, 1) := by decide +kernel
theorem dX11_refuses_0 : decode cX11_refuses 0 = .ok (.aload_n 0, 1) := by decide +kernel
theorem dX11_refuses_1 : decode cX11_refuses 1 = .ok (.iload_n 1, 1) := by decide +kernel
theorem dX11_refuses_2 : decode cX11_refuses 2 = .ok (.putfield 67, 3) := by decide +kernel
theorem dX11_refuses_5 : decode cX11_refuses 5 = .ok (.aload_n 0, 1) := by decide +kernel
theorem dX11_refuses_6 : decode cX11_refuses 6 = .ok (.iload_n 2, 1) := by decide +kernel
theorem dX11_refuses_7 : decode cX11_refuses 7 = .ok (.putfield 70, 3) := by decide +kernel
theorem dX11_refuses_10 : decode cX11_refuses 10 = .ok (.aload_n 0, 1) := by decide +kernel
theorem dX11_refuses_11 : decode cX11_refuses 11 = .ok (.iconst 0, 1) := by decide +kernel
theorem dX11_refuses_12 : decode cX11_refuses 12 = .ok (.putfield 73, 3) := by decide +kernel
theorem dX11_refuses_15 : decode cX11_refuses 15 = .ok (.iconst 0, 1) := by decide +kernel
theorem dX11_refuses_16 : decode cX11_refuses 16 = .ok (.ireturn, 1) := by decide +kernel
set_option maxRecDepth 20000 in
theorem ggX11_ends_X11_keeps : GoodIn wsX11_ends wsX11_keeps := goodIn_ca (goodIn_r _ [6, 7, 8, 9, 10, 26, 27, 28, 29, 30, 31, 32, 33, 34, 35, 36, 37, 38, 39, 40, 41, 42, 43, 44, 45, 46, 47, 48, 49, 50] rfl (by decide +kernel)) (goodIn_sub (fun _ h => List.mem_cons_of_mem _ (List.mem_append_right _ h)) (by decide +kernel))
set_option maxRecDepth 20000 in
theorem gX11_ends_X11_keeps : GoodIn wsX11_ends (wsV RX11 76 RX11 yX11_keeps wsX11_keeps) := goodIn_app (goodIn_of _ (by decide +kernel)) ggX11_ends_X11_keeps
set_option maxRecDepth 20000 in
theorem ggX11_ends_X11_comesBack : GoodIn wsX11_ends wsX11_comesBack := goodIn_ca (goodIn_r _ [14, 10, 15, 16, 17, 18, 19, 5, 20, 26, 27, 28, 29, 30, 31, 32, 33, 34, 35, 36, 37, 38, 39, 40, 41, 42, 43, 44, 45, 46, 47, 48, 49, 50] rfl (by decide +kernel)) (goodIn_sub (fun _ h => List.mem_cons_of_mem _ (List.mem_append_right _ h)) (by decide +kernel))
set_option maxRecDepth 20000 in
theorem gX11_ends_X11_comesBack : GoodIn wsX11_ends (wsV RX11 80 RX11 yX11_comesBack wsX11_comesBack) := goodIn_app (goodIn_of _ (by decide +kernel)) ggX11_ends_X11_comesBack
set_option maxRecDepth 20000 in
theorem ggX11_ends_X11_raises : GoodIn wsX11_ends wsX11_raises := goodIn_r _ [24, 25, 26, 27, 28, 29, 30, 31, 32, 33, 34, 35, 36, 37, 38, 39, 40, 41, 42, 43, 44, 45, 46, 47, 48, 49, 50] rfl (by decide +kernel)
set_option maxRecDepth 20000 in
theorem gX11_ends_X11_raises : GoodIn wsX11_ends (wsV RX11 83 RX11 yX11_raises wsX11_raises) := goodIn_app (goodIn_of _ (by decide +kernel)) ggX11_ends_X11_raises
theorem dX11_ends_0 : decode cX11_ends 0 = .ok (.iload_n 1, 1) := by decide +kernel
theorem dX11_ends_1 : decode cX11_ends 1 = .ok (.ifCond .eq 12, 3) := by decide +kernel
theorem dX11_ends_4 : decode cX11_ends 4 = .ok (.aload_n 0, 1) := by decide +kernel
theorem dX11_ends_5 : decode cX11_ends 5 = .ok (.aload_n 0, 1) := by decide +kernel
theorem dX11_ends_6 : decode cX11_ends 6 = .ok (.getfield 64, 3) := by decide +kernel
theorem dX11_ends_9 : decode cX11_ends 9 = .ok (.invokevirtual 76, 3) := by decide +kernel
theorem dX11_ends_12 : decode cX11_ends 12 = .ok (.ireturn, 1) := by decide +kernel
theorem dX11_ends_13 : decode cX11_ends 13 = .ok (.aload_n 0, 1) := by decide +kernel
theorem dX11_ends_14 : decode cX11_ends 14 = .ok (.invokevirtual 80, 3) := by decide +kernel
theorem dX11_ends_17 : decode cX11_ends 17 = .ok (.aload_n 0, 1) := by decide +kernel
theorem dX11_ends_18 : decode cX11_ends 18 = .ok (.iconst 1, 1) := by decide +kernel
theorem dX11_ends_19 : decode cX11_ends 19 = .ok (.invokevirtual 83, 3) := by decide +kernel
theorem dX11_ends_22 : decode cX11_ends 22 = .ok (.ireturn, 1) := by decide +kernel
set_option maxRecDepth 20000 in
theorem ggX11_isOne_X11_in : GoodIn wsX11_isOne wsX11_in := goodIn_r _ [5] rfl (by decide +kernel)
set_option maxRecDepth 20000 in
theorem gX11_isOne_X11_in : GoodIn wsX11_isOne (va_wsS RX11 86 yX11_in wsX11_in) := goodIn_app (goodIn_of _ (by decide +kernel)) ggX11_isOne_X11_in
theorem dX11_isOne_0 : decode cX11_isOne 0 = .ok (.iload_n 1, 1) := by decide +kernel
theorem dX11_isOne_1 : decode cX11_isOne 1 = .ok (.iconst 0, 1) := by decide +kernel
theorem dX11_isOne_2 : decode cX11_isOne 2 = .ok (.aload_n 0, 1) := by decide +kernel
theorem dX11_isOne_3 : decode cX11_isOne 3 = .ok (.getfield 9, 3) := by decide +kernel
theorem dX11_isOne_6 : decode cX11_isOne 6 = .ok (.iconst 0, 1) := by decide +kernel
theorem dX11_isOne_7 : decode cX11_isOne 7 = .ok (.iaload, 1) := by decide +kernel
theorem dX11_isOne_8 : decode cX11_isOne 8 = .ok (.iconst 1, 1) := by decide +kernel
theorem dX11_isOne_9 : decode cX11_isOne 9 = .ok (.isub, 1) := by decide +kernel
theorem dX11_isOne_10 : decode cX11_isOne 10 = .ok (.invokestatic 86, 3) := by decide +kernel
theorem dX11_isOne_13 : decode cX11_isOne 13 = .ok (.ireturn, 1) := by decide +kernel
theorem dX11_areNear_0 : decode cX11_areNear 0 = .ok (.iload_n 1, 1) := by decide +kernel
theorem dX11_areNear_1 : decode cX11_areNear 1 = .ok (.iload_n 2, 1) := by decide +kernel
theorem dX11_areNear_2 : decode cX11_areNear 2 = .ok (.if_icmp .eq 29, 3) := by decide +kernel
theorem dX11_areNear_31 : decode cX11_areNear 31 = .ok (.iconst 0, 1) := by decide +kernel
theorem dX11_areNear_32 : decode cX11_areNear 32 = .ok (.ireturn, 1) := by decide +kernel
theorem dX11_map_0 : decode cX11_map 0 = .ok (.aload_n 0, 1) := by decide +kernel
theorem dX11_map_1 : decode cX11_map 1 = .ok (.getfield 9, 3) := by decide +kernel
theorem dX11_map_4 : decode cX11_map 4 = .ok (.bipush 48, 2) := by decide +kernel
theorem dX11_map_6 : decode cX11_map 6 = .ok (.bipush 6, 2) := by decide +kernel
theorem dX11_map_8 : decode cX11_map 8 = .ok (.iload_n 1, 1) := by decide +kernel
theorem dX11_map_9 : decode cX11_map 9 = .ok (.imul, 1) := by decide +kernel
theorem dX11_map_10 : decode cX11_map 10 = .ok (.iadd, 1) := by decide +kernel
theorem dX11_map_11 : decode cX11_map 11 = .ok (.iload_n 2, 1) := by decide +kernel
theorem dX11_map_12 : decode cX11_map 12 = .ok (.iadd, 1) := by decide +kernel
theorem dX11_map_13 : decode cX11_map 13 = .ok (.iaload, 1) := by decide +kernel
theorem dX11_map_14 : decode cX11_map 14 = .ok (.iconst 1, 1) := by decide +kernel
theorem dX11_map_15 : decode cX11_map 15 = .ok (.isub, 1) := by decide +kernel
theorem dX11_map_16 : decode cX11_map 16 = .ok (.ireturn, 1) := by decide +kernel
set_option maxRecDepth 20000 in
theorem ggX11_floods_X11_areNear : GoodIn wsX11_floods wsX11_areNear := goodIn_ca (goodIn_r _ [6, 7, 8, 9, 5, 10, 1, 11, 12, 13, 14, 19, 20, 21, 22, 23, 24, 25, 26, 27, 28, 29, 30, 31, 32, 33, 34, 35, 36, 37, 38, 39, 40, 41, 42, 43] rfl (by decide +kernel)) (goodIn_sub (fun _ h => List.mem_cons_of_mem _ (List.mem_append_right _ h)) (by decide +kernel))
set_option maxRecDepth 20000 in
theorem gX11_floods_X11_areNear : GoodIn wsX11_floods (wsV RX11 100 RX11 yX11_areNear wsX11_areNear) := goodIn_app (goodIn_of _ (by decide +kernel)) ggX11_floods_X11_areNear
theorem dX11_floods_0 : decode cX11_floods 0 = .ok (.iconst 0, 1) := by decide +kernel
theorem dX11_floods_1 : decode cX11_floods 1 = .ok (.istore 4, 2) := by decide +kernel
theorem dX11_floods_3 : decode cX11_floods 3 = .ok (.iload 4, 2) := by decide +kernel
theorem dX11_floods_5 : decode cX11_floods 5 = .ok (.aload_n 0, 1) := by decide +kernel
theorem dX11_floods_6 : decode cX11_floods 6 = .ok (.getfield 9, 3) := by decide +kernel
theorem dX11_floods_9 : decode cX11_floods 9 = .ok (.iconst 0, 1) := by decide +kernel
theorem dX11_floods_10 : decode cX11_floods 10 = .ok (.iaload, 1) := by decide +kernel
theorem dX11_floods_11 : decode cX11_floods 11 = .ok (.if_icmp .ge 33, 3) := by decide +kernel
theorem dX11_floods_14 : decode cX11_floods 14 = .ok (.iload 4, 2) := by decide +kernel
theorem dX11_floods_16 : decode cX11_floods 16 = .ok (.iload_n 2, 1) := by decide +kernel
theorem dX11_floods_17 : decode cX11_floods 17 = .ok (.if_icmp .eq 21, 3) := by decide +kernel
theorem dX11_floods_20 : decode cX11_floods 20 = .ok (.aload_n 0, 1) := by decide +kernel
theorem dX11_floods_21 : decode cX11_floods 21 = .ok (.iload_n 1, 1) := by decide +kernel
theorem dX11_floods_22 : decode cX11_floods 22 = .ok (.iload 4, 2) := by decide +kernel
theorem dX11_floods_24 : decode cX11_floods 24 = .ok (.invokevirtual 100, 3) := by decide +kernel
theorem dX11_floods_27 : decode cX11_floods 27 = .ok (.ifCond .eq 11, 3) := by decide +kernel
theorem dX11_floods_38 : decode cX11_floods 38 = .ok (.iinc 4 1, 3) := by decide +kernel
theorem dX11_floods_41 : decode cX11_floods 41 = .ok (.goto (-38), 3) := by decide +kernel
theorem dX11_floods_44 : decode cX11_floods 44 = .ok (.return_, 1) := by decide +kernel
set_option maxRecDepth 20000 in
theorem ggX11_renews_X11_map : GoodIn wsX11_renews wsX11_map := goodIn_ca (goodIn_r _ [8, 3, 33, 34, 35, 36, 37, 38, 39, 40, 41, 42, 43, 44, 45, 46, 47, 48, 49, 50, 51, 52, 53, 54, 55, 56, 57] rfl (by decide +kernel)) (goodIn_sub (fun _ h => List.mem_cons_of_mem _ (List.mem_append_right _ h)) (by decide +kernel))
set_option maxRecDepth 20000 in
theorem gX11_renews_X11_map : GoodIn wsX11_renews (wsV RX11 108 RX11 yX11_map wsX11_map) := goodIn_app (goodIn_of _ (by decide +kernel)) ggX11_renews_X11_map
set_option maxRecDepth 20000 in
theorem ggX11_renews_X11_areNear : GoodIn wsX11_renews wsX11_areNear := goodIn_ca (goodIn_r _ [16, 17, 18, 19, 7, 20, 3, 21, 22, 23, 24, 33, 34, 35, 36, 37, 38, 39, 40, 41, 42, 43, 44, 45, 46, 47, 48, 49, 50, 51, 52, 53, 54, 55, 56, 57] rfl (by decide +kernel)) (goodIn_sub (fun _ h => List.mem_cons_of_mem _ (List.mem_append_right _ h)) (by decide +kernel))
set_option maxRecDepth 20000 in
theorem gX11_renews_X11_areNear : GoodIn wsX11_renews (wsV RX11 100 RX11 yX11_areNear wsX11_areNear) := goodIn_app (goodIn_of _ (by decide +kernel)) ggX11_renews_X11_areNear
set_option maxRecDepth 20000 in
theorem ggX11_renews_X11_floods : GoodIn wsX11_renews wsX11_floods := goodIn_ca (goodIn_r _ [28, 3, 13, 14, 15, 7, 16, 17, 18, 19, 20, 21, 22, 23, 24, 29, 30, 31, 32, 33, 34, 35, 36, 37, 38, 39, 40, 41, 42, 43, 44, 45, 46, 47, 48, 49, 50, 51, 52, 53, 54, 55, 56, 57] rfl (by decide +kernel)) (goodIn_sub (fun _ h => List.mem_cons_of_mem _ (List.mem_append_right _ h)) (by decide +kernel))
set_option maxRecDepth 20000 in
theorem gX11_renews_X11_floods : GoodIn wsX11_renews (wsV RX11 111 RX11 yX11_floods wsX11_floods) := goodIn_app (goodIn_of _ (by decide +kernel)) ggX11_renews_X11_floods
theorem dX11_renews_0 : decode cX11_renews 0 = .ok (.aload_n 0, 1) := by decide +kernel
theorem dX11_renews_1 : decode cX11_renews 1 = .ok (.dup, 1) := by decide +kernel
theorem dX11_renews_2 : decode cX11_renews 2 = .ok (.getfield 54, 3) := by decide +kernel
theorem dX11_renews_5 : decode cX11_renews 5 = .ok (.dup_x1, 1) := by decide +kernel
theorem dX11_renews_6 : decode cX11_renews 6 = .ok (.iconst 1, 1) := by decide +kernel
theorem dX11_renews_7 : decode cX11_renews 7 = .ok (.iadd, 1) := by decide +kernel
theorem dX11_renews_8 : decode cX11_renews 8 = .ok (.putfield 54, 3) := by decide +kernel
theorem dX11_renews_11 : decode cX11_renews 11 = .ok (.istore_n 2, 1) := by decide +kernel
theorem dX11_renews_12 : decode cX11_renews 12 = .ok (.aload_n 0, 1) := by decide +kernel
theorem dX11_renews_13 : decode cX11_renews 13 = .ok (.getfield 27, 3) := by decide +kernel
theorem dX11_renews_16 : decode cX11_renews 16 = .ok (.bipush 9, 2) := by decide +kernel
theorem dX11_renews_18 : decode cX11_renews 18 = .ok (.iload_n 2, 1) := by decide +kernel
theorem dX11_renews_19 : decode cX11_renews 19 = .ok (.imul, 1) := by decide +kernel
theorem dX11_renews_20 : decode cX11_renews 20 = .ok (.iload_n 1, 1) := by decide +kernel
theorem dX11_renews_21 : decode cX11_renews 21 = .ok (.iastore, 1) := by decide +kernel
theorem dX11_renews_22 : decode cX11_renews 22 = .ok (.aload_n 0, 1) := by decide +kernel
theorem dX11_renews_23 : decode cX11_renews 23 = .ok (.getfield 27, 3) := by decide +kernel
theorem dX11_renews_26 : decode cX11_renews 26 = .ok (.bipush 9, 2) := by decide +kernel
theorem dX11_renews_28 : decode cX11_renews 28 = .ok (.iload_n 2, 1) := by decide +kernel
theorem dX11_renews_29 : decode cX11_renews 29 = .ok (.imul, 1) := by decide +kernel
theorem dX11_renews_30 : decode cX11_renews 30 = .ok (.iconst 1, 1) := by decide +kernel
theorem dX11_renews_31 : decode cX11_renews 31 = .ok (.iadd, 1) := by decide +kernel
theorem dX11_renews_32 : decode cX11_renews 32 = .ok (.aload_n 0, 1) := by decide +kernel
theorem dX11_renews_33 : decode cX11_renews 33 = .ok (.iload_n 1, 1) := by decide +kernel
theorem dX11_renews_34 : decode cX11_renews 34 = .ok (.iload_n 1, 1) := by decide +kernel
theorem dX11_renews_35 : decode cX11_renews 35 = .ok (.invokevirtual 108, 3) := by decide +kernel
theorem dX11_renews_38 : decode cX11_renews 38 = .ok (.ifCond .ge 7, 3) := by decide +kernel
theorem dX11_renews_41 : decode cX11_renews 41 = .ok (.iconst 1, 1) := by decide +kernel
theorem dX11_renews_42 : decode cX11_renews 42 = .ok (.goto 16, 3) := by decide +kernel
theorem dX11_renews_58 : decode cX11_renews 58 = .ok (.iastore, 1) := by decide +kernel
theorem dX11_renews_59 : decode cX11_renews 59 = .ok (.aload_n 0, 1) := by decide +kernel
theorem dX11_renews_60 : decode cX11_renews 60 = .ok (.getfield 27, 3) := by decide +kernel
theorem dX11_renews_63 : decode cX11_renews 63 = .ok (.bipush 9, 2) := by decide +kernel
theorem dX11_renews_65 : decode cX11_renews 65 = .ok (.iload_n 2, 1) := by decide +kernel
theorem dX11_renews_66 : decode cX11_renews 66 = .ok (.imul, 1) := by decide +kernel
theorem dX11_renews_67 : decode cX11_renews 67 = .ok (.iconst 2, 1) := by decide +kernel
theorem dX11_renews_68 : decode cX11_renews 68 = .ok (.iadd, 1) := by decide +kernel
theorem dX11_renews_69 : decode cX11_renews 69 = .ok (.aload_n 0, 1) := by decide +kernel
theorem dX11_renews_70 : decode cX11_renews 70 = .ok (.getfield 9, 3) := by decide +kernel
theorem dX11_renews_73 : decode cX11_renews 73 = .ok (.iconst 1, 1) := by decide +kernel
theorem dX11_renews_74 : decode cX11_renews 74 = .ok (.iaload, 1) := by decide +kernel
theorem dX11_renews_75 : decode cX11_renews 75 = .ok (.iastore, 1) := by decide +kernel
theorem dX11_renews_76 : decode cX11_renews 76 = .ok (.iconst 0, 1) := by decide +kernel
theorem dX11_renews_77 : decode cX11_renews 77 = .ok (.istore_n 3, 1) := by decide +kernel
theorem dX11_renews_78 : decode cX11_renews 78 = .ok (.iload_n 3, 1) := by decide +kernel
theorem dX11_renews_79 : decode cX11_renews 79 = .ok (.bipush 6, 2) := by decide +kernel
theorem dX11_renews_81 : decode cX11_renews 81 = .ok (.if_icmp .ge 51, 3) := by decide +kernel
theorem dX11_renews_84 : decode cX11_renews 84 = .ok (.aload_n 0, 1) := by decide +kernel
theorem dX11_renews_85 : decode cX11_renews 85 = .ok (.getfield 27, 3) := by decide +kernel
theorem dX11_renews_88 : decode cX11_renews 88 = .ok (.bipush 9, 2) := by decide +kernel
theorem dX11_renews_90 : decode cX11_renews 90 = .ok (.iload_n 2, 1) := by decide +kernel
theorem dX11_renews_91 : decode cX11_renews 91 = .ok (.imul, 1) := by decide +kernel
theorem dX11_renews_92 : decode cX11_renews 92 = .ok (.iconst 3, 1) := by decide +kernel
theorem dX11_renews_93 : decode cX11_renews 93 = .ok (.iadd, 1) := by decide +kernel
theorem dX11_renews_94 : decode cX11_renews 94 = .ok (.iload_n 3, 1) := by decide +kernel
theorem dX11_renews_95 : decode cX11_renews 95 = .ok (.iadd, 1) := by decide +kernel
theorem dX11_renews_96 : decode cX11_renews 96 = .ok (.iload_n 3, 1) := by decide +kernel
theorem dX11_renews_97 : decode cX11_renews 97 = .ok (.aload_n 0, 1) := by decide +kernel
theorem dX11_renews_98 : decode cX11_renews 98 = .ok (.getfield 9, 3) := by decide +kernel
theorem dX11_renews_101 : decode cX11_renews 101 = .ok (.iconst 0, 1) := by decide +kernel
theorem dX11_renews_102 : decode cX11_renews 102 = .ok (.iaload, 1) := by decide +kernel
theorem dX11_renews_103 : decode cX11_renews 103 = .ok (.if_icmp .ge 21, 3) := by decide +kernel
theorem dX11_renews_106 : decode cX11_renews 106 = .ok (.aload_n 0, 1) := by decide +kernel
theorem dX11_renews_107 : decode cX11_renews 107 = .ok (.iload_n 1, 1) := by decide +kernel
theorem dX11_renews_108 : decode cX11_renews 108 = .ok (.iload_n 3, 1) := by decide +kernel
theorem dX11_renews_109 : decode cX11_renews 109 = .ok (.invokevirtual 100, 3) := by decide +kernel
theorem dX11_renews_112 : decode cX11_renews 112 = .ok (.ifCond .eq 12, 3) := by decide +kernel
theorem dX11_renews_124 : decode cX11_renews 124 = .ok (.iconst 0, 1) := by decide +kernel
theorem dX11_renews_125 : decode cX11_renews 125 = .ok (.iastore, 1) := by decide +kernel
theorem dX11_renews_126 : decode cX11_renews 126 = .ok (.iinc 3 1, 3) := by decide +kernel
theorem dX11_renews_129 : decode cX11_renews 129 = .ok (.goto (-51), 3) := by decide +kernel
theorem dX11_renews_132 : decode cX11_renews 132 = .ok (.aload_n 0, 1) := by decide +kernel
theorem dX11_renews_133 : decode cX11_renews 133 = .ok (.getfield 9, 3) := by decide +kernel
theorem dX11_renews_136 : decode cX11_renews 136 = .ok (.bipush 48, 2) := by decide +kernel
theorem dX11_renews_138 : decode cX11_renews 138 = .ok (.bipush 6, 2) := by decide +kernel
theorem dX11_renews_140 : decode cX11_renews 140 = .ok (.iload_n 1, 1) := by decide +kernel
theorem dX11_renews_141 : decode cX11_renews 141 = .ok (.imul, 1) := by decide +kernel
theorem dX11_renews_142 : decode cX11_renews 142 = .ok (.iadd, 1) := by decide +kernel
theorem dX11_renews_143 : decode cX11_renews 143 = .ok (.iload_n 1, 1) := by decide +kernel
theorem dX11_renews_144 : decode cX11_renews 144 = .ok (.iadd, 1) := by decide +kernel
theorem dX11_renews_145 : decode cX11_renews 145 = .ok (.iload_n 2, 1) := by decide +kernel
theorem dX11_renews_146 : decode cX11_renews 146 = .ok (.iconst 1, 1) := by decide +kernel
theorem dX11_renews_147 : decode cX11_renews 147 = .ok (.iadd, 1) := by decide +kernel
theorem dX11_renews_148 : decode cX11_renews 148 = .ok (.iastore, 1) := by decide +kernel
theorem dX11_renews_149 : decode cX11_renews 149 = .ok (.aload_n 0, 1) := by decide +kernel
theorem dX11_renews_150 : decode cX11_renews 150 = .ok (.getfield 9, 3) := by decide +kernel
theorem dX11_renews_153 : decode cX11_renews 153 = .ok (.iconst 5, 1) := by decide +kernel
theorem dX11_renews_154 : decode cX11_renews 154 = .ok (.dup2, 1) := by decide +kernel
theorem dX11_renews_155 : decode cX11_renews 155 = .ok (.iaload, 1) := by decide +kernel
theorem dX11_renews_156 : decode cX11_renews 156 = .ok (.iconst 1, 1) := by decide +kernel
theorem dX11_renews_157 : decode cX11_renews 157 = .ok (.iadd, 1) := by decide +kernel
theorem dX11_renews_158 : decode cX11_renews 158 = .ok (.iastore, 1) := by decide +kernel
theorem dX11_renews_159 : decode cX11_renews 159 = .ok (.aload_n 0, 1) := by decide +kernel
theorem dX11_renews_160 : decode cX11_renews 160 = .ok (.iload_n 1, 1) := by decide +kernel
theorem dX11_renews_161 : decode cX11_renews 161 = .ok (.iconst (-1), 1) := by decide +kernel
theorem dX11_renews_162 : decode cX11_renews 162 = .ok (.iload_n 2, 1) := by decide +kernel
theorem dX11_renews_163 : decode cX11_renews 163 = .ok (.invokevirtual 111, 3) := by decide +kernel
theorem dX11_renews_166 : decode cX11_renews 166 = .ok (.return_, 1) := by decide +kernel
set_option maxRecDepth 20000 in
theorem ggX11_comes_X11_renews : GoodIn wsX11_comes wsX11_renews := goodIn_ca (goodIn_r _ [13, 14, 15, 1, 16, 17, 18, 5, 19, 20, 21, 22, 23, 24, 25, 26, 27, 28, 29, 30, 31, 32, 33, 34, 35, 36, 37, 38, 39, 40, 41, 42, 43, 49, 50, 51, 52, 53, 54, 55, 56, 57, 58, 59, 60, 61, 62, 63, 64, 65, 66, 67, 68, 69, 70, 71, 72, 73] rfl (by decide +kernel)) (goodIn_sub (fun _ h => List.mem_cons_of_mem _ (List.mem_append_right _ h)) (by decide +kernel))
set_option maxRecDepth 20000 in
theorem gX11_comes_X11_renews : GoodIn wsX11_comes (wsV RX11 117 RX11 yX11_renews wsX11_renews) := goodIn_app (goodIn_of _ (by decide +kernel)) ggX11_comes_X11_renews
set_option maxRecDepth 20000 in
theorem ggX11_comes_X11_does : GoodIn wsX11_comes wsX11_does := goodIn_r _ [47, 48, 49, 50, 51, 52, 53, 54, 55, 56, 57, 58, 59, 60, 61, 62, 63, 64, 65, 66, 67, 68, 69, 70, 71, 72, 73] rfl (by decide +kernel)
set_option maxRecDepth 20000 in
theorem gX11_comes_X11_does : GoodIn wsX11_comes (wsV RX11 121 RX11 yX11_does wsX11_does) := goodIn_app (goodIn_of _ (by decide +kernel)) ggX11_comes_X11_does
theorem dX11_comes_0 : decode cX11_comes 0 = .ok (.aload_n 0, 1) := by decide +kernel
theorem dX11_comes_1 : decode cX11_comes 1 = .ok (.getfield 9, 3) := by decide +kernel
theorem dX11_comes_4 : decode cX11_comes 4 = .ok (.iconst 0, 1) := by decide +kernel
theorem dX11_comes_5 : decode cX11_comes 5 = .ok (.iaload, 1) := by decide +kernel
theorem dX11_comes_6 : decode cX11_comes 6 = .ok (.bipush 6, 2) := by decide +kernel
theorem dX11_comes_8 : decode cX11_comes 8 = .ok (.if_icmp .ne 11, 3) := by decide +kernel
theorem dX11_comes_19 : decode cX11_comes 19 = .ok (.aload_n 0, 1) := by decide +kernel
theorem dX11_comes_20 : decode cX11_comes 20 = .ok (.getfield 9, 3) := by decide +kernel
theorem dX11_comes_23 : decode cX11_comes 23 = .ok (.iconst 0, 1) := by decide +kernel
theorem dX11_comes_24 : decode cX11_comes 24 = .ok (.dup2, 1) := by decide +kernel
theorem dX11_comes_25 : decode cX11_comes 25 = .ok (.iaload, 1) := by decide +kernel
theorem dX11_comes_26 : decode cX11_comes 26 = .ok (.dup_x2, 1) := by decide +kernel
theorem dX11_comes_27 : decode cX11_comes 27 = .ok (.iconst 1, 1) := by decide +kernel
theorem dX11_comes_28 : decode cX11_comes 28 = .ok (.iadd, 1) := by decide +kernel
theorem dX11_comes_29 : decode cX11_comes 29 = .ok (.iastore, 1) := by decide +kernel
theorem dX11_comes_30 : decode cX11_comes 30 = .ok (.istore_n 1, 1) := by decide +kernel
theorem dX11_comes_31 : decode cX11_comes 31 = .ok (.aload_n 0, 1) := by decide +kernel
theorem dX11_comes_32 : decode cX11_comes 32 = .ok (.getfield 9, 3) := by decide +kernel
theorem dX11_comes_35 : decode cX11_comes 35 = .ok (.bipush 6, 2) := by decide +kernel
theorem dX11_comes_37 : decode cX11_comes 37 = .ok (.iload_n 1, 1) := by decide +kernel
theorem dX11_comes_38 : decode cX11_comes 38 = .ok (.iadd, 1) := by decide +kernel
theorem dX11_comes_39 : decode cX11_comes 39 = .ok (.iconst 0, 1) := by decide +kernel
theorem dX11_comes_40 : decode cX11_comes 40 = .ok (.iastore, 1) := by decide +kernel
theorem dX11_comes_41 : decode cX11_comes 41 = .ok (.iconst 0, 1) := by decide +kernel
theorem dX11_comes_42 : decode cX11_comes 42 = .ok (.istore_n 2, 1) := by decide +kernel
theorem dX11_comes_43 : decode cX11_comes 43 = .ok (.iload_n 2, 1) := by decide +kernel
theorem dX11_comes_44 : decode cX11_comes 44 = .ok (.bipush 6, 2) := by decide +kernel
theorem dX11_comes_46 : decode cX11_comes 46 = .ok (.if_icmp .ge 69, 3) := by decide +kernel
theorem dX11_comes_49 : decode cX11_comes 49 = .ok (.aload_n 0, 1) := by decide +kernel
theorem dX11_comes_50 : decode cX11_comes 50 = .ok (.getfield 9, 3) := by decide +kernel
theorem dX11_comes_53 : decode cX11_comes 53 = .ok (.bipush 12, 2) := by decide +kernel
theorem dX11_comes_55 : decode cX11_comes 55 = .ok (.bipush 6, 2) := by decide +kernel
theorem dX11_comes_57 : decode cX11_comes 57 = .ok (.iload_n 1, 1) := by decide +kernel
theorem dX11_comes_58 : decode cX11_comes 58 = .ok (.imul, 1) := by decide +kernel
theorem dX11_comes_59 : decode cX11_comes 59 = .ok (.iadd, 1) := by decide +kernel
theorem dX11_comes_60 : decode cX11_comes 60 = .ok (.iload_n 2, 1) := by decide +kernel
theorem dX11_comes_61 : decode cX11_comes 61 = .ok (.iadd, 1) := by decide +kernel
theorem dX11_comes_62 : decode cX11_comes 62 = .ok (.iconst 0, 1) := by decide +kernel
theorem dX11_comes_63 : decode cX11_comes 63 = .ok (.iastore, 1) := by decide +kernel
theorem dX11_comes_64 : decode cX11_comes 64 = .ok (.aload_n 0, 1) := by decide +kernel
theorem dX11_comes_65 : decode cX11_comes 65 = .ok (.getfield 9, 3) := by decide +kernel
theorem dX11_comes_68 : decode cX11_comes 68 = .ok (.bipush 12, 2) := by decide +kernel
theorem dX11_comes_70 : decode cX11_comes 70 = .ok (.bipush 6, 2) := by decide +kernel
theorem dX11_comes_72 : decode cX11_comes 72 = .ok (.iload_n 2, 1) := by decide +kernel
theorem dX11_comes_73 : decode cX11_comes 73 = .ok (.imul, 1) := by decide +kernel
theorem dX11_comes_74 : decode cX11_comes 74 = .ok (.iadd, 1) := by decide +kernel
theorem dX11_comes_75 : decode cX11_comes 75 = .ok (.iload_n 1, 1) := by decide +kernel
theorem dX11_comes_76 : decode cX11_comes 76 = .ok (.iadd, 1) := by decide +kernel
theorem dX11_comes_77 : decode cX11_comes 77 = .ok (.iconst 0, 1) := by decide +kernel
theorem dX11_comes_78 : decode cX11_comes 78 = .ok (.iastore, 1) := by decide +kernel
theorem dX11_comes_79 : decode cX11_comes 79 = .ok (.aload_n 0, 1) := by decide +kernel
theorem dX11_comes_80 : decode cX11_comes 80 = .ok (.getfield 9, 3) := by decide +kernel
theorem dX11_comes_83 : decode cX11_comes 83 = .ok (.bipush 48, 2) := by decide +kernel
theorem dX11_comes_85 : decode cX11_comes 85 = .ok (.bipush 6, 2) := by decide +kernel
theorem dX11_comes_87 : decode cX11_comes 87 = .ok (.iload_n 1, 1) := by decide +kernel
theorem dX11_comes_88 : decode cX11_comes 88 = .ok (.imul, 1) := by decide +kernel
theorem dX11_comes_89 : decode cX11_comes 89 = .ok (.iadd, 1) := by decide +kernel
theorem dX11_comes_90 : decode cX11_comes 90 = .ok (.iload_n 2, 1) := by decide +kernel
theorem dX11_comes_91 : decode cX11_comes 91 = .ok (.iadd, 1) := by decide +kernel
theorem dX11_comes_92 : decode cX11_comes 92 = .ok (.iconst 0, 1) := by decide +kernel
theorem dX11_comes_93 : decode cX11_comes 93 = .ok (.iastore, 1) := by decide +kernel
theorem dX11_comes_94 : decode cX11_comes 94 = .ok (.aload_n 0, 1) := by decide +kernel
theorem dX11_comes_95 : decode cX11_comes 95 = .ok (.getfield 9, 3) := by decide +kernel
theorem dX11_comes_98 : decode cX11_comes 98 = .ok (.bipush 48, 2) := by decide +kernel
theorem dX11_comes_100 : decode cX11_comes 100 = .ok (.bipush 6, 2) := by decide +kernel
theorem dX11_comes_102 : decode cX11_comes 102 = .ok (.iload_n 2, 1) := by decide +kernel
theorem dX11_comes_103 : decode cX11_comes 103 = .ok (.imul, 1) := by decide +kernel
theorem dX11_comes_104 : decode cX11_comes 104 = .ok (.iadd, 1) := by decide +kernel
theorem dX11_comes_105 : decode cX11_comes 105 = .ok (.iload_n 1, 1) := by decide +kernel
theorem dX11_comes_106 : decode cX11_comes 106 = .ok (.iadd, 1) := by decide +kernel
theorem dX11_comes_107 : decode cX11_comes 107 = .ok (.iconst 0, 1) := by decide +kernel
theorem dX11_comes_108 : decode cX11_comes 108 = .ok (.iastore, 1) := by decide +kernel
theorem dX11_comes_109 : decode cX11_comes 109 = .ok (.iinc 2 1, 3) := by decide +kernel
theorem dX11_comes_112 : decode cX11_comes 112 = .ok (.goto (-69), 3) := by decide +kernel
theorem dX11_comes_115 : decode cX11_comes 115 = .ok (.aload_n 0, 1) := by decide +kernel
theorem dX11_comes_116 : decode cX11_comes 116 = .ok (.iload_n 1, 1) := by decide +kernel
theorem dX11_comes_117 : decode cX11_comes 117 = .ok (.invokevirtual 117, 3) := by decide +kernel
theorem dX11_comes_120 : decode cX11_comes 120 = .ok (.aload_n 0, 1) := by decide +kernel
theorem dX11_comes_121 : decode cX11_comes 121 = .ok (.iload_n 1, 1) := by decide +kernel
theorem dX11_comes_122 : decode cX11_comes 122 = .ok (.invokevirtual 121, 3) := by decide +kernel
theorem dX11_comes_125 : decode cX11_comes 125 = .ok (.ireturn, 1) := by decide +kernel
set_option maxRecDepth 20000 in
theorem ggX11_come_X11_tries : GoodIn wsX11_come wsX11_tries := goodIn_ca (goodIn_r _ [5, 6, 7, 8, 9, 10, 11, 12, 4, 13, 82, 83, 84, 85, 86, 87, 88, 89, 90, 91, 92, 93, 94, 95, 96, 97, 98, 99, 100, 101, 102, 103, 104, 105, 106] rfl (by decide +kernel)) (goodIn_sub (fun _ h => List.mem_cons_of_mem _ (List.mem_append_right _ h)) (by decide +kernel))
set_option maxRecDepth 20000 in
theorem gX11_come_X11_tries : GoodIn wsX11_come (wsV RX11 125 RX11 yX11_tries wsX11_tries) := goodIn_app (goodIn_of _ (by decide +kernel)) ggX11_come_X11_tries
set_option maxRecDepth 20000 in
theorem ggX11_come_X11_comes : GoodIn wsX11_come wsX11_comes := goodIn_ca (goodIn_r _ [17, 7, 18, 19, 20, 4, 21, 22, 23, 24, 25, 26, 27, 28, 9, 29, 30, 31, 32, 33, 34, 35, 36, 37, 38, 39, 40, 41, 42, 43, 44, 45, 46, 47, 48, 49, 50, 51, 52, 53, 54, 55, 56, 57, 58, 59, 60, 61, 62, 82, 83, 84, 85, 86, 87, 88, 89, 90, 91, 92, 93, 94, 95, 96, 97, 98, 99, 100, 101, 102, 103, 104, 105, 106] rfl (by decide +kernel)) (goodIn_sub (fun _ h => List.mem_cons_of_mem _ (List.mem_append_right _ h)) (by decide +kernel))
set_option maxRecDepth 20000 in
theorem gX11_come_X11_comes : GoodIn wsX11_come (wsV RX11 128 RX11 yX11_comes wsX11_comes) := goodIn_app (goodIn_of _ (by decide +kernel)) ggX11_come_X11_comes
set_option maxRecDepth 20000 in
theorem ggX11_come_X11_ends : GoodIn wsX11_come wsX11_ends := goodIn_ca (goodIn_r _ [66, 62, 67, 68, 69, 4, 70, 71, 72, 73, 8, 74, 75, 76, 77, 7, 10, 9, 11, 12, 13, 78, 79, 80, 81, 6, 82, 83, 84, 85, 86, 87, 88, 89, 90, 91, 92, 93, 94, 95, 96, 97, 98, 99, 100, 101, 102, 103, 104, 105, 106] rfl (by decide +kernel)) (goodIn_sub (fun _ h => List.mem_cons_of_mem _ (List.mem_append_right _ h)) (by decide +kernel))
set_option maxRecDepth 20000 in
theorem gX11_come_X11_ends : GoodIn wsX11_come (wsV RX11 132 RX11 yX11_ends wsX11_ends) := goodIn_app (goodIn_of _ (by decide +kernel)) ggX11_come_X11_ends
theorem dX11_come_0 : decode cX11_come 0 = .ok (.aload_n 0, 1) := by decide +kernel
theorem dX11_come_1 : decode cX11_come 1 = .ok (.invokevirtual 125, 3) := by decide +kernel
theorem dX11_come_4 : decode cX11_come 4 = .ok (.aload_n 0, 1) := by decide +kernel
theorem dX11_come_5 : decode cX11_come 5 = .ok (.aload_n 0, 1) := by decide +kernel
theorem dX11_come_6 : decode cX11_come 6 = .ok (.invokevirtual 128, 3) := by decide +kernel
theorem dX11_come_9 : decode cX11_come 9 = .ok (.invokevirtual 132, 3) := by decide +kernel
theorem dX11_come_12 : decode cX11_come 12 = .ok (.ireturn, 1) := by decide +kernel
set_option maxRecDepth 20000 in
theorem ggX11_isNoPair_X11_isOne : GoodIn wsX11_isNoPair wsX11_isOne := goodIn_ca (goodIn_r _ [5, 6, 7, 8, 4, 9, 17, 18, 19, 20, 21, 22, 23, 24, 25, 26, 27, 28, 29, 30, 31, 32, 33, 34, 35, 36, 37, 38, 39, 40, 41] rfl (by decide +kernel)) (goodIn_sub (fun _ h => List.mem_cons_of_mem _ (List.mem_append_right _ h)) (by decide +kernel))
set_option maxRecDepth 20000 in
theorem gX11_isNoPair_X11_isOne : GoodIn wsX11_isNoPair (wsV RX11 136 RX11 yX11_isOne wsX11_isOne) := goodIn_app (goodIn_of _ (by decide +kernel)) ggX11_isNoPair_X11_isOne
set_option maxRecDepth 20000 in
theorem ggX11_isNoPair_X11_refuses : GoodIn wsX11_isNoPair wsX11_refuses := goodIn_r _ [13, 14, 15, 16, 17, 18, 19, 20, 21, 22, 23, 24, 25, 26, 27, 28, 29, 30, 31, 32, 33, 34, 35, 36, 37, 38, 39, 40, 41] rfl (by decide +kernel)
set_option maxRecDepth 20000 in
theorem gX11_isNoPair_X11_refuses : GoodIn wsX11_isNoPair (wsV RX11 114 RX11 yX11_refuses wsX11_refuses) := goodIn_app (goodIn_of _ (by decide +kernel)) ggX11_isNoPair_X11_refuses
theorem dX11_isNoPair_0 : decode cX11_isNoPair 0 = .ok (.aload_n 0, 1) := by decide +kernel
theorem dX11_isNoPair_1 : decode cX11_isNoPair 1 = .ok (.iload_n 1, 1) := by decide +kernel
theorem dX11_isNoPair_2 : decode cX11_isNoPair 2 = .ok (.invokevirtual 136, 3) := by decide +kernel
theorem dX11_isNoPair_5 : decode cX11_isNoPair 5 = .ok (.ifCond .ne 18, 3) := by decide +kernel
theorem dX11_isNoPair_8 : decode cX11_isNoPair 8 = .ok (.aload_n 0, 1) := by decide +kernel
theorem dX11_isNoPair_9 : decode cX11_isNoPair 9 = .ok (.iconst 3, 1) := by decide +kernel
theorem dX11_isNoPair_10 : decode cX11_isNoPair 10 = .ok (.iload_n 1, 1) := by decide +kernel
theorem dX11_isNoPair_11 : decode cX11_isNoPair 11 = .ok (.invokevirtual 114, 3) := by decide +kernel
theorem dX11_isNoPair_14 : decode cX11_isNoPair 14 = .ok (.ifCond .ne 7, 3) := by decide +kernel
theorem dX11_isNoPair_17 : decode cX11_isNoPair 17 = .ok (.iconst 1, 1) := by decide +kernel
theorem dX11_isNoPair_18 : decode cX11_isNoPair 18 = .ok (.goto 4, 3) := by decide +kernel
theorem dX11_isNoPair_22 : decode cX11_isNoPair 22 = .ok (.ireturn, 1) := by decide +kernel
set_option maxRecDepth 20000 in
theorem ggX11_digs_X11_isNoPair : GoodIn wsX11_digs wsX11_isNoPair := goodIn_ca (goodIn_r _ [5, 6, 7, 8, 4, 9, 10, 11, 12, 13, 14, 15, 16, 17, 18, 19, 20, 71, 72, 73, 74, 75, 76, 77, 78, 79, 80, 81, 82, 83, 84, 85, 86, 87, 88, 89, 90, 91, 92, 93, 94, 95] rfl (by decide +kernel)) (goodIn_sub (fun _ h => List.mem_cons_of_mem _ (List.mem_append_right _ h)) (by decide +kernel))
set_option maxRecDepth 20000 in
theorem gX11_digs_X11_isNoPair : GoodIn wsX11_digs (wsV RX11 147 RX11 yX11_isNoPair wsX11_isNoPair) := goodIn_app (goodIn_of _ (by decide +kernel)) ggX11_digs_X11_isNoPair
theorem dX11_digs_0 : decode cX11_digs 0 = .ok (.aload_n 0, 1) := by decide +kernel
theorem dX11_digs_1 : decode cX11_digs 1 = .ok (.iload_n 1, 1) := by decide +kernel
theorem dX11_digs_2 : decode cX11_digs 2 = .ok (.iload_n 2, 1) := by decide +kernel
theorem dX11_digs_3 : decode cX11_digs 3 = .ok (.invokevirtual 147, 3) := by decide +kernel
theorem dX11_digs_6 : decode cX11_digs 6 = .ok (.ifCond .eq 5, 3) := by decide +kernel
theorem dX11_digs_9 : decode cX11_digs 9 = .ok (.iconst 0, 1) := by decide +kernel
theorem dX11_digs_10 : decode cX11_digs 10 = .ok (.ireturn, 1) := by decide +kernel
set_option maxRecDepth 20000 in
theorem ggX11_canal__X11_tries : GoodIn wsX11_canal_ wsX11_tries := goodIn_ca (goodIn_r _ [5, 6, 7, 8, 9, 10, 11, 12, 4, 13, 104, 105, 106, 107, 108, 109, 110, 111, 112, 113, 114, 115, 116, 117, 118, 119, 120, 121, 122, 123, 124, 125, 126, 127, 128] rfl (by decide +kernel)) (goodIn_sub (fun _ h => List.mem_cons_of_mem _ (List.mem_append_right _ h)) (by decide +kernel))
set_option maxRecDepth 20000 in
theorem gX11_canal__X11_tries : GoodIn wsX11_canal_ (wsV RX11 125 RX11 yX11_tries wsX11_tries) := goodIn_app (goodIn_of _ (by decide +kernel)) ggX11_canal__X11_tries
set_option maxRecDepth 20000 in
theorem ggX11_canal__X11_digs : GoodIn wsX11_canal_ wsX11_digs := goodIn_ca (goodIn_r _ [17, 18, 19, 20, 4, 21, 22, 23, 24, 25, 7, 26, 27, 28, 29, 30, 31, 32, 33, 34, 35, 36, 37, 38, 39, 40, 41, 42, 43, 44, 45, 46, 47, 48, 49, 50, 51, 52, 53, 54, 55, 56, 57, 58, 9, 59, 60, 61, 62, 63, 64, 65, 66, 67, 68, 69, 70, 71, 72, 73, 74, 75, 76, 77, 78, 79, 80, 81, 82, 83, 84, 104, 105, 106, 107, 108, 109, 110, 111, 112, 113, 114, 115, 116, 117, 118, 119, 120, 121, 122, 123, 124, 125, 126, 127, 128] rfl (by decide +kernel)) (goodIn_sub (fun _ h => List.mem_cons_of_mem _ (List.mem_append_right _ h)) (by decide +kernel))
set_option maxRecDepth 20000 in
theorem gX11_canal__X11_digs : GoodIn wsX11_canal_ (wsV RX11 153 RX11 yX11_digs wsX11_digs) := goodIn_app (goodIn_of _ (by decide +kernel)) ggX11_canal__X11_digs
set_option maxRecDepth 20000 in
theorem ggX11_canal__X11_ends : GoodIn wsX11_canal_ wsX11_ends := goodIn_ca (goodIn_r _ [88, 84, 89, 90, 91, 4, 92, 93, 94, 95, 8, 96, 97, 98, 99, 7, 10, 9, 11, 12, 13, 100, 101, 102, 103, 6, 104, 105, 106, 107, 108, 109, 110, 111, 112, 113, 114, 115, 116, 117, 118, 119, 120, 121, 122, 123, 124, 125, 126, 127, 128] rfl (by decide +kernel)) (goodIn_sub (fun _ h => List.mem_cons_of_mem _ (List.mem_append_right _ h)) (by decide +kernel))
set_option maxRecDepth 20000 in
theorem gX11_canal__X11_ends : GoodIn wsX11_canal_ (wsV RX11 132 RX11 yX11_ends wsX11_ends) := goodIn_app (goodIn_of _ (by decide +kernel)) ggX11_canal__X11_ends
theorem dX11_canal__0 : decode cX11_canal_ 0 = .ok (.aload_n 0, 1) := by decide +kernel
theorem dX11_canal__1 : decode cX11_canal_ 1 = .ok (.invokevirtual 125, 3) := by decide +kernel
theorem dX11_canal__4 : decode cX11_canal_ 4 = .ok (.aload_n 0, 1) := by decide +kernel
theorem dX11_canal__5 : decode cX11_canal_ 5 = .ok (.aload_n 0, 1) := by decide +kernel
theorem dX11_canal__6 : decode cX11_canal_ 6 = .ok (.iload_n 1, 1) := by decide +kernel
theorem dX11_canal__7 : decode cX11_canal_ 7 = .ok (.iload_n 2, 1) := by decide +kernel
theorem dX11_canal__8 : decode cX11_canal_ 8 = .ok (.iload_n 3, 1) := by decide +kernel
theorem dX11_canal__9 : decode cX11_canal_ 9 = .ok (.invokevirtual 153, 3) := by decide +kernel
theorem dX11_canal__12 : decode cX11_canal_ 12 = .ok (.invokevirtual 132, 3) := by decide +kernel
theorem dX11_canal__15 : decode cX11_canal_ 15 = .ok (.ireturn, 1) := by decide +kernel
set_option maxRecDepth 20000 in
theorem ggX11_closes_X11_isNoPair : GoodIn wsX11_closes wsX11_isNoPair := goodIn_ca (goodIn_r _ [5, 6, 7, 8, 4, 9, 10, 11, 12, 13, 14, 15, 16, 17, 18, 19, 20, 71, 72, 73, 74, 75, 76, 77, 78, 79, 80, 81, 82, 83, 84, 85, 86, 87, 88, 89, 90, 91, 92, 93, 94, 95] rfl (by decide +kernel)) (goodIn_sub (fun _ h => List.mem_cons_of_mem _ (List.mem_append_right _ h)) (by decide +kernel))
set_option maxRecDepth 20000 in
theorem gX11_closes_X11_isNoPair : GoodIn wsX11_closes (wsV RX11 147 RX11 yX11_isNoPair wsX11_isNoPair) := goodIn_app (goodIn_of _ (by decide +kernel)) ggX11_closes_X11_isNoPair
theorem dX11_closes_0 : decode cX11_closes 0 = .ok (.aload_n 0, 1) := by decide +kernel
theorem dX11_closes_1 : decode cX11_closes 1 = .ok (.iload_n 1, 1) := by decide +kernel
theorem dX11_closes_2 : decode cX11_closes 2 = .ok (.iload_n 2, 1) := by decide +kernel
theorem dX11_closes_3 : decode cX11_closes 3 = .ok (.invokevirtual 147, 3) := by decide +kernel
theorem dX11_closes_6 : decode cX11_closes 6 = .ok (.ifCond .eq 5, 3) := by decide +kernel
theorem dX11_closes_9 : decode cX11_closes 9 = .ok (.iconst 0, 1) := by decide +kernel
theorem dX11_closes_10 : decode cX11_closes 10 = .ok (.ireturn, 1) := by decide +kernel
set_option maxRecDepth 20000 in
theorem ggX11_close_X11_tries : GoodIn wsX11_close wsX11_tries := goodIn_ca (goodIn_r _ [5, 6, 7, 8, 9, 10, 11, 12, 4, 13, 104, 105, 106, 107, 108, 109, 110, 111, 112, 113, 114, 115, 116, 117, 118, 119, 120, 121, 122, 123, 124, 125, 126, 127, 128] rfl (by decide +kernel)) (goodIn_sub (fun _ h => List.mem_cons_of_mem _ (List.mem_append_right _ h)) (by decide +kernel))
set_option maxRecDepth 20000 in
theorem gX11_close_X11_tries : GoodIn wsX11_close (wsV RX11 125 RX11 yX11_tries wsX11_tries) := goodIn_app (goodIn_of _ (by decide +kernel)) ggX11_close_X11_tries
set_option maxRecDepth 20000 in
theorem ggX11_close_X11_closes : GoodIn wsX11_close wsX11_closes := goodIn_ca (goodIn_r _ [17, 18, 19, 20, 4, 21, 22, 23, 24, 25, 7, 26, 27, 28, 29, 30, 31, 32, 33, 34, 35, 36, 37, 38, 39, 40, 41, 42, 43, 44, 45, 46, 47, 48, 49, 50, 51, 52, 53, 54, 55, 56, 57, 58, 9, 59, 60, 61, 62, 63, 64, 65, 66, 67, 68, 69, 70, 71, 72, 73, 74, 75, 76, 77, 78, 79, 80, 81, 82, 83, 84, 104, 105, 106, 107, 108, 109, 110, 111, 112, 113, 114, 115, 116, 117, 118, 119, 120, 121, 122, 123, 124, 125, 126, 127, 128] rfl (by decide +kernel)) (goodIn_sub (fun _ h => List.mem_cons_of_mem _ (List.mem_append_right _ h)) (by decide +kernel))
set_option maxRecDepth 20000 in
theorem gX11_close_X11_closes : GoodIn wsX11_close (wsV RX11 156 RX11 yX11_closes wsX11_closes) := goodIn_app (goodIn_of _ (by decide +kernel)) ggX11_close_X11_closes
set_option maxRecDepth 20000 in
theorem ggX11_close_X11_ends : GoodIn wsX11_close wsX11_ends := goodIn_ca (goodIn_r _ [88, 84, 89, 90, 91, 4, 92, 93, 94, 95, 8, 96, 97, 98, 99, 7, 10, 9, 11, 12, 13, 100, 101, 102, 103, 6, 104, 105, 106, 107, 108, 109, 110, 111, 112, 113, 114, 115, 116, 117, 118, 119, 120, 121, 122, 123, 124, 125, 126, 127, 128] rfl (by decide +kernel)) (goodIn_sub (fun _ h => List.mem_cons_of_mem _ (List.mem_append_right _ h)) (by decide +kernel))
set_option maxRecDepth 20000 in
theorem gX11_close_X11_ends : GoodIn wsX11_close (wsV RX11 132 RX11 yX11_ends wsX11_ends) := goodIn_app (goodIn_of _ (by decide +kernel)) ggX11_close_X11_ends
theorem dX11_close_0 : decode cX11_close 0 = .ok (.aload_n 0, 1) := by decide +kernel
theorem dX11_close_1 : decode cX11_close 1 = .ok (.invokevirtual 125, 3) := by decide +kernel
theorem dX11_close_4 : decode cX11_close 4 = .ok (.aload_n 0, 1) := by decide +kernel
theorem dX11_close_5 : decode cX11_close 5 = .ok (.aload_n 0, 1) := by decide +kernel
theorem dX11_close_6 : decode cX11_close 6 = .ok (.iload_n 1, 1) := by decide +kernel
theorem dX11_close_7 : decode cX11_close 7 = .ok (.iload_n 2, 1) := by decide +kernel
theorem dX11_close_8 : decode cX11_close 8 = .ok (.invokevirtual 156, 3) := by decide +kernel
theorem dX11_close_11 : decode cX11_close 11 = .ok (.invokevirtual 132, 3) := by decide +kernel
theorem dX11_close_14 : decode cX11_close 14 = .ok (.ireturn, 1) := by decide +kernel
set_option maxRecDepth 20000 in
theorem ggX11_moves_X11_isOne : GoodIn wsX11_moves wsX11_isOne := goodIn_ca (goodIn_r _ [6, 1, 7, 8, 5, 9, 62, 63, 64, 65, 66, 67, 68, 69, 70, 71, 72, 73, 74, 75, 76, 77, 78, 79, 80, 81, 82, 83, 84, 85, 86] rfl (by decide +kernel)) (goodIn_sub (fun _ h => List.mem_cons_of_mem _ (List.mem_append_right _ h)) (by decide +kernel))
set_option maxRecDepth 20000 in
theorem gX11_moves_X11_isOne : GoodIn wsX11_moves (wsV RX11 136 RX11 yX11_isOne wsX11_isOne) := goodIn_app (goodIn_of _ (by decide +kernel)) ggX11_moves_X11_isOne
set_option maxRecDepth 20000 in
theorem ggX11_moves_X11_refuses : GoodIn wsX11_moves wsX11_refuses := goodIn_r _ [13, 14, 15, 16, 62, 63, 64, 65, 66, 67, 68, 69, 70, 71, 72, 73, 74, 75, 76, 77, 78, 79, 80, 81, 82, 83, 84, 85, 86] rfl (by decide +kernel)
set_option maxRecDepth 20000 in
theorem gX11_moves_X11_refuses : GoodIn wsX11_moves (wsV RX11 114 RX11 yX11_refuses wsX11_refuses) := goodIn_app (goodIn_of _ (by decide +kernel)) ggX11_moves_X11_refuses
theorem dX11_moves_0 : decode cX11_moves 0 = .ok (.aload_n 0, 1) := by decide +kernel
theorem dX11_moves_1 : decode cX11_moves 1 = .ok (.iload_n 1, 1) := by decide +kernel
theorem dX11_moves_2 : decode cX11_moves 2 = .ok (.invokevirtual 136, 3) := by decide +kernel
theorem dX11_moves_5 : decode cX11_moves 5 = .ok (.ifCond .ne 10, 3) := by decide +kernel
theorem dX11_moves_8 : decode cX11_moves 8 = .ok (.aload_n 0, 1) := by decide +kernel
theorem dX11_moves_9 : decode cX11_moves 9 = .ok (.iconst 3, 1) := by decide +kernel
theorem dX11_moves_10 : decode cX11_moves 10 = .ok (.iload_n 1, 1) := by decide +kernel
theorem dX11_moves_11 : decode cX11_moves 11 = .ok (.invokevirtual 114, 3) := by decide +kernel
theorem dX11_moves_14 : decode cX11_moves 14 = .ok (.ireturn, 1) := by decide +kernel
set_option maxRecDepth 20000 in
theorem ggX11_district_X11_tries : GoodIn wsX11_district wsX11_tries := goodIn_ca (goodIn_r _ [5, 6, 7, 8, 9, 10, 11, 12, 4, 13, 95, 96, 97, 98, 99, 100, 101, 102, 103, 104, 105, 106, 107, 108, 109, 110, 111, 112, 113, 114, 115, 116, 117, 118, 119] rfl (by decide +kernel)) (goodIn_sub (fun _ h => List.mem_cons_of_mem _ (List.mem_append_right _ h)) (by decide +kernel))
set_option maxRecDepth 20000 in
theorem gX11_district_X11_tries : GoodIn wsX11_district (wsV RX11 125 RX11 yX11_tries wsX11_tries) := goodIn_app (goodIn_of _ (by decide +kernel)) ggX11_district_X11_tries
set_option maxRecDepth 20000 in
theorem ggX11_district_X11_moves : GoodIn wsX11_district wsX11_moves := goodIn_ca (goodIn_r _ [17, 7, 18, 19, 20, 4, 21, 22, 23, 24, 25, 26, 27, 28, 29, 30, 31, 32, 33, 34, 35, 36, 37, 38, 39, 40, 41, 42, 43, 44, 45, 46, 47, 48, 49, 9, 50, 51, 52, 53, 54, 55, 56, 57, 58, 59, 60, 61, 62, 63, 64, 65, 66, 67, 68, 69, 70, 71, 72, 73, 74, 75, 95, 96, 97, 98, 99, 100, 101, 102, 103, 104, 105, 106, 107, 108, 109, 110, 111, 112, 113, 114, 115, 116, 117, 118, 119] rfl (by decide +kernel)) (goodIn_sub (fun _ h => List.mem_cons_of_mem _ (List.mem_append_right _ h)) (by decide +kernel))
set_option maxRecDepth 20000 in
theorem gX11_district_X11_moves : GoodIn wsX11_district (wsV RX11 165 RX11 yX11_moves wsX11_moves) := goodIn_app (goodIn_of _ (by decide +kernel)) ggX11_district_X11_moves
set_option maxRecDepth 20000 in
theorem ggX11_district_X11_ends : GoodIn wsX11_district wsX11_ends := goodIn_ca (goodIn_r _ [79, 75, 80, 81, 82, 4, 83, 84, 85, 86, 8, 87, 88, 89, 90, 7, 10, 9, 11, 12, 13, 91, 92, 93, 94, 6, 95, 96, 97, 98, 99, 100, 101, 102, 103, 104, 105, 106, 107, 108, 109, 110, 111, 112, 113, 114, 115, 116, 117, 118, 119] rfl (by decide +kernel)) (goodIn_sub (fun _ h => List.mem_cons_of_mem _ (List.mem_append_right _ h)) (by decide +kernel))
set_option maxRecDepth 20000 in
theorem gX11_district_X11_ends : GoodIn wsX11_district (wsV RX11 132 RX11 yX11_ends wsX11_ends) := goodIn_app (goodIn_of _ (by decide +kernel)) ggX11_district_X11_ends
theorem dX11_district_0 : decode cX11_district 0 = .ok (.aload_n 0, 1) := by decide +kernel
theorem dX11_district_1 : decode cX11_district 1 = .ok (.invokevirtual 125, 3) := by decide +kernel
theorem dX11_district_4 : decode cX11_district 4 = .ok (.aload_n 0, 1) := by decide +kernel
theorem dX11_district_5 : decode cX11_district 5 = .ok (.aload_n 0, 1) := by decide +kernel
theorem dX11_district_6 : decode cX11_district 6 = .ok (.iload_n 1, 1) := by decide +kernel
theorem dX11_district_7 : decode cX11_district 7 = .ok (.iload_n 2, 1) := by decide +kernel
theorem dX11_district_8 : decode cX11_district 8 = .ok (.invokevirtual 165, 3) := by decide +kernel
theorem dX11_district_11 : decode cX11_district 11 = .ok (.invokevirtual 132, 3) := by decide +kernel
theorem dX11_district_14 : decode cX11_district 14 = .ok (.ireturn, 1) := by decide +kernel
theorem dX11_dropsLetters_0 : decode cX11_dropsLetters 0 = .ok (.aload_n 0, 1) := by decide +kernel
theorem dX11_dropsLetters_1 : decode cX11_dropsLetters 1 = .ok (.getfield 9, 3) := by decide +kernel
theorem dX11_dropsLetters_4 : decode cX11_dropsLetters 4 = .ok (.bipush 84, 2) := by decide +kernel
theorem dX11_dropsLetters_6 : decode cX11_dropsLetters 6 = .ok (.dup2, 1) := by decide +kernel
theorem dX11_dropsLetters_7 : decode cX11_dropsLetters 7 = .ok (.iaload, 1) := by decide +kernel
theorem dX11_dropsLetters_8 : decode cX11_dropsLetters 8 = .ok (.iload_n 1, 1) := by decide +kernel
theorem dX11_dropsLetters_9 : decode cX11_dropsLetters 9 = .ok (.isub, 1) := by decide +kernel
theorem dX11_dropsLetters_10 : decode cX11_dropsLetters 10 = .ok (.iastore, 1) := by decide +kernel
theorem dX11_dropsLetters_11 : decode cX11_dropsLetters 11 = .ok (.iconst 0, 1) := by decide +kernel
theorem dX11_dropsLetters_12 : decode cX11_dropsLetters 12 = .ok (.istore_n 2, 1) := by decide +kernel
theorem dX11_dropsLetters_13 : decode cX11_dropsLetters 13 = .ok (.iload_n 2, 1) := by decide +kernel
theorem dX11_dropsLetters_14 : decode cX11_dropsLetters 14 = .ok (.aload_n 0, 1) := by decide +kernel
theorem dX11_dropsLetters_15 : decode cX11_dropsLetters 15 = .ok (.getfield 9, 3) := by decide +kernel
theorem dX11_dropsLetters_18 : decode cX11_dropsLetters 18 = .ok (.bipush 84, 2) := by decide +kernel
theorem dX11_dropsLetters_20 : decode cX11_dropsLetters 20 = .ok (.iaload, 1) := by decide +kernel
theorem dX11_dropsLetters_21 : decode cX11_dropsLetters 21 = .ok (.if_icmp .ge 29, 3) := by decide +kernel
theorem dX11_dropsLetters_50 : decode cX11_dropsLetters 50 = .ok (.return_, 1) := by decide +kernel
set_option maxRecDepth 20000 in
theorem ggX11_loses_X11_refuses : GoodIn wsX11_loses wsX11_refuses := goodIn_r _ [6, 7, 8, 9, 24, 25, 26, 27, 28, 29, 30, 31, 32, 33, 34, 35, 36, 37, 38, 39, 40, 41, 42, 43, 44, 45, 46, 47, 48] rfl (by decide +kernel)
set_option maxRecDepth 20000 in
theorem gX11_loses_X11_refuses : GoodIn wsX11_loses (wsV RX11 114 RX11 yX11_refuses wsX11_refuses) := goodIn_app (goodIn_of _ (by decide +kernel)) ggX11_loses_X11_refuses
theorem dX11_loses_0 : decode cX11_loses 0 = .ok (.aload_n 0, 1) := by decide +kernel
theorem dX11_loses_1 : decode cX11_loses 1 = .ok (.getfield 9, 3) := by decide +kernel
theorem dX11_loses_4 : decode cX11_loses 4 = .ok (.bipush 84, 2) := by decide +kernel
theorem dX11_loses_6 : decode cX11_loses 6 = .ok (.iaload, 1) := by decide +kernel
theorem dX11_loses_7 : decode cX11_loses 7 = .ok (.ifCond .ne 11, 3) := by decide +kernel
theorem dX11_loses_10 : decode cX11_loses 10 = .ok (.aload_n 0, 1) := by decide +kernel
theorem dX11_loses_11 : decode cX11_loses 11 = .ok (.bipush 7, 2) := by decide +kernel
theorem dX11_loses_13 : decode cX11_loses 13 = .ok (.iconst 0, 1) := by decide +kernel
theorem dX11_loses_14 : decode cX11_loses 14 = .ok (.invokevirtual 114, 3) := by decide +kernel
theorem dX11_loses_17 : decode cX11_loses 17 = .ok (.ireturn, 1) := by decide +kernel
set_option maxRecDepth 20000 in
theorem ggX11_lose_X11_tries : GoodIn wsX11_lose wsX11_tries := goodIn_ca (goodIn_r _ [5, 6, 7, 8, 9, 10, 11, 12, 4, 13, 58, 59, 60, 61, 62, 63, 64, 65, 66, 67, 68, 69, 70, 71, 72, 73, 74, 75, 76, 77, 78, 79, 80, 81, 82] rfl (by decide +kernel)) (goodIn_sub (fun _ h => List.mem_cons_of_mem _ (List.mem_append_right _ h)) (by decide +kernel))
set_option maxRecDepth 20000 in
theorem gX11_lose_X11_tries : GoodIn wsX11_lose (wsV RX11 125 RX11 yX11_tries wsX11_tries) := goodIn_app (goodIn_of _ (by decide +kernel)) ggX11_lose_X11_tries
set_option maxRecDepth 20000 in
theorem ggX11_lose_X11_loses : GoodIn wsX11_lose wsX11_loses := goodIn_ca (goodIn_r _ [17, 7, 18, 19, 20, 4, 21, 22, 23, 24, 25, 26, 27, 28, 29, 30, 31, 32, 33, 34, 35, 36, 37, 38, 58, 59, 60, 61, 62, 63, 64, 65, 66, 67, 68, 69, 70, 71, 72, 73, 74, 75, 76, 77, 78, 79, 80, 81, 82] rfl (by decide +kernel)) (goodIn_sub (fun _ h => List.mem_cons_of_mem _ (List.mem_append_right _ h)) (by decide +kernel))
set_option maxRecDepth 20000 in
theorem gX11_lose_X11_loses : GoodIn wsX11_lose (wsV RX11 171 RX11 yX11_loses wsX11_loses) := goodIn_app (goodIn_of _ (by decide +kernel)) ggX11_lose_X11_loses
set_option maxRecDepth 20000 in
theorem ggX11_lose_X11_ends : GoodIn wsX11_lose wsX11_ends := goodIn_ca (goodIn_r _ [42, 38, 43, 44, 45, 4, 46, 47, 48, 49, 8, 50, 51, 52, 53, 7, 10, 9, 11, 12, 13, 54, 55, 56, 57, 6, 58, 59, 60, 61, 62, 63, 64, 65, 66, 67, 68, 69, 70, 71, 72, 73, 74, 75, 76, 77, 78, 79, 80, 81, 82] rfl (by decide +kernel)) (goodIn_sub (fun _ h => List.mem_cons_of_mem _ (List.mem_append_right _ h)) (by decide +kernel))
set_option maxRecDepth 20000 in
theorem gX11_lose_X11_ends : GoodIn wsX11_lose (wsV RX11 132 RX11 yX11_ends wsX11_ends) := goodIn_app (goodIn_of _ (by decide +kernel)) ggX11_lose_X11_ends
theorem dX11_lose_0 : decode cX11_lose 0 = .ok (.aload_n 0, 1) := by decide +kernel
theorem dX11_lose_1 : decode cX11_lose 1 = .ok (.invokevirtual 125, 3) := by decide +kernel
theorem dX11_lose_4 : decode cX11_lose 4 = .ok (.aload_n 0, 1) := by decide +kernel
theorem dX11_lose_5 : decode cX11_lose 5 = .ok (.aload_n 0, 1) := by decide +kernel
theorem dX11_lose_6 : decode cX11_lose 6 = .ok (.invokevirtual 171, 3) := by decide +kernel
theorem dX11_lose_9 : decode cX11_lose 9 = .ok (.invokevirtual 132, 3) := by decide +kernel
theorem dX11_lose_12 : decode cX11_lose 12 = .ok (.ireturn, 1) := by decide +kernel
set_option maxRecDepth 20000 in
theorem ggX11_tickGoes_X11_dropsLetters : GoodIn wsX11_tickGoes wsX11_dropsLetters := goodIn_ca (goodIn_r _ [54, 1, 55, 56, 57, 58, 59, 60, 61, 62, 63, 64, 65, 66, 67, 68, 69, 70, 71, 72, 73, 74, 75, 76, 77, 78, 79] rfl (by decide +kernel)) (goodIn_sub (fun _ h => List.mem_cons_of_mem _ (List.mem_append_right _ h)) (by decide +kernel))
set_option maxRecDepth 20000 in
theorem gX11_tickGoes_X11_dropsLetters : GoodIn wsX11_tickGoes (wsV RX11 168 RX11 yX11_dropsLetters wsX11_dropsLetters) := goodIn_app (goodIn_of _ (by decide +kernel)) ggX11_tickGoes_X11_dropsLetters
theorem dX11_tickGoes_0 : decode cX11_tickGoes 0 = .ok (.aload_n 0, 1) := by decide +kernel
theorem dX11_tickGoes_1 : decode cX11_tickGoes 1 = .ok (.getfield 9, 3) := by decide +kernel
theorem dX11_tickGoes_4 : decode cX11_tickGoes 4 = .ok (.iconst 1, 1) := by decide +kernel
theorem dX11_tickGoes_5 : decode cX11_tickGoes 5 = .ok (.dup2, 1) := by decide +kernel
theorem dX11_tickGoes_6 : decode cX11_tickGoes 6 = .ok (.iaload, 1) := by decide +kernel
theorem dX11_tickGoes_7 : decode cX11_tickGoes 7 = .ok (.iconst 1, 1) := by decide +kernel
theorem dX11_tickGoes_8 : decode cX11_tickGoes 8 = .ok (.iadd, 1) := by decide +kernel
theorem dX11_tickGoes_9 : decode cX11_tickGoes 9 = .ok (.iastore, 1) := by decide +kernel
theorem dX11_tickGoes_10 : decode cX11_tickGoes 10 = .ok (.aload_n 0, 1) := by decide +kernel
theorem dX11_tickGoes_11 : decode cX11_tickGoes 11 = .ok (.getfield 9, 3) := by decide +kernel
theorem dX11_tickGoes_14 : decode cX11_tickGoes 14 = .ok (.bipush 84, 2) := by decide +kernel
theorem dX11_tickGoes_16 : decode cX11_tickGoes 16 = .ok (.iaload, 1) := by decide +kernel
theorem dX11_tickGoes_17 : decode cX11_tickGoes 17 = .ok (.istore_n 1, 1) := by decide +kernel
theorem dX11_tickGoes_18 : decode cX11_tickGoes 18 = .ok (.iconst 0, 1) := by decide +kernel
theorem dX11_tickGoes_19 : decode cX11_tickGoes 19 = .ok (.istore_n 2, 1) := by decide +kernel
theorem dX11_tickGoes_20 : decode cX11_tickGoes 20 = .ok (.iload_n 2, 1) := by decide +kernel
theorem dX11_tickGoes_21 : decode cX11_tickGoes 21 = .ok (.aload_n 0, 1) := by decide +kernel
theorem dX11_tickGoes_22 : decode cX11_tickGoes 22 = .ok (.getfield 9, 3) := by decide +kernel
theorem dX11_tickGoes_25 : decode cX11_tickGoes 25 = .ok (.iconst 0, 1) := by decide +kernel
theorem dX11_tickGoes_26 : decode cX11_tickGoes 26 = .ok (.iaload, 1) := by decide +kernel
theorem dX11_tickGoes_27 : decode cX11_tickGoes 27 = .ok (.if_icmp .ge 91, 3) := by decide +kernel
theorem dX11_tickGoes_118 : decode cX11_tickGoes 118 = .ok (.iconst 0, 1) := by decide +kernel
theorem dX11_tickGoes_119 : decode cX11_tickGoes 119 = .ok (.istore_n 2, 1) := by decide +kernel
theorem dX11_tickGoes_120 : decode cX11_tickGoes 120 = .ok (.iload_n 2, 1) := by decide +kernel
theorem dX11_tickGoes_121 : decode cX11_tickGoes 121 = .ok (.iload_n 1, 1) := by decide +kernel
theorem dX11_tickGoes_122 : decode cX11_tickGoes 122 = .ok (.if_icmp .ge 22, 3) := by decide +kernel
theorem dX11_tickGoes_144 : decode cX11_tickGoes 144 = .ok (.aload_n 0, 1) := by decide +kernel
theorem dX11_tickGoes_145 : decode cX11_tickGoes 145 = .ok (.iload_n 1, 1) := by decide +kernel
theorem dX11_tickGoes_146 : decode cX11_tickGoes 146 = .ok (.invokevirtual 168, 3) := by decide +kernel
theorem dX11_tickGoes_149 : decode cX11_tickGoes 149 = .ok (.return_, 1) := by decide +kernel
set_option maxRecDepth 20000 in
theorem ggX11_passes_X11_in : GoodIn wsX11_passes wsX11_in := goodIn_r _ [5] rfl (by decide +kernel)
set_option maxRecDepth 20000 in
theorem gX11_passes_X11_in : GoodIn wsX11_passes (va_wsS RX11 86 yX11_in wsX11_in) := goodIn_app (goodIn_of _ (by decide +kernel)) ggX11_passes_X11_in
set_option maxRecDepth 20000 in
theorem ggX11_passes_X11_refuses : GoodIn wsX11_passes wsX11_refuses := goodIn_r _ [9, 10, 11, 12, 74, 75, 76, 77, 78, 79, 80, 81, 82, 83, 84, 85, 86, 87, 88, 89, 90, 91, 92, 93, 94, 95, 96, 97, 98] rfl (by decide +kernel)
set_option maxRecDepth 20000 in
theorem gX11_passes_X11_refuses : GoodIn wsX11_passes (wsV RX11 114 RX11 yX11_refuses wsX11_refuses) := goodIn_app (goodIn_of _ (by decide +kernel)) ggX11_passes_X11_refuses
set_option maxRecDepth 20000 in
theorem ggX11_passes_X11_tickGoes : GoodIn wsX11_passes wsX11_tickGoes := goodIn_ca (goodIn_r _ [16, 1, 17, 18, 19, 4, 20, 21, 22, 23, 24, 25, 26, 27, 28, 29, 30, 31, 32, 33, 34, 35, 36, 37, 38, 39, 40, 41, 42, 43, 44, 45, 46, 47, 48, 49, 50, 51, 52, 53, 54, 55, 56, 57, 58, 59, 60, 61, 62, 63, 64, 65, 66, 67, 68, 74, 75, 76, 77, 78, 79, 80, 81, 82, 83, 84, 85, 86, 87, 88, 89, 90, 91, 92, 93, 94, 95, 96, 97, 98] rfl (by decide +kernel)) (goodIn_sub (fun _ h => List.mem_cons_of_mem _ (List.mem_append_right _ h)) (by decide +kernel))
set_option maxRecDepth 20000 in
theorem gX11_passes_X11_tickGoes : GoodIn wsX11_passes (wsV RX11 180 RX11 yX11_tickGoes wsX11_tickGoes) := goodIn_app (goodIn_of _ (by decide +kernel)) ggX11_passes_X11_tickGoes
set_option maxRecDepth 20000 in
theorem ggX11_passes_X11_does : GoodIn wsX11_passes wsX11_does := goodIn_r _ [72, 73, 74, 75, 76, 77, 78, 79, 80, 81, 82, 83, 84, 85, 86, 87, 88, 89, 90, 91, 92, 93, 94, 95, 96, 97, 98] rfl (by decide +kernel)
set_option maxRecDepth 20000 in
theorem gX11_passes_X11_does : GoodIn wsX11_passes (wsV RX11 121 RX11 yX11_does wsX11_does) := goodIn_app (goodIn_of _ (by decide +kernel)) ggX11_passes_X11_does
theorem dX11_passes_0 : decode cX11_passes 0 = .ok (.iload_n 1, 1) := by decide +kernel
theorem dX11_passes_1 : decode cX11_passes 1 = .ok (.iconst 1, 1) := by decide +kernel
theorem dX11_passes_2 : decode cX11_passes 2 = .ok (.bipush 99, 2) := by decide +kernel
theorem dX11_passes_4 : decode cX11_passes 4 = .ok (.invokestatic 86, 3) := by decide +kernel
theorem dX11_passes_7 : decode cX11_passes 7 = .ok (.ifCond .ne 10, 3) := by decide +kernel
theorem dX11_passes_10 : decode cX11_passes 10 = .ok (.aload_n 0, 1) := by decide +kernel
theorem dX11_passes_11 : decode cX11_passes 11 = .ok (.iconst 1, 1) := by decide +kernel
theorem dX11_passes_12 : decode cX11_passes 12 = .ok (.iconst 0, 1) := by decide +kernel
theorem dX11_passes_13 : decode cX11_passes 13 = .ok (.invokevirtual 114, 3) := by decide +kernel
theorem dX11_passes_16 : decode cX11_passes 16 = .ok (.ireturn, 1) := by decide +kernel
theorem dX11_passes_17 : decode cX11_passes 17 = .ok (.iconst 0, 1) := by decide +kernel
theorem dX11_passes_18 : decode cX11_passes 18 = .ok (.istore_n 2, 1) := by decide +kernel
theorem dX11_passes_19 : decode cX11_passes 19 = .ok (.iload_n 2, 1) := by decide +kernel
theorem dX11_passes_20 : decode cX11_passes 20 = .ok (.iload_n 1, 1) := by decide +kernel
theorem dX11_passes_21 : decode cX11_passes 21 = .ok (.if_icmp .ge 13, 3) := by decide +kernel
theorem dX11_passes_24 : decode cX11_passes 24 = .ok (.aload_n 0, 1) := by decide +kernel
theorem dX11_passes_25 : decode cX11_passes 25 = .ok (.invokevirtual 180, 3) := by decide +kernel
theorem dX11_passes_28 : decode cX11_passes 28 = .ok (.iinc 2 1, 3) := by decide +kernel
theorem dX11_passes_31 : decode cX11_passes 31 = .ok (.goto (-12), 3) := by decide +kernel
theorem dX11_passes_34 : decode cX11_passes 34 = .ok (.aload_n 0, 1) := by decide +kernel
theorem dX11_passes_35 : decode cX11_passes 35 = .ok (.aload_n 0, 1) := by decide +kernel
theorem dX11_passes_36 : decode cX11_passes 36 = .ok (.getfield 9, 3) := by decide +kernel
theorem dX11_passes_39 : decode cX11_passes 39 = .ok (.bipush 84, 2) := by decide +kernel
theorem dX11_passes_41 : decode cX11_passes 41 = .ok (.iaload, 1) := by decide +kernel
theorem dX11_passes_42 : decode cX11_passes 42 = .ok (.invokevirtual 121, 3) := by decide +kernel
theorem dX11_passes_45 : decode cX11_passes 45 = .ok (.ireturn, 1) := by decide +kernel
set_option maxRecDepth 20000 in
theorem ggX11_pass_X11_tries : GoodIn wsX11_pass wsX11_tries := goodIn_ca (goodIn_r _ [5, 6, 7, 8, 9, 10, 11, 12, 4, 13, 107, 108, 109, 110, 111, 112, 113, 114, 115, 116, 117, 118, 119, 120, 121, 122, 123, 124, 125, 126, 127, 128, 129, 130, 131] rfl (by decide +kernel)) (goodIn_sub (fun _ h => List.mem_cons_of_mem _ (List.mem_append_right _ h)) (by decide +kernel))
set_option maxRecDepth 20000 in
theorem gX11_pass_X11_tries : GoodIn wsX11_pass (wsV RX11 125 RX11 yX11_tries wsX11_tries) := goodIn_app (goodIn_of _ (by decide +kernel)) ggX11_pass_X11_tries
set_option maxRecDepth 20000 in
theorem ggX11_pass_X11_passes : GoodIn wsX11_pass wsX11_passes := goodIn_ca (goodIn_r _ [17, 7, 18, 19, 4, 20, 21, 22, 23, 24, 25, 26, 27, 28, 29, 30, 31, 32, 33, 34, 35, 36, 37, 38, 39, 40, 41, 42, 43, 44, 45, 46, 47, 48, 9, 49, 50, 51, 52, 53, 54, 55, 56, 57, 58, 59, 60, 61, 62, 63, 64, 65, 66, 67, 68, 69, 70, 71, 72, 73, 74, 75, 76, 77, 78, 79, 80, 81, 82, 83, 84, 85, 86, 87, 107, 108, 109, 110, 111, 112, 113, 114, 115, 116, 117, 118, 119, 120, 121, 122, 123, 124, 125, 126, 127, 128, 129, 130, 131] rfl (by decide +kernel)) (goodIn_sub (fun _ h => List.mem_cons_of_mem _ (List.mem_append_right _ h)) (by decide +kernel))
set_option maxRecDepth 20000 in
theorem gX11_pass_X11_passes : GoodIn wsX11_pass (wsV RX11 183 RX11 yX11_passes wsX11_passes) := goodIn_app (goodIn_of _ (by decide +kernel)) ggX11_pass_X11_passes
set_option maxRecDepth 20000 in
theorem ggX11_pass_X11_ends : GoodIn wsX11_pass wsX11_ends := goodIn_ca (goodIn_r _ [91, 87, 92, 93, 94, 4, 95, 96, 97, 98, 8, 99, 100, 101, 102, 7, 10, 9, 11, 12, 13, 103, 104, 105, 106, 6, 107, 108, 109, 110, 111, 112, 113, 114, 115, 116, 117, 118, 119, 120, 121, 122, 123, 124, 125, 126, 127, 128, 129, 130, 131] rfl (by decide +kernel)) (goodIn_sub (fun _ h => List.mem_cons_of_mem _ (List.mem_append_right _ h)) (by decide +kernel))
set_option maxRecDepth 20000 in
theorem gX11_pass_X11_ends : GoodIn wsX11_pass (wsV RX11 132 RX11 yX11_ends wsX11_ends) := goodIn_app (goodIn_of _ (by decide +kernel)) ggX11_pass_X11_ends
theorem dX11_pass_0 : decode cX11_pass 0 = .ok (.aload_n 0, 1) := by decide +kernel
theorem dX11_pass_1 : decode cX11_pass 1 = .ok (.invokevirtual 125, 3) := by decide +kernel
theorem dX11_pass_4 : decode cX11_pass 4 = .ok (.aload_n 0, 1) := by decide +kernel
theorem dX11_pass_5 : decode cX11_pass 5 = .ok (.aload_n 0, 1) := by decide +kernel
theorem dX11_pass_6 : decode cX11_pass 6 = .ok (.iload_n 1, 1) := by decide +kernel
theorem dX11_pass_7 : decode cX11_pass 7 = .ok (.invokevirtual 183, 3) := by decide +kernel
theorem dX11_pass_10 : decode cX11_pass 10 = .ok (.invokevirtual 132, 3) := by decide +kernel
theorem dX11_pass_13 : decode cX11_pass 13 = .ok (.ireturn, 1) := by decide +kernel
set_option maxRecDepth 20000 in
theorem ggX11_surveyorOf_X11_isOne : GoodIn wsX11_surveyorOf wsX11_isOne := goodIn_ca (goodIn_r _ [7, 2, 8, 9, 6, 10, 51, 52, 53, 54, 55, 56, 57, 58, 59, 60, 61, 62, 63, 64, 65, 66, 67, 68, 69, 70, 71, 72, 73, 74, 75] rfl (by decide +kernel)) (goodIn_sub (fun _ h => List.mem_cons_of_mem _ (List.mem_append_right _ h)) (by decide +kernel))
set_option maxRecDepth 20000 in
theorem gX11_surveyorOf_X11_isOne : GoodIn wsX11_surveyorOf (wsV RX11 136 RX11 yX11_isOne wsX11_isOne) := goodIn_app (goodIn_of _ (by decide +kernel)) ggX11_surveyorOf_X11_isOne
set_option maxRecDepth 20000 in
theorem ggX11_surveyorOf_X11_raises : GoodIn wsX11_surveyorOf wsX11_raises := goodIn_r _ [14, 1, 51, 52, 53, 54, 55, 56, 57, 58, 59, 60, 61, 62, 63, 64, 65, 66, 67, 68, 69, 70, 71, 72, 73, 74, 75] rfl (by decide +kernel)
set_option maxRecDepth 20000 in
theorem gX11_surveyorOf_X11_raises : GoodIn wsX11_surveyorOf (wsV RX11 83 RX11 yX11_raises wsX11_raises) := goodIn_app (goodIn_of _ (by decide +kernel)) ggX11_surveyorOf_X11_raises
theorem dX11_surveyorOf_0 : decode cX11_surveyorOf 0 = .ok (.aload_n 0, 1) := by decide +kernel
theorem dX11_surveyorOf_1 : decode cX11_surveyorOf 1 = .ok (.iconst 0, 1) := by decide +kernel
theorem dX11_surveyorOf_2 : decode cX11_surveyorOf 2 = .ok (.putfield 47, 3) := by decide +kernel
theorem dX11_surveyorOf_5 : decode cX11_surveyorOf 5 = .ok (.aload_n 0, 1) := by decide +kernel
theorem dX11_surveyorOf_6 : decode cX11_surveyorOf 6 = .ok (.iload_n 1, 1) := by decide +kernel
theorem dX11_surveyorOf_7 : decode cX11_surveyorOf 7 = .ok (.invokevirtual 136, 3) := by decide +kernel
theorem dX11_surveyorOf_10 : decode cX11_surveyorOf 10 = .ok (.ifCond .ne 9, 3) := by decide +kernel
theorem dX11_surveyorOf_13 : decode cX11_surveyorOf 13 = .ok (.aload_n 0, 1) := by decide +kernel
theorem dX11_surveyorOf_14 : decode cX11_surveyorOf 14 = .ok (.iconst 1, 1) := by decide +kernel
theorem dX11_surveyorOf_15 : decode cX11_surveyorOf 15 = .ok (.invokevirtual 83, 3) := by decide +kernel
theorem dX11_surveyorOf_18 : decode cX11_surveyorOf 18 = .ok (.ireturn, 1) := by decide +kernel
set_option maxRecDepth 20000 in
theorem ggX11_cost_X11_isOne : GoodIn wsX11_cost wsX11_isOne := goodIn_ca (goodIn_r _ [6, 7, 8, 9, 5, 10, 19, 20, 21, 22, 23, 24, 25, 26, 27, 28, 29, 30, 31, 32, 33, 34, 35, 36, 37, 38, 39, 40, 41, 42, 43] rfl (by decide +kernel)) (goodIn_sub (fun _ h => List.mem_cons_of_mem _ (List.mem_append_right _ h)) (by decide +kernel))
set_option maxRecDepth 20000 in
theorem gX11_cost_X11_isOne : GoodIn wsX11_cost (wsV RX11 136 RX11 yX11_isOne wsX11_isOne) := goodIn_app (goodIn_of _ (by decide +kernel)) ggX11_cost_X11_isOne
set_option maxRecDepth 20000 in
theorem ggX11_cost_X11_raises : GoodIn wsX11_cost wsX11_raises := goodIn_r _ [14, 1, 19, 20, 21, 22, 23, 24, 25, 26, 27, 28, 29, 30, 31, 32, 33, 34, 35, 36, 37, 38, 39, 40, 41, 42, 43] rfl (by decide +kernel)
set_option maxRecDepth 20000 in
theorem gX11_cost_X11_raises : GoodIn wsX11_cost (wsV RX11 83 RX11 yX11_raises wsX11_raises) := goodIn_app (goodIn_of _ (by decide +kernel)) ggX11_cost_X11_raises
theorem dX11_cost_0 : decode cX11_cost 0 = .ok (.aload_n 0, 1) := by decide +kernel
theorem dX11_cost_1 : decode cX11_cost 1 = .ok (.iconst 0, 1) := by decide +kernel
theorem dX11_cost_2 : decode cX11_cost 2 = .ok (.putfield 47, 3) := by decide +kernel
theorem dX11_cost_5 : decode cX11_cost 5 = .ok (.aload_n 0, 1) := by decide +kernel
theorem dX11_cost_6 : decode cX11_cost 6 = .ok (.iload_n 1, 1) := by decide +kernel
theorem dX11_cost_7 : decode cX11_cost 7 = .ok (.invokevirtual 136, 3) := by decide +kernel
theorem dX11_cost_10 : decode cX11_cost 10 = .ok (.ifCond .eq 11, 3) := by decide +kernel
theorem dX11_cost_21 : decode cX11_cost 21 = .ok (.aload_n 0, 1) := by decide +kernel
theorem dX11_cost_22 : decode cX11_cost 22 = .ok (.iconst 1, 1) := by decide +kernel
theorem dX11_cost_23 : decode cX11_cost 23 = .ok (.invokevirtual 83, 3) := by decide +kernel
theorem dX11_cost_26 : decode cX11_cost 26 = .ok (.ireturn, 1) := by decide +kernel
set_option maxRecDepth 20000 in
theorem ggX11_page_X11_isOne : GoodIn wsX11_page wsX11_isOne := goodIn_ca (goodIn_r _ [6, 7, 8, 9, 5, 10, 36, 37, 38, 39, 40, 41, 42, 43, 44, 45, 46, 47, 48, 49, 50, 51, 52, 53, 54, 55, 56, 57, 58, 59, 60] rfl (by decide +kernel)) (goodIn_sub (fun _ h => List.mem_cons_of_mem _ (List.mem_append_right _ h)) (by decide +kernel))
set_option maxRecDepth 20000 in
theorem gX11_page_X11_isOne : GoodIn wsX11_page (wsV RX11 136 RX11 yX11_isOne wsX11_isOne) := goodIn_app (goodIn_of _ (by decide +kernel)) ggX11_page_X11_isOne
set_option maxRecDepth 20000 in
theorem ggX11_page_X11_raises : GoodIn wsX11_page wsX11_raises := goodIn_r _ [14, 1, 36, 37, 38, 39, 40, 41, 42, 43, 44, 45, 46, 47, 48, 49, 50, 51, 52, 53, 54, 55, 56, 57, 58, 59, 60] rfl (by decide +kernel)
set_option maxRecDepth 20000 in
theorem gX11_page_X11_raises : GoodIn wsX11_page (wsV RX11 83 RX11 yX11_raises wsX11_raises) := goodIn_app (goodIn_of _ (by decide +kernel)) ggX11_page_X11_raises
theorem dX11_page_0 : decode cX11_page 0 = .ok (.aload_n 0, 1) := by decide +kernel
theorem dX11_page_1 : decode cX11_page 1 = .ok (.iconst 0, 1) := by decide +kernel
theorem dX11_page_2 : decode cX11_page 2 = .ok (.putfield 47, 3) := by decide +kernel
theorem dX11_page_5 : decode cX11_page 5 = .ok (.aload_n 0, 1) := by decide +kernel
theorem dX11_page_6 : decode cX11_page 6 = .ok (.iload_n 1, 1) := by decide +kernel
theorem dX11_page_7 : decode cX11_page 7 = .ok (.invokevirtual 136, 3) := by decide +kernel
theorem dX11_page_10 : decode cX11_page 10 = .ok (.ifCond .eq 11, 3) := by decide +kernel
theorem dX11_page_21 : decode cX11_page 21 = .ok (.aload_n 0, 1) := by decide +kernel
theorem dX11_page_22 : decode cX11_page 22 = .ok (.iconst 1, 1) := by decide +kernel
theorem dX11_page_23 : decode cX11_page 23 = .ok (.invokevirtual 83, 3) := by decide +kernel
theorem dX11_page_26 : decode cX11_page 26 = .ok (.ireturn, 1) := by decide +kernel
set_option maxRecDepth 20000 in
theorem ggX11_told_X11_isOne : GoodIn wsX11_told wsX11_isOne := goodIn_ca (goodIn_r _ [6, 7, 8, 9, 5, 10, 28, 29, 30, 31, 32, 33, 34, 35, 36, 37, 38, 39, 40, 41, 42, 43, 44, 45, 46, 47, 48, 49, 50, 51, 52] rfl (by decide +kernel)) (goodIn_sub (fun _ h => List.mem_cons_of_mem _ (List.mem_append_right _ h)) (by decide +kernel))
set_option maxRecDepth 20000 in
theorem gX11_told_X11_isOne : GoodIn wsX11_told (wsV RX11 136 RX11 yX11_isOne wsX11_isOne) := goodIn_app (goodIn_of _ (by decide +kernel)) ggX11_told_X11_isOne
set_option maxRecDepth 20000 in
theorem ggX11_told_X11_raises : GoodIn wsX11_told wsX11_raises := goodIn_r _ [14, 1, 28, 29, 30, 31, 32, 33, 34, 35, 36, 37, 38, 39, 40, 41, 42, 43, 44, 45, 46, 47, 48, 49, 50, 51, 52] rfl (by decide +kernel)
set_option maxRecDepth 20000 in
theorem gX11_told_X11_raises : GoodIn wsX11_told (wsV RX11 83 RX11 yX11_raises wsX11_raises) := goodIn_app (goodIn_of _ (by decide +kernel)) ggX11_told_X11_raises
theorem dX11_told_0 : decode cX11_told 0 = .ok (.aload_n 0, 1) := by decide +kernel
theorem dX11_told_1 : decode cX11_told 1 = .ok (.iconst 0, 1) := by decide +kernel
theorem dX11_told_2 : decode cX11_told 2 = .ok (.putfield 47, 3) := by decide +kernel
theorem dX11_told_5 : decode cX11_told 5 = .ok (.aload_n 0, 1) := by decide +kernel
theorem dX11_told_6 : decode cX11_told 6 = .ok (.iload_n 1, 1) := by decide +kernel
theorem dX11_told_7 : decode cX11_told 7 = .ok (.invokevirtual 136, 3) := by decide +kernel
theorem dX11_told_10 : decode cX11_told 10 = .ok (.ifCond .eq 19, 3) := by decide +kernel
theorem dX11_told_29 : decode cX11_told 29 = .ok (.aload_n 0, 1) := by decide +kernel
theorem dX11_told_30 : decode cX11_told 30 = .ok (.iconst 1, 1) := by decide +kernel
theorem dX11_told_31 : decode cX11_told 31 = .ok (.invokevirtual 83, 3) := by decide +kernel
theorem dX11_told_34 : decode cX11_told 34 = .ok (.ireturn, 1) := by decide +kernel
set_option maxRecDepth 20000 in
theorem ggX11_letter_X11_in : GoodIn wsX11_letter wsX11_in := goodIn_r _ [6] rfl (by decide +kernel)
set_option maxRecDepth 20000 in
theorem gX11_letter_X11_in : GoodIn wsX11_letter (va_wsS RX11 86 yX11_in wsX11_in) := goodIn_app (goodIn_of _ (by decide +kernel)) ggX11_letter_X11_in
set_option maxRecDepth 20000 in
theorem ggX11_letter_X11_raises : GoodIn wsX11_letter wsX11_raises := goodIn_r _ [10, 1, 22, 23, 24, 25, 26, 27, 28, 29, 30, 31, 32, 33, 34, 35, 36, 37, 38, 39, 40, 41, 42, 43, 44, 45, 46] rfl (by decide +kernel)
set_option maxRecDepth 20000 in
theorem gX11_letter_X11_raises : GoodIn wsX11_letter (wsV RX11 83 RX11 yX11_raises wsX11_raises) := goodIn_app (goodIn_of _ (by decide +kernel)) ggX11_letter_X11_raises
theorem dX11_letter_0 : decode cX11_letter 0 = .ok (.aload_n 0, 1) := by decide +kernel
theorem dX11_letter_1 : decode cX11_letter 1 = .ok (.iconst 0, 1) := by decide +kernel
theorem dX11_letter_2 : decode cX11_letter 2 = .ok (.putfield 47, 3) := by decide +kernel
theorem dX11_letter_5 : decode cX11_letter 5 = .ok (.iload_n 2, 1) := by decide +kernel
theorem dX11_letter_6 : decode cX11_letter 6 = .ok (.iconst 0, 1) := by decide +kernel
theorem dX11_letter_7 : decode cX11_letter 7 = .ok (.iconst 3, 1) := by decide +kernel
theorem dX11_letter_8 : decode cX11_letter 8 = .ok (.invokestatic 86, 3) := by decide +kernel
theorem dX11_letter_11 : decode cX11_letter 11 = .ok (.ifCond .ne 9, 3) := by decide +kernel
theorem dX11_letter_14 : decode cX11_letter 14 = .ok (.aload_n 0, 1) := by decide +kernel
theorem dX11_letter_15 : decode cX11_letter 15 = .ok (.iconst 1, 1) := by decide +kernel
theorem dX11_letter_16 : decode cX11_letter 16 = .ok (.invokevirtual 83, 3) := by decide +kernel
theorem dX11_letter_19 : decode cX11_letter 19 = .ok (.ireturn, 1) := by decide +kernel
theorem dX11_letter_20 : decode cX11_letter 20 = .ok (.iload_n 1, 1) := by decide +kernel
theorem dX11_letter_21 : decode cX11_letter 21 = .ok (.iconst 0, 1) := by decide +kernel
theorem dX11_letter_22 : decode cX11_letter 22 = .ok (.aload_n 0, 1) := by decide +kernel
theorem dX11_letter_23 : decode cX11_letter 23 = .ok (.getfield 9, 3) := by decide +kernel
theorem dX11_letter_26 : decode cX11_letter 26 = .ok (.bipush 84, 2) := by decide +kernel
theorem dX11_letter_28 : decode cX11_letter 28 = .ok (.iaload, 1) := by decide +kernel
theorem dX11_letter_29 : decode cX11_letter 29 = .ok (.iconst 1, 1) := by decide +kernel
theorem dX11_letter_30 : decode cX11_letter 30 = .ok (.isub, 1) := by decide +kernel
theorem dX11_letter_31 : decode cX11_letter 31 = .ok (.invokestatic 86, 3) := by decide +kernel
theorem dX11_letter_34 : decode cX11_letter 34 = .ok (.ifCond .ne 9, 3) := by decide +kernel
theorem dX11_letter_37 : decode cX11_letter 37 = .ok (.aload_n 0, 1) := by decide +kernel
theorem dX11_letter_38 : decode cX11_letter 38 = .ok (.iconst 2, 1) := by decide +kernel
theorem dX11_letter_39 : decode cX11_letter 39 = .ok (.invokevirtual 83, 3) := by decide +kernel
theorem dX11_letter_42 : decode cX11_letter 42 = .ok (.ireturn, 1) := by decide +kernel
set_option maxRecDepth 20000 in
theorem ggX11_tellsFar_X11_isOne : GoodIn wsX11_tellsFar wsX11_isOne := goodIn_ca (goodIn_r _ [8, 9, 10, 11, 7, 12, 54, 55, 56, 57, 58, 59, 60, 61, 62, 63, 64, 65, 66, 67, 68, 69, 70, 71, 72, 73, 74, 75, 76, 77, 78] rfl (by decide +kernel)) (goodIn_sub (fun _ h => List.mem_cons_of_mem _ (List.mem_append_right _ h)) (by decide +kernel))
set_option maxRecDepth 20000 in
theorem gX11_tellsFar_X11_isOne : GoodIn wsX11_tellsFar (wsV RX11 136 RX11 yX11_isOne wsX11_isOne) := goodIn_app (goodIn_of _ (by decide +kernel)) ggX11_tellsFar_X11_isOne
set_option maxRecDepth 20000 in
theorem ggX11_tellsFar_X11_raises : GoodIn wsX11_tellsFar wsX11_raises := goodIn_r _ [16, 1, 54, 55, 56, 57, 58, 59, 60, 61, 62, 63, 64, 65, 66, 67, 68, 69, 70, 71, 72, 73, 74, 75, 76, 77, 78] rfl (by decide +kernel)
set_option maxRecDepth 20000 in
theorem gX11_tellsFar_X11_raises : GoodIn wsX11_tellsFar (wsV RX11 83 RX11 yX11_raises wsX11_raises) := goodIn_app (goodIn_of _ (by decide +kernel)) ggX11_tellsFar_X11_raises
theorem dX11_tellsFar_0 : decode cX11_tellsFar 0 = .ok (.aload_n 0, 1) := by decide +kernel
theorem dX11_tellsFar_1 : decode cX11_tellsFar 1 = .ok (.iconst 0, 1) := by decide +kernel
theorem dX11_tellsFar_2 : decode cX11_tellsFar 2 = .ok (.putfield 47, 3) := by decide +kernel
theorem dX11_tellsFar_5 : decode cX11_tellsFar 5 = .ok (.aload_n 0, 1) := by decide +kernel
theorem dX11_tellsFar_6 : decode cX11_tellsFar 6 = .ok (.iload_n 2, 1) := by decide +kernel
theorem dX11_tellsFar_7 : decode cX11_tellsFar 7 = .ok (.invokevirtual 136, 3) := by decide +kernel
theorem dX11_tellsFar_10 : decode cX11_tellsFar 10 = .ok (.ifCond .eq 11, 3) := by decide +kernel
theorem dX11_tellsFar_21 : decode cX11_tellsFar 21 = .ok (.aload_n 0, 1) := by decide +kernel
theorem dX11_tellsFar_22 : decode cX11_tellsFar 22 = .ok (.iconst 1, 1) := by decide +kernel
theorem dX11_tellsFar_23 : decode cX11_tellsFar 23 = .ok (.invokevirtual 83, 3) := by decide +kernel
theorem dX11_tellsFar_26 : decode cX11_tellsFar 26 = .ok (.ireturn, 1) := by decide +kernel
set_option maxRecDepth 20000 in
theorem ggX11_distance_X11_tellsFar : GoodIn wsX11_distance wsX11_tellsFar := goodIn_ca (goodIn_r _ [5, 6, 7, 8, 9, 10, 11, 4, 12, 13, 14, 15, 16, 17, 18, 19, 20, 21, 22, 23, 24, 25, 26, 27, 28, 29, 30, 31, 32, 33, 34, 35, 36, 37, 38, 39, 40, 41, 42, 43, 44, 45, 46, 47, 48, 49, 50, 51, 52, 53, 54, 55, 56, 57, 58, 59, 60, 61, 62, 63, 64, 65, 66, 67, 68, 69, 70, 71, 72, 73, 74, 75, 76, 77, 78, 79, 80, 81, 82] rfl (by decide +kernel)) (goodIn_sub (fun _ h => List.mem_cons_of_mem _ (List.mem_append_right _ h)) (by decide +kernel))
set_option maxRecDepth 20000 in
theorem gX11_distance_X11_tellsFar : GoodIn wsX11_distance (wsV RX11 210 RX11 yX11_tellsFar wsX11_tellsFar) := goodIn_app (goodIn_of _ (by decide +kernel)) ggX11_distance_X11_tellsFar
theorem dX11_distance_0 : decode cX11_distance 0 = .ok (.aload_n 0, 1) := by decide +kernel
theorem dX11_distance_1 : decode cX11_distance 1 = .ok (.iload_n 1, 1) := by decide +kernel
theorem dX11_distance_2 : decode cX11_distance 2 = .ok (.iload_n 1, 1) := by decide +kernel
theorem dX11_distance_3 : decode cX11_distance 3 = .ok (.iload_n 2, 1) := by decide +kernel
theorem dX11_distance_4 : decode cX11_distance 4 = .ok (.invokevirtual 210, 3) := by decide +kernel
theorem dX11_distance_7 : decode cX11_distance 7 = .ok (.ireturn, 1) := by decide +kernel
set_option maxRecDepth 20000 in
theorem ggX11_distanceAgain_X11_distance : GoodIn wsX11_distanceAgain wsX11_distance := goodIn_ca (goodIn_r _ [5, 6, 7, 8, 4, 9, 10, 11, 12, 13, 14, 15, 16, 17, 18, 19, 20, 21, 22, 23, 24, 25, 26, 27, 28, 29, 30, 31, 32, 33, 34, 35, 36, 37, 38, 39, 40, 41, 42, 43, 44, 45, 46, 47, 48, 49, 50, 51, 52, 53, 54, 55, 56, 57, 58, 59, 60, 61, 62, 63, 64, 65, 66, 67, 68, 69, 70, 71, 72, 73, 74, 75, 76, 77, 78, 79, 80, 81, 82, 83, 84, 85, 86] rfl (by decide +kernel)) (goodIn_sub (fun _ h => List.mem_cons_of_mem _ (List.mem_append_right _ h)) (by decide +kernel))
set_option maxRecDepth 20000 in
theorem gX11_distanceAgain_X11_distance : GoodIn wsX11_distanceAgain (wsV RX11 213 RX11 yX11_distance wsX11_distance) := goodIn_app (goodIn_of _ (by decide +kernel)) ggX11_distanceAgain_X11_distance
theorem dX11_distanceAgain_0 : decode cX11_distanceAgain 0 = .ok (.aload_n 0, 1) := by decide +kernel
theorem dX11_distanceAgain_1 : decode cX11_distanceAgain 1 = .ok (.iload_n 1, 1) := by decide +kernel
theorem dX11_distanceAgain_2 : decode cX11_distanceAgain 2 = .ok (.iload_n 2, 1) := by decide +kernel
theorem dX11_distanceAgain_3 : decode cX11_distanceAgain 3 = .ok (.invokevirtual 213, 3) := by decide +kernel
theorem dX11_distanceAgain_6 : decode cX11_distanceAgain 6 = .ok (.ireturn, 1) := by decide +kernel
set_option maxRecDepth 20000 in
theorem ggX11_next_X11_isOne : GoodIn wsX11_next wsX11_isOne := goodIn_ca (goodIn_r _ [6, 7, 8, 9, 5, 10, 58, 59, 60, 61, 62, 63, 64, 65, 66, 67, 68, 69, 70, 71, 72, 73, 74, 75, 76, 77, 78, 79, 80, 81, 82] rfl (by decide +kernel)) (goodIn_sub (fun _ h => List.mem_cons_of_mem _ (List.mem_append_right _ h)) (by decide +kernel))
set_option maxRecDepth 20000 in
theorem gX11_next_X11_isOne : GoodIn wsX11_next (wsV RX11 136 RX11 yX11_isOne wsX11_isOne) := goodIn_app (goodIn_of _ (by decide +kernel)) ggX11_next_X11_isOne
set_option maxRecDepth 20000 in
theorem ggX11_next_X11_raises : GoodIn wsX11_next wsX11_raises := goodIn_r _ [14, 1, 58, 59, 60, 61, 62, 63, 64, 65, 66, 67, 68, 69, 70, 71, 72, 73, 74, 75, 76, 77, 78, 79, 80, 81, 82] rfl (by decide +kernel)
set_option maxRecDepth 20000 in
theorem gX11_next_X11_raises : GoodIn wsX11_next (wsV RX11 83 RX11 yX11_raises wsX11_raises) := goodIn_app (goodIn_of _ (by decide +kernel)) ggX11_next_X11_raises
theorem dX11_next_0 : decode cX11_next 0 = .ok (.aload_n 0, 1) := by decide +kernel
theorem dX11_next_1 : decode cX11_next 1 = .ok (.iconst 0, 1) := by decide +kernel
theorem dX11_next_2 : decode cX11_next 2 = .ok (.putfield 47, 3) := by decide +kernel
theorem dX11_next_5 : decode cX11_next 5 = .ok (.aload_n 0, 1) := by decide +kernel
theorem dX11_next_6 : decode cX11_next 6 = .ok (.iload_n 1, 1) := by decide +kernel
theorem dX11_next_7 : decode cX11_next 7 = .ok (.invokevirtual 136, 3) := by decide +kernel
theorem dX11_next_10 : decode cX11_next 10 = .ok (.ifCond .eq 11, 3) := by decide +kernel
theorem dX11_next_21 : decode cX11_next 21 = .ok (.aload_n 0, 1) := by decide +kernel
theorem dX11_next_22 : decode cX11_next 22 = .ok (.iconst 1, 1) := by decide +kernel
theorem dX11_next_23 : decode cX11_next 23 = .ok (.invokevirtual 83, 3) := by decide +kernel
theorem dX11_next_26 : decode cX11_next 26 = .ok (.ireturn, 1) := by decide +kernel
set_option maxRecDepth 20000 in
theorem ggX11_reached_X11_isOne : GoodIn wsX11_reached wsX11_isOne := goodIn_ca (goodIn_r _ [9, 2, 10, 11, 8, 12, 54, 55, 56, 57, 58, 59, 60, 61, 62, 63, 64, 65, 66, 67, 68, 69, 70, 71, 72, 73, 74, 75, 76, 77, 78] rfl (by decide +kernel)) (goodIn_sub (fun _ h => List.mem_cons_of_mem _ (List.mem_append_right _ h)) (by decide +kernel))
set_option maxRecDepth 20000 in
theorem gX11_reached_X11_isOne : GoodIn wsX11_reached (wsV RX11 136 RX11 yX11_isOne wsX11_isOne) := goodIn_app (goodIn_of _ (by decide +kernel)) ggX11_reached_X11_isOne
set_option maxRecDepth 20000 in
theorem ggX11_reached_X11_raises : GoodIn wsX11_reached wsX11_raises := goodIn_r _ [16, 1, 54, 55, 56, 57, 58, 59, 60, 61, 62, 63, 64, 65, 66, 67, 68, 69, 70, 71, 72, 73, 74, 75, 76, 77, 78] rfl (by decide +kernel)
set_option maxRecDepth 20000 in
theorem gX11_reached_X11_raises : GoodIn wsX11_reached (wsV RX11 83 RX11 yX11_raises wsX11_raises) := goodIn_app (goodIn_of _ (by decide +kernel)) ggX11_reached_X11_raises
theorem dX11_reached_0 : decode cX11_reached 0 = .ok (.aload_n 0, 1) := by decide +kernel
theorem dX11_reached_1 : decode cX11_reached 1 = .ok (.iconst 0, 1) := by decide +kernel
theorem dX11_reached_2 : decode cX11_reached 2 = .ok (.putfield 47, 3) := by decide +kernel
theorem dX11_reached_5 : decode cX11_reached 5 = .ok (.aload_n 0, 1) := by decide +kernel
theorem dX11_reached_6 : decode cX11_reached 6 = .ok (.iload_n 1, 1) := by decide +kernel
theorem dX11_reached_7 : decode cX11_reached 7 = .ok (.invokevirtual 136, 3) := by decide +kernel
theorem dX11_reached_10 : decode cX11_reached 10 = .ok (.ifCond .ne 9, 3) := by decide +kernel
theorem dX11_reached_13 : decode cX11_reached 13 = .ok (.aload_n 0, 1) := by decide +kernel
theorem dX11_reached_14 : decode cX11_reached 14 = .ok (.iconst 1, 1) := by decide +kernel
theorem dX11_reached_15 : decode cX11_reached 15 = .ok (.invokevirtual 83, 3) := by decide +kernel
theorem dX11_reached_18 : decode cX11_reached 18 = .ok (.ireturn, 1) := by decide +kernel
set_option maxRecDepth 20000 in
theorem ggX11_follow_X11_isOne : GoodIn wsX11_follow wsX11_isOne := goodIn_ca (goodIn_r _ [6, 7, 8, 9, 5, 10, 58, 59, 60, 61, 62, 63, 64, 65, 66, 67, 68, 69, 70, 71, 72, 73, 74, 75, 76, 77, 78, 79, 80, 81, 82] rfl (by decide +kernel)) (goodIn_sub (fun _ h => List.mem_cons_of_mem _ (List.mem_append_right _ h)) (by decide +kernel))
set_option maxRecDepth 20000 in
theorem gX11_follow_X11_isOne : GoodIn wsX11_follow (wsV RX11 136 RX11 yX11_isOne wsX11_isOne) := goodIn_app (goodIn_of _ (by decide +kernel)) ggX11_follow_X11_isOne
set_option maxRecDepth 20000 in
theorem ggX11_follow_X11_raises : GoodIn wsX11_follow wsX11_raises := goodIn_r _ [14, 1, 58, 59, 60, 61, 62, 63, 64, 65, 66, 67, 68, 69, 70, 71, 72, 73, 74, 75, 76, 77, 78, 79, 80, 81, 82] rfl (by decide +kernel)
set_option maxRecDepth 20000 in
theorem gX11_follow_X11_raises : GoodIn wsX11_follow (wsV RX11 83 RX11 yX11_raises wsX11_raises) := goodIn_app (goodIn_of _ (by decide +kernel)) ggX11_follow_X11_raises
theorem dX11_follow_0 : decode cX11_follow 0 = .ok (.aload_n 0, 1) := by decide +kernel
theorem dX11_follow_1 : decode cX11_follow 1 = .ok (.iconst 0, 1) := by decide +kernel
theorem dX11_follow_2 : decode cX11_follow 2 = .ok (.putfield 47, 3) := by decide +kernel
theorem dX11_follow_5 : decode cX11_follow 5 = .ok (.aload_n 0, 1) := by decide +kernel
theorem dX11_follow_6 : decode cX11_follow 6 = .ok (.iload_n 1, 1) := by decide +kernel
theorem dX11_follow_7 : decode cX11_follow 7 = .ok (.invokevirtual 136, 3) := by decide +kernel
theorem dX11_follow_10 : decode cX11_follow 10 = .ok (.ifCond .eq 11, 3) := by decide +kernel
theorem dX11_follow_21 : decode cX11_follow 21 = .ok (.aload_n 0, 1) := by decide +kernel
theorem dX11_follow_22 : decode cX11_follow 22 = .ok (.iconst 1, 1) := by decide +kernel
theorem dX11_follow_23 : decode cX11_follow 23 = .ok (.invokevirtual 83, 3) := by decide +kernel
theorem dX11_follow_26 : decode cX11_follow 26 = .ok (.ireturn, 1) := by decide +kernel
set_option maxRecDepth 20000 in
theorem ggX11_real_X11_tellsFar : GoodIn wsX11_real wsX11_tellsFar := goodIn_ca (goodIn_r _ [5, 6, 7, 8, 9, 10, 11, 4, 12, 13, 14, 15, 16, 17, 18, 19, 20, 21, 22, 23, 24, 25, 26, 27, 28, 29, 30, 31, 32, 33, 34, 35, 36, 37, 38, 39, 40, 41, 42, 43, 44, 45, 46, 47, 48, 49, 50, 51, 52, 53, 54, 55, 56, 57, 58, 59, 60, 61, 62, 63, 64, 65, 66, 67, 68, 69, 70, 71, 72, 73, 74, 75, 76, 77, 78, 79, 80, 81, 82] rfl (by decide +kernel)) (goodIn_sub (fun _ h => List.mem_cons_of_mem _ (List.mem_append_right _ h)) (by decide +kernel))
set_option maxRecDepth 20000 in
theorem gX11_real_X11_tellsFar : GoodIn wsX11_real (wsV RX11 210 RX11 yX11_tellsFar wsX11_tellsFar) := goodIn_app (goodIn_of _ (by decide +kernel)) ggX11_real_X11_tellsFar
theorem dX11_real_0 : decode cX11_real 0 = .ok (.aload_n 0, 1) := by decide +kernel
theorem dX11_real_1 : decode cX11_real 1 = .ok (.iconst (-1), 1) := by decide +kernel
theorem dX11_real_2 : decode cX11_real 2 = .ok (.iload_n 1, 1) := by decide +kernel
theorem dX11_real_3 : decode cX11_real 3 = .ok (.iload_n 2, 1) := by decide +kernel
theorem dX11_real_4 : decode cX11_real 4 = .ok (.invokevirtual 210, 3) := by decide +kernel
theorem dX11_real_7 : decode cX11_real 7 = .ok (.ireturn, 1) := by decide +kernel
set_option maxRecDepth 20000 in
theorem ggX11_isRight_X11_isOne : GoodIn wsX11_isRight wsX11_isOne := goodIn_ca (goodIn_r _ [8, 2, 9, 10, 7, 11, 50, 51, 52, 53, 54, 55, 56, 57, 58, 59, 60, 61, 62, 63, 64, 65, 66, 67, 68, 69, 70, 71, 72, 73, 74] rfl (by decide +kernel)) (goodIn_sub (fun _ h => List.mem_cons_of_mem _ (List.mem_append_right _ h)) (by decide +kernel))
set_option maxRecDepth 20000 in
theorem gX11_isRight_X11_isOne : GoodIn wsX11_isRight (wsV RX11 136 RX11 yX11_isOne wsX11_isOne) := goodIn_app (goodIn_of _ (by decide +kernel)) ggX11_isRight_X11_isOne
theorem dX11_isRight_0 : decode cX11_isRight 0 = .ok (.aload_n 0, 1) := by decide +kernel
theorem dX11_isRight_1 : decode cX11_isRight 1 = .ok (.aload_n 0, 1) := by decide +kernel
theorem dX11_isRight_2 : decode cX11_isRight 2 = .ok (.iload_n 1, 1) := by decide +kernel
theorem dX11_isRight_3 : decode cX11_isRight 3 = .ok (.invokevirtual 136, 3) := by decide +kernel
theorem dX11_isRight_6 : decode cX11_isRight 6 = .ok (.ifCond .eq 7, 3) := by decide +kernel
theorem dX11_isRight_13 : decode cX11_isRight 13 = .ok (.iconst 1, 1) := by decide +kernel
theorem dX11_isRight_14 : decode cX11_isRight 14 = .ok (.putfield 47, 3) := by decide +kernel
theorem dX11_isRight_17 : decode cX11_isRight 17 = .ok (.aload_n 0, 1) := by decide +kernel
theorem dX11_isRight_18 : decode cX11_isRight 18 = .ok (.getfield 47, 3) := by decide +kernel
theorem dX11_isRight_21 : decode cX11_isRight 21 = .ok (.ifCond .le 5, 3) := by decide +kernel
theorem dX11_isRight_24 : decode cX11_isRight 24 = .ok (.iconst 0, 1) := by decide +kernel
theorem dX11_isRight_25 : decode cX11_isRight 25 = .ok (.ireturn, 1) := by decide +kernel
set_option maxRecDepth 20000 in
theorem ggX11_agree_X11_in : GoodIn wsX11_agree wsX11_in := goodIn_r _ [6] rfl (by decide +kernel)
set_option maxRecDepth 20000 in
theorem gX11_agree_X11_in : GoodIn wsX11_agree (va_wsS RX11 86 yX11_in wsX11_in) := goodIn_app (goodIn_of _ (by decide +kernel)) ggX11_agree_X11_in
theorem dX11_agree_0 : decode cX11_agree 0 = .ok (.aload_n 0, 1) := by decide +kernel
theorem dX11_agree_1 : decode cX11_agree 1 = .ok (.iload_n 1, 1) := by decide +kernel
theorem dX11_agree_2 : decode cX11_agree 2 = .ok (.iconst 0, 1) := by decide +kernel
theorem dX11_agree_3 : decode cX11_agree 3 = .ok (.iconst 2, 1) := by decide +kernel
theorem dX11_agree_4 : decode cX11_agree 4 = .ok (.invokestatic 86, 3) := by decide +kernel
theorem dX11_agree_7 : decode cX11_agree 7 = .ok (.ifCond .eq 7, 3) := by decide +kernel
theorem dX11_agree_10 : decode cX11_agree 10 = .ok (.iconst 0, 1) := by decide +kernel
theorem dX11_agree_11 : decode cX11_agree 11 = .ok (.goto 4, 3) := by decide +kernel
theorem dX11_agree_14 : decode cX11_agree 14 = .ok (.iconst 1, 1) := by decide +kernel
theorem dX11_agree_15 : decode cX11_agree 15 = .ok (.putfield 47, 3) := by decide +kernel
theorem dX11_agree_18 : decode cX11_agree 18 = .ok (.aload_n 0, 1) := by decide +kernel
theorem dX11_agree_19 : decode cX11_agree 19 = .ok (.getfield 47, 3) := by decide +kernel
theorem dX11_agree_22 : decode cX11_agree 22 = .ok (.ifCond .le 5, 3) := by decide +kernel
theorem dX11_agree_25 : decode cX11_agree 25 = .ok (.iconst 0, 1) := by decide +kernel
theorem dX11_agree_26 : decode cX11_agree 26 = .ok (.ireturn, 1) := by decide +kernel
theorem dX11_agree_27 : decode cX11_agree 27 = .ok (.iconst 1, 1) := by decide +kernel
theorem dX11_agree_28 : decode cX11_agree 28 = .ok (.istore_n 2, 1) := by decide +kernel
theorem dX11_agree_29 : decode cX11_agree 29 = .ok (.iconst 0, 1) := by decide +kernel
theorem dX11_agree_30 : decode cX11_agree 30 = .ok (.istore_n 3, 1) := by decide +kernel
theorem dX11_agree_31 : decode cX11_agree 31 = .ok (.iload_n 3, 1) := by decide +kernel
theorem dX11_agree_32 : decode cX11_agree 32 = .ok (.aload_n 0, 1) := by decide +kernel
theorem dX11_agree_33 : decode cX11_agree 33 = .ok (.getfield 9, 3) := by decide +kernel
theorem dX11_agree_36 : decode cX11_agree 36 = .ok (.iconst 0, 1) := by decide +kernel
theorem dX11_agree_37 : decode cX11_agree 37 = .ok (.iaload, 1) := by decide +kernel
theorem dX11_agree_38 : decode cX11_agree 38 = .ok (.if_icmp .ge 104, 3) := by decide +kernel
theorem dX11_agree_142 : decode cX11_agree 142 = .ok (.iload_n 2, 1) := by decide +kernel
theorem dX11_agree_143 : decode cX11_agree 143 = .ok (.ireturn, 1) := by decide +kernel
set_option maxRecDepth 20000 in
theorem ggX11_agreeAgain_X11_agree : GoodIn wsX11_agreeAgain wsX11_agree := goodIn_ca (goodIn_r _ [5, 6, 7, 8, 9, 4, 10, 11, 12, 13, 14, 15, 16, 17, 18, 19, 20, 21, 22, 23, 24, 25, 26, 27, 28, 29, 30, 31, 32, 33, 34, 35, 36, 37, 38, 39, 40, 41, 42, 43, 44, 45, 46, 47, 48, 49, 50, 51, 52] rfl (by decide +kernel)) (goodIn_sub (fun _ h => List.mem_cons_of_mem _ (List.mem_append_right _ h)) (by decide +kernel))
set_option maxRecDepth 20000 in
theorem gX11_agreeAgain_X11_agree : GoodIn wsX11_agreeAgain (wsV RX11 222 RX11 yX11_agree wsX11_agree) := goodIn_app (goodIn_of _ (by decide +kernel)) ggX11_agreeAgain_X11_agree
theorem dX11_agreeAgain_0 : decode cX11_agreeAgain 0 = .ok (.aload_n 0, 1) := by decide +kernel
theorem dX11_agreeAgain_1 : decode cX11_agreeAgain 1 = .ok (.iload_n 1, 1) := by decide +kernel
theorem dX11_agreeAgain_2 : decode cX11_agreeAgain 2 = .ok (.invokevirtual 222, 3) := by decide +kernel
theorem dX11_agreeAgain_5 : decode cX11_agreeAgain 5 = .ok (.ireturn, 1) := by decide +kernel
set_option maxRecDepth 20000 in
theorem ggX11_settledIn_X11_copies : GoodIn wsX11_settledIn wsX11_copies := goodIn_ca (goodIn_r _ [8] rfl (by decide +kernel)) (goodIn_sub (fun _ h => List.mem_cons_of_mem _ (List.mem_append_right _ h)) (by decide +kernel))
set_option maxRecDepth 20000 in
theorem gX11_settledIn_X11_copies : GoodIn wsX11_settledIn (va_wsS RX11 50 yX11_copies wsX11_copies) := goodIn_app (goodIn_of _ (by decide +kernel)) ggX11_settledIn_X11_copies
theorem dX11_settledIn_0 : decode cX11_settledIn 0 = .ok (.aload_n 0, 1) := by decide +kernel
theorem dX11_settledIn_1 : decode cX11_settledIn 1 = .ok (.iconst 0, 1) := by decide +kernel
theorem dX11_settledIn_2 : decode cX11_settledIn 2 = .ok (.putfield 47, 3) := by decide +kernel
theorem dX11_settledIn_5 : decode cX11_settledIn 5 = .ok (.aload_n 0, 1) := by decide +kernel
theorem dX11_settledIn_6 : decode cX11_settledIn 6 = .ok (.getfield 9, 3) := by decide +kernel
theorem dX11_settledIn_9 : decode cX11_settledIn 9 = .ok (.aload_n 0, 1) := by decide +kernel
theorem dX11_settledIn_10 : decode cX11_settledIn 10 = .ok (.getfield 16, 3) := by decide +kernel
theorem dX11_settledIn_13 : decode cX11_settledIn 13 = .ok (.invokestatic 50, 3) := by decide +kernel
theorem dX11_settledIn_16 : decode cX11_settledIn 16 = .ok (.aload_n 0, 1) := by decide +kernel
theorem dX11_settledIn_17 : decode cX11_settledIn 17 = .ok (.getfield 54, 3) := by decide +kernel
theorem dX11_settledIn_20 : decode cX11_settledIn 20 = .ok (.istore_n 1, 1) := by decide +kernel
theorem dX11_settledIn_21 : decode cX11_settledIn 21 = .ok (.iconst 0, 1) := by decide +kernel
theorem dX11_settledIn_22 : decode cX11_settledIn 22 = .ok (.istore_n 2, 1) := by decide +kernel
theorem dX11_settledIn_23 : decode cX11_settledIn 23 = .ok (.iload_n 2, 1) := by decide +kernel
theorem dX11_settledIn_24 : decode cX11_settledIn 24 = .ok (.bipush 99, 2) := by decide +kernel
theorem dX11_settledIn_26 : decode cX11_settledIn 26 = .ok (.if_icmp .ge 23, 3) := by decide +kernel
theorem dX11_settledIn_29 : decode cX11_settledIn 29 = .ok (.aload_n 0, 1) := by decide +kernel
theorem dX11_settledIn_30 : decode cX11_settledIn 30 = .ok (.getfield 9, 3) := by decide +kernel
theorem dX11_settledIn_33 : decode cX11_settledIn 33 = .ok (.bipush 84, 2) := by decide +kernel
theorem dX11_settledIn_35 : decode cX11_settledIn 35 = .ok (.iaload, 1) := by decide +kernel
theorem dX11_settledIn_36 : decode cX11_settledIn 36 = .ok (.ifCond .le 13, 3) := by decide +kernel
theorem dX11_settledIn_49 : decode cX11_settledIn 49 = .ok (.aload_n 0, 1) := by decide +kernel
theorem dX11_settledIn_50 : decode cX11_settledIn 50 = .ok (.getfield 9, 3) := by decide +kernel
theorem dX11_settledIn_53 : decode cX11_settledIn 53 = .ok (.bipush 84, 2) := by decide +kernel
theorem dX11_settledIn_55 : decode cX11_settledIn 55 = .ok (.iaload, 1) := by decide +kernel
theorem dX11_settledIn_56 : decode cX11_settledIn 56 = .ok (.ifCond .ne 7, 3) := by decide +kernel
theorem dX11_settledIn_59 : decode cX11_settledIn 59 = .ok (.iconst 1, 1) := by decide +kernel
theorem dX11_settledIn_60 : decode cX11_settledIn 60 = .ok (.goto 4, 3) := by decide +kernel
theorem dX11_settledIn_64 : decode cX11_settledIn 64 = .ok (.istore_n 3, 1) := by decide +kernel
theorem dX11_settledIn_65 : decode cX11_settledIn 65 = .ok (.aload_n 0, 1) := by decide +kernel
theorem dX11_settledIn_66 : decode cX11_settledIn 66 = .ok (.getfield 16, 3) := by decide +kernel
theorem dX11_settledIn_69 : decode cX11_settledIn 69 = .ok (.aload_n 0, 1) := by decide +kernel
theorem dX11_settledIn_70 : decode cX11_settledIn 70 = .ok (.getfield 9, 3) := by decide +kernel
theorem dX11_settledIn_73 : decode cX11_settledIn 73 = .ok (.invokestatic 50, 3) := by decide +kernel
theorem dX11_settledIn_76 : decode cX11_settledIn 76 = .ok (.aload_n 0, 1) := by decide +kernel
theorem dX11_settledIn_77 : decode cX11_settledIn 77 = .ok (.iload_n 1, 1) := by decide +kernel
theorem dX11_settledIn_78 : decode cX11_settledIn 78 = .ok (.putfield 54, 3) := by decide +kernel
theorem dX11_settledIn_81 : decode cX11_settledIn 81 = .ok (.iload_n 3, 1) := by decide +kernel
theorem dX11_settledIn_82 : decode cX11_settledIn 82 = .ok (.ifCond .eq 7, 3) := by decide +kernel
theorem dX11_settledIn_85 : decode cX11_settledIn 85 = .ok (.iload_n 2, 1) := by decide +kernel
theorem dX11_settledIn_86 : decode cX11_settledIn 86 = .ok (.goto 8, 3) := by decide +kernel
theorem dX11_settledIn_94 : decode cX11_settledIn 94 = .ok (.ireturn, 1) := by decide +kernel
set_option maxRecDepth 20000 in
theorem ggX11_members_X11_in : GoodIn wsX11_members wsX11_in := goodIn_r _ [6] rfl (by decide +kernel)
set_option maxRecDepth 20000 in
theorem gX11_members_X11_in : GoodIn wsX11_members (va_wsS RX11 86 yX11_in wsX11_in) := goodIn_app (goodIn_of _ (by decide +kernel)) ggX11_members_X11_in
set_option maxRecDepth 20000 in
theorem ggX11_members_X11_raises : GoodIn wsX11_members wsX11_raises := goodIn_r _ [10, 1, 15, 16, 17, 18, 19, 20, 21, 22, 23, 24, 25, 26, 27, 28, 29, 30, 31, 32, 33, 34, 35, 36, 37, 38, 39] rfl (by decide +kernel)
set_option maxRecDepth 20000 in
theorem gX11_members_X11_raises : GoodIn wsX11_members (wsV RX11 83 RX11 yX11_raises wsX11_raises) := goodIn_app (goodIn_of _ (by decide +kernel)) ggX11_members_X11_raises
theorem dX11_members_0 : decode cX11_members 0 = .ok (.aload_n 0, 1) := by decide +kernel
theorem dX11_members_1 : decode cX11_members 1 = .ok (.iconst 0, 1) := by decide +kernel
theorem dX11_members_2 : decode cX11_members 2 = .ok (.putfield 47, 3) := by decide +kernel
theorem dX11_members_5 : decode cX11_members 5 = .ok (.iload_n 1, 1) := by decide +kernel
theorem dX11_members_6 : decode cX11_members 6 = .ok (.iconst 0, 1) := by decide +kernel
theorem dX11_members_7 : decode cX11_members 7 = .ok (.iconst 2, 1) := by decide +kernel
theorem dX11_members_8 : decode cX11_members 8 = .ok (.invokestatic 86, 3) := by decide +kernel
theorem dX11_members_11 : decode cX11_members 11 = .ok (.ifCond .ne 9, 3) := by decide +kernel
theorem dX11_members_14 : decode cX11_members 14 = .ok (.aload_n 0, 1) := by decide +kernel
theorem dX11_members_15 : decode cX11_members 15 = .ok (.iconst 1, 1) := by decide +kernel
theorem dX11_members_16 : decode cX11_members 16 = .ok (.invokevirtual 83, 3) := by decide +kernel
theorem dX11_members_19 : decode cX11_members 19 = .ok (.ireturn, 1) := by decide +kernel
theorem dX11_members_20 : decode cX11_members 20 = .ok (.iconst 0, 1) := by decide +kernel
theorem dX11_members_21 : decode cX11_members 21 = .ok (.istore_n 2, 1) := by decide +kernel
theorem dX11_members_22 : decode cX11_members 22 = .ok (.iconst 0, 1) := by decide +kernel
theorem dX11_members_23 : decode cX11_members 23 = .ok (.istore_n 3, 1) := by decide +kernel
theorem dX11_members_24 : decode cX11_members 24 = .ok (.iload_n 3, 1) := by decide +kernel
theorem dX11_members_25 : decode cX11_members 25 = .ok (.aload_n 0, 1) := by decide +kernel
theorem dX11_members_26 : decode cX11_members 26 = .ok (.getfield 9, 3) := by decide +kernel
theorem dX11_members_29 : decode cX11_members 29 = .ok (.iconst 0, 1) := by decide +kernel
theorem dX11_members_30 : decode cX11_members 30 = .ok (.iaload, 1) := by decide +kernel
theorem dX11_members_31 : decode cX11_members 31 = .ok (.if_icmp .ge 24, 3) := by decide +kernel
theorem dX11_members_55 : decode cX11_members 55 = .ok (.iload_n 2, 1) := by decide +kernel
theorem dX11_members_56 : decode cX11_members 56 = .ok (.ireturn, 1) := by decide +kernel
set_option maxRecDepth 20000 in
theorem ggX11_busiest_X11_raises : GoodIn wsX11_busiest wsX11_raises := goodIn_r _ [40, 1, 41, 42, 43, 44, 45, 46, 47, 48, 49, 50, 51, 52, 53, 54, 55, 56, 57, 58, 59, 60, 61, 62, 63, 64, 65] rfl (by decide +kernel)
set_option maxRecDepth 20000 in
theorem gX11_busiest_X11_raises : GoodIn wsX11_busiest (wsV RX11 83 RX11 yX11_raises wsX11_raises) := goodIn_app (goodIn_of _ (by decide +kernel)) ggX11_busiest_X11_raises
theorem dX11_busiest_0 : decode cX11_busiest 0 = .ok (.aload_n 0, 1) := by decide +kernel
theorem dX11_busiest_1 : decode cX11_busiest 1 = .ok (.iconst 0, 1) := by decide +kernel
theorem dX11_busiest_2 : decode cX11_busiest 2 = .ok (.putfield 47, 3) := by decide +kernel
theorem dX11_busiest_5 : decode cX11_busiest 5 = .ok (.iconst 0, 1) := by decide +kernel
theorem dX11_busiest_6 : decode cX11_busiest 6 = .ok (.istore_n 2, 1) := by decide +kernel
theorem dX11_busiest_7 : decode cX11_busiest 7 = .ok (.iload_n 2, 1) := by decide +kernel
theorem dX11_busiest_8 : decode cX11_busiest 8 = .ok (.aload_n 0, 1) := by decide +kernel
theorem dX11_busiest_9 : decode cX11_busiest 9 = .ok (.getfield 9, 3) := by decide +kernel
theorem dX11_busiest_12 : decode cX11_busiest 12 = .ok (.iconst 0, 1) := by decide +kernel
theorem dX11_busiest_13 : decode cX11_busiest 13 = .ok (.iaload, 1) := by decide +kernel
theorem dX11_busiest_14 : decode cX11_busiest 14 = .ok (.if_icmp .ge 57, 3) := by decide +kernel
theorem dX11_busiest_71 : decode cX11_busiest 71 = .ok (.aload_n 0, 1) := by decide +kernel
theorem dX11_busiest_72 : decode cX11_busiest 72 = .ok (.iconst 1, 1) := by decide +kernel
theorem dX11_busiest_73 : decode cX11_busiest 73 = .ok (.invokevirtual 83, 3) := by decide +kernel
theorem dX11_busiest_76 : decode cX11_busiest 76 = .ok (.ireturn, 1) := by decide +kernel
theorem dX11_append_0 : decode cX11_append 0 = .ok (.aload_n 0, 1) := by decide +kernel
theorem dX11_append_1 : decode cX11_append 1 = .ok (.iconst 0, 1) := by decide +kernel
theorem dX11_append_2 : decode cX11_append 2 = .ok (.putfield 47, 3) := by decide +kernel
theorem dX11_append_5 : decode cX11_append 5 = .ok (.aload_n 0, 1) := by decide +kernel
theorem dX11_append_6 : decode cX11_append 6 = .ok (.getfield 228, 3) := by decide +kernel
theorem dX11_append_9 : decode cX11_append 9 = .ok (.bipush 60, 2) := by decide +kernel
theorem dX11_append_11 : decode cX11_append 11 = .ok (.if_icmp .ne 9, 3) := by decide +kernel
theorem dX11_append_20 : decode cX11_append 20 = .ok (.aload_n 0, 1) := by decide +kernel
theorem dX11_append_21 : decode cX11_append 21 = .ok (.getfield 34, 3) := by decide +kernel
theorem dX11_append_24 : decode cX11_append 24 = .ok (.aload_n 0, 1) := by decide +kernel
theorem dX11_append_25 : decode cX11_append 25 = .ok (.dup, 1) := by decide +kernel
theorem dX11_append_26 : decode cX11_append 26 = .ok (.getfield 228, 3) := by decide +kernel
theorem dX11_append_29 : decode cX11_append 29 = .ok (.dup_x1, 1) := by decide +kernel
theorem dX11_append_30 : decode cX11_append 30 = .ok (.iconst 1, 1) := by decide +kernel
theorem dX11_append_31 : decode cX11_append 31 = .ok (.iadd, 1) := by decide +kernel
theorem dX11_append_32 : decode cX11_append 32 = .ok (.putfield 228, 3) := by decide +kernel
theorem dX11_append_35 : decode cX11_append 35 = .ok (.iload_n 1, 1) := by decide +kernel
theorem dX11_append_36 : decode cX11_append 36 = .ok (.castore, 1) := by decide +kernel
theorem dX11_append_37 : decode cX11_append 37 = .ok (.aload_n 0, 1) := by decide +kernel
theorem dX11_append_38 : decode cX11_append 38 = .ok (.getfield 228, 3) := by decide +kernel
theorem dX11_append_41 : decode cX11_append 41 = .ok (.ireturn, 1) := by decide +kernel
theorem dX11_isCommand_0 : decode cX11_isCommand 0 = .ok (.aload_n 0, 1) := by decide +kernel
theorem dX11_isCommand_1 : decode cX11_isCommand 1 = .ok (.getfield 231, 3) := by decide +kernel
theorem dX11_isCommand_4 : decode cX11_isCommand 4 = .ok (.aload_n 0, 1) := by decide +kernel
theorem dX11_isCommand_5 : decode cX11_isCommand 5 = .ok (.getfield 228, 3) := by decide +kernel
theorem dX11_isCommand_8 : decode cX11_isCommand 8 = .ok (.if_icmp .ne 5, 3) := by decide +kernel
theorem dX11_isCommand_11 : decode cX11_isCommand 11 = .ok (.iconst 0, 1) := by decide +kernel
theorem dX11_isCommand_12 : decode cX11_isCommand 12 = .ok (.ireturn, 1) := by decide +kernel
set_option maxRecDepth 20000 in
theorem ggX11_commands_X11_tries : GoodIn wsX11_commands wsX11_tries := goodIn_ca (goodIn_r _ [12, 13, 14, 15, 16, 17, 18, 19, 11, 20, 165, 166, 167, 168, 169, 170, 171, 172, 173, 174, 175, 176, 177, 178, 179, 180, 181, 182, 183, 184, 185, 186, 187, 188, 189] rfl (by decide +kernel)) (goodIn_sub (fun _ h => List.mem_cons_of_mem _ (List.mem_append_right _ h)) (by decide +kernel))
set_option maxRecDepth 20000 in
theorem gX11_commands_X11_tries : GoodIn wsX11_commands (wsV RX11 125 RX11 yX11_tries wsX11_tries) := goodIn_app (goodIn_of _ (by decide +kernel)) ggX11_commands_X11_tries
set_option maxRecDepth 20000 in
theorem ggX11_commands_X11_isCommand : GoodIn wsX11_commands wsX11_isCommand := goodIn_ca (goodIn_r _ [24, 1, 3, 25, 26, 27, 28, 29, 11, 30, 31, 32, 33, 34, 35, 36, 37, 38, 165, 166, 167, 168, 169, 170, 171, 172, 173, 174, 175, 176, 177, 178, 179, 180, 181, 182, 183, 184, 185, 186, 187, 188, 189] rfl (by decide +kernel)) (goodIn_sub (fun _ h => List.mem_cons_of_mem _ (List.mem_append_right _ h)) (by decide +kernel))
set_option maxRecDepth 20000 in
theorem gX11_commands_X11_isCommand : GoodIn wsX11_commands (wsV RX11 244 RX11 yX11_isCommand wsX11_isCommand) := goodIn_app (goodIn_of _ (by decide +kernel)) ggX11_commands_X11_isCommand
set_option maxRecDepth 20000 in
theorem ggX11_commands_X11_raises : GoodIn wsX11_commands wsX11_raises := goodIn_r _ [42, 13, 165, 166, 167, 168, 169, 170, 171, 172, 173, 174, 175, 176, 177, 178, 179, 180, 181, 182, 183, 184, 185, 186, 187, 188, 189] rfl (by decide +kernel)
set_option maxRecDepth 20000 in
theorem gX11_commands_X11_raises : GoodIn wsX11_commands (wsV RX11 83 RX11 yX11_raises wsX11_raises) := goodIn_app (goodIn_of _ (by decide +kernel)) ggX11_commands_X11_raises
theorem dX11_commands_0 : decode cX11_commands 0 = .ok (.aload_n 0, 1) := by decide +kernel
theorem dX11_commands_1 : decode cX11_commands 1 = .ok (.invokevirtual 125, 3) := by decide +kernel
theorem dX11_commands_4 : decode cX11_commands 4 = .ok (.aload_n 0, 1) := by decide +kernel
theorem dX11_commands_5 : decode cX11_commands 5 = .ok (.iconst 0, 1) := by decide +kernel
theorem dX11_commands_6 : decode cX11_commands 6 = .ok (.putfield 231, 3) := by decide +kernel
theorem dX11_commands_9 : decode cX11_commands 9 = .ok (.aload_n 0, 1) := by decide +kernel
theorem dX11_commands_10 : decode cX11_commands 10 = .ok (.iconst (-1), 1) := by decide +kernel
theorem dX11_commands_11 : decode cX11_commands 11 = .ok (.putfield 40, 3) := by decide +kernel
theorem dX11_commands_14 : decode cX11_commands 14 = .ok (.aload_n 0, 1) := by decide +kernel
theorem dX11_commands_15 : decode cX11_commands 15 = .ok (.invokevirtual 244, 3) := by decide +kernel
theorem dX11_commands_18 : decode cX11_commands 18 = .ok (.istore_n 1, 1) := by decide +kernel
theorem dX11_commands_19 : decode cX11_commands 19 = .ok (.iload_n 1, 1) := by decide +kernel
theorem dX11_commands_20 : decode cX11_commands 20 = .ok (.ifCond .eq 39, 3) := by decide +kernel
theorem dX11_commands_59 : decode cX11_commands 59 = .ok (.iload_n 1, 1) := by decide +kernel
theorem dX11_commands_60 : decode cX11_commands 60 = .ok (.ifCond .ne 22, 3) := by decide +kernel
theorem dX11_commands_63 : decode cX11_commands 63 = .ok (.aload_n 0, 1) := by decide +kernel
theorem dX11_commands_64 : decode cX11_commands 64 = .ok (.aload_n 0, 1) := by decide +kernel
theorem dX11_commands_65 : decode cX11_commands 65 = .ok (.getfield 231, 3) := by decide +kernel
theorem dX11_commands_68 : decode cX11_commands 68 = .ok (.putfield 40, 3) := by decide +kernel
theorem dX11_commands_71 : decode cX11_commands 71 = .ok (.aload_n 0, 1) := by decide +kernel
theorem dX11_commands_72 : decode cX11_commands 72 = .ok (.iconst 0, 1) := by decide +kernel
theorem dX11_commands_73 : decode cX11_commands 73 = .ok (.putfield 228, 3) := by decide +kernel
theorem dX11_commands_76 : decode cX11_commands 76 = .ok (.aload_n 0, 1) := by decide +kernel
theorem dX11_commands_77 : decode cX11_commands 77 = .ok (.iconst 1, 1) := by decide +kernel
theorem dX11_commands_78 : decode cX11_commands 78 = .ok (.invokevirtual 83, 3) := by decide +kernel
theorem dX11_commands_81 : decode cX11_commands 81 = .ok (.ireturn, 1) := by decide +kernel
theorem dX11_faultPosition_0 : decode cX11_faultPosition 0 = .ok (.aload_n 0, 1) := by decide +kernel
theorem dX11_faultPosition_1 : decode cX11_faultPosition 1 = .ok (.iconst 0, 1) := by decide +kernel
theorem dX11_faultPosition_2 : decode cX11_faultPosition 2 = .ok (.putfield 47, 3) := by decide +kernel
theorem dX11_faultPosition_5 : decode cX11_faultPosition 5 = .ok (.aload_n 0, 1) := by decide +kernel
theorem dX11_faultPosition_6 : decode cX11_faultPosition 6 = .ok (.getfield 40, 3) := by decide +kernel
theorem dX11_faultPosition_9 : decode cX11_faultPosition 9 = .ok (.ireturn, 1) := by decide +kernel
set_option maxRecDepth 20000 in
theorem ggX11_reason_X11_raises : GoodIn wsX11_reason wsX11_raises := goodIn_r _ [10, 1, 11, 12, 13, 14, 15, 16, 17, 18, 19, 20, 21, 22, 23, 24, 25, 26, 27, 28, 29, 30, 31, 32, 33, 34, 35] rfl (by decide +kernel)
set_option maxRecDepth 20000 in
theorem gX11_reason_X11_raises : GoodIn wsX11_reason (wsV RX11 83 RX11 yX11_raises wsX11_raises) := goodIn_app (goodIn_of _ (by decide +kernel)) ggX11_reason_X11_raises
theorem dX11_reason_0 : decode cX11_reason 0 = .ok (.aload_n 0, 1) := by decide +kernel
theorem dX11_reason_1 : decode cX11_reason 1 = .ok (.iconst 0, 1) := by decide +kernel
theorem dX11_reason_2 : decode cX11_reason 2 = .ok (.putfield 47, 3) := by decide +kernel
theorem dX11_reason_5 : decode cX11_reason 5 = .ok (.iload_n 1, 1) := by decide +kernel
theorem dX11_reason_6 : decode cX11_reason 6 = .ok (.ifCond .eq 10, 3) := by decide +kernel
theorem dX11_reason_9 : decode cX11_reason 9 = .ok (.aload_n 0, 1) := by decide +kernel
theorem dX11_reason_10 : decode cX11_reason 10 = .ok (.getfield 73, 3) := by decide +kernel
theorem dX11_reason_13 : decode cX11_reason 13 = .ok (.goto 7, 3) := by decide +kernel
theorem dX11_reason_16 : decode cX11_reason 16 = .ok (.aload_n 0, 1) := by decide +kernel
theorem dX11_reason_17 : decode cX11_reason 17 = .ok (.getfield 67, 3) := by decide +kernel
theorem dX11_reason_20 : decode cX11_reason 20 = .ok (.ifCond .ne 9, 3) := by decide +kernel
theorem dX11_reason_23 : decode cX11_reason 23 = .ok (.aload_n 0, 1) := by decide +kernel
theorem dX11_reason_24 : decode cX11_reason 24 = .ok (.iconst 1, 1) := by decide +kernel
theorem dX11_reason_25 : decode cX11_reason 25 = .ok (.invokevirtual 83, 3) := by decide +kernel
theorem dX11_reason_28 : decode cX11_reason 28 = .ok (.ireturn, 1) := by decide +kernel
set_option maxRecDepth 20000 in
theorem ggX11_line_X11_isOne : GoodIn wsX11_line wsX11_isOne := goodIn_ca (goodIn_r _ [9, 3, 10, 11, 8, 12, 34, 35, 36, 37, 38, 39, 40, 41, 42, 43, 44, 45, 46, 47, 48, 49, 50, 51, 52, 53, 54, 55, 56, 57, 58] rfl (by decide +kernel)) (goodIn_sub (fun _ h => List.mem_cons_of_mem _ (List.mem_append_right _ h)) (by decide +kernel))
set_option maxRecDepth 20000 in
theorem gX11_line_X11_isOne : GoodIn wsX11_line (wsV RX11 136 RX11 yX11_isOne wsX11_isOne) := goodIn_app (goodIn_of _ (by decide +kernel)) ggX11_line_X11_isOne
set_option maxRecDepth 20000 in
theorem ggX11_line_X11_raises : GoodIn wsX11_line wsX11_raises := goodIn_r _ [16, 1, 34, 35, 36, 37, 38, 39, 40, 41, 42, 43, 44, 45, 46, 47, 48, 49, 50, 51, 52, 53, 54, 55, 56, 57, 58] rfl (by decide +kernel)
set_option maxRecDepth 20000 in
theorem gX11_line_X11_raises : GoodIn wsX11_line (wsV RX11 83 RX11 yX11_raises wsX11_raises) := goodIn_app (goodIn_of _ (by decide +kernel)) ggX11_line_X11_raises
theorem dX11_line_0 : decode cX11_line 0 = .ok (.aload_n 0, 1) := by decide +kernel
theorem dX11_line_1 : decode cX11_line 1 = .ok (.iconst 0, 1) := by decide +kernel
theorem dX11_line_2 : decode cX11_line 2 = .ok (.putfield 47, 3) := by decide +kernel
theorem dX11_line_5 : decode cX11_line 5 = .ok (.aload_n 0, 1) := by decide +kernel
theorem dX11_line_6 : decode cX11_line 6 = .ok (.iload_n 1, 1) := by decide +kernel
theorem dX11_line_7 : decode cX11_line 7 = .ok (.invokevirtual 136, 3) := by decide +kernel
theorem dX11_line_10 : decode cX11_line 10 = .ok (.ifCond .ne 9, 3) := by decide +kernel
theorem dX11_line_13 : decode cX11_line 13 = .ok (.aload_n 0, 1) := by decide +kernel
theorem dX11_line_14 : decode cX11_line 14 = .ok (.iconst 1, 1) := by decide +kernel
theorem dX11_line_15 : decode cX11_line 15 = .ok (.invokevirtual 83, 3) := by decide +kernel
theorem dX11_line_18 : decode cX11_line 18 = .ok (.ireturn, 1) := by decide +kernel
set_option maxRecDepth 20000 in
theorem ggX11_character_X11_in : GoodIn wsX11_character wsX11_in := goodIn_r _ [7] rfl (by decide +kernel)
set_option maxRecDepth 20000 in
theorem gX11_character_X11_in : GoodIn wsX11_character (va_wsS RX11 86 yX11_in wsX11_in) := goodIn_app (goodIn_of _ (by decide +kernel)) ggX11_character_X11_in
theorem dX11_character_0 : decode cX11_character 0 = .ok (.aload_n 0, 1) := by decide +kernel
theorem dX11_character_1 : decode cX11_character 1 = .ok (.iload_n 1, 1) := by decide +kernel
theorem dX11_character_2 : decode cX11_character 2 = .ok (.iconst 0, 1) := by decide +kernel
theorem dX11_character_3 : decode cX11_character 3 = .ok (.aload_n 0, 1) := by decide +kernel
theorem dX11_character_4 : decode cX11_character 4 = .ok (.getfield 256, 3) := by decide +kernel
theorem dX11_character_7 : decode cX11_character 7 = .ok (.iconst 1, 1) := by decide +kernel
theorem dX11_character_8 : decode cX11_character 8 = .ok (.isub, 1) := by decide +kernel
theorem dX11_character_9 : decode cX11_character 9 = .ok (.invokestatic 86, 3) := by decide +kernel
theorem dX11_character_12 : decode cX11_character 12 = .ok (.ifCond .eq 7, 3) := by decide +kernel
theorem dX11_character_19 : decode cX11_character 19 = .ok (.iconst 1, 1) := by decide +kernel
theorem dX11_character_20 : decode cX11_character 20 = .ok (.putfield 47, 3) := by decide +kernel
theorem dX11_character_23 : decode cX11_character 23 = .ok (.aload_n 0, 1) := by decide +kernel
theorem dX11_character_24 : decode cX11_character 24 = .ok (.getfield 47, 3) := by decide +kernel
theorem dX11_character_27 : decode cX11_character 27 = .ok (.ifCond .ne 12, 3) := by decide +kernel
theorem dX11_character_39 : decode cX11_character 39 = .ok (.bipush 97, 2) := by decide +kernel
theorem dX11_character_41 : decode cX11_character 41 = .ok (.ireturn, 1) := by decide +kernel
theorem dX11_canals_0 : decode cX11_canals 0 = .ok (.iconst 0, 1) := by decide +kernel
theorem dX11_canals_1 : decode cX11_canals 1 = .ok (.istore_n 2, 1) := by decide +kernel
theorem dX11_canals_2 : decode cX11_canals 2 = .ok (.iconst 0, 1) := by decide +kernel
theorem dX11_canals_3 : decode cX11_canals 3 = .ok (.istore_n 3, 1) := by decide +kernel
theorem dX11_canals_4 : decode cX11_canals 4 = .ok (.iload_n 3, 1) := by decide +kernel
theorem dX11_canals_5 : decode cX11_canals 5 = .ok (.aload_n 0, 1) := by decide +kernel
theorem dX11_canals_6 : decode cX11_canals 6 = .ok (.getfield 9, 3) := by decide +kernel
theorem dX11_canals_9 : decode cX11_canals 9 = .ok (.iconst 0, 1) := by decide +kernel
theorem dX11_canals_10 : decode cX11_canals 10 = .ok (.iaload, 1) := by decide +kernel
theorem dX11_canals_11 : decode cX11_canals 11 = .ok (.if_icmp .ge 63, 3) := by decide +kernel
theorem dX11_canals_74 : decode cX11_canals 74 = .ok (.iload_n 2, 1) := by decide +kernel
theorem dX11_canals_75 : decode cX11_canals 75 = .ok (.ireturn, 1) := by decide +kernel
set_option maxRecDepth 20000 in
theorem ggX11_meanCost_X11_canals : GoodIn wsX11_meanCost wsX11_canals := goodIn_ca (goodIn_r _ [6, 7, 8, 9, 10, 5, 11, 16, 17, 18, 19, 20, 21, 22, 23, 24, 25, 26, 27, 28, 29, 30, 31, 32, 33, 34, 35, 36, 37, 38, 39, 40] rfl (by decide +kernel)) (goodIn_sub (fun _ h => List.mem_cons_of_mem _ (List.mem_append_right _ h)) (by decide +kernel))
set_option maxRecDepth 20000 in
theorem gX11_meanCost_X11_canals : GoodIn wsX11_meanCost (wsV RX11 259 RX11 yX11_canals wsX11_canals) := goodIn_app (goodIn_of _ (by decide +kernel)) ggX11_meanCost_X11_canals
set_option maxRecDepth 20000 in
theorem ggX11_meanCost_X11_raises : GoodIn wsX11_meanCost wsX11_raises := goodIn_r _ [15, 1, 16, 17, 18, 19, 20, 21, 22, 23, 24, 25, 26, 27, 28, 29, 30, 31, 32, 33, 34, 35, 36, 37, 38, 39, 40] rfl (by decide +kernel)
set_option maxRecDepth 20000 in
theorem gX11_meanCost_X11_raises : GoodIn wsX11_meanCost (wsV RX11 83 RX11 yX11_raises wsX11_raises) := goodIn_app (goodIn_of _ (by decide +kernel)) ggX11_meanCost_X11_raises
theorem dX11_meanCost_0 : decode cX11_meanCost 0 = .ok (.aload_n 0, 1) := by decide +kernel
theorem dX11_meanCost_1 : decode cX11_meanCost 1 = .ok (.iconst 0, 1) := by decide +kernel
theorem dX11_meanCost_2 : decode cX11_meanCost 2 = .ok (.putfield 47, 3) := by decide +kernel
theorem dX11_meanCost_5 : decode cX11_meanCost 5 = .ok (.aload_n 0, 1) := by decide +kernel
theorem dX11_meanCost_6 : decode cX11_meanCost 6 = .ok (.iconst 0, 1) := by decide +kernel
theorem dX11_meanCost_7 : decode cX11_meanCost 7 = .ok (.invokevirtual 259, 3) := by decide +kernel
theorem dX11_meanCost_10 : decode cX11_meanCost 10 = .ok (.ifCond .ne 12, 3) := by decide +kernel
theorem dX11_meanCost_13 : decode cX11_meanCost 13 = .ok (.aload_n 0, 1) := by decide +kernel
theorem dX11_meanCost_14 : decode cX11_meanCost 14 = .ok (.iconst 1, 1) := by decide +kernel
theorem dX11_meanCost_15 : decode cX11_meanCost 15 = .ok (.invokevirtual 83, 3) := by decide +kernel
theorem dX11_meanCost_18 : decode cX11_meanCost 18 = .ok (.i2d, 1) := by decide +kernel
theorem dX11_meanCost_19 : decode cX11_meanCost 19 = .ok (.goto 16, 3) := by decide +kernel
theorem dX11_meanCost_35 : decode cX11_meanCost 35 = .ok (.dreturn, 1) := by decide +kernel
set_option maxRecDepth 20000 in
theorem ggX11_lostShare_X11_raises : GoodIn wsX11_lostShare wsX11_raises := goodIn_r _ [7, 1, 8, 9, 10, 11, 12, 13, 14, 15, 16, 17, 18, 19, 20, 21, 22, 23, 24, 25, 26, 27, 28, 29, 30, 31, 32] rfl (by decide +kernel)
set_option maxRecDepth 20000 in
theorem gX11_lostShare_X11_raises : GoodIn wsX11_lostShare (wsV RX11 83 RX11 yX11_raises wsX11_raises) := goodIn_app (goodIn_of _ (by decide +kernel)) ggX11_lostShare_X11_raises
theorem dX11_lostShare_0 : decode cX11_lostShare 0 = .ok (.aload_n 0, 1) := by decide +kernel
theorem dX11_lostShare_1 : decode cX11_lostShare 1 = .ok (.iconst 0, 1) := by decide +kernel
theorem dX11_lostShare_2 : decode cX11_lostShare 2 = .ok (.putfield 47, 3) := by decide +kernel
theorem dX11_lostShare_5 : decode cX11_lostShare 5 = .ok (.aload_n 0, 1) := by decide +kernel
theorem dX11_lostShare_6 : decode cX11_lostShare 6 = .ok (.getfield 9, 3) := by decide +kernel
theorem dX11_lostShare_9 : decode cX11_lostShare 9 = .ok (.iconst 2, 1) := by decide +kernel
theorem dX11_lostShare_10 : decode cX11_lostShare 10 = .ok (.iaload, 1) := by decide +kernel
theorem dX11_lostShare_11 : decode cX11_lostShare 11 = .ok (.ifCond .ne 12, 3) := by decide +kernel
theorem dX11_lostShare_14 : decode cX11_lostShare 14 = .ok (.aload_n 0, 1) := by decide +kernel
theorem dX11_lostShare_15 : decode cX11_lostShare 15 = .ok (.iconst 1, 1) := by decide +kernel
theorem dX11_lostShare_16 : decode cX11_lostShare 16 = .ok (.invokevirtual 83, 3) := by decide +kernel
theorem dX11_lostShare_19 : decode cX11_lostShare 19 = .ok (.i2f, 1) := by decide +kernel
theorem dX11_lostShare_20 : decode cX11_lostShare 20 = .ok (.goto 18, 3) := by decide +kernel
theorem dX11_lostShare_38 : decode cX11_lostShare 38 = .ok (.freturn, 1) := by decide +kernel
set_option maxRecDepth 20000 in
theorem ggX11_account_X11_canals : GoodIn wsX11_account wsX11_canals := goodIn_ca (goodIn_r _ [9, 2, 10, 11, 12, 8, 13, 26, 27, 28, 29, 30, 31, 32, 33, 34, 35, 36, 37, 38, 39, 40, 41, 42, 43, 44, 45, 46, 47, 48, 49, 50] rfl (by decide +kernel)) (goodIn_sub (fun _ h => List.mem_cons_of_mem _ (List.mem_append_right _ h)) (by decide +kernel))
set_option maxRecDepth 20000 in
theorem gX11_account_X11_canals : GoodIn wsX11_account (wsV RX11 259 RX11 yX11_canals wsX11_canals) := goodIn_app (goodIn_of _ (by decide +kernel)) ggX11_account_X11_canals
set_option maxRecDepth 20000 in
theorem ggX11_account_X11_raises : GoodIn wsX11_account wsX11_raises := goodIn_r _ [25, 1, 26, 27, 28, 29, 30, 31, 32, 33, 34, 35, 36, 37, 38, 39, 40, 41, 42, 43, 44, 45, 46, 47, 48, 49, 50] rfl (by decide +kernel)
set_option maxRecDepth 20000 in
theorem gX11_account_X11_raises : GoodIn wsX11_account (wsV RX11 83 RX11 yX11_raises wsX11_raises) := goodIn_app (goodIn_of _ (by decide +kernel)) ggX11_account_X11_raises
theorem dX11_account_0 : decode cX11_account 0 = .ok (.aload_n 0, 1) := by decide +kernel
theorem dX11_account_1 : decode cX11_account 1 = .ok (.iconst 0, 1) := by decide +kernel
theorem dX11_account_2 : decode cX11_account 2 = .ok (.putfield 47, 3) := by decide +kernel
theorem dX11_account_5 : decode cX11_account 5 = .ok (.iconst 0, 1) := by decide +kernel
theorem dX11_account_6 : decode cX11_account 6 = .ok (.istore_n 2, 1) := by decide +kernel
theorem dX11_account_7 : decode cX11_account 7 = .ok (.iload_n 1, 1) := by decide +kernel
theorem dX11_account_8 : decode cX11_account 8 = .ok (.tableswitch 154 0 10 #[60, 67, 74, 80, 88, 95, 102, 109, 116, 144, 149], 60) := by decide +kernel
theorem dX11_account_68 : decode cX11_account 68 = .ok (.aload_n 0, 1) := by decide +kernel
theorem dX11_account_69 : decode cX11_account 69 = .ok (.getfield 9, 3) := by decide +kernel
theorem dX11_account_72 : decode cX11_account 72 = .ok (.iconst 1, 1) := by decide +kernel
theorem dX11_account_73 : decode cX11_account 73 = .ok (.iaload, 1) := by decide +kernel
theorem dX11_account_74 : decode cX11_account 74 = .ok (.ireturn, 1) := by decide +kernel
theorem dX11_account_75 : decode cX11_account 75 = .ok (.aload_n 0, 1) := by decide +kernel
theorem dX11_account_76 : decode cX11_account 76 = .ok (.getfield 9, 3) := by decide +kernel
theorem dX11_account_79 : decode cX11_account 79 = .ok (.iconst 0, 1) := by decide +kernel
theorem dX11_account_80 : decode cX11_account 80 = .ok (.iaload, 1) := by decide +kernel
theorem dX11_account_81 : decode cX11_account 81 = .ok (.ireturn, 1) := by decide +kernel
theorem dX11_account_82 : decode cX11_account 82 = .ok (.aload_n 0, 1) := by decide +kernel
theorem dX11_account_83 : decode cX11_account 83 = .ok (.iconst 0, 1) := by decide +kernel
theorem dX11_account_84 : decode cX11_account 84 = .ok (.invokevirtual 259, 3) := by decide +kernel
theorem dX11_account_87 : decode cX11_account 87 = .ok (.ireturn, 1) := by decide +kernel
theorem dX11_account_88 : decode cX11_account 88 = .ok (.aload_n 0, 1) := by decide +kernel
theorem dX11_account_89 : decode cX11_account 89 = .ok (.getfield 9, 3) := by decide +kernel
theorem dX11_account_92 : decode cX11_account 92 = .ok (.bipush 84, 2) := by decide +kernel
theorem dX11_account_94 : decode cX11_account 94 = .ok (.iaload, 1) := by decide +kernel
theorem dX11_account_95 : decode cX11_account 95 = .ok (.ireturn, 1) := by decide +kernel
theorem dX11_account_96 : decode cX11_account 96 = .ok (.aload_n 0, 1) := by decide +kernel
theorem dX11_account_97 : decode cX11_account 97 = .ok (.getfield 9, 3) := by decide +kernel
theorem dX11_account_100 : decode cX11_account 100 = .ok (.iconst 2, 1) := by decide +kernel
theorem dX11_account_101 : decode cX11_account 101 = .ok (.iaload, 1) := by decide +kernel
theorem dX11_account_102 : decode cX11_account 102 = .ok (.ireturn, 1) := by decide +kernel
theorem dX11_account_103 : decode cX11_account 103 = .ok (.aload_n 0, 1) := by decide +kernel
theorem dX11_account_104 : decode cX11_account 104 = .ok (.getfield 9, 3) := by decide +kernel
theorem dX11_account_107 : decode cX11_account 107 = .ok (.iconst 3, 1) := by decide +kernel
theorem dX11_account_108 : decode cX11_account 108 = .ok (.iaload, 1) := by decide +kernel
theorem dX11_account_109 : decode cX11_account 109 = .ok (.ireturn, 1) := by decide +kernel
theorem dX11_account_110 : decode cX11_account 110 = .ok (.aload_n 0, 1) := by decide +kernel
theorem dX11_account_111 : decode cX11_account 111 = .ok (.getfield 9, 3) := by decide +kernel
theorem dX11_account_114 : decode cX11_account 114 = .ok (.iconst 4, 1) := by decide +kernel
theorem dX11_account_115 : decode cX11_account 115 = .ok (.iaload, 1) := by decide +kernel
theorem dX11_account_116 : decode cX11_account 116 = .ok (.ireturn, 1) := by decide +kernel
theorem dX11_account_117 : decode cX11_account 117 = .ok (.aload_n 0, 1) := by decide +kernel
theorem dX11_account_118 : decode cX11_account 118 = .ok (.getfield 9, 3) := by decide +kernel
theorem dX11_account_121 : decode cX11_account 121 = .ok (.iconst 5, 1) := by decide +kernel
theorem dX11_account_122 : decode cX11_account 122 = .ok (.iaload, 1) := by decide +kernel
theorem dX11_account_123 : decode cX11_account 123 = .ok (.ireturn, 1) := by decide +kernel
theorem dX11_account_124 : decode cX11_account 124 = .ok (.iconst 0, 1) := by decide +kernel
theorem dX11_account_125 : decode cX11_account 125 = .ok (.istore_n 3, 1) := by decide +kernel
theorem dX11_account_126 : decode cX11_account 126 = .ok (.iload_n 3, 1) := by decide +kernel
theorem dX11_account_127 : decode cX11_account 127 = .ok (.aload_n 0, 1) := by decide +kernel
theorem dX11_account_128 : decode cX11_account 128 = .ok (.getfield 9, 3) := by decide +kernel
theorem dX11_account_131 : decode cX11_account 131 = .ok (.iconst 0, 1) := by decide +kernel
theorem dX11_account_132 : decode cX11_account 132 = .ok (.iaload, 1) := by decide +kernel
theorem dX11_account_133 : decode cX11_account 133 = .ok (.if_icmp .ge 17, 3) := by decide +kernel
theorem dX11_account_150 : decode cX11_account 150 = .ok (.iload_n 2, 1) := by decide +kernel
theorem dX11_account_151 : decode cX11_account 151 = .ok (.ireturn, 1) := by decide +kernel
theorem dX11_account_152 : decode cX11_account 152 = .ok (.aload_n 0, 1) := by decide +kernel
theorem dX11_account_153 : decode cX11_account 153 = .ok (.getfield 60, 3) := by decide +kernel
theorem dX11_account_156 : decode cX11_account 156 = .ok (.ireturn, 1) := by decide +kernel
theorem dX11_account_157 : decode cX11_account 157 = .ok (.aload_n 0, 1) := by decide +kernel
theorem dX11_account_158 : decode cX11_account 158 = .ok (.getfield 228, 3) := by decide +kernel
theorem dX11_account_161 : decode cX11_account 161 = .ok (.ireturn, 1) := by decide +kernel
theorem dX11_account_162 : decode cX11_account 162 = .ok (.aload_n 0, 1) := by decide +kernel
theorem dX11_account_163 : decode cX11_account 163 = .ok (.iconst 1, 1) := by decide +kernel
theorem dX11_account_164 : decode cX11_account 164 = .ok (.invokevirtual 83, 3) := by decide +kernel
theorem dX11_account_167 : decode cX11_account 167 = .ok (.ireturn, 1) := by decide +kernel
set_option maxRecDepth 20000 in
theorem ggX11_undo_X11_raises : GoodIn wsX11_undo wsX11_raises := goodIn_r _ [9, 1, 10, 11, 12, 13, 14, 15, 16, 17, 18, 19, 20, 21, 22, 23, 24, 25, 26, 27, 28, 29, 30, 31, 32, 33, 34] rfl (by decide +kernel)
set_option maxRecDepth 20000 in
theorem gX11_undo_X11_raises : GoodIn wsX11_undo (wsV RX11 83 RX11 yX11_raises wsX11_raises) := goodIn_app (goodIn_of _ (by decide +kernel)) ggX11_undo_X11_raises
theorem dX11_undo_0 : decode cX11_undo 0 = .ok (.aload_n 0, 1) := by decide +kernel
theorem dX11_undo_1 : decode cX11_undo 1 = .ok (.iconst 0, 1) := by decide +kernel
theorem dX11_undo_2 : decode cX11_undo 2 = .ok (.putfield 47, 3) := by decide +kernel
theorem dX11_undo_5 : decode cX11_undo 5 = .ok (.aload_n 0, 1) := by decide +kernel
theorem dX11_undo_6 : decode cX11_undo 6 = .ok (.getfield 60, 3) := by decide +kernel
theorem dX11_undo_9 : decode cX11_undo 9 = .ok (.ifCond .ne 9, 3) := by decide +kernel
theorem dX11_undo_12 : decode cX11_undo 12 = .ok (.aload_n 0, 1) := by decide +kernel
theorem dX11_undo_13 : decode cX11_undo 13 = .ok (.iconst 1, 1) := by decide +kernel
theorem dX11_undo_14 : decode cX11_undo 14 = .ok (.invokevirtual 83, 3) := by decide +kernel
theorem dX11_undo_17 : decode cX11_undo 17 = .ok (.ireturn, 1) := by decide +kernel
set_option maxRecDepth 20000 in
theorem ggX11_save_X11_copies : GoodIn wsX11_save wsX11_copies := goodIn_ca (goodIn_r _ [8] rfl (by decide +kernel)) (goodIn_sub (fun _ h => List.mem_cons_of_mem _ (List.mem_append_right _ h)) (by decide +kernel))
set_option maxRecDepth 20000 in
theorem gX11_save_X11_copies : GoodIn wsX11_save (va_wsS RX11 50 yX11_copies wsX11_copies) := goodIn_app (goodIn_of _ (by decide +kernel)) ggX11_save_X11_copies
theorem dX11_save_0 : decode cX11_save 0 = .ok (.aload_n 0, 1) := by decide +kernel
theorem dX11_save_1 : decode cX11_save 1 = .ok (.iconst 0, 1) := by decide +kernel
theorem dX11_save_2 : decode cX11_save 2 = .ok (.putfield 47, 3) := by decide +kernel
theorem dX11_save_5 : decode cX11_save 5 = .ok (.aload_n 0, 1) := by decide +kernel
theorem dX11_save_6 : decode cX11_save 6 = .ok (.iconst 1, 1) := by decide +kernel
theorem dX11_save_7 : decode cX11_save 7 = .ok (.putfield 262, 3) := by decide +kernel
theorem dX11_save_10 : decode cX11_save 10 = .ok (.aload_n 0, 1) := by decide +kernel
theorem dX11_save_11 : decode cX11_save 11 = .ok (.getfield 9, 3) := by decide +kernel
theorem dX11_save_14 : decode cX11_save 14 = .ok (.aload_n 0, 1) := by decide +kernel
theorem dX11_save_15 : decode cX11_save 15 = .ok (.getfield 23, 3) := by decide +kernel
theorem dX11_save_18 : decode cX11_save 18 = .ok (.invokestatic 50, 3) := by decide +kernel
theorem dX11_save_21 : decode cX11_save 21 = .ok (.aload_n 0, 1) := by decide +kernel
theorem dX11_save_22 : decode cX11_save 22 = .ok (.getfield 9, 3) := by decide +kernel
theorem dX11_save_25 : decode cX11_save 25 = .ok (.iconst 0, 1) := by decide +kernel
theorem dX11_save_26 : decode cX11_save 26 = .ok (.iaload, 1) := by decide +kernel
theorem dX11_save_27 : decode cX11_save 27 = .ok (.ireturn, 1) := by decide +kernel
set_option maxRecDepth 20000 in
theorem ggX11_restore_X11_raises : GoodIn wsX11_restore wsX11_raises := goodIn_r _ [10, 1, 14, 15, 16, 17, 18, 19, 20, 21, 22, 23, 24, 25, 26, 27, 28, 29, 30, 31, 32, 33, 34, 35, 36, 37, 38] rfl (by decide +kernel)
set_option maxRecDepth 20000 in
theorem gX11_restore_X11_raises : GoodIn wsX11_restore (wsV RX11 83 RX11 yX11_raises wsX11_raises) := goodIn_app (goodIn_of _ (by decide +kernel)) ggX11_restore_X11_raises
theorem dX11_restore_0 : decode cX11_restore 0 = .ok (.aload_n 0, 1) := by decide +kernel
theorem dX11_restore_1 : decode cX11_restore 1 = .ok (.iconst 0, 1) := by decide +kernel
theorem dX11_restore_2 : decode cX11_restore 2 = .ok (.putfield 47, 3) := by decide +kernel
theorem dX11_restore_5 : decode cX11_restore 5 = .ok (.aload_n 0, 1) := by decide +kernel
theorem dX11_restore_6 : decode cX11_restore 6 = .ok (.getfield 262, 3) := by decide +kernel
theorem dX11_restore_9 : decode cX11_restore 9 = .ok (.ifCond .ne 9, 3) := by decide +kernel
theorem dX11_restore_12 : decode cX11_restore 12 = .ok (.aload_n 0, 1) := by decide +kernel
theorem dX11_restore_13 : decode cX11_restore 13 = .ok (.iconst 1, 1) := by decide +kernel
theorem dX11_restore_14 : decode cX11_restore 14 = .ok (.invokevirtual 83, 3) := by decide +kernel
theorem dX11_restore_17 : decode cX11_restore 17 = .ok (.ireturn, 1) := by decide +kernel
