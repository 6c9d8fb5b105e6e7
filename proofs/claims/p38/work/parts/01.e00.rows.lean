theorem dL_at_0 : decode cL_at 0 = .ok (.iload_n 1, 1) := by decide +kernel
theorem dL_at_1 : decode cL_at 1 = .ok (.aload_n 0, 1) := by decide +kernel
theorem dL_at_2 : decode cL_at 2 = .ok (.arraylength, 1) := by decide +kernel
theorem dL_at_3 : decode cL_at 3 = .ok (.if_icmp .ge 9, 3) := by decide +kernel
theorem dL_at_6 : decode cL_at 6 = .ok (.aload_n 0, 1) := by decide +kernel
theorem dL_at_7 : decode cL_at 7 = .ok (.iload_n 1, 1) := by decide +kernel
theorem dL_at_8 : decode cL_at 8 = .ok (.iaload, 1) := by decide +kernel
theorem dL_at_9 : decode cL_at 9 = .ok (.goto 4, 3) := by decide +kernel
theorem dL_at_12 : decode cL_at 12 = .ok (.iconst 0, 1) := by decide +kernel
theorem dL_at_13 : decode cL_at 13 = .ok (.ireturn, 1) := by decide +kernel
theorem dL_some_0 : decode cL_some 0 = .ok (.iload_n 0, 1) := by decide +kernel
theorem dL_some_1 : decode cL_some 1 = .ok (.iload_n 1, 1) := by decide +kernel
theorem dL_some_2 : decode cL_some 2 = .ok (.irem, 1) := by decide +kernel
theorem dL_some_3 : decode cL_some 3 = .ok (.istore_n 2, 1) := by decide +kernel
theorem dL_some_4 : decode cL_some 4 = .ok (.iload_n 2, 1) := by decide +kernel
theorem dL_some_5 : decode cL_some 5 = .ok (.ifCond .ge 9, 3) := by decide +kernel
theorem dL_some_8 : decode cL_some 8 = .ok (.iload_n 2, 1) := by decide +kernel
theorem dL_some_9 : decode cL_some 9 = .ok (.iload_n 1, 1) := by decide +kernel
theorem dL_some_10 : decode cL_some 10 = .ok (.iadd, 1) := by decide +kernel
theorem dL_some_11 : decode cL_some 11 = .ok (.goto 4, 3) := by decide +kernel
theorem dL_some_14 : decode cL_some 14 = .ok (.iload_n 2, 1) := by decide +kernel
theorem dL_some_15 : decode cL_some 15 = .ok (.ireturn, 1) := by decide +kernel
set_option maxRecDepth 20000 in
theorem ggL_come_X10_come : GoodIn wsL_come wsX10_come := goodIn_ca (goodIn_ca (goodIn_r _ [6, 7, 8, 9, 10, 5, 11, 12, 13, 14, 15, 16, 17, 18, 19, 20, 21, 22, 23, 24, 25, 26, 27, 28, 29, 30, 31, 32, 33, 34, 35, 36, 37, 38, 39, 40, 41, 42, 43, 44, 45, 46, 47, 48, 49, 50, 51, 52, 53, 54, 55, 56, 57, 58, 59, 60, 61, 62, 63, 64, 65, 66, 67, 68, 69, 70, 71, 72, 73, 74, 75, 76, 77, 78, 79, 80, 81, 82, 83, 84, 85, 86, 87, 88, 89, 90, 91, 92, 93, 94, 95, 96, 97, 98, 99, 100, 101, 102, 103, 104, 105, 106, 107, 108, 109, 110, 111, 112, 113, 114, 115, 116, 117, 118, 119, 120, 121, 122, 123, 124, 125, 126, 127, 128, 129, 130, 131, 132, 133, 134, 135, 136, 137, 138, 139, 140, 141, 142, 143, 144, 145, 146, 147, 148, 149, 150, 151, 152, 153, 154, 155, 156, 157, 158, 159, 160, 161, 162, 163, 164, 165, 166, 167, 168, 169, 170, 171, 172, 173, 174, 175, 176, 177, 178, 179, 180, 181, 182, 183, 184, 185, 186, 187, 188, 189, 190, 191, 192, 193, 194, 195, 196, 197, 198, 199, 200, 201, 202, 203, 204, 205, 206, 207, 208, 209, 210, 211, 212, 213, 214, 215, 216, 217, 218, 219, 220, 221, 222, 223, 224, 225, 226, 227, 228, 229, 230, 231, 232, 233, 234, 235, 236, 237, 238, 239, 240, 241, 242, 243, 244, 245, 246, 247, 248, 249, 250, 251, 252, 253, 254, 255, 256, 257, 258, 259, 260, 261, 262, 263, 264, 265, 266, 267, 268, 269, 270, 271, 272, 273, 274, 275, 276, 277, 278, 279, 280, 281, 282, 283, 284, 285, 286, 287, 288, 289, 290, 291, 292, 293, 294, 295, 296, 297, 298, 299, 300, 301, 302, 303, 304, 305, 306, 307, 308, 309, 310, 311, 312, 313, 314, 315, 316, 317, 318, 319, 320, 321, 322, 323, 324, 325, 326, 327, 328, 329, 330, 331, 332, 333, 334, 335, 336, 337, 338, 339, 340, 341, 342, 343, 344, 345, 346, 347, 348, 349, 350, 351, 352, 353] rfl (by decide +kernel)) (goodIn_sub (fun _ h => List.mem_cons_of_mem _ (List.mem_append_left _ (List.mem_append_right _ h))) (by decide +kernel))) (goodIn_sub (fun _ h => List.mem_cons_of_mem _ (List.mem_append_right _ h)) (by decide +kernel))
set_option maxRecDepth 20000 in
theorem gL_come_X10_come : GoodIn wsL_come (wsV RL 7 RX10 yX10_come wsX10_come) := goodIn_app (goodIn_of _ (by decide +kernel)) ggL_come_X10_come
theorem dL_come_0 : decode cL_come 0 = .ok (.aload_n 0, 1) := by decide +kernel
theorem dL_come_1 : decode cL_come 1 = .ok (.invokevirtual 7, 3) := by decide +kernel
theorem dL_come_4 : decode cL_come 4 = .ok (.ireturn, 1) := by decide +kernel
theorem dL_come_5 : decode cL_come 5 = .ok (.astore_n 1, 1) := by decide +kernel
theorem dL_come_6 : decode cL_come 6 = .ok (.sipush (-1001), 3) := by decide +kernel
theorem dL_come_9 : decode cL_come 9 = .ok (.ireturn, 1) := by decide +kernel
set_option maxRecDepth 20000 in
theorem ggL_canal_X10_canal : GoodIn wsL_canal wsX10_canal := goodIn_ca (goodIn_ca (goodIn_r _ [6, 7, 8, 9, 10, 5, 11, 12, 13, 14, 15, 16, 17, 18, 19, 20, 21, 22, 23, 24, 25, 26, 27, 28, 29, 30, 31, 32, 33, 34, 35, 36, 37, 38, 39, 40, 41, 42, 43, 44, 45, 46, 47, 48, 49, 50, 51, 52, 53, 54, 55, 56, 57, 58, 59, 60, 61, 62, 63, 64, 65, 66, 67, 68, 69, 70, 71, 72, 73, 74, 75, 76, 77, 78, 79, 80, 81, 82, 83, 84, 85, 86, 87, 88, 89, 90, 91, 92, 93, 94, 95, 96, 97, 98, 99, 100, 101, 102, 103, 104, 105, 106, 107, 108, 109, 110, 111, 112, 113, 114, 115, 116, 117, 118, 119, 120, 121, 122, 123, 124, 125, 126, 127, 128, 129, 130, 131, 132, 133, 134, 135, 136, 137, 138, 139, 140, 141, 142, 143, 144, 145, 146, 147, 148, 149, 150, 151, 152, 153, 154, 155, 156, 157, 158, 159, 160, 161, 162, 163, 164, 165, 166, 167, 168, 169, 170, 171, 172, 173, 174, 175, 176, 177, 178, 179, 180, 181, 182, 183, 184, 185, 186, 187, 188, 189, 190, 191, 192, 193, 194, 195, 196, 197, 198, 199, 200, 201, 202, 203, 204, 205, 206, 207, 208, 209, 210, 211, 212, 213, 214, 215, 216, 217, 218, 219, 220, 221, 222, 223, 224, 225, 226, 227, 228, 229, 230, 231, 232, 233, 234, 235, 236, 237, 238, 239, 240, 241, 242, 243, 244, 245, 246, 247, 248, 249, 250, 251, 252, 253, 254, 255, 256, 257, 258, 259, 260, 261, 262, 263, 264, 265, 266, 267, 268, 269, 270, 271, 272, 273, 274, 275, 276, 277, 278, 279, 280, 281, 282, 283, 284, 285, 286, 287, 288, 289, 290, 291, 292, 293, 294, 295, 296, 297, 298, 299, 300, 301, 302, 303, 304, 305, 306, 307, 308, 309, 310, 311, 312, 313, 314, 315, 316, 317, 318, 319, 320, 321, 322, 323, 324, 325, 326, 327, 328, 329, 330, 331, 332, 333, 334, 335, 336, 337, 338, 339, 340, 341, 342, 343, 344, 345, 346, 347, 348, 349, 350, 351, 352, 353] rfl (by decide +kernel)) (goodIn_sub (fun _ h => List.mem_cons_of_mem _ (List.mem_append_left _ (List.mem_append_right _ h))) (by decide +kernel))) (goodIn_sub (fun _ h => List.mem_cons_of_mem _ (List.mem_append_right _ h)) (by decide +kernel))
set_option maxRecDepth 20000 in
theorem gL_canal_X10_canal : GoodIn wsL_canal (wsV RL 15 RX10 yX10_canal wsX10_canal) := goodIn_app (goodIn_of _ (by decide +kernel)) ggL_canal_X10_canal
theorem dL_canal_0 : decode cL_canal 0 = .ok (.aload_n 0, 1) := by decide +kernel
theorem dL_canal_1 : decode cL_canal 1 = .ok (.iload_n 1, 1) := by decide +kernel
theorem dL_canal_2 : decode cL_canal 2 = .ok (.iload_n 2, 1) := by decide +kernel
theorem dL_canal_3 : decode cL_canal 3 = .ok (.iload_n 3, 1) := by decide +kernel
theorem dL_canal_4 : decode cL_canal 4 = .ok (.invokevirtual 15, 3) := by decide +kernel
theorem dL_canal_7 : decode cL_canal 7 = .ok (.ireturn, 1) := by decide +kernel
theorem dL_canal_8 : decode cL_canal 8 = .ok (.astore 4, 2) := by decide +kernel
theorem dL_canal_10 : decode cL_canal 10 = .ok (.sipush (-1001), 3) := by decide +kernel
theorem dL_canal_13 : decode cL_canal 13 = .ok (.ireturn, 1) := by decide +kernel
set_option maxRecDepth 20000 in
theorem ggL_close_X10_close : GoodIn wsL_close wsX10_close := goodIn_ca (goodIn_ca (goodIn_r _ [6, 7, 8, 9, 10, 5, 11, 12, 13, 14, 15, 16, 17, 18, 19, 20, 21, 22, 23, 24, 25, 26, 27, 28, 29, 30, 31, 32, 33, 34, 35, 36, 37, 38, 39, 40, 41, 42, 43, 44, 45, 46, 47, 48, 49, 50, 51, 52, 53, 54, 55, 56, 57, 58, 59, 60, 61, 62, 63, 64, 65, 66, 67, 68, 69, 70, 71, 72, 73, 74, 75, 76, 77, 78, 79, 80, 81, 82, 83, 84, 85, 86, 87, 88, 89, 90, 91, 92, 93, 94, 95, 96, 97, 98, 99, 100, 101, 102, 103, 104, 105, 106, 107, 108, 109, 110, 111, 112, 113, 114, 115, 116, 117, 118, 119, 120, 121, 122, 123, 124, 125, 126, 127, 128, 129, 130, 131, 132, 133, 134, 135, 136, 137, 138, 139, 140, 141, 142, 143, 144, 145, 146, 147, 148, 149, 150, 151, 152, 153, 154, 155, 156, 157, 158, 159, 160, 161, 162, 163, 164, 165, 166, 167, 168, 169, 170, 171, 172, 173, 174, 175, 176, 177, 178, 179, 180, 181, 182, 183, 184, 185, 186, 187, 188, 189, 190, 191, 192, 193, 194, 195, 196, 197, 198, 199, 200, 201, 202, 203, 204, 205, 206, 207, 208, 209, 210, 211, 212, 213, 214, 215, 216, 217, 218, 219, 220, 221, 222, 223, 224, 225, 226, 227, 228, 229, 230, 231, 232, 233, 234, 235, 236, 237, 238, 239, 240, 241, 242, 243, 244, 245, 246, 247, 248, 249, 250, 251, 252, 253, 254, 255, 256, 257, 258, 259, 260, 261, 262, 263, 264, 265, 266, 267, 268, 269, 270, 271, 272, 273, 274, 275, 276, 277, 278, 279, 280, 281, 282, 283, 284, 285, 286, 287, 288, 289, 290, 291, 292, 293, 294, 295, 296, 297, 298, 299, 300, 301, 302, 303, 304, 305, 306, 307, 308, 309, 310, 311, 312, 313, 314, 315, 316, 317, 318, 319, 320, 321, 322, 323, 324, 325, 326, 327, 328, 329, 330, 331, 332, 333, 334, 335, 336, 337, 338, 339, 340, 341, 342, 343, 344, 345, 346, 347, 348, 349, 350, 351, 352, 353] rfl (by decide +kernel)) (goodIn_sub (fun _ h => List.mem_cons_of_mem _ (List.mem_append_left _ (List.mem_append_right _ h))) (by decide +kernel))) (goodIn_sub (fun _ h => List.mem_cons_of_mem _ (List.mem_append_right _ h)) (by decide +kernel))
set_option maxRecDepth 20000 in
theorem gL_close_X10_close : GoodIn wsL_close (wsV RL 19 RX10 yX10_close wsX10_close) := goodIn_app (goodIn_of _ (by decide +kernel)) ggL_close_X10_close
theorem dL_close_0 : decode cL_close 0 = .ok (.aload_n 0, 1) := by decide +kernel
theorem dL_close_1 : decode cL_close 1 = .ok (.iload_n 1, 1) := by decide +kernel
theorem dL_close_2 : decode cL_close 2 = .ok (.iload_n 2, 1) := by decide +kernel
theorem dL_close_3 : decode cL_close 3 = .ok (.invokevirtual 19, 3) := by decide +kernel
theorem dL_close_6 : decode cL_close 6 = .ok (.ireturn, 1) := by decide +kernel
theorem dL_close_7 : decode cL_close 7 = .ok (.astore_n 3, 1) := by decide +kernel
theorem dL_close_8 : decode cL_close 8 = .ok (.sipush (-1001), 3) := by decide +kernel
theorem dL_close_11 : decode cL_close 11 = .ok (.ireturn, 1) := by decide +kernel
set_option maxRecDepth 20000 in
theorem ggL_district_X10_district : GoodIn wsL_district wsX10_district := goodIn_ca (goodIn_ca (goodIn_r _ [6, 7, 8, 9, 10, 5, 11, 12, 13, 14, 15, 16, 17, 18, 19, 20, 21, 22, 23, 24, 25, 26, 27, 28, 29, 30, 31, 32, 33, 34, 35, 36, 37, 38, 39, 40, 41, 42, 43, 44, 45, 46, 47, 48, 49, 50, 51, 52, 53, 54, 55, 56, 57, 58, 59, 60, 61, 62, 63, 64, 65, 66, 67, 68, 69, 70, 71, 72, 73, 74, 75, 76, 77, 78, 79, 80, 81, 82, 83, 84, 85, 86, 87, 88, 89, 90, 91, 92, 93, 94, 95, 96, 97, 98, 99, 100, 101, 102, 103, 104, 105, 106, 107, 108, 109, 110, 111, 112, 113, 114, 115, 116, 117, 118, 119, 120, 121, 122, 123, 124, 125, 126, 127, 128, 129, 130, 131, 132, 133, 134, 135, 136, 137, 138, 139, 140, 141, 142, 143, 144, 145, 146, 147, 148, 149, 150, 151, 152, 153, 154, 155, 156, 157, 158, 159, 160, 161, 162, 163, 164, 165, 166, 167, 168, 169, 170, 171, 172, 173, 174, 175, 176, 177, 178, 179, 180, 181, 182, 183, 184, 185, 186, 187, 188, 189, 190, 191, 192, 193, 194, 195, 196, 197, 198, 199, 200, 201, 202, 203, 204, 205, 206, 207, 208, 209, 210, 211, 212, 213, 214, 215, 216, 217, 218, 219, 220, 221, 222, 223, 224, 225, 226, 227, 228, 229, 230, 231, 232, 233, 234, 235, 236, 237, 238, 239, 240, 241, 242, 243, 244, 245, 246, 247, 248, 249, 250, 251, 252, 253, 254, 255, 256, 257, 258, 259, 260, 261, 262, 263, 264, 265, 266, 267, 268, 269, 270, 271, 272, 273, 274, 275, 276, 277, 278, 279, 280, 281, 282, 283, 284, 285, 286, 287, 288, 289, 290, 291, 292, 293, 294, 295, 296, 297, 298, 299, 300, 301, 302, 303, 304, 305, 306, 307, 308, 309, 310, 311, 312, 313, 314, 315, 316, 317, 318, 319, 320, 321, 322, 323, 324, 325, 326, 327, 328, 329, 330, 331, 332, 333, 334, 335, 336, 337, 338, 339, 340, 341, 342, 343, 344, 345, 346, 347, 348, 349, 350, 351, 352, 353] rfl (by decide +kernel)) (goodIn_sub (fun _ h => List.mem_cons_of_mem _ (List.mem_append_left _ (List.mem_append_right _ h))) (by decide +kernel))) (goodIn_sub (fun _ h => List.mem_cons_of_mem _ (List.mem_append_right _ h)) (by decide +kernel))
set_option maxRecDepth 20000 in
theorem gL_district_X10_district : GoodIn wsL_district (wsV RL 23 RX10 yX10_district wsX10_district) := goodIn_app (goodIn_of _ (by decide +kernel)) ggL_district_X10_district
theorem dL_district_0 : decode cL_district 0 = .ok (.aload_n 0, 1) := by decide +kernel
theorem dL_district_1 : decode cL_district 1 = .ok (.iload_n 1, 1) := by decide +kernel
theorem dL_district_2 : decode cL_district 2 = .ok (.iload_n 2, 1) := by decide +kernel
theorem dL_district_3 : decode cL_district 3 = .ok (.invokevirtual 23, 3) := by decide +kernel
theorem dL_district_6 : decode cL_district 6 = .ok (.ireturn, 1) := by decide +kernel
theorem dL_district_7 : decode cL_district 7 = .ok (.astore_n 3, 1) := by decide +kernel
theorem dL_district_8 : decode cL_district 8 = .ok (.sipush (-1001), 3) := by decide +kernel
theorem dL_district_11 : decode cL_district 11 = .ok (.ireturn, 1) := by decide +kernel
set_option maxRecDepth 20000 in
theorem ggL_lose_X10_lose : GoodIn wsL_lose wsX10_lose := goodIn_ca (goodIn_ca (goodIn_r _ [6, 7, 8, 9, 10, 5, 11, 12, 13, 14, 15, 16, 17, 18, 19, 20, 21, 22, 23, 24, 25, 26, 27, 28, 29, 30, 31, 32, 33, 34, 35, 36, 37, 38, 39, 40, 41, 42, 43, 44, 45, 46, 47, 48, 49, 50, 51, 52, 53, 54, 55, 56, 57, 58, 59, 60, 61, 62, 63, 64, 65, 66, 67, 68, 69, 70, 71, 72, 73, 74, 75, 76, 77, 78, 79, 80, 81, 82, 83, 84, 85, 86, 87, 88, 89, 90, 91, 92, 93, 94, 95, 96, 97, 98, 99, 100, 101, 102, 103, 104, 105, 106, 107, 108, 109, 110, 111, 112, 113, 114, 115, 116, 117, 118, 119, 120, 121, 122, 123, 124, 125, 126, 127, 128, 129, 130, 131, 132, 133, 134, 135, 136, 137, 138, 139, 140, 141, 142, 143, 144, 145, 146, 147, 148, 149, 150, 151, 152, 153, 154, 155, 156, 157, 158, 159, 160, 161, 162, 163, 164, 165, 166, 167, 168, 169, 170, 171, 172, 173, 174, 175, 176, 177, 178, 179, 180, 181, 182, 183, 184, 185, 186, 187, 188, 189, 190, 191, 192, 193, 194, 195, 196, 197, 198, 199, 200, 201, 202, 203, 204, 205, 206, 207, 208, 209, 210, 211, 212, 213, 214, 215, 216, 217, 218, 219, 220, 221, 222, 223, 224, 225, 226, 227, 228, 229, 230, 231, 232, 233, 234, 235, 236, 237, 238, 239, 240, 241, 242, 243, 244, 245, 246, 247, 248, 249, 250, 251, 252, 253, 254, 255, 256, 257, 258, 259, 260, 261, 262, 263, 264, 265, 266, 267, 268, 269, 270, 271, 272, 273, 274, 275, 276, 277, 278, 279, 280, 281, 282, 283, 284, 285, 286, 287, 288, 289, 290, 291, 292, 293, 294, 295, 296, 297, 298, 299, 300, 301, 302, 303, 304, 305, 306, 307, 308, 309, 310, 311, 312, 313, 314, 315, 316, 317, 318, 319, 320, 321, 322, 323, 324, 325, 326, 327, 328, 329, 330, 331, 332, 333, 334, 335, 336, 337, 338, 339, 340, 341, 342, 343, 344, 345, 346, 347, 348, 349, 350, 351, 352, 353] rfl (by decide +kernel)) (goodIn_sub (fun _ h => List.mem_cons_of_mem _ (List.mem_append_left _ (List.mem_append_right _ h))) (by decide +kernel))) (goodIn_sub (fun _ h => List.mem_cons_of_mem _ (List.mem_append_right _ h)) (by decide +kernel))
set_option maxRecDepth 20000 in
theorem gL_lose_X10_lose : GoodIn wsL_lose (wsV RL 26 RX10 yX10_lose wsX10_lose) := goodIn_app (goodIn_of _ (by decide +kernel)) ggL_lose_X10_lose
theorem dL_lose_0 : decode cL_lose 0 = .ok (.aload_n 0, 1) := by decide +kernel
theorem dL_lose_1 : decode cL_lose 1 = .ok (.invokevirtual 26, 3) := by decide +kernel
theorem dL_lose_4 : decode cL_lose 4 = .ok (.ireturn, 1) := by decide +kernel
theorem dL_lose_5 : decode cL_lose 5 = .ok (.astore_n 1, 1) := by decide +kernel
theorem dL_lose_6 : decode cL_lose 6 = .ok (.sipush (-1001), 3) := by decide +kernel
theorem dL_lose_9 : decode cL_lose 9 = .ok (.ireturn, 1) := by decide +kernel
set_option maxRecDepth 20000 in
theorem ggL_pass_X10_pass : GoodIn wsL_pass wsX10_pass := goodIn_ca (goodIn_ca (goodIn_r _ [6, 7, 8, 9, 10, 5, 11, 12, 13, 14, 15, 16, 17, 18, 19, 20, 21, 22, 23, 24, 25, 26, 27, 28, 29, 30, 31, 32, 33, 34, 35, 36, 37, 38, 39, 40, 41, 42, 43, 44, 45, 46, 47, 48, 49, 50, 51, 52, 53, 54, 55, 56, 57, 58, 59, 60, 61, 62, 63, 64, 65, 66, 67, 68, 69, 70, 71, 72, 73, 74, 75, 76, 77, 78, 79, 80, 81, 82, 83, 84, 85, 86, 87, 88, 89, 90, 91, 92, 93, 94, 95, 96, 97, 98, 99, 100, 101, 102, 103, 104, 105, 106, 107, 108, 109, 110, 111, 112, 113, 114, 115, 116, 117, 118, 119, 120, 121, 122, 123, 124, 125, 126, 127, 128, 129, 130, 131, 132, 133, 134, 135, 136, 137, 138, 139, 140, 141, 142, 143, 144, 145, 146, 147, 148, 149, 150, 151, 152, 153, 154, 155, 156, 157, 158, 159, 160, 161, 162, 163, 164, 165, 166, 167, 168, 169, 170, 171, 172, 173, 174, 175, 176, 177, 178, 179, 180, 181, 182, 183, 184, 185, 186, 187, 188, 189, 190, 191, 192, 193, 194, 195, 196, 197, 198, 199, 200, 201, 202, 203, 204, 205, 206, 207, 208, 209, 210, 211, 212, 213, 214, 215, 216, 217, 218, 219, 220, 221, 222, 223, 224, 225, 226, 227, 228, 229, 230, 231, 232, 233, 234, 235, 236, 237, 238, 239, 240, 241, 242, 243, 244, 245, 246, 247, 248, 249, 250, 251, 252, 253, 254, 255, 256, 257, 258, 259, 260, 261, 262, 263, 264, 265, 266, 267, 268, 269, 270, 271, 272, 273, 274, 275, 276, 277, 278, 279, 280, 281, 282, 283, 284, 285, 286, 287, 288, 289, 290, 291, 292, 293, 294, 295, 296, 297, 298, 299, 300, 301, 302, 303, 304, 305, 306, 307, 308, 309, 310, 311, 312, 313, 314, 315, 316, 317, 318, 319, 320, 321, 322, 323, 324, 325, 326, 327, 328, 329, 330, 331, 332, 333, 334, 335, 336, 337, 338, 339, 340, 341, 342, 343, 344, 345, 346, 347, 348, 349, 350, 351, 352, 353] rfl (by decide +kernel)) (goodIn_sub (fun _ h => List.mem_cons_of_mem _ (List.mem_append_left _ (List.mem_append_right _ h))) (by decide +kernel))) (goodIn_sub (fun _ h => List.mem_cons_of_mem _ (List.mem_append_right _ h)) (by decide +kernel))
set_option maxRecDepth 20000 in
theorem gL_pass_X10_pass : GoodIn wsL_pass (wsV RL 29 RX10 yX10_pass wsX10_pass) := goodIn_app (goodIn_of _ (by decide +kernel)) ggL_pass_X10_pass
theorem dL_pass_0 : decode cL_pass 0 = .ok (.aload_n 0, 1) := by decide +kernel
theorem dL_pass_1 : decode cL_pass 1 = .ok (.iload_n 1, 1) := by decide +kernel
theorem dL_pass_2 : decode cL_pass 2 = .ok (.invokevirtual 29, 3) := by decide +kernel
theorem dL_pass_5 : decode cL_pass 5 = .ok (.ireturn, 1) := by decide +kernel
theorem dL_pass_6 : decode cL_pass 6 = .ok (.astore_n 2, 1) := by decide +kernel
theorem dL_pass_7 : decode cL_pass 7 = .ok (.sipush (-1001), 3) := by decide +kernel
theorem dL_pass_10 : decode cL_pass 10 = .ok (.ireturn, 1) := by decide +kernel
set_option maxRecDepth 20000 in
theorem ggL_surveyorOf_X10_surveyorOf : GoodIn wsL_surveyorOf wsX10_surveyorOf := goodIn_ca (goodIn_ca (goodIn_ca (goodIn_r _ [6, 7, 8, 9, 10, 11, 12, 5, 13, 14, 15, 16, 17, 18, 19, 20, 21, 22, 23, 24, 25, 26, 27, 28, 29, 30, 31, 32, 33, 34, 35, 36, 37, 38, 39, 40, 41, 42, 43, 44, 45, 46, 47, 48, 49, 50, 51, 52, 53, 54, 55, 56, 57, 58, 59, 60, 61, 62, 63, 64, 65, 66, 67, 68, 69, 70, 71, 72, 73, 74, 75, 76, 77, 78, 79, 80, 81, 82, 83, 84, 85, 86, 87, 88, 89, 90, 91, 92, 93, 94, 95, 96, 97, 98, 99, 100, 101, 102, 103, 104, 105, 106, 107, 108, 109, 110, 111, 112, 113, 114, 115, 116, 117, 118, 119, 120, 121, 122, 123, 124, 125, 126, 127, 128, 129, 130, 131, 132, 133, 134, 135, 136, 137, 138, 139, 140, 141, 142, 143, 144, 145, 146] rfl (by decide +kernel)) (goodIn_sub (fun _ h => List.mem_cons_of_mem _ (List.mem_append_left _ (List.mem_append_left _ (List.mem_append_right _ h)))) (by decide +kernel))) (goodIn_sub (fun _ h => List.mem_cons_of_mem _ (List.mem_append_left _ (List.mem_append_right _ h))) (by decide +kernel))) (goodIn_sub (fun _ h => List.mem_cons_of_mem _ (List.mem_append_right _ h)) (by decide +kernel))
set_option maxRecDepth 20000 in
theorem gL_surveyorOf_X10_surveyorOf : GoodIn wsL_surveyorOf (wsV RL 33 RX10 yX10_surveyorOf wsX10_surveyorOf) := goodIn_app (goodIn_of _ (by decide +kernel)) ggL_surveyorOf_X10_surveyorOf
theorem dL_surveyorOf_0 : decode cL_surveyorOf 0 = .ok (.aload_n 0, 1) := by decide +kernel
theorem dL_surveyorOf_1 : decode cL_surveyorOf 1 = .ok (.iload_n 1, 1) := by decide +kernel
theorem dL_surveyorOf_2 : decode cL_surveyorOf 2 = .ok (.iload_n 2, 1) := by decide +kernel
theorem dL_surveyorOf_3 : decode cL_surveyorOf 3 = .ok (.invokevirtual 33, 3) := by decide +kernel
theorem dL_surveyorOf_6 : decode cL_surveyorOf 6 = .ok (.ireturn, 1) := by decide +kernel
theorem dL_surveyorOf_7 : decode cL_surveyorOf 7 = .ok (.astore_n 3, 1) := by decide +kernel
theorem dL_surveyorOf_8 : decode cL_surveyorOf 8 = .ok (.sipush (-1001), 3) := by decide +kernel
theorem dL_surveyorOf_11 : decode cL_surveyorOf 11 = .ok (.ireturn, 1) := by decide +kernel
theorem dL_surveyorOf_12 : decode cL_surveyorOf 12 = .ok (.astore_n 3, 1) := by decide +kernel
theorem dL_surveyorOf_13 : decode cL_surveyorOf 13 = .ok (.sipush (-1002), 3) := by decide +kernel
theorem dL_surveyorOf_16 : decode cL_surveyorOf 16 = .ok (.ireturn, 1) := by decide +kernel
set_option maxRecDepth 20000 in
theorem ggL_cost_X10_cost : GoodIn wsL_cost wsX10_cost := goodIn_ca (goodIn_ca (goodIn_ca (goodIn_r _ [6, 7, 8, 9, 10, 11, 12, 5, 13, 14, 15, 16, 17, 18, 19, 20, 21, 22, 23, 24, 25, 26, 27, 28, 29, 30, 31, 32, 33, 34, 35, 36, 37, 38, 39, 40, 41, 42, 43, 44, 45, 46, 47, 48, 49] rfl (by decide +kernel)) (goodIn_sub (fun _ h => List.mem_cons_of_mem _ (List.mem_append_left _ (List.mem_append_left _ (List.mem_append_right _ h)))) (by decide +kernel))) (goodIn_sub (fun _ h => List.mem_cons_of_mem _ (List.mem_append_left _ (List.mem_append_right _ h))) (by decide +kernel))) (goodIn_sub (fun _ h => List.mem_cons_of_mem _ (List.mem_append_right _ h)) (by decide +kernel))
set_option maxRecDepth 20000 in
theorem gL_cost_X10_cost : GoodIn wsL_cost (wsV RL 40 RX10 yX10_cost wsX10_cost) := goodIn_app (goodIn_of _ (by decide +kernel)) ggL_cost_X10_cost
theorem dL_cost_0 : decode cL_cost 0 = .ok (.aload_n 0, 1) := by decide +kernel
theorem dL_cost_1 : decode cL_cost 1 = .ok (.iload_n 1, 1) := by decide +kernel
theorem dL_cost_2 : decode cL_cost 2 = .ok (.iload_n 2, 1) := by decide +kernel
theorem dL_cost_3 : decode cL_cost 3 = .ok (.invokevirtual 40, 3) := by decide +kernel
theorem dL_cost_6 : decode cL_cost 6 = .ok (.ireturn, 1) := by decide +kernel
theorem dL_cost_7 : decode cL_cost 7 = .ok (.astore_n 3, 1) := by decide +kernel
theorem dL_cost_8 : decode cL_cost 8 = .ok (.sipush (-1001), 3) := by decide +kernel
theorem dL_cost_11 : decode cL_cost 11 = .ok (.ireturn, 1) := by decide +kernel
theorem dL_cost_12 : decode cL_cost 12 = .ok (.astore_n 3, 1) := by decide +kernel
theorem dL_cost_13 : decode cL_cost 13 = .ok (.sipush (-1002), 3) := by decide +kernel
theorem dL_cost_16 : decode cL_cost 16 = .ok (.ireturn, 1) := by decide +kernel
set_option maxRecDepth 20000 in
theorem ggL_page_X10_page : GoodIn wsL_page wsX10_page := goodIn_ca (goodIn_ca (goodIn_ca (goodIn_ca (goodIn_r _ [6, 7, 8, 9, 10, 11, 12, 13, 14, 5, 15, 16, 17, 18, 19, 20, 21, 22, 23, 24, 25, 26, 27, 28, 29, 30, 31, 32, 33, 34, 35, 36, 37, 38, 39, 40, 41, 42, 43, 44, 45, 46, 47, 48, 49, 50, 51, 52, 53, 54, 55, 56, 57, 58, 59, 60, 61, 62, 63, 64, 65, 66, 67, 68, 69, 70, 71, 72, 73, 74, 75, 76, 77, 78, 79, 80, 81, 82, 83, 84, 85, 86, 87, 88, 89, 90, 91, 92, 93, 94, 95, 96, 97, 98, 99, 100, 101, 102, 103, 104, 105, 106, 107, 108] rfl (by decide +kernel)) (goodIn_sub (fun _ h => List.mem_cons_of_mem _ (List.mem_append_left _ (List.mem_append_left _ (List.mem_append_left _ (List.mem_append_right _ h))))) (by decide +kernel))) (goodIn_sub (fun _ h => List.mem_cons_of_mem _ (List.mem_append_left _ (List.mem_append_left _ (List.mem_append_right _ h)))) (by decide +kernel))) (goodIn_sub (fun _ h => List.mem_cons_of_mem _ (List.mem_append_left _ (List.mem_append_right _ h))) (by decide +kernel))) (goodIn_sub (fun _ h => List.mem_cons_of_mem _ (List.mem_append_right _ h)) (by decide +kernel))
set_option maxRecDepth 20000 in
theorem gL_page_X10_page : GoodIn wsL_page (wsV RL 45 RX10 yX10_page wsX10_page) := goodIn_app (goodIn_of _ (by decide +kernel)) ggL_page_X10_page
theorem dL_page_0 : decode cL_page 0 = .ok (.aload_n 0, 1) := by decide +kernel
theorem dL_page_1 : decode cL_page 1 = .ok (.iload_n 1, 1) := by decide +kernel
theorem dL_page_2 : decode cL_page 2 = .ok (.iload_n 2, 1) := by decide +kernel
theorem dL_page_3 : decode cL_page 3 = .ok (.iload_n 3, 1) := by decide +kernel
theorem dL_page_4 : decode cL_page 4 = .ok (.invokevirtual 45, 3) := by decide +kernel
theorem dL_page_7 : decode cL_page 7 = .ok (.ireturn, 1) := by decide +kernel
theorem dL_page_8 : decode cL_page 8 = .ok (.astore 4, 2) := by decide +kernel
theorem dL_page_10 : decode cL_page 10 = .ok (.sipush (-1001), 3) := by decide +kernel
theorem dL_page_13 : decode cL_page 13 = .ok (.ireturn, 1) := by decide +kernel
theorem dL_page_14 : decode cL_page 14 = .ok (.astore 4, 2) := by decide +kernel
theorem dL_page_16 : decode cL_page 16 = .ok (.sipush (-1002), 3) := by decide +kernel
theorem dL_page_19 : decode cL_page 19 = .ok (.ireturn, 1) := by decide +kernel
theorem dL_page_20 : decode cL_page 20 = .ok (.astore 4, 2) := by decide +kernel
theorem dL_page_22 : decode cL_page 22 = .ok (.sipush (-1003), 3) := by decide +kernel
theorem dL_page_25 : decode cL_page 25 = .ok (.ireturn, 1) := by decide +kernel
set_option maxRecDepth 20000 in
theorem ggL_told_X10_told : GoodIn wsL_told wsX10_told := goodIn_ca (goodIn_ca (goodIn_ca (goodIn_r _ [6, 7, 8, 9, 10, 11, 12, 5, 13, 14, 15, 16, 17, 18, 19, 20, 21, 22, 23, 24, 25, 26, 27, 28, 29, 30, 31, 32, 33, 34, 35, 36, 37, 38, 39, 40, 41, 42, 43, 44, 45, 46, 47, 48, 49, 50, 51, 52, 53, 54, 55, 56, 57, 58, 59, 60, 61, 62, 63, 64, 65, 66, 67, 68, 69, 70, 71, 72, 73, 74, 75, 76, 77, 78, 79, 80, 81, 82, 83, 84, 85, 86, 87, 88, 89, 90, 91, 92, 93, 94, 95, 96] rfl (by decide +kernel)) (goodIn_sub (fun _ h => List.mem_cons_of_mem _ (List.mem_append_left _ (List.mem_append_left _ (List.mem_append_right _ h)))) (by decide +kernel))) (goodIn_sub (fun _ h => List.mem_cons_of_mem _ (List.mem_append_left _ (List.mem_append_right _ h))) (by decide +kernel))) (goodIn_sub (fun _ h => List.mem_cons_of_mem _ (List.mem_append_right _ h)) (by decide +kernel))
set_option maxRecDepth 20000 in
theorem gL_told_X10_told : GoodIn wsL_told (wsV RL 48 RX10 yX10_told wsX10_told) := goodIn_app (goodIn_of _ (by decide +kernel)) ggL_told_X10_told
theorem dL_told_0 : decode cL_told 0 = .ok (.aload_n 0, 1) := by decide +kernel
theorem dL_told_1 : decode cL_told 1 = .ok (.iload_n 1, 1) := by decide +kernel
theorem dL_told_2 : decode cL_told 2 = .ok (.iload_n 2, 1) := by decide +kernel
theorem dL_told_3 : decode cL_told 3 = .ok (.iload_n 3, 1) := by decide +kernel
theorem dL_told_4 : decode cL_told 4 = .ok (.invokevirtual 48, 3) := by decide +kernel
theorem dL_told_7 : decode cL_told 7 = .ok (.ireturn, 1) := by decide +kernel
theorem dL_told_8 : decode cL_told 8 = .ok (.astore 4, 2) := by decide +kernel
theorem dL_told_10 : decode cL_told 10 = .ok (.sipush (-1001), 3) := by decide +kernel
theorem dL_told_13 : decode cL_told 13 = .ok (.ireturn, 1) := by decide +kernel
theorem dL_told_14 : decode cL_told 14 = .ok (.astore 4, 2) := by decide +kernel
theorem dL_told_16 : decode cL_told 16 = .ok (.sipush (-1002), 3) := by decide +kernel
theorem dL_told_19 : decode cL_told 19 = .ok (.ireturn, 1) := by decide +kernel
set_option maxRecDepth 20000 in
theorem ggL_letter_X10_letter : GoodIn wsL_letter wsX10_letter := goodIn_ca (goodIn_ca (goodIn_ca (goodIn_r _ [6, 7, 8, 9, 10, 11, 12, 13, 14, 15, 16, 17, 18, 19, 20, 21, 22, 23, 24, 25, 26, 27, 28, 29, 30, 31, 32, 33, 34, 35, 36, 37, 38, 39, 40, 41, 42, 43, 44, 45, 46, 47, 48, 49, 50, 51, 52, 53, 54, 55, 56, 57, 58, 59, 60, 61, 62, 63, 64, 65, 66, 67, 68, 69, 70, 71, 72, 73, 74, 75, 76, 77, 78, 79, 80, 81, 82, 83, 84, 85, 86, 87, 88, 89, 90, 91, 92, 93, 94, 95, 96, 97, 98, 99, 100, 101, 102, 103, 104, 105] rfl (by decide +kernel)) (goodIn_sub (fun _ h => List.mem_cons_of_mem _ (List.mem_append_left _ (List.mem_append_left _ (List.mem_append_right _ h)))) (by decide +kernel))) (goodIn_sub (fun _ h => List.mem_cons_of_mem _ (List.mem_append_left _ (List.mem_append_right _ h))) (by decide +kernel))) (goodIn_sub (fun _ h => List.mem_cons_of_mem _ (List.mem_append_right _ h)) (by decide +kernel))
set_option maxRecDepth 20000 in
theorem gL_letter_X10_letter : GoodIn wsL_letter (wsV RL 51 RX10 yX10_letter wsX10_letter) := goodIn_app (goodIn_of _ (by decide +kernel)) ggL_letter_X10_letter
theorem dL_letter_0 : decode cL_letter 0 = .ok (.aload_n 0, 1) := by decide +kernel
theorem dL_letter_1 : decode cL_letter 1 = .ok (.iload_n 1, 1) := by decide +kernel
theorem dL_letter_2 : decode cL_letter 2 = .ok (.iload_n 2, 1) := by decide +kernel
theorem dL_letter_3 : decode cL_letter 3 = .ok (.invokevirtual 51, 3) := by decide +kernel
theorem dL_letter_6 : decode cL_letter 6 = .ok (.ireturn, 1) := by decide +kernel
theorem dL_letter_7 : decode cL_letter 7 = .ok (.astore_n 3, 1) := by decide +kernel
theorem dL_letter_8 : decode cL_letter 8 = .ok (.sipush (-1001), 3) := by decide +kernel
theorem dL_letter_11 : decode cL_letter 11 = .ok (.ireturn, 1) := by decide +kernel
theorem dL_letter_12 : decode cL_letter 12 = .ok (.astore_n 3, 1) := by decide +kernel
theorem dL_letter_13 : decode cL_letter 13 = .ok (.sipush (-1002), 3) := by decide +kernel
theorem dL_letter_16 : decode cL_letter 16 = .ok (.ireturn, 1) := by decide +kernel
set_option maxRecDepth 20000 in
theorem ggL_distance_X10_distance : GoodIn wsL_distance wsX10_distance := goodIn_ca (goodIn_ca (goodIn_ca (goodIn_r _ [6, 7, 8, 9, 10, 11, 5, 12, 13, 14, 15, 16, 17, 18, 19, 20, 21, 22, 23, 24, 25, 26, 27, 28, 29, 30, 31, 32, 33, 34, 35, 36, 37, 38, 39, 40, 41, 42, 43, 44, 45, 46, 47, 48, 49, 50, 51, 52, 53, 54, 55, 56, 57, 58, 59, 60, 61, 62, 63, 64, 65, 66, 67, 68, 69, 70, 71, 72, 73, 74, 75, 76, 77, 78, 79, 80, 81, 82, 83, 84, 85, 86, 87, 88, 89, 90, 91, 92, 93, 94, 95, 96, 97, 98, 99, 100, 101, 102, 103, 104, 105, 106, 107, 108, 109, 110, 111, 112, 113, 114, 115, 116, 117, 118, 119, 120, 121, 122, 123, 124, 125, 126, 127, 128, 129, 130, 131, 132, 133, 134, 135] rfl (by decide +kernel)) (goodIn_sub (fun _ h => List.mem_cons_of_mem _ (List.mem_append_left _ (List.mem_append_left _ (List.mem_append_right _ h)))) (by decide +kernel))) (goodIn_sub (fun _ h => List.mem_cons_of_mem _ (List.mem_append_left _ (List.mem_append_right _ h))) (by decide +kernel))) (goodIn_sub (fun _ h => List.mem_cons_of_mem _ (List.mem_append_right _ h)) (by decide +kernel))
set_option maxRecDepth 20000 in
theorem gL_distance_X10_distance : GoodIn wsL_distance (wsV RL 54 RX10 yX10_distance wsX10_distance) := goodIn_app (goodIn_of _ (by decide +kernel)) ggL_distance_X10_distance
theorem dL_distance_0 : decode cL_distance 0 = .ok (.aload_n 0, 1) := by decide +kernel
theorem dL_distance_1 : decode cL_distance 1 = .ok (.iload_n 1, 1) := by decide +kernel
theorem dL_distance_2 : decode cL_distance 2 = .ok (.iload_n 2, 1) := by decide +kernel
theorem dL_distance_3 : decode cL_distance 3 = .ok (.invokevirtual 54, 3) := by decide +kernel
theorem dL_distance_6 : decode cL_distance 6 = .ok (.ireturn, 1) := by decide +kernel
theorem dL_distance_7 : decode cL_distance 7 = .ok (.astore_n 3, 1) := by decide +kernel
theorem dL_distance_8 : decode cL_distance 8 = .ok (.sipush (-1001), 3) := by decide +kernel
theorem dL_distance_11 : decode cL_distance 11 = .ok (.ireturn, 1) := by decide +kernel
theorem dL_distance_12 : decode cL_distance 12 = .ok (.astore_n 3, 1) := by decide +kernel
theorem dL_distance_13 : decode cL_distance 13 = .ok (.sipush (-1002), 3) := by decide +kernel
theorem dL_distance_16 : decode cL_distance 16 = .ok (.ireturn, 1) := by decide +kernel
set_option maxRecDepth 20000 in
theorem ggL_distanceAgain_X10_distanceAgain : GoodIn wsL_distanceAgain wsX10_distanceAgain := goodIn_ca (goodIn_ca (goodIn_ca (goodIn_r _ [6, 7, 8, 9, 10, 11, 5, 12, 13, 14, 15, 16, 17, 18, 19, 20, 21, 22, 23, 24, 25, 26, 27, 28, 29, 30, 31, 32, 33, 34, 35, 36, 37, 38, 39, 40, 41, 42, 43, 44, 45, 46, 47, 48, 49, 50, 51, 52, 53, 54, 55, 56, 57, 58, 59, 60, 61, 62, 63, 64, 65, 66, 67, 68, 69, 70, 71, 72, 73, 74, 75, 76, 77, 78, 79, 80, 81, 82, 83, 84, 85, 86, 87, 88, 89, 90, 91, 92, 93, 94, 95, 96, 97, 98, 99, 100, 101, 102, 103, 104, 105, 106, 107, 108, 109, 110, 111, 112, 113, 114, 115, 116, 117, 118, 119, 120, 121, 122, 123, 124, 125, 126, 127, 128, 129, 130, 131] rfl (by decide +kernel)) (goodIn_sub (fun _ h => List.mem_cons_of_mem _ (List.mem_append_left _ (List.mem_append_left _ (List.mem_append_right _ h)))) (by decide +kernel))) (goodIn_sub (fun _ h => List.mem_cons_of_mem _ (List.mem_append_left _ (List.mem_append_right _ h))) (by decide +kernel))) (goodIn_sub (fun _ h => List.mem_cons_of_mem _ (List.mem_append_right _ h)) (by decide +kernel))
set_option maxRecDepth 20000 in
theorem gL_distanceAgain_X10_distanceAgain : GoodIn wsL_distanceAgain (wsV RL 57 RX10 yX10_distanceAgain wsX10_distanceAgain) := goodIn_app (goodIn_of _ (by decide +kernel)) ggL_distanceAgain_X10_distanceAgain
theorem dL_distanceAgain_0 : decode cL_distanceAgain 0 = .ok (.aload_n 0, 1) := by decide +kernel
theorem dL_distanceAgain_1 : decode cL_distanceAgain 1 = .ok (.iload_n 1, 1) := by decide +kernel
theorem dL_distanceAgain_2 : decode cL_distanceAgain 2 = .ok (.iload_n 2, 1) := by decide +kernel
theorem dL_distanceAgain_3 : decode cL_distanceAgain 3 = .ok (.invokevirtual 57, 3) := by decide +kernel
theorem dL_distanceAgain_6 : decode cL_distanceAgain 6 = .ok (.ireturn, 1) := by decide +kernel
theorem dL_distanceAgain_7 : decode cL_distanceAgain 7 = .ok (.astore_n 3, 1) := by decide +kernel
theorem dL_distanceAgain_8 : decode cL_distanceAgain 8 = .ok (.sipush (-1001), 3) := by decide +kernel
theorem dL_distanceAgain_11 : decode cL_distanceAgain 11 = .ok (.ireturn, 1) := by decide +kernel
theorem dL_distanceAgain_12 : decode cL_distanceAgain 12 = .ok (.astore_n 3, 1) := by decide +kernel
theorem dL_distanceAgain_13 : decode cL_distanceAgain 13 = .ok (.sipush (-1002), 3) := by decide +kernel
theorem dL_distanceAgain_16 : decode cL_distanceAgain 16 = .ok (.ireturn, 1) := by decide +kernel
set_option maxRecDepth 20000 in
theorem ggL_next_X10_next : GoodIn wsL_next wsX10_next := goodIn_ca (goodIn_ca (goodIn_ca (goodIn_r _ [6, 7, 8, 9, 10, 11, 5, 12, 13, 14, 15, 16, 17, 18, 19, 20, 21, 22, 23, 24, 25, 26, 27, 28, 29, 30, 31, 32, 33, 34, 35, 36, 37, 38, 39, 40, 41, 42, 43, 44, 45, 46, 47, 48, 49, 50, 51, 52, 53, 54, 55, 56, 57, 58, 59, 60, 61, 62, 63, 64, 65, 66, 67, 68, 69, 70, 71, 72, 73, 74, 75, 76, 77, 78, 79, 80, 81, 82, 83, 84, 85, 86, 87, 88, 89, 90, 91, 92, 93, 94, 95, 96, 97, 98, 99, 100, 101, 102, 103, 104, 105, 106, 107, 108, 109, 110, 111, 112, 113, 114, 115, 116, 117, 118, 119, 120, 121, 122, 123, 124, 125, 126, 127, 128, 129, 130, 131, 132, 133, 134, 135, 136, 137, 138, 139] rfl (by decide +kernel)) (goodIn_sub (fun _ h => List.mem_cons_of_mem _ (List.mem_append_left _ (List.mem_append_left _ (List.mem_append_right _ h)))) (by decide +kernel))) (goodIn_sub (fun _ h => List.mem_cons_of_mem _ (List.mem_append_left _ (List.mem_append_right _ h))) (by decide +kernel))) (goodIn_sub (fun _ h => List.mem_cons_of_mem _ (List.mem_append_right _ h)) (by decide +kernel))
set_option maxRecDepth 20000 in
theorem gL_next_X10_next : GoodIn wsL_next (wsV RL 60 RX10 yX10_next wsX10_next) := goodIn_app (goodIn_of _ (by decide +kernel)) ggL_next_X10_next
theorem dL_next_0 : decode cL_next 0 = .ok (.aload_n 0, 1) := by decide +kernel
theorem dL_next_1 : decode cL_next 1 = .ok (.iload_n 1, 1) := by decide +kernel
theorem dL_next_2 : decode cL_next 2 = .ok (.iload_n 2, 1) := by decide +kernel
theorem dL_next_3 : decode cL_next 3 = .ok (.invokevirtual 60, 3) := by decide +kernel
theorem dL_next_6 : decode cL_next 6 = .ok (.ireturn, 1) := by decide +kernel
theorem dL_next_7 : decode cL_next 7 = .ok (.astore_n 3, 1) := by decide +kernel
theorem dL_next_8 : decode cL_next 8 = .ok (.sipush (-1001), 3) := by decide +kernel
theorem dL_next_11 : decode cL_next 11 = .ok (.ireturn, 1) := by decide +kernel
theorem dL_next_12 : decode cL_next 12 = .ok (.astore_n 3, 1) := by decide +kernel
theorem dL_next_13 : decode cL_next 13 = .ok (.sipush (-1002), 3) := by decide +kernel
theorem dL_next_16 : decode cL_next 16 = .ok (.ireturn, 1) := by decide +kernel
set_option maxRecDepth 20000 in
theorem ggL_reached_X10_reached : GoodIn wsL_reached wsX10_reached := goodIn_ca (goodIn_ca (goodIn_r _ [6, 7, 8, 9, 10, 11, 12, 5, 13, 14, 15, 16, 17, 18, 19, 20, 21, 22, 23, 24, 25, 26, 27, 28, 29, 30, 31, 32, 33, 34, 35, 36, 37, 38, 39, 40, 41, 42, 43, 44, 45, 46, 47, 48, 49, 50, 51, 52, 53, 54, 55, 56, 57, 58, 59, 60, 61, 62, 63, 64, 65, 66, 67, 68, 69, 70, 71, 72, 73, 74, 75, 76, 77, 78, 79, 80, 81, 82, 83, 84, 85, 86, 87, 88, 89, 90, 91, 92, 93, 94, 95, 96, 97, 98, 99, 100, 101, 102, 103, 104, 105, 106, 107, 108, 109, 110, 111, 112, 113, 114, 115, 116, 117, 118, 119, 120, 121, 122, 123, 124, 125, 126, 127, 128, 129, 130] rfl (by decide +kernel)) (goodIn_sub (fun _ h => List.mem_cons_of_mem _ (List.mem_append_left _ (List.mem_append_right _ h))) (by decide +kernel))) (goodIn_sub (fun _ h => List.mem_cons_of_mem _ (List.mem_append_right _ h)) (by decide +kernel))
set_option maxRecDepth 20000 in
theorem gL_reached_X10_reached : GoodIn wsL_reached (wsV RL 63 RX10 yX10_reached wsX10_reached) := goodIn_app (goodIn_of _ (by decide +kernel)) ggL_reached_X10_reached
theorem dL_reached_0 : decode cL_reached 0 = .ok (.aload_n 0, 1) := by decide +kernel
theorem dL_reached_1 : decode cL_reached 1 = .ok (.iload_n 1, 1) := by decide +kernel
theorem dL_reached_2 : decode cL_reached 2 = .ok (.invokevirtual 63, 3) := by decide +kernel
theorem dL_reached_5 : decode cL_reached 5 = .ok (.ireturn, 1) := by decide +kernel
theorem dL_reached_6 : decode cL_reached 6 = .ok (.astore_n 2, 1) := by decide +kernel
theorem dL_reached_7 : decode cL_reached 7 = .ok (.sipush (-1001), 3) := by decide +kernel
theorem dL_reached_10 : decode cL_reached 10 = .ok (.ireturn, 1) := by decide +kernel
set_option maxRecDepth 20000 in
theorem ggL_follow_X10_follow : GoodIn wsL_follow wsX10_follow := goodIn_ca (goodIn_ca (goodIn_ca (goodIn_r _ [6, 7, 8, 9, 10, 11, 12, 5, 13, 14, 15, 16, 17, 18, 19, 20, 21, 22, 23, 24, 25, 26, 27, 28, 29, 30, 31, 32, 33, 34, 35, 36, 37, 38, 39, 40, 41, 42, 43, 44, 45, 46, 47, 48, 49, 50, 51, 52, 53, 54, 55, 56, 57, 58, 59, 60, 61, 62, 63, 64, 65, 66, 67, 68, 69, 70, 71, 72, 73, 74, 75, 76, 77, 78, 79, 80, 81, 82, 83, 84, 85, 86, 87, 88, 89, 90, 91, 92, 93, 94, 95, 96, 97, 98, 99, 100, 101, 102, 103, 104, 105, 106, 107, 108, 109, 110, 111, 112, 113, 114, 115, 116, 117, 118, 119, 120, 121, 122, 123, 124, 125, 126, 127, 128, 129, 130, 131, 132, 133, 134, 135, 136, 137, 138, 139, 140, 141, 142, 143, 144] rfl (by decide +kernel)) (goodIn_sub (fun _ h => List.mem_cons_of_mem _ (List.mem_append_left _ (List.mem_append_left _ (List.mem_append_right _ h)))) (by decide +kernel))) (goodIn_sub (fun _ h => List.mem_cons_of_mem _ (List.mem_append_left _ (List.mem_append_right _ h))) (by decide +kernel))) (goodIn_sub (fun _ h => List.mem_cons_of_mem _ (List.mem_append_right _ h)) (by decide +kernel))
set_option maxRecDepth 20000 in
theorem gL_follow_X10_follow : GoodIn wsL_follow (wsV RL 66 RX10 yX10_follow wsX10_follow) := goodIn_app (goodIn_of _ (by decide +kernel)) ggL_follow_X10_follow
theorem dL_follow_0 : decode cL_follow 0 = .ok (.aload_n 0, 1) := by decide +kernel
theorem dL_follow_1 : decode cL_follow 1 = .ok (.iload_n 1, 1) := by decide +kernel
theorem dL_follow_2 : decode cL_follow 2 = .ok (.iload_n 2, 1) := by decide +kernel
theorem dL_follow_3 : decode cL_follow 3 = .ok (.invokevirtual 66, 3) := by decide +kernel
theorem dL_follow_6 : decode cL_follow 6 = .ok (.ireturn, 1) := by decide +kernel
theorem dL_follow_7 : decode cL_follow 7 = .ok (.astore_n 3, 1) := by decide +kernel
theorem dL_follow_8 : decode cL_follow 8 = .ok (.sipush (-1001), 3) := by decide +kernel
theorem dL_follow_11 : decode cL_follow 11 = .ok (.ireturn, 1) := by decide +kernel
theorem dL_follow_12 : decode cL_follow 12 = .ok (.astore_n 3, 1) := by decide +kernel
theorem dL_follow_13 : decode cL_follow 13 = .ok (.sipush (-1002), 3) := by decide +kernel
theorem dL_follow_16 : decode cL_follow 16 = .ok (.ireturn, 1) := by decide +kernel
set_option maxRecDepth 20000 in
theorem ggL_real_X10_real : GoodIn wsL_real wsX10_real := goodIn_ca (goodIn_ca (goodIn_ca (goodIn_r _ [6, 7, 8, 9, 10, 11, 5, 12, 13, 14, 15, 16, 17, 18, 19, 20, 21, 22, 23, 24, 25, 26, 27, 28, 29, 30, 31, 32, 33, 34, 35, 36, 37, 38, 39, 40, 41, 42, 43, 44, 45, 46, 47, 48, 49, 50, 51, 52, 53, 54, 55, 56, 57, 58, 59, 60, 61, 62, 63, 64, 65, 66, 67, 68, 69, 70, 71, 72, 73, 74, 75, 76, 77, 78, 79, 80, 81, 82, 83, 84, 85, 86, 87, 88, 89, 90, 91, 92, 93, 94] rfl (by decide +kernel)) (goodIn_sub (fun _ h => List.mem_cons_of_mem _ (List.mem_append_left _ (List.mem_append_left _ (List.mem_append_right _ h)))) (by decide +kernel))) (goodIn_sub (fun _ h => List.mem_cons_of_mem _ (List.mem_append_left _ (List.mem_append_right _ h))) (by decide +kernel))) (goodIn_sub (fun _ h => List.mem_cons_of_mem _ (List.mem_append_right _ h)) (by decide +kernel))
set_option maxRecDepth 20000 in
theorem gL_real_X10_real : GoodIn wsL_real (wsV RL 69 RX10 yX10_real wsX10_real) := goodIn_app (goodIn_of _ (by decide +kernel)) ggL_real_X10_real
theorem dL_real_0 : decode cL_real 0 = .ok (.aload_n 0, 1) := by decide +kernel
theorem dL_real_1 : decode cL_real 1 = .ok (.iload_n 1, 1) := by decide +kernel
theorem dL_real_2 : decode cL_real 2 = .ok (.iload_n 2, 1) := by decide +kernel
theorem dL_real_3 : decode cL_real 3 = .ok (.invokevirtual 69, 3) := by decide +kernel
theorem dL_real_6 : decode cL_real 6 = .ok (.ireturn, 1) := by decide +kernel
theorem dL_real_7 : decode cL_real 7 = .ok (.astore_n 3, 1) := by decide +kernel
theorem dL_real_8 : decode cL_real 8 = .ok (.sipush (-1001), 3) := by decide +kernel
theorem dL_real_11 : decode cL_real 11 = .ok (.ireturn, 1) := by decide +kernel
theorem dL_real_12 : decode cL_real 12 = .ok (.astore_n 3, 1) := by decide +kernel
theorem dL_real_13 : decode cL_real 13 = .ok (.sipush (-1002), 3) := by decide +kernel
theorem dL_real_16 : decode cL_real 16 = .ok (.ireturn, 1) := by decide +kernel
set_option maxRecDepth 20000 in
theorem ggL_right_X10_isRight : GoodIn wsL_right wsX10_isRight := goodIn_ca (goodIn_ca (goodIn_r _ [6, 7, 8, 9, 10, 11, 12, 5, 13, 14, 15, 16, 17, 18, 19, 20, 21, 22, 23, 24, 25, 26, 27, 28, 29, 30, 31, 32, 33, 34, 35, 36, 37, 38, 39, 40, 41, 42, 43, 44, 45, 46, 47, 48, 49, 50, 51, 52, 53, 54, 55, 56, 57, 58, 59, 60, 61, 62, 63, 64, 65, 66, 67, 68, 69, 70, 71, 72, 73, 74, 75, 76, 77, 78, 79, 80, 81, 82, 83, 84, 85, 86, 87, 88, 89, 90, 91, 92, 93, 94, 95, 96, 97, 98, 99, 100, 101, 102, 103, 104, 105, 106, 107, 108, 109, 110, 111, 112, 113, 114, 115, 116, 117, 118, 119, 120, 121, 122, 123, 124, 125, 126, 127, 128, 129, 130, 131, 132, 133, 134, 135, 136, 137, 138, 139, 140, 141, 142, 143, 144, 145] rfl (by decide +kernel)) (goodIn_sub (fun _ h => List.mem_cons_of_mem _ (List.mem_append_left _ (List.mem_append_right _ h))) (by decide +kernel))) (goodIn_sub (fun _ h => List.mem_cons_of_mem _ (List.mem_append_right _ h)) (by decide +kernel))
set_option maxRecDepth 20000 in
theorem gL_right_X10_isRight : GoodIn wsL_right (wsV RL 72 RX10 yX10_isRight wsX10_isRight) := goodIn_app (goodIn_of _ (by decide +kernel)) ggL_right_X10_isRight
theorem dL_right_0 : decode cL_right 0 = .ok (.aload_n 0, 1) := by decide +kernel
theorem dL_right_1 : decode cL_right 1 = .ok (.iload_n 1, 1) := by decide +kernel
theorem dL_right_2 : decode cL_right 2 = .ok (.invokevirtual 72, 3) := by decide +kernel
theorem dL_right_5 : decode cL_right 5 = .ok (.ifCond .eq 7, 3) := by decide +kernel
theorem dL_right_8 : decode cL_right 8 = .ok (.iconst 1, 1) := by decide +kernel
theorem dL_right_9 : decode cL_right 9 = .ok (.goto 4, 3) := by decide +kernel
theorem dL_right_12 : decode cL_right 12 = .ok (.iconst 0, 1) := by decide +kernel
theorem dL_right_13 : decode cL_right 13 = .ok (.ireturn, 1) := by decide +kernel
theorem dL_right_14 : decode cL_right 14 = .ok (.astore_n 2, 1) := by decide +kernel
theorem dL_right_15 : decode cL_right 15 = .ok (.sipush (-1001), 3) := by decide +kernel
theorem dL_right_18 : decode cL_right 18 = .ok (.ireturn, 1) := by decide +kernel
set_option maxRecDepth 20000 in
theorem ggL_agree_X10_agree : GoodIn wsL_agree wsX10_agree := goodIn_ca (goodIn_ca (goodIn_r _ [6, 7, 8, 9, 5, 10, 11, 12, 13, 14, 15, 16, 17, 18, 19, 20, 21, 22, 23, 24, 25, 26, 27, 28, 29, 30, 31, 32, 33, 34, 35, 36, 37, 38, 39, 40, 41, 42, 43, 44, 45, 46, 47, 48, 49, 50, 51, 52, 53, 54, 55, 56, 57, 58, 59, 60, 61, 62, 63, 64, 65, 66, 67, 68, 69, 70, 71, 72, 73, 74, 75, 76, 77, 78, 79, 80, 81, 82, 83, 84, 85, 86, 87, 88, 89, 90, 91, 92, 93, 94, 95, 96] rfl (by decide +kernel)) (goodIn_sub (fun _ h => List.mem_cons_of_mem _ (List.mem_append_left _ (List.mem_append_right _ h))) (by decide +kernel))) (goodIn_sub (fun _ h => List.mem_cons_of_mem _ (List.mem_append_right _ h)) (by decide +kernel))
set_option maxRecDepth 20000 in
theorem gL_agree_X10_agree : GoodIn wsL_agree (wsV RL 76 RX10 yX10_agree wsX10_agree) := goodIn_app (goodIn_of _ (by decide +kernel)) ggL_agree_X10_agree
theorem dL_agree_0 : decode cL_agree 0 = .ok (.aload_n 0, 1) := by decide +kernel
theorem dL_agree_1 : decode cL_agree 1 = .ok (.iload_n 1, 1) := by decide +kernel
theorem dL_agree_2 : decode cL_agree 2 = .ok (.invokevirtual 76, 3) := by decide +kernel
theorem dL_agree_5 : decode cL_agree 5 = .ok (.ifCond .eq 7, 3) := by decide +kernel
theorem dL_agree_8 : decode cL_agree 8 = .ok (.iconst 1, 1) := by decide +kernel
theorem dL_agree_9 : decode cL_agree 9 = .ok (.goto 4, 3) := by decide +kernel
theorem dL_agree_12 : decode cL_agree 12 = .ok (.iconst 0, 1) := by decide +kernel
theorem dL_agree_13 : decode cL_agree 13 = .ok (.ireturn, 1) := by decide +kernel
theorem dL_agree_14 : decode cL_agree 14 = .ok (.astore_n 2, 1) := by decide +kernel
theorem dL_agree_15 : decode cL_agree 15 = .ok (.sipush (-1001), 3) := by decide +kernel
theorem dL_agree_18 : decode cL_agree 18 = .ok (.ireturn, 1) := by decide +kernel
set_option maxRecDepth 20000 in
theorem ggL_agreeAgain_X10_agreeAgain : GoodIn wsL_agreeAgain wsX10_agreeAgain := goodIn_ca (goodIn_ca (goodIn_r _ [6, 7, 8, 9, 5, 10, 11, 12, 13, 14, 15, 16, 17, 18, 19, 20, 21, 22, 23, 24, 25, 26, 27, 28, 29, 30, 31, 32, 33, 34, 35, 36, 37, 38, 39, 40, 41, 42, 43, 44, 45, 46, 47, 48, 49, 50, 51, 52, 53, 54, 55, 56, 57, 58, 59, 60, 61, 62, 63, 64, 65, 66, 67, 68, 69, 70, 71, 72, 73, 74, 75, 76, 77, 78, 79, 80, 81, 82, 83, 84, 85, 86, 87, 88, 89, 90, 91, 92, 93, 94, 95, 96, 97, 98, 99, 100] rfl (by decide +kernel)) (goodIn_sub (fun _ h => List.mem_cons_of_mem _ (List.mem_append_left _ (List.mem_append_right _ h))) (by decide +kernel))) (goodIn_sub (fun _ h => List.mem_cons_of_mem _ (List.mem_append_right _ h)) (by decide +kernel))
set_option maxRecDepth 20000 in
theorem gL_agreeAgain_X10_agreeAgain : GoodIn wsL_agreeAgain (wsV RL 79 RX10 yX10_agreeAgain wsX10_agreeAgain) := goodIn_app (goodIn_of _ (by decide +kernel)) ggL_agreeAgain_X10_agreeAgain
theorem dL_agreeAgain_0 : decode cL_agreeAgain 0 = .ok (.aload_n 0, 1) := by decide +kernel
theorem dL_agreeAgain_1 : decode cL_agreeAgain 1 = .ok (.iload_n 1, 1) := by decide +kernel
theorem dL_agreeAgain_2 : decode cL_agreeAgain 2 = .ok (.invokevirtual 79, 3) := by decide +kernel
theorem dL_agreeAgain_5 : decode cL_agreeAgain 5 = .ok (.ifCond .eq 7, 3) := by decide +kernel
theorem dL_agreeAgain_8 : decode cL_agreeAgain 8 = .ok (.iconst 1, 1) := by decide +kernel
theorem dL_agreeAgain_9 : decode cL_agreeAgain 9 = .ok (.goto 4, 3) := by decide +kernel
theorem dL_agreeAgain_12 : decode cL_agreeAgain 12 = .ok (.iconst 0, 1) := by decide +kernel
theorem dL_agreeAgain_13 : decode cL_agreeAgain 13 = .ok (.ireturn, 1) := by decide +kernel
theorem dL_agreeAgain_14 : decode cL_agreeAgain 14 = .ok (.astore_n 2, 1) := by decide +kernel
theorem dL_agreeAgain_15 : decode cL_agreeAgain 15 = .ok (.sipush (-1001), 3) := by decide +kernel
theorem dL_agreeAgain_18 : decode cL_agreeAgain 18 = .ok (.ireturn, 1) := by decide +kernel
set_option maxRecDepth 20000 in
theorem ggL_settledIn_X10_settledIn : GoodIn wsL_settledIn wsX10_settledIn := goodIn_ca (goodIn_ca (goodIn_r _ [6, 7, 8, 9, 10, 11, 12, 13, 14, 15, 16, 17, 18, 19, 20, 21, 22, 23, 24, 25, 26, 27, 28, 29, 30, 31, 32, 33, 34, 35, 36, 37, 38, 39, 40, 41, 42, 43, 44, 45, 46, 47, 48, 49, 50, 51, 52, 53, 54, 55, 56, 57, 58, 59, 60, 61, 62, 63, 64, 65, 66, 67, 68, 69, 70, 71, 72, 73, 74, 75, 76, 77, 78, 79, 80, 81, 82, 83, 84, 85, 86, 87, 88, 89, 90, 91, 92, 93, 94, 95, 96, 97, 98, 99, 100, 101, 102, 103, 104, 105, 106, 107, 108, 109, 110, 111, 112, 113, 114, 115, 116, 117, 118, 119, 120, 121, 122, 123, 124, 125, 126, 127, 128, 129, 130, 131, 132, 133, 134, 135, 136, 137, 138, 139, 140, 141, 142, 143, 144, 145, 146, 147, 148, 149, 150, 151, 152, 153, 154, 155, 156, 157, 158, 159, 160, 161, 162, 163, 164, 165, 166, 167, 168, 169, 170, 171, 172, 173, 174, 175, 176, 177, 178, 179, 180, 181, 182, 183, 184, 185, 186, 187, 188, 189, 190, 191, 192, 193, 194, 195, 196, 197, 198, 199, 200, 201, 202, 203, 204, 205, 206, 207, 208, 209, 210, 211, 212, 213, 214, 215, 216, 217, 218, 219, 220, 221, 222, 223, 224, 225, 226, 227, 228, 229, 230, 231, 232, 233, 234, 235, 236, 237, 238, 239, 240, 241, 242, 243, 244, 245, 246, 247, 248, 249, 250, 251, 252, 253, 254, 255] rfl (by decide +kernel)) (goodIn_sub (fun _ h => List.mem_cons_of_mem _ (List.mem_append_left _ (List.mem_append_right _ h))) (by decide +kernel))) (goodIn_sub (fun _ h => List.mem_cons_of_mem _ (List.mem_append_right _ h)) (by decide +kernel))
set_option maxRecDepth 20000 in
theorem gL_settledIn_X10_settledIn : GoodIn wsL_settledIn (wsV RL 82 RX10 yX10_settledIn wsX10_settledIn) := goodIn_app (goodIn_of _ (by decide +kernel)) ggL_settledIn_X10_settledIn
theorem dL_settledIn_0 : decode cL_settledIn 0 = .ok (.aload_n 0, 1) := by decide +kernel
theorem dL_settledIn_1 : decode cL_settledIn 1 = .ok (.invokevirtual 82, 3) := by decide +kernel
theorem dL_settledIn_4 : decode cL_settledIn 4 = .ok (.ireturn, 1) := by decide +kernel
theorem dL_settledIn_5 : decode cL_settledIn 5 = .ok (.astore_n 1, 1) := by decide +kernel
theorem dL_settledIn_6 : decode cL_settledIn 6 = .ok (.sipush (-1001), 3) := by decide +kernel
theorem dL_settledIn_9 : decode cL_settledIn 9 = .ok (.ireturn, 1) := by decide +kernel
set_option maxRecDepth 20000 in
theorem ggL_members_X10_members : GoodIn wsL_members wsX10_members := goodIn_ca (goodIn_ca (goodIn_r _ [6, 7, 8, 9, 5, 10, 11, 12, 13, 14, 15, 16, 17, 18, 19, 20, 21, 22, 23, 24, 25, 26, 27, 28, 29, 30, 31, 32, 33, 34, 35, 36, 37, 38, 39, 40, 41, 42, 43] rfl (by decide +kernel)) (goodIn_sub (fun _ h => List.mem_cons_of_mem _ (List.mem_append_left _ (List.mem_append_right _ h))) (by decide +kernel))) (goodIn_sub (fun _ h => List.mem_cons_of_mem _ (List.mem_append_right _ h)) (by decide +kernel))
set_option maxRecDepth 20000 in
theorem gL_members_X10_members : GoodIn wsL_members (wsV RL 85 RX10 yX10_members wsX10_members) := goodIn_app (goodIn_of _ (by decide +kernel)) ggL_members_X10_members
theorem dL_members_0 : decode cL_members 0 = .ok (.aload_n 0, 1) := by decide +kernel
theorem dL_members_1 : decode cL_members 1 = .ok (.iload_n 1, 1) := by decide +kernel
theorem dL_members_2 : decode cL_members 2 = .ok (.invokevirtual 85, 3) := by decide +kernel
theorem dL_members_5 : decode cL_members 5 = .ok (.ireturn, 1) := by decide +kernel
theorem dL_members_6 : decode cL_members 6 = .ok (.astore_n 2, 1) := by decide +kernel
theorem dL_members_7 : decode cL_members 7 = .ok (.sipush (-1001), 3) := by decide +kernel
theorem dL_members_10 : decode cL_members 10 = .ok (.ireturn, 1) := by decide +kernel
set_option maxRecDepth 20000 in
theorem ggL_busiest_X10_busiest : GoodIn wsL_busiest wsX10_busiest := goodIn_ca (goodIn_ca (goodIn_r _ [6, 7, 8, 9, 10, 11, 12, 13, 14, 15, 16, 17, 18, 19, 20, 21, 22, 23, 24, 25, 26, 27, 28, 29, 30, 31, 32, 33, 34, 35, 36, 37, 38, 39, 40, 41, 42, 43, 44, 45, 46, 47, 48, 49, 50, 51, 52, 53, 54, 55, 56, 57, 58, 59, 60, 61, 62, 63, 64, 65, 66, 67, 68, 69, 70, 71, 72, 73, 74, 75, 76, 77, 78, 79, 80, 81, 82, 83, 84, 85, 86, 87, 88, 89, 90, 91, 92, 93, 94, 95, 96, 97, 98] rfl (by decide +kernel)) (goodIn_sub (fun _ h => List.mem_cons_of_mem _ (List.mem_append_left _ (List.mem_append_right _ h))) (by decide +kernel))) (goodIn_sub (fun _ h => List.mem_cons_of_mem _ (List.mem_append_right _ h)) (by decide +kernel))
set_option maxRecDepth 20000 in
theorem gL_busiest_X10_busiest : GoodIn wsL_busiest (wsV RL 88 RX10 yX10_busiest wsX10_busiest) := goodIn_app (goodIn_of _ (by decide +kernel)) ggL_busiest_X10_busiest
theorem dL_busiest_0 : decode cL_busiest 0 = .ok (.aload_n 0, 1) := by decide +kernel
theorem dL_busiest_1 : decode cL_busiest 1 = .ok (.iload_n 1, 1) := by decide +kernel
theorem dL_busiest_2 : decode cL_busiest 2 = .ok (.invokevirtual 88, 3) := by decide +kernel
theorem dL_busiest_5 : decode cL_busiest 5 = .ok (.ireturn, 1) := by decide +kernel
theorem dL_busiest_6 : decode cL_busiest 6 = .ok (.astore_n 2, 1) := by decide +kernel
theorem dL_busiest_7 : decode cL_busiest 7 = .ok (.sipush (-1001), 3) := by decide +kernel
theorem dL_busiest_10 : decode cL_busiest 10 = .ok (.ireturn, 1) := by decide +kernel
set_option maxRecDepth 20000 in
theorem ggL_append_X10_append : GoodIn wsL_append wsX10_append := goodIn_ca (goodIn_ca (goodIn_r _ [6, 7, 8, 9, 10, 11, 12, 13, 14, 15, 16, 17, 18, 19, 20, 21, 22, 23, 24, 25, 26, 27, 28, 29, 30, 31, 32, 33, 34, 35, 36] rfl (by decide +kernel)) (goodIn_sub (fun _ h => List.mem_cons_of_mem _ (List.mem_append_left _ (List.mem_append_right _ h))) (by decide +kernel))) (goodIn_sub (fun _ h => List.mem_cons_of_mem _ (List.mem_append_right _ h)) (by decide +kernel))
set_option maxRecDepth 20000 in
theorem gL_append_X10_append : GoodIn wsL_append (wsV RL 91 RX10 yX10_append wsX10_append) := goodIn_app (goodIn_of _ (by decide +kernel)) ggL_append_X10_append
theorem dL_append_0 : decode cL_append 0 = .ok (.aload_n 0, 1) := by decide +kernel
theorem dL_append_1 : decode cL_append 1 = .ok (.iload_n 1, 1) := by decide +kernel
theorem dL_append_2 : decode cL_append 2 = .ok (.invokevirtual 91, 3) := by decide +kernel
theorem dL_append_5 : decode cL_append 5 = .ok (.ireturn, 1) := by decide +kernel
theorem dL_append_6 : decode cL_append 6 = .ok (.astore_n 2, 1) := by decide +kernel
theorem dL_append_7 : decode cL_append 7 = .ok (.sipush (-1001), 3) := by decide +kernel
theorem dL_append_10 : decode cL_append 10 = .ok (.ireturn, 1) := by decide +kernel
set_option maxRecDepth 20000 in
theorem ggL_commands_X10_commands : GoodIn wsL_commands wsX10_commands := goodIn_ca (goodIn_ca (goodIn_ca (goodIn_r _ [6, 7, 8, 9, 10, 11, 12, 13, 14, 15, 16, 17, 18, 19, 20, 21, 22, 23, 24, 25, 26, 27, 28, 29, 30, 31, 32, 33, 34, 35, 36, 37, 38, 39, 40, 41, 42, 43, 44, 45, 46, 47, 48, 49, 50, 51, 52, 53, 54, 55, 56, 57, 58, 59, 60, 61, 62, 63, 64, 65, 66, 67, 68, 69, 70, 71, 72, 73, 74, 75, 76, 77, 78, 79, 80, 81, 82, 83, 84, 85, 86, 87, 88, 89, 90, 91, 92, 93, 94, 95, 96, 97, 98, 99, 100, 101, 102, 103, 104, 105, 106, 107, 108, 109, 110, 111, 112, 113, 114, 115, 116, 117, 118, 119, 120, 121, 122, 123, 124, 125, 126, 127, 128, 129, 130, 131, 132, 133, 134, 135, 136, 137, 5, 138, 139, 140, 141, 142, 143, 144, 145, 146, 147, 148, 149, 150, 151, 152, 153, 154, 155, 156, 157, 158, 159, 160, 161, 162, 163, 164, 165, 166, 167, 168, 169, 170, 171, 172, 173, 174, 175, 176, 177, 178, 179, 180, 181, 182, 183, 184, 185, 186, 187, 188, 189, 190, 191, 192, 193, 194, 195, 196, 197, 198, 199, 200, 201, 202, 203, 204, 205, 206, 207, 208, 209, 210, 211, 212, 213, 214, 215, 216, 217, 218, 219, 220, 221, 222, 223, 224, 225, 226, 227, 228, 229, 230, 231, 232, 233, 234, 235, 236, 237, 238, 239, 240, 241, 242, 243, 244, 245, 246, 247, 248, 249, 250, 251, 252, 253, 254, 255, 256, 257, 258, 259, 260, 261, 262, 263, 264, 265, 266, 267, 268, 269, 270, 271, 272, 273, 274, 275, 276, 277, 278, 279, 280, 281, 282, 283, 284, 285, 286, 287, 288, 289, 290, 291, 292, 293, 294, 295, 296, 297, 298, 299, 300, 301, 302, 303, 304, 305, 306, 307, 308, 309, 310, 311, 312, 313, 314, 315, 316, 317, 318, 319, 320, 321, 322, 323, 324, 325, 326, 327, 328, 329, 330, 331, 332, 333, 334, 335, 336, 337, 338, 339, 340, 341, 342, 343, 344, 345, 346, 347, 348, 349, 350, 351, 352, 353, 354, 355, 356, 357, 358, 359, 360, 361, 362, 363, 364, 365, 366, 367, 368, 369, 370, 371, 372, 373, 374, 375, 376, 377, 378, 379, 380, 381, 382, 383, 384, 385, 386, 387, 388, 389, 390, 391, 392, 393, 394, 395, 396, 397, 398, 399, 400, 401, 402, 403, 404, 405, 406, 407, 408, 409, 410, 411, 412, 413, 414, 415, 416, 417, 418, 419, 420, 421, 422, 423, 424, 425, 426, 427, 428, 429, 430, 431, 432, 433, 434, 435, 436, 437, 438, 439, 440, 441, 442, 443, 444, 445, 446, 447, 448, 449, 450, 451, 452, 453, 454, 455, 456, 457, 458, 459, 460, 461, 462, 463, 464, 465] rfl (by decide +kernel)) (goodIn_sub (fun _ h => List.mem_cons_of_mem _ (List.mem_append_left _ (List.mem_append_left _ (List.mem_append_right _ h)))) (by decide +kernel))) (goodIn_sub (fun _ h => List.mem_cons_of_mem _ (List.mem_append_left _ (List.mem_append_right _ h))) (by decide +kernel))) (goodIn_sub (fun _ h => List.mem_cons_of_mem _ (List.mem_append_right _ h)) (by decide +kernel))
set_option maxRecDepth 20000 in
theorem gL_commands_X10_commands : GoodIn wsL_commands (wsV RL 97 RX10 yX10_commands wsX10_commands) := goodIn_app (goodIn_of _ (by decide +kernel)) ggL_commands_X10_commands
theorem dL_commands_0 : decode cL_commands 0 = .ok (.aload_n 0, 1) := by decide +kernel
theorem dL_commands_1 : decode cL_commands 1 = .ok (.invokevirtual 97, 3) := by decide +kernel
theorem dL_commands_4 : decode cL_commands 4 = .ok (.ireturn, 1) := by decide +kernel
theorem dL_commands_5 : decode cL_commands 5 = .ok (.astore_n 1, 1) := by decide +kernel
theorem dL_commands_6 : decode cL_commands 6 = .ok (.sipush (-1001), 3) := by decide +kernel
theorem dL_commands_9 : decode cL_commands 9 = .ok (.ireturn, 1) := by decide +kernel
theorem dL_commands_10 : decode cL_commands 10 = .ok (.astore_n 1, 1) := by decide +kernel
theorem dL_commands_11 : decode cL_commands 11 = .ok (.sipush (-1002), 3) := by decide +kernel
theorem dL_commands_14 : decode cL_commands 14 = .ok (.ireturn, 1) := by decide +kernel
set_option maxRecDepth 20000 in
theorem ggL_reason_X10_reason : GoodIn wsL_reason wsX10_reason := goodIn_ca (goodIn_r _ [6, 7, 8, 9, 10, 11, 12, 13, 14, 15, 16, 17, 18, 19, 20, 21, 22] rfl (by decide +kernel)) (goodIn_sub (fun _ h => List.mem_cons_of_mem _ (List.mem_append_right _ h)) (by decide +kernel))
set_option maxRecDepth 20000 in
theorem gL_reason_X10_reason : GoodIn wsL_reason (wsV RL 100 RX10 yX10_reason wsX10_reason) := goodIn_app (goodIn_of _ (by decide +kernel)) ggL_reason_X10_reason
theorem dL_reason_0 : decode cL_reason 0 = .ok (.aload_n 0, 1) := by decide +kernel
theorem dL_reason_1 : decode cL_reason 1 = .ok (.iload_n 1, 1) := by decide +kernel
theorem dL_reason_2 : decode cL_reason 2 = .ok (.iload_n 2, 1) := by decide +kernel
theorem dL_reason_3 : decode cL_reason 3 = .ok (.invokevirtual 100, 3) := by decide +kernel
theorem dL_reason_6 : decode cL_reason 6 = .ok (.ireturn, 1) := by decide +kernel
theorem dL_reason_7 : decode cL_reason 7 = .ok (.astore_n 3, 1) := by decide +kernel
theorem dL_reason_8 : decode cL_reason 8 = .ok (.sipush (-1001), 3) := by decide +kernel
theorem dL_reason_11 : decode cL_reason 11 = .ok (.ireturn, 1) := by decide +kernel
set_option maxRecDepth 20000 in
theorem ggL_line_X10_line : GoodIn wsL_line wsX10_line := goodIn_ca (goodIn_ca (goodIn_r _ [6, 7, 8, 9, 10, 11, 5, 12, 13, 14, 15, 16, 17, 18, 19, 20, 21, 22, 23, 24, 25, 26, 27, 28, 29, 30, 31, 32, 33, 34, 35, 36, 37, 38, 39, 40, 41, 42, 43, 44, 45, 46, 47, 48, 49, 50, 51, 52, 53, 54, 55, 56, 57, 58, 59, 60, 61, 62, 63, 64, 65, 66, 67, 68, 69, 70, 71, 72, 73, 74, 75, 76, 77, 78, 79, 80, 81, 82, 83, 84, 85, 86, 87, 88, 89, 90, 91, 92, 93, 94, 95, 96, 97, 98, 99, 100, 101, 102, 103, 104, 105, 106, 107, 108, 109, 110, 111, 112, 113, 114, 115, 116, 117, 118, 119, 120, 121, 122, 123, 124, 125, 126, 127, 128, 129, 130, 131, 132, 133, 134, 135, 136, 137, 138, 139, 140, 141, 142, 143, 144, 145, 146, 147, 148, 149, 150, 151, 152, 153, 154, 155, 156, 157, 158, 159, 160, 161, 162, 163, 164, 165, 166, 167, 168, 169, 170, 171, 172, 173, 174, 175, 176, 177, 178, 179, 180, 181, 182, 183, 184, 185, 186, 187, 188, 189, 190, 191, 192, 193, 194, 195, 196, 197, 198, 199, 200, 201, 202, 203, 204, 205, 206, 207, 208, 209, 210, 211, 212, 213, 214, 215, 216, 217, 218, 219, 220, 221, 222, 223, 224, 225, 226, 227, 228, 229, 230, 231, 232, 233, 234, 235, 236, 237, 238, 239, 240, 241, 242, 243, 244, 245, 246, 247, 248, 249, 250, 251, 252, 253, 254, 255, 256, 257, 258, 259, 260, 261, 262, 263, 264, 265, 266, 267, 268, 269, 270, 271, 272, 273, 274, 275, 276, 277, 278, 279, 280, 281, 282, 283, 284, 285, 286, 287, 288, 289, 290, 291, 292, 293, 294, 295, 296, 297, 298, 299, 300, 301, 302, 303, 304, 305, 306] rfl (by decide +kernel)) (goodIn_sub (fun _ h => List.mem_cons_of_mem _ (List.mem_append_left _ (List.mem_append_right _ h))) (by decide +kernel))) (goodIn_sub (fun _ h => List.mem_cons_of_mem _ (List.mem_append_right _ h)) (by decide +kernel))
set_option maxRecDepth 20000 in
theorem gL_line_X10_line : GoodIn wsL_line (wsV RL 104 RX10 yX10_line wsX10_line) := goodIn_app (goodIn_of _ (by decide +kernel)) ggL_line_X10_line
theorem dL_line_0 : decode cL_line 0 = .ok (.aload_n 0, 1) := by decide +kernel
theorem dL_line_1 : decode cL_line 1 = .ok (.iload_n 1, 1) := by decide +kernel
theorem dL_line_2 : decode cL_line 2 = .ok (.invokevirtual 104, 3) := by decide +kernel
theorem dL_line_5 : decode cL_line 5 = .ok (.ireturn, 1) := by decide +kernel
theorem dL_line_6 : decode cL_line 6 = .ok (.astore_n 2, 1) := by decide +kernel
theorem dL_line_7 : decode cL_line 7 = .ok (.sipush (-1001), 3) := by decide +kernel
theorem dL_line_10 : decode cL_line 10 = .ok (.ireturn, 1) := by decide +kernel
set_option maxRecDepth 20000 in
theorem ggL_character_X10_character : GoodIn wsL_character wsX10_character := goodIn_ca (goodIn_r _ [6, 7, 8, 9, 10, 11, 12, 13, 14, 15, 16, 17, 18, 19, 20, 21, 22, 23, 24, 25, 26, 27, 28, 29, 30, 31, 32, 33, 34, 35, 36, 37, 38, 39, 40, 41, 42, 43, 44, 45, 46, 47, 48, 49, 50, 51, 52, 53, 54, 55, 56, 57, 58, 59, 60, 61, 62, 63, 64, 65, 66, 67, 68] rfl (by decide +kernel)) (goodIn_sub (fun _ h => List.mem_cons_of_mem _ (List.mem_append_right _ h)) (by decide +kernel))
set_option maxRecDepth 20000 in
theorem gL_character_X10_character : GoodIn wsL_character (wsV RL 107 RX10 yX10_character wsX10_character) := goodIn_app (goodIn_of _ (by decide +kernel)) ggL_character_X10_character
theorem dL_character_0 : decode cL_character 0 = .ok (.aload_n 0, 1) := by decide +kernel
theorem dL_character_1 : decode cL_character 1 = .ok (.iload_n 1, 1) := by decide +kernel
theorem dL_character_2 : decode cL_character 2 = .ok (.invokevirtual 107, 3) := by decide +kernel
theorem dL_character_5 : decode cL_character 5 = .ok (.ireturn, 1) := by decide +kernel
theorem dL_character_6 : decode cL_character 6 = .ok (.astore_n 2, 1) := by decide +kernel
theorem dL_character_7 : decode cL_character 7 = .ok (.sipush (-1001), 3) := by decide +kernel
theorem dL_character_10 : decode cL_character 10 = .ok (.ireturn, 1) := by decide +kernel
set_option maxRecDepth 20000 in
theorem ggL_meanCost_X10_meanCost : GoodIn wsL_meanCost wsX10_meanCost := goodIn_ca (goodIn_ca (goodIn_r _ [7, 8, 9, 10, 11, 12, 13, 14, 15, 16, 17, 18, 19, 20, 21, 22, 23, 24, 25, 26, 27, 28, 29, 30, 31, 32, 33, 34, 35, 36, 37, 38, 39, 40, 41, 42, 43, 44, 45, 46, 47, 48, 49, 50, 51, 52] rfl (by decide +kernel)) (goodIn_sub (fun _ h => List.mem_cons_of_mem _ (List.mem_append_left _ (List.mem_append_right _ h))) (by decide +kernel))) (goodIn_sub (fun _ h => List.mem_cons_of_mem _ (List.mem_append_right _ h)) (by decide +kernel))
set_option maxRecDepth 20000 in
theorem gL_meanCost_X10_meanCost : GoodIn wsL_meanCost (wsV RL 111 RX10 yX10_meanCost wsX10_meanCost) := goodIn_app (goodIn_of _ (by decide +kernel)) ggL_meanCost_X10_meanCost
theorem dL_meanCost_0 : decode cL_meanCost 0 = .ok (.aload_n 0, 1) := by decide +kernel
theorem dL_meanCost_1 : decode cL_meanCost 1 = .ok (.invokevirtual 111, 3) := by decide +kernel
theorem dL_meanCost_4 : decode cL_meanCost 4 = .ok (.dreturn, 1) := by decide +kernel
theorem dL_meanCost_5 : decode cL_meanCost 5 = .ok (.astore_n 1, 1) := by decide +kernel
theorem dL_meanCost_6 : decode cL_meanCost 6 = .ok (.ldc2_w 117, 3) := by decide +kernel
theorem dL_meanCost_9 : decode cL_meanCost 9 = .ok (.dreturn, 1) := by decide +kernel
set_option maxRecDepth 20000 in
theorem ggL_lostShare_X10_lostShare : GoodIn wsL_lostShare wsX10_lostShare := goodIn_ca (goodIn_r _ [7, 8, 9, 10, 11, 12, 13, 14, 15, 16, 17, 18, 19, 20, 21, 22, 23, 24, 25, 26, 27, 28, 29, 30, 31, 32, 33] rfl (by decide +kernel)) (goodIn_sub (fun _ h => List.mem_cons_of_mem _ (List.mem_append_right _ h)) (by decide +kernel))
set_option maxRecDepth 20000 in
theorem gL_lostShare_X10_lostShare : GoodIn wsL_lostShare (wsV RL 119 RX10 yX10_lostShare wsX10_lostShare) := goodIn_app (goodIn_of _ (by decide +kernel)) ggL_lostShare_X10_lostShare
theorem dL_lostShare_0 : decode cL_lostShare 0 = .ok (.aload_n 0, 1) := by decide +kernel
theorem dL_lostShare_1 : decode cL_lostShare 1 = .ok (.invokevirtual 119, 3) := by decide +kernel
theorem dL_lostShare_4 : decode cL_lostShare 4 = .ok (.freturn, 1) := by decide +kernel
theorem dL_lostShare_5 : decode cL_lostShare 5 = .ok (.astore_n 1, 1) := by decide +kernel
theorem dL_lostShare_6 : decode cL_lostShare 6 = .ok (.ldc 123, 2) := by decide +kernel
theorem dL_lostShare_8 : decode cL_lostShare 8 = .ok (.freturn, 1) := by decide +kernel
set_option maxRecDepth 20000 in
theorem ggL_account_X10_account : GoodIn wsL_account wsX10_account := goodIn_ca (goodIn_ca (goodIn_r _ [6, 7, 8, 9, 10, 11, 12, 13, 14, 15, 16, 17, 18, 19, 20, 21, 22, 23, 24, 25, 26, 27, 28, 29, 30, 31, 32, 33, 34, 35, 36, 37, 38, 39, 40, 41, 42, 43, 44, 45, 46, 47, 48, 49, 50, 51, 52, 53, 54, 55, 56, 57, 58, 59, 60, 61, 62, 63, 64, 65, 66, 67, 68, 69, 70, 71, 72, 73, 74, 75, 76, 77, 78, 79, 80, 81, 82, 83, 84, 85, 86, 87, 88, 89, 90, 91, 92, 93, 94, 95, 96, 97, 98, 99, 100, 101, 102, 103, 104, 105, 106, 107, 108, 109, 110, 111, 112, 113, 114, 115, 116, 117, 118, 119, 120] rfl (by decide +kernel)) (goodIn_sub (fun _ h => List.mem_cons_of_mem _ (List.mem_append_left _ (List.mem_append_right _ h))) (by decide +kernel))) (goodIn_sub (fun _ h => List.mem_cons_of_mem _ (List.mem_append_right _ h)) (by decide +kernel))
set_option maxRecDepth 20000 in
theorem gL_account_X10_account : GoodIn wsL_account (wsV RL 124 RX10 yX10_account wsX10_account) := goodIn_app (goodIn_of _ (by decide +kernel)) ggL_account_X10_account
theorem dL_account_0 : decode cL_account 0 = .ok (.aload_n 0, 1) := by decide +kernel
theorem dL_account_1 : decode cL_account 1 = .ok (.iload_n 1, 1) := by decide +kernel
theorem dL_account_2 : decode cL_account 2 = .ok (.invokevirtual 124, 3) := by decide +kernel
theorem dL_account_5 : decode cL_account 5 = .ok (.ireturn, 1) := by decide +kernel
theorem dL_account_6 : decode cL_account 6 = .ok (.astore_n 2, 1) := by decide +kernel
theorem dL_account_7 : decode cL_account 7 = .ok (.sipush (-1001), 3) := by decide +kernel
theorem dL_account_10 : decode cL_account 10 = .ok (.ireturn, 1) := by decide +kernel
set_option maxRecDepth 20000 in
theorem ggL_undo_X10_undo : GoodIn wsL_undo wsX10_undo := goodIn_ca (goodIn_r _ [6, 7, 8, 9, 10, 11, 12, 13, 14, 15, 16, 17, 18, 19, 20, 21, 22, 23, 24, 25, 26, 27, 28, 29, 30, 31, 32, 33, 34, 35, 36, 37, 38, 39, 40, 41, 42, 43, 44, 45, 46, 47, 48, 49, 50, 51, 52, 53, 54, 55, 56, 57, 58, 59, 60, 61, 62, 63, 64, 65, 66, 67, 68, 69, 70, 71, 72] rfl (by decide +kernel)) (goodIn_sub (fun _ h => List.mem_cons_of_mem _ (List.mem_append_right _ h)) (by decide +kernel))
set_option maxRecDepth 20000 in
theorem gL_undo_X10_undo : GoodIn wsL_undo (wsV RL 127 RX10 yX10_undo wsX10_undo) := goodIn_app (goodIn_of _ (by decide +kernel)) ggL_undo_X10_undo
theorem dL_undo_0 : decode cL_undo 0 = .ok (.aload_n 0, 1) := by decide +kernel
theorem dL_undo_1 : decode cL_undo 1 = .ok (.invokevirtual 127, 3) := by decide +kernel
theorem dL_undo_4 : decode cL_undo 4 = .ok (.ireturn, 1) := by decide +kernel
theorem dL_undo_5 : decode cL_undo 5 = .ok (.astore_n 1, 1) := by decide +kernel
theorem dL_undo_6 : decode cL_undo 6 = .ok (.sipush (-1001), 3) := by decide +kernel
theorem dL_undo_9 : decode cL_undo 9 = .ok (.ireturn, 1) := by decide +kernel
set_option maxRecDepth 20000 in
theorem ggL_restore_X10_restore : GoodIn wsL_restore wsX10_restore := goodIn_ca (goodIn_r _ [6, 7, 8, 9, 10, 11, 12, 13, 14, 15, 16, 17, 18, 19, 20, 21, 22, 23, 24, 25, 26, 27, 28, 29, 30, 31, 32, 33, 34, 35, 36, 37, 38, 39, 40, 41, 42, 43, 44, 45, 46, 47, 48, 49, 50, 51, 52, 53, 54, 55, 56, 57, 58, 59, 60, 61, 62, 63, 64, 65, 66, 67, 68, 69, 70, 71, 72] rfl (by decide +kernel)) (goodIn_sub (fun _ h => List.mem_cons_of_mem _ (List.mem_append_right _ h)) (by decide +kernel))
set_option maxRecDepth 20000 in
theorem gL_restore_X10_restore : GoodIn wsL_restore (wsV RL 130 RX10 yX10_restore wsX10_restore) := goodIn_app (goodIn_of _ (by decide +kernel)) ggL_restore_X10_restore
theorem dL_restore_0 : decode cL_restore 0 = .ok (.aload_n 0, 1) := by decide +kernel
theorem dL_restore_1 : decode cL_restore 1 = .ok (.invokevirtual 130, 3) := by decide +kernel
theorem dL_restore_4 : decode cL_restore 4 = .ok (.ireturn, 1) := by decide +kernel
theorem dL_restore_5 : decode cL_restore 5 = .ok (.astore_n 1, 1) := by decide +kernel
theorem dL_restore_6 : decode cL_restore 6 = .ok (.sipush (-1001), 3) := by decide +kernel
theorem dL_restore_9 : decode cL_restore 9 = .ok (.ireturn, 1) := by decide +kernel
set_option maxRecDepth 20000 in
theorem ggL_reads_J0_length_8abf5 : GoodIn wsL_reads wsJ0_length_8abf5 := goodIn_r _ [5, 6, 7, 8, 9, 4, 10, 11, 12, 444, 445, 446, 447] rfl (by decide +kernel)
set_option maxRecDepth 20000 in
theorem gL_reads_J0_length_8abf5 : GoodIn wsL_reads (wsV RL 133 RJ0 yJ0_length_8abf5 wsJ0_length_8abf5) := goodIn_app (goodIn_of _ (by decide +kernel)) ggL_reads_J0_length_8abf5
set_option maxRecDepth 20000 in
theorem ggL_reads_J0_charAt_5068e : GoodIn wsL_reads wsJ0_charAt_5068e := goodIn_r _ [16, 6, 17, 18, 19, 4, 20, 11, 12, 21, 22, 23, 24, 25, 26, 27, 28, 29, 30, 31, 32, 33, 34, 35, 36, 37, 38, 39, 40, 41, 42, 43, 44, 45, 46, 47, 48, 49, 444, 445, 446, 447] rfl (by decide +kernel)
set_option maxRecDepth 20000 in
theorem gL_reads_J0_charAt_5068e : GoodIn wsL_reads (wsV RL 138 RJ0 yJ0_charAt_5068e wsJ0_charAt_5068e) := goodIn_app (goodIn_of _ (by decide +kernel)) ggL_reads_J0_charAt_5068e
set_option maxRecDepth 20000 in
theorem ggL_reads_L_append : GoodIn wsL_reads wsL_append := goodIn_ca (goodIn_ca (goodIn_r _ [53, 54, 55, 56, 57, 58, 59, 60, 61, 62, 63, 64, 65, 66, 67, 68, 69, 70, 71, 72, 73, 74, 448, 449, 450, 451, 452, 453, 454, 455, 456, 457, 458, 459, 460, 461, 462] rfl (by decide +kernel)) (goodIn_sub (fun _ h => List.mem_cons_of_mem _ (List.mem_append_left _ (List.mem_append_left _ (List.mem_append_left _ (List.mem_append_right _ h))))) (by decide +kernel))) (goodIn_sub (fun _ h => List.mem_cons_of_mem _ (List.mem_append_left _ (List.mem_append_left _ (List.mem_append_right _ h)))) (by decide +kernel))
set_option maxRecDepth 20000 in
theorem gL_reads_L_append : GoodIn wsL_reads (va_wsS RL 141 yL_append wsL_append) := goodIn_app (goodIn_of _ (by decide +kernel)) ggL_reads_L_append
set_option maxRecDepth 20000 in
theorem ggL_reads_L_commands : GoodIn wsL_reads wsL_commands := goodIn_ca (goodIn_ca (goodIn_ca (goodIn_r _ [77, 78, 79, 80, 81, 58, 82, 83, 84, 62, 85, 86, 87, 88, 89, 90, 91, 66, 92, 93, 68, 94, 95, 96, 97, 98, 99, 100, 101, 73, 102, 103, 104, 105, 106, 107, 108, 109, 110, 111, 112, 113, 114, 2, 3, 4, 5, 6, 7, 8, 9, 10, 11, 12, 115, 14, 15, 16, 17, 18, 19, 20, 21, 22, 23, 24, 25, 26, 27, 28, 29, 30, 31, 32, 33, 34, 35, 36, 37, 38, 39, 40, 41, 42, 43, 44, 45, 46, 47, 48, 49, 116, 117, 118, 119, 120, 121, 122, 123, 124, 125, 126, 127, 128, 129, 130, 131, 132, 133, 134, 135, 136, 137, 138, 139, 140, 141, 142, 143, 144, 145, 146, 147, 148, 149, 150, 151, 152, 153, 154, 155, 156, 157, 158, 159, 160, 161, 162, 163, 164, 165, 166, 167, 168, 169, 170, 171, 172, 173, 174, 175, 176, 177, 178, 179, 180, 181, 182, 183, 184, 185, 186, 187, 188, 189, 190, 191, 192, 193, 194, 195, 196, 197, 198, 199, 200, 201, 202, 203, 204, 205, 206, 207, 208, 209, 210, 211, 212, 213, 214, 215, 216, 217, 218, 219, 220, 221, 222, 223, 224, 225, 226, 227, 228, 229, 230, 231, 232, 233, 234, 235, 236, 237, 238, 239, 240, 241, 242, 243, 244, 245, 246, 247, 248, 249, 250, 251, 252, 253, 254, 255, 256, 257, 258, 259, 260, 261, 262, 263, 264, 265, 266, 267, 268, 269, 270, 271, 272, 273, 274, 275, 276, 277, 278, 279, 280, 281, 282, 283, 284, 285, 286, 287, 288, 289, 290, 291, 292, 293, 294, 295, 296, 297, 298, 299, 300, 301, 302, 303, 304, 305, 306, 307, 308, 309, 310, 311, 312, 313, 314, 315, 316, 317, 318, 319, 320, 321, 322, 323, 324, 325, 326, 327, 328, 329, 330, 331, 332, 333, 334, 335, 336, 337, 338, 339, 340, 341, 342, 343, 344, 345, 346, 347, 348, 349, 350, 351, 352, 353, 354, 355, 356, 357, 358, 359, 360, 361, 362, 363, 364, 365, 366, 367, 368, 369, 370, 371, 372, 373, 374, 375, 376, 377, 378, 379, 380, 381, 382, 383, 384, 385, 386, 387, 388, 389, 390, 391, 392, 393, 394, 395, 396, 397, 398, 399, 400, 401, 402, 403, 404, 405, 406, 407, 408, 409, 410, 411, 412, 413, 414, 415, 416, 417, 418, 419, 420, 421, 422, 423, 424, 425, 426, 427, 428, 429, 430, 431, 432, 433, 434, 435, 436, 437, 438, 439, 440, 441, 442, 443, 448, 449, 450, 451, 452, 453, 454, 455, 456, 457, 458, 459, 460, 461, 462, 444, 445, 446, 447, 463, 464, 465, 466, 467, 468, 469, 470, 471, 472, 473, 474, 475, 476, 477, 478, 479, 480, 481, 482, 483, 484, 485, 486, 487, 488, 489, 490] rfl (by decide +kernel)) (goodIn_sub (fun _ h => List.mem_cons_of_mem _ (List.mem_append_left _ (List.mem_append_right _ h))) (by decide +kernel))) (goodIn_sub (fun _ h => List.mem_cons_of_mem _ (List.mem_append_left _ (List.mem_append_left _ (List.mem_append_right _ h)))) (by decide +kernel))) (goodIn_sub (fun _ h => List.mem_cons_of_mem _ (List.mem_append_right _ h)) (by decide +kernel))
set_option maxRecDepth 20000 in
theorem gL_reads_L_commands : GoodIn wsL_reads (va_wsS RL 146 yL_commands wsL_commands) := goodIn_app (goodIn_of _ (by decide +kernel)) ggL_reads_L_commands
theorem dL_reads_0 : decode cL_reads 0 = .ok (.iconst 0, 1) := by decide +kernel
theorem dL_reads_1 : decode cL_reads 1 = .ok (.istore_n 2, 1) := by decide +kernel
theorem dL_reads_2 : decode cL_reads 2 = .ok (.iload_n 2, 1) := by decide +kernel
theorem dL_reads_3 : decode cL_reads 3 = .ok (.aload_n 1, 1) := by decide +kernel
theorem dL_reads_4 : decode cL_reads 4 = .ok (.invokevirtual 133, 3) := by decide +kernel
theorem dL_reads_7 : decode cL_reads 7 = .ok (.if_icmp .ge 28, 3) := by decide +kernel
theorem dL_reads_10 : decode cL_reads 10 = .ok (.aload_n 0, 1) := by decide +kernel
theorem dL_reads_11 : decode cL_reads 11 = .ok (.aload_n 1, 1) := by decide +kernel
theorem dL_reads_12 : decode cL_reads 12 = .ok (.iload_n 2, 1) := by decide +kernel
theorem dL_reads_13 : decode cL_reads 13 = .ok (.invokevirtual 138, 3) := by decide +kernel
theorem dL_reads_16 : decode cL_reads 16 = .ok (.invokestatic 141, 3) := by decide +kernel
theorem dL_reads_19 : decode cL_reads 19 = .ok (.iload_n 2, 1) := by decide +kernel
theorem dL_reads_20 : decode cL_reads 20 = .ok (.iconst 1, 1) := by decide +kernel
theorem dL_reads_21 : decode cL_reads 21 = .ok (.iadd, 1) := by decide +kernel
theorem dL_reads_22 : decode cL_reads 22 = .ok (.if_icmp .eq 7, 3) := by decide +kernel
theorem dL_reads_25 : decode cL_reads 25 = .ok (.sipush (-9999), 3) := by decide +kernel
theorem dL_reads_28 : decode cL_reads 28 = .ok (.ireturn, 1) := by decide +kernel
theorem dL_reads_29 : decode cL_reads 29 = .ok (.iinc 2 1, 3) := by decide +kernel
theorem dL_reads_32 : decode cL_reads 32 = .ok (.goto (-30), 3) := by decide +kernel
theorem dL_reads_35 : decode cL_reads 35 = .ok (.aload_n 0, 1) := by decide +kernel
theorem dL_reads_36 : decode cL_reads 36 = .ok (.invokestatic 146, 3) := by decide +kernel
theorem dL_reads_39 : decode cL_reads 39 = .ok (.ireturn, 1) := by decide +kernel
set_option maxRecDepth 20000 in
theorem ggL_is_L_reason : GoodIn wsL_is wsL_reason := goodIn_ca (goodIn_r _ [4, 5, 6, 7, 8, 9, 10, 11, 12, 13, 14, 15, 16, 17, 18, 19, 20, 21, 22, 23, 24, 25, 26] rfl (by decide +kernel)) (goodIn_sub (fun _ h => List.mem_cons_of_mem _ (List.mem_append_right _ h)) (by decide +kernel))
set_option maxRecDepth 20000 in
theorem gL_is_L_reason : GoodIn wsL_is (va_wsS RL 149 yL_reason wsL_reason) := goodIn_app (goodIn_of _ (by decide +kernel)) ggL_is_L_reason
theorem dL_is_0 : decode cL_is 0 = .ok (.aload_n 0, 1) := by decide +kernel
theorem dL_is_1 : decode cL_is 1 = .ok (.iconst 0, 1) := by decide +kernel
theorem dL_is_2 : decode cL_is 2 = .ok (.iconst 0, 1) := by decide +kernel
theorem dL_is_3 : decode cL_is 3 = .ok (.invokestatic 149, 3) := by decide +kernel
theorem dL_is_6 : decode cL_is 6 = .ok (.iload_n 1, 1) := by decide +kernel
theorem dL_is_7 : decode cL_is 7 = .ok (.if_icmp .ne 41, 3) := by decide +kernel
theorem dL_is_10 : decode cL_is 10 = .ok (.aload_n 0, 1) := by decide +kernel
theorem dL_is_11 : decode cL_is 11 = .ok (.iconst 0, 1) := by decide +kernel
theorem dL_is_12 : decode cL_is 12 = .ok (.iconst 1, 1) := by decide +kernel
theorem dL_is_13 : decode cL_is 13 = .ok (.invokestatic 149, 3) := by decide +kernel
theorem dL_is_16 : decode cL_is 16 = .ok (.iload_n 2, 1) := by decide +kernel
theorem dL_is_17 : decode cL_is 17 = .ok (.if_icmp .ne 31, 3) := by decide +kernel
theorem dL_is_20 : decode cL_is 20 = .ok (.aload_n 0, 1) := by decide +kernel
theorem dL_is_21 : decode cL_is 21 = .ok (.iconst 1, 1) := by decide +kernel
theorem dL_is_22 : decode cL_is 22 = .ok (.iconst 0, 1) := by decide +kernel
theorem dL_is_23 : decode cL_is 23 = .ok (.invokestatic 149, 3) := by decide +kernel
theorem dL_is_26 : decode cL_is 26 = .ok (.sipush (-1001), 3) := by decide +kernel
theorem dL_is_29 : decode cL_is 29 = .ok (.if_icmp .ne 19, 3) := by decide +kernel
theorem dL_is_32 : decode cL_is 32 = .ok (.aload_n 0, 1) := by decide +kernel
theorem dL_is_33 : decode cL_is 33 = .ok (.iconst 1, 1) := by decide +kernel
theorem dL_is_34 : decode cL_is 34 = .ok (.iconst 1, 1) := by decide +kernel
theorem dL_is_35 : decode cL_is 35 = .ok (.invokestatic 149, 3) := by decide +kernel
theorem dL_is_38 : decode cL_is 38 = .ok (.sipush (-1001), 3) := by decide +kernel
theorem dL_is_41 : decode cL_is 41 = .ok (.if_icmp .ne 7, 3) := by decide +kernel
theorem dL_is_44 : decode cL_is 44 = .ok (.iconst 1, 1) := by decide +kernel
theorem dL_is_45 : decode cL_is 45 = .ok (.goto 4, 3) := by decide +kernel
theorem dL_is_48 : decode cL_is 48 = .ok (.iconst 0, 1) := by decide +kernel
theorem dL_is_49 : decode cL_is 49 = .ok (.ireturn, 1) := by decide +kernel
set_option maxRecDepth 20000 in
theorem ggL_isEight_L_reason : GoodIn wsL_isEight wsL_reason := goodIn_ca (goodIn_r _ [4, 5, 6, 7, 8, 9, 10, 11, 12, 13, 14, 15, 16, 17, 18, 19, 20, 21, 22, 23, 24, 25, 26] rfl (by decide +kernel)) (goodIn_sub (fun _ h => List.mem_cons_of_mem _ (List.mem_append_right _ h)) (by decide +kernel))
set_option maxRecDepth 20000 in
theorem gL_isEight_L_reason : GoodIn wsL_isEight (va_wsS RL 149 yL_reason wsL_reason) := goodIn_app (goodIn_of _ (by decide +kernel)) ggL_isEight_L_reason
theorem dL_isEight_0 : decode cL_isEight 0 = .ok (.aload_n 0, 1) := by decide +kernel
theorem dL_isEight_1 : decode cL_isEight 1 = .ok (.iconst 0, 1) := by decide +kernel
theorem dL_isEight_2 : decode cL_isEight 2 = .ok (.iconst 0, 1) := by decide +kernel
theorem dL_isEight_3 : decode cL_isEight 3 = .ok (.invokestatic 149, 3) := by decide +kernel
theorem dL_isEight_6 : decode cL_isEight 6 = .ok (.bipush 8, 2) := by decide +kernel
theorem dL_isEight_8 : decode cL_isEight 8 = .ok (.if_icmp .ne 37, 3) := by decide +kernel
theorem dL_isEight_11 : decode cL_isEight 11 = .ok (.aload_n 0, 1) := by decide +kernel
theorem dL_isEight_12 : decode cL_isEight 12 = .ok (.iconst 0, 1) := by decide +kernel
theorem dL_isEight_13 : decode cL_isEight 13 = .ok (.iconst 1, 1) := by decide +kernel
theorem dL_isEight_14 : decode cL_isEight 14 = .ok (.invokestatic 149, 3) := by decide +kernel
theorem dL_isEight_17 : decode cL_isEight 17 = .ok (.iload_n 1, 1) := by decide +kernel
theorem dL_isEight_18 : decode cL_isEight 18 = .ok (.if_icmp .ne 27, 3) := by decide +kernel
theorem dL_isEight_21 : decode cL_isEight 21 = .ok (.aload_n 0, 1) := by decide +kernel
theorem dL_isEight_22 : decode cL_isEight 22 = .ok (.iconst 1, 1) := by decide +kernel
theorem dL_isEight_23 : decode cL_isEight 23 = .ok (.iconst 0, 1) := by decide +kernel
theorem dL_isEight_24 : decode cL_isEight 24 = .ok (.invokestatic 149, 3) := by decide +kernel
theorem dL_isEight_27 : decode cL_isEight 27 = .ok (.iload_n 2, 1) := by decide +kernel
theorem dL_isEight_28 : decode cL_isEight 28 = .ok (.if_icmp .ne 17, 3) := by decide +kernel
theorem dL_isEight_31 : decode cL_isEight 31 = .ok (.aload_n 0, 1) := by decide +kernel
theorem dL_isEight_32 : decode cL_isEight 32 = .ok (.iconst 1, 1) := by decide +kernel
theorem dL_isEight_33 : decode cL_isEight 33 = .ok (.iconst 1, 1) := by decide +kernel
theorem dL_isEight_34 : decode cL_isEight 34 = .ok (.invokestatic 149, 3) := by decide +kernel
theorem dL_isEight_37 : decode cL_isEight 37 = .ok (.iload_n 3, 1) := by decide +kernel
theorem dL_isEight_38 : decode cL_isEight 38 = .ok (.if_icmp .ne 7, 3) := by decide +kernel
theorem dL_isEight_41 : decode cL_isEight 41 = .ok (.iconst 1, 1) := by decide +kernel
theorem dL_isEight_42 : decode cL_isEight 42 = .ok (.goto 4, 3) := by decide +kernel
theorem dL_isEight_45 : decode cL_isEight 45 = .ok (.iconst 0, 1) := by decide +kernel
theorem dL_isEight_46 : decode cL_isEight 46 = .ok (.ireturn, 1) := by decide +kernel
set_option maxRecDepth 20000 in
theorem ggL_makes_L_at : GoodIn wsL_makes wsL_at := goodIn_ca (goodIn_r _ [4] rfl (by decide +kernel)) (goodIn_sub (fun _ h => List.mem_cons_of_mem _ (List.mem_append_left _ (List.mem_append_left _ (List.mem_append_left _ (List.mem_append_right _ h))))) (by decide +kernel))
set_option maxRecDepth 20000 in
theorem gL_makes_L_at : GoodIn wsL_makes (va_wsS RL 157 yL_at wsL_at) := goodIn_app (goodIn_of _ (by decide +kernel)) ggL_makes_L_at
set_option maxRecDepth 20000 in
theorem ggL_makes_L_some : GoodIn wsL_makes wsL_some := goodIn_ca (goodIn_r _ [7] rfl (by decide +kernel)) (goodIn_sub (fun _ h => List.mem_cons_of_mem _ (List.mem_append_left _ (List.mem_append_left _ (List.mem_append_right _ h)))) (by decide +kernel))
set_option maxRecDepth 20000 in
theorem gL_makes_L_some : GoodIn wsL_makes (va_wsS RL 161 yL_some wsL_some) := goodIn_app (goodIn_of _ (by decide +kernel)) ggL_makes_L_some
set_option maxRecDepth 20000 in
theorem ggL_makes_L_come : GoodIn wsL_makes wsL_come := goodIn_ca (goodIn_ca (goodIn_r _ [10, 11, 12, 13, 14, 15, 16, 17, 18, 19, 20, 21, 22, 23, 24, 25, 26, 27, 28, 29, 30, 31, 32, 33, 34, 35, 36, 37, 38, 39, 40, 41, 42, 43, 44, 45, 46, 47, 48, 49, 50, 51, 52, 53, 54, 55, 56, 57, 58, 59, 60, 61, 62, 63, 64, 65, 66, 67, 68, 69, 70, 71, 72, 73, 74, 75, 76, 77, 78, 79, 80, 81, 82, 83, 84, 85, 86, 87, 88, 89, 90, 91, 92, 93, 94, 95, 96, 97, 98, 99, 100, 101, 102, 103, 104, 105, 106, 107, 108, 109, 110, 111, 112, 113, 114, 115, 116, 117, 118, 119, 120, 121, 122, 123, 124, 125, 126, 127, 128, 129, 130, 131, 132, 133, 134, 135, 136, 137, 138, 139, 140, 141, 142, 143, 144, 145, 146, 147, 148, 149, 150, 151, 152, 153, 154, 155, 156, 157, 158, 159, 160, 161, 162, 163, 164, 165, 166, 167, 168, 169, 170, 171, 172, 173, 174, 175, 176, 177, 178, 179, 180, 181, 182, 183, 184, 185, 186, 187, 188, 189, 190, 191, 192, 193, 194, 195, 196, 197, 198, 199, 200, 201, 202, 203, 204, 205, 206, 207, 208, 209, 210, 211, 212, 213, 214, 215, 216, 217, 218, 219, 220, 221, 222, 223, 224, 225, 226, 227, 228, 229, 230, 231, 232, 233, 234, 235, 236, 237, 238, 239, 240, 241, 242, 243, 244, 245, 246, 247, 248, 249, 250, 251, 252, 253, 254, 255, 256, 257, 258, 259, 260, 261, 262, 263, 264, 265, 266, 267, 268, 269, 270, 271, 272, 273, 274, 275, 276, 277, 278, 279, 280, 281, 282, 283, 284, 285, 286, 287, 288, 289, 290, 291, 292, 293, 294, 295, 296, 297, 298, 299, 300, 301, 302, 303, 304, 305, 306, 307, 308, 309, 310, 311, 312, 313, 314, 315, 316, 317, 318, 319, 320, 321, 322, 323, 324, 325, 360, 361, 362, 363, 364, 365, 366, 367, 368, 369, 370, 371, 372, 373, 374, 375, 376, 377, 378, 379, 380, 381, 382, 383, 384, 385, 386, 387, 388, 389, 390, 391, 392, 393, 394, 395, 396, 397] rfl (by decide +kernel)) (goodIn_sub (fun _ h => List.mem_cons_of_mem _ (List.mem_append_left _ (List.mem_append_left _ (List.mem_append_left _ (List.mem_append_right _ h))))) (by decide +kernel))) (goodIn_sub (fun _ h => List.mem_cons_of_mem _ (List.mem_append_left _ (List.mem_append_right _ h))) (by decide +kernel))
set_option maxRecDepth 20000 in
theorem gL_makes_L_come : GoodIn wsL_makes (va_wsS RL 164 yL_come wsL_come) := goodIn_app (goodIn_of _ (by decide +kernel)) ggL_makes_L_come
set_option maxRecDepth 20000 in
theorem ggL_makes_L_canal : GoodIn wsL_makes wsL_canal := goodIn_ca (goodIn_ca (goodIn_r _ [328, 11, 329, 330, 331, 15, 332, 333, 18, 19, 20, 21, 22, 23, 24, 25, 26, 27, 28, 29, 30, 31, 32, 33, 34, 35, 36, 37, 38, 39, 40, 41, 42, 43, 44, 45, 46, 47, 48, 49, 50, 51, 52, 53, 54, 55, 56, 57, 58, 59, 60, 61, 62, 63, 64, 65, 66, 67, 68, 69, 70, 71, 72, 73, 74, 75, 76, 77, 78, 79, 80, 81, 82, 83, 84, 85, 86, 87, 88, 89, 90, 91, 92, 93, 94, 95, 96, 97, 98, 99, 100, 101, 102, 103, 104, 105, 106, 107, 108, 109, 110, 111, 112, 113, 114, 115, 116, 117, 118, 119, 120, 121, 122, 123, 124, 125, 126, 127, 128, 129, 130, 131, 132, 133, 134, 135, 136, 137, 138, 139, 140, 141, 142, 143, 144, 145, 146, 147, 148, 149, 150, 151, 152, 153, 154, 155, 156, 157, 158, 159, 160, 161, 162, 163, 164, 165, 166, 167, 168, 169, 170, 171, 172, 173, 174, 175, 176, 177, 178, 179, 180, 181, 182, 183, 184, 185, 186, 187, 188, 189, 190, 191, 192, 193, 194, 195, 196, 197, 198, 199, 200, 201, 202, 203, 204, 205, 206, 207, 208, 209, 210, 211, 212, 213, 214, 215, 216, 217, 218, 219, 220, 221, 222, 223, 224, 225, 226, 227, 228, 229, 230, 231, 232, 233, 234, 235, 236, 237, 238, 239, 240, 241, 242, 243, 244, 245, 246, 247, 248, 249, 250, 251, 252, 253, 254, 255, 256, 257, 258, 259, 260, 261, 262, 263, 264, 265, 266, 267, 268, 269, 270, 271, 272, 273, 274, 275, 276, 277, 278, 279, 280, 281, 282, 283, 284, 285, 286, 287, 288, 289, 290, 291, 292, 293, 294, 295, 296, 297, 298, 299, 300, 301, 302, 303, 304, 305, 306, 307, 308, 309, 310, 311, 312, 313, 314, 315, 316, 317, 318, 319, 320, 321, 322, 323, 324, 325, 360, 361, 362, 363, 364, 365, 366, 367, 368, 369, 370, 371, 372, 373, 374, 375, 376, 377, 378, 379, 380, 381, 382, 383, 384, 385, 386, 387, 388, 389, 390, 391, 392, 393, 394, 395, 396, 397] rfl (by decide +kernel)) (goodIn_sub (fun _ h => List.mem_cons_of_mem _ (List.mem_append_left _ (List.mem_append_left _ (List.mem_append_left _ (List.mem_append_right _ h))))) (by decide +kernel))) (goodIn_sub (fun _ h => List.mem_cons_of_mem _ (List.mem_append_left _ (List.mem_append_right _ h))) (by decide +kernel))
set_option maxRecDepth 20000 in
theorem gL_makes_L_canal : GoodIn wsL_makes (va_wsS RL 166 yL_canal wsL_canal) := goodIn_app (goodIn_of _ (by decide +kernel)) ggL_makes_L_canal
set_option maxRecDepth 20000 in
theorem ggL_makes_L_reason : GoodIn wsL_makes wsL_reason := goodIn_ca (goodIn_r _ [336, 337, 338, 339, 340, 15, 341, 342, 343, 89, 360, 361, 362, 363, 364, 365, 366, 367, 368, 369, 383, 384, 385] rfl (by decide +kernel)) (goodIn_sub (fun _ h => List.mem_cons_of_mem _ (List.mem_append_right _ h)) (by decide +kernel))
set_option maxRecDepth 20000 in
theorem gL_makes_L_reason : GoodIn wsL_makes (va_wsS RL 149 yL_reason wsL_reason) := goodIn_app (goodIn_of _ (by decide +kernel)) ggL_makes_L_reason
set_option maxRecDepth 20000 in
theorem ggL_makes_L_pass : GoodIn wsL_makes wsL_pass := goodIn_ca (goodIn_ca (goodIn_r _ [346, 11, 347, 348, 349, 15, 350, 351, 18, 19, 20, 21, 22, 23, 24, 25, 26, 27, 28, 29, 30, 31, 32, 33, 34, 35, 36, 37, 38, 39, 40, 41, 42, 43, 44, 45, 46, 47, 48, 49, 50, 51, 52, 53, 54, 55, 56, 57, 58, 59, 60, 61, 62, 63, 64, 65, 66, 67, 68, 69, 70, 71, 72, 73, 74, 75, 76, 77, 78, 79, 80, 81, 82, 83, 84, 85, 86, 87, 88, 89, 90, 91, 92, 93, 94, 95, 96, 97, 98, 99, 100, 101, 102, 103, 104, 105, 106, 107, 108, 109, 110, 111, 112, 113, 114, 115, 116, 117, 118, 119, 120, 121, 122, 123, 124, 125, 126, 127, 128, 129, 130, 131, 132, 133, 134, 135, 136, 137, 138, 139, 140, 141, 142, 143, 144, 145, 146, 147, 148, 149, 150, 151, 152, 153, 154, 155, 156, 157, 158, 159, 160, 161, 162, 163, 164, 165, 166, 167, 168, 169, 170, 171, 172, 173, 174, 175, 176, 177, 178, 179, 180, 181, 182, 183, 184, 185, 186, 187, 188, 189, 190, 191, 192, 193, 194, 195, 196, 197, 198, 199, 200, 201, 202, 203, 204, 205, 206, 207, 208, 209, 210, 211, 212, 213, 214, 215, 216, 217, 218, 219, 220, 221, 222, 223, 224, 225, 226, 227, 228, 229, 230, 231, 232, 233, 234, 235, 236, 237, 238, 239, 240, 241, 242, 243, 244, 245, 246, 247, 248, 249, 250, 251, 252, 253, 254, 255, 256, 257, 258, 259, 260, 261, 262, 263, 264, 265, 266, 267, 268, 269, 270, 271, 272, 273, 274, 275, 276, 277, 278, 279, 280, 281, 282, 283, 284, 285, 286, 287, 288, 289, 290, 291, 292, 293, 294, 295, 296, 297, 298, 299, 300, 301, 302, 303, 304, 305, 306, 307, 308, 309, 310, 311, 312, 313, 314, 315, 316, 317, 318, 319, 320, 321, 322, 323, 324, 325, 360, 361, 362, 363, 364, 365, 366, 367, 368, 369, 370, 371, 372, 373, 374, 375, 376, 377, 378, 379, 380, 381, 382, 383, 384, 385, 386, 387, 388, 389, 390, 391, 392, 393, 394, 395, 396, 397] rfl (by decide +kernel)) (goodIn_sub (fun _ h => List.mem_cons_of_mem _ (List.mem_append_left _ (List.mem_append_left _ (List.mem_append_left _ (List.mem_append_right _ h))))) (by decide +kernel))) (goodIn_sub (fun _ h => List.mem_cons_of_mem _ (List.mem_append_left _ (List.mem_append_right _ h))) (by decide +kernel))
set_option maxRecDepth 20000 in
theorem gL_makes_L_pass : GoodIn wsL_makes (va_wsS RL 169 yL_pass wsL_pass) := goodIn_app (goodIn_of _ (by decide +kernel)) ggL_makes_L_pass
set_option maxRecDepth 20000 in
theorem ggL_makes_L_district : GoodIn wsL_makes wsL_district := goodIn_ca (goodIn_ca (goodIn_r _ [354, 11, 355, 356, 357, 15, 358, 359, 18, 19, 20, 21, 22, 23, 24, 25, 26, 27, 28, 29, 30, 31, 32, 33, 34, 35, 36, 37, 38, 39, 40, 41, 42, 43, 44, 45, 46, 47, 48, 49, 50, 51, 52, 53, 54, 55, 56, 57, 58, 59, 60, 61, 62, 63, 64, 65, 66, 67, 68, 69, 70, 71, 72, 73, 74, 75, 76, 77, 78, 79, 80, 81, 82, 83, 84, 85, 86, 87, 88, 89, 90, 91, 92, 93, 94, 95, 96, 97, 98, 99, 100, 101, 102, 103, 104, 105, 106, 107, 108, 109, 110, 111, 112, 113, 114, 115, 116, 117, 118, 119, 120, 121, 122, 123, 124, 125, 126, 127, 128, 129, 130, 131, 132, 133, 134, 135, 136, 137, 138, 139, 140, 141, 142, 143, 144, 145, 146, 147, 148, 149, 150, 151, 152, 153, 154, 155, 156, 157, 158, 159, 160, 161, 162, 163, 164, 165, 166, 167, 168, 169, 170, 171, 172, 173, 174, 175, 176, 177, 178, 179, 180, 181, 182, 183, 184, 185, 186, 187, 188, 189, 190, 191, 192, 193, 194, 195, 196, 197, 198, 199, 200, 201, 202, 203, 204, 205, 206, 207, 208, 209, 210, 211, 212, 213, 214, 215, 216, 217, 218, 219, 220, 221, 222, 223, 224, 225, 226, 227, 228, 229, 230, 231, 232, 233, 234, 235, 236, 237, 238, 239, 240, 241, 242, 243, 244, 245, 246, 247, 248, 249, 250, 251, 252, 253, 254, 255, 256, 257, 258, 259, 260, 261, 262, 263, 264, 265, 266, 267, 268, 269, 270, 271, 272, 273, 274, 275, 276, 277, 278, 279, 280, 281, 282, 283, 284, 285, 286, 287, 288, 289, 290, 291, 292, 293, 294, 295, 296, 297, 298, 299, 300, 301, 302, 303, 304, 305, 306, 307, 308, 309, 310, 311, 312, 313, 314, 315, 316, 317, 318, 319, 320, 321, 322, 323, 324, 325, 360, 361, 362, 363, 364, 365, 366, 367, 368, 369, 370, 371, 372, 373, 374, 375, 376, 377, 378, 379, 380, 381, 382, 383, 384, 385, 386, 387, 388, 389, 390, 391, 392, 393, 394, 395, 396, 397] rfl (by decide +kernel)) (goodIn_sub (fun _ h => List.mem_cons_of_mem _ (List.mem_append_left _ (List.mem_append_left _ (List.mem_append_left _ (List.mem_append_right _ h))))) (by decide +kernel))) (goodIn_sub (fun _ h => List.mem_cons_of_mem _ (List.mem_append_left _ (List.mem_append_right _ h))) (by decide +kernel))
set_option maxRecDepth 20000 in
theorem gL_makes_L_district : GoodIn wsL_makes (va_wsS RL 171 yL_district wsL_district) := goodIn_app (goodIn_of _ (by decide +kernel)) ggL_makes_L_district
theorem dL_makes_0 : decode cL_makes 0 = .ok (.iconst 3, 1) := by decide +kernel
theorem dL_makes_1 : decode cL_makes 1 = .ok (.aload_n 1, 1) := by decide +kernel
theorem dL_makes_2 : decode cL_makes 2 = .ok (.iconst 0, 1) := by decide +kernel
theorem dL_makes_3 : decode cL_makes 3 = .ok (.invokestatic 157, 3) := by decide +kernel
theorem dL_makes_6 : decode cL_makes 6 = .ok (.iconst 4, 1) := by decide +kernel
theorem dL_makes_7 : decode cL_makes 7 = .ok (.invokestatic 161, 3) := by decide +kernel
theorem dL_makes_10 : decode cL_makes 10 = .ok (.iadd, 1) := by decide +kernel
theorem dL_makes_11 : decode cL_makes 11 = .ok (.istore_n 2, 1) := by decide +kernel
theorem dL_makes_12 : decode cL_makes 12 = .ok (.iconst 0, 1) := by decide +kernel
theorem dL_makes_13 : decode cL_makes 13 = .ok (.istore_n 3, 1) := by decide +kernel
theorem dL_makes_14 : decode cL_makes 14 = .ok (.iload_n 3, 1) := by decide +kernel
theorem dL_makes_15 : decode cL_makes 15 = .ok (.iload_n 2, 1) := by decide +kernel
theorem dL_makes_16 : decode cL_makes 16 = .ok (.if_icmp .ge 19, 3) := by decide +kernel
theorem dL_makes_19 : decode cL_makes 19 = .ok (.aload_n 0, 1) := by decide +kernel
theorem dL_makes_20 : decode cL_makes 20 = .ok (.invokestatic 164, 3) := by decide +kernel
theorem dL_makes_23 : decode cL_makes 23 = .ok (.iload_n 3, 1) := by decide +kernel
theorem dL_makes_24 : decode cL_makes 24 = .ok (.if_icmp .eq 5, 3) := by decide +kernel
theorem dL_makes_27 : decode cL_makes 27 = .ok (.iconst 0, 1) := by decide +kernel
theorem dL_makes_28 : decode cL_makes 28 = .ok (.ireturn, 1) := by decide +kernel
theorem dL_makes_29 : decode cL_makes 29 = .ok (.iinc 3 1, 3) := by decide +kernel
theorem dL_makes_32 : decode cL_makes 32 = .ok (.goto (-18), 3) := by decide +kernel
theorem dL_makes_35 : decode cL_makes 35 = .ok (.iconst 0, 1) := by decide +kernel
theorem dL_makes_36 : decode cL_makes 36 = .ok (.istore_n 3, 1) := by decide +kernel
theorem dL_makes_37 : decode cL_makes 37 = .ok (.iload_n 3, 1) := by decide +kernel
theorem dL_makes_38 : decode cL_makes 38 = .ok (.bipush 8, 2) := by decide +kernel
theorem dL_makes_40 : decode cL_makes 40 = .ok (.if_icmp .ge 111, 3) := by decide +kernel
theorem dL_makes_43 : decode cL_makes 43 = .ok (.aload_n 1, 1) := by decide +kernel
theorem dL_makes_44 : decode cL_makes 44 = .ok (.iconst 1, 1) := by decide +kernel
theorem dL_makes_45 : decode cL_makes 45 = .ok (.iload_n 3, 1) := by decide +kernel
theorem dL_makes_46 : decode cL_makes 46 = .ok (.iadd, 1) := by decide +kernel
theorem dL_makes_47 : decode cL_makes 47 = .ok (.invokestatic 157, 3) := by decide +kernel
theorem dL_makes_50 : decode cL_makes 50 = .ok (.iload_n 3, 1) := by decide +kernel
theorem dL_makes_51 : decode cL_makes 51 = .ok (.sipush 7919, 3) := by decide +kernel
theorem dL_makes_54 : decode cL_makes 54 = .ok (.imul, 1) := by decide +kernel
theorem dL_makes_55 : decode cL_makes 55 = .ok (.ixor, 1) := by decide +kernel
theorem dL_makes_56 : decode cL_makes 56 = .ok (.istore 4, 2) := by decide +kernel
theorem dL_makes_58 : decode cL_makes 58 = .ok (.iload 4, 2) := by decide +kernel
theorem dL_makes_60 : decode cL_makes 60 = .ok (.iload_n 2, 1) := by decide +kernel
theorem dL_makes_61 : decode cL_makes 61 = .ok (.invokestatic 161, 3) := by decide +kernel
theorem dL_makes_64 : decode cL_makes 64 = .ok (.istore 5, 2) := by decide +kernel
theorem dL_makes_66 : decode cL_makes 66 = .ok (.iload 4, 2) := by decide +kernel
theorem dL_makes_68 : decode cL_makes 68 = .ok (.iconst 3, 1) := by decide +kernel
theorem dL_makes_69 : decode cL_makes 69 = .ok (.ishr, 1) := by decide +kernel
theorem dL_makes_70 : decode cL_makes 70 = .ok (.iload_n 2, 1) := by decide +kernel
theorem dL_makes_71 : decode cL_makes 71 = .ok (.invokestatic 161, 3) := by decide +kernel
theorem dL_makes_74 : decode cL_makes 74 = .ok (.istore 6, 2) := by decide +kernel
theorem dL_makes_76 : decode cL_makes 76 = .ok (.aload_n 0, 1) := by decide +kernel
theorem dL_makes_77 : decode cL_makes 77 = .ok (.iload 5, 2) := by decide +kernel
theorem dL_makes_79 : decode cL_makes 79 = .ok (.iload 6, 2) := by decide +kernel
theorem dL_makes_81 : decode cL_makes 81 = .ok (.iconst 1, 1) := by decide +kernel
theorem dL_makes_82 : decode cL_makes 82 = .ok (.iload 4, 2) := by decide +kernel
theorem dL_makes_84 : decode cL_makes 84 = .ok (.bipush 6, 2) := by decide +kernel
theorem dL_makes_86 : decode cL_makes 86 = .ok (.ishr, 1) := by decide +kernel
theorem dL_makes_87 : decode cL_makes 87 = .ok (.bipush 9, 2) := by decide +kernel
theorem dL_makes_89 : decode cL_makes 89 = .ok (.invokestatic 161, 3) := by decide +kernel
theorem dL_makes_92 : decode cL_makes 92 = .ok (.iadd, 1) := by decide +kernel
theorem dL_makes_93 : decode cL_makes 93 = .ok (.invokestatic 166, 3) := by decide +kernel
theorem dL_makes_96 : decode cL_makes 96 = .ok (.istore 7, 2) := by decide +kernel
theorem dL_makes_98 : decode cL_makes 98 = .ok (.iload 7, 2) := by decide +kernel
theorem dL_makes_100 : decode cL_makes 100 = .ok (.ifCond .ge 25, 3) := by decide +kernel
theorem dL_makes_103 : decode cL_makes 103 = .ok (.aload_n 0, 1) := by decide +kernel
theorem dL_makes_104 : decode cL_makes 104 = .ok (.iconst 0, 1) := by decide +kernel
theorem dL_makes_105 : decode cL_makes 105 = .ok (.iconst 0, 1) := by decide +kernel
theorem dL_makes_106 : decode cL_makes 106 = .ok (.invokestatic 149, 3) := by decide +kernel
theorem dL_makes_109 : decode cL_makes 109 = .ok (.iconst 4, 1) := by decide +kernel
theorem dL_makes_110 : decode cL_makes 110 = .ok (.if_icmp .eq 15, 3) := by decide +kernel
theorem dL_makes_113 : decode cL_makes 113 = .ok (.aload_n 0, 1) := by decide +kernel
theorem dL_makes_114 : decode cL_makes 114 = .ok (.iconst 0, 1) := by decide +kernel
theorem dL_makes_115 : decode cL_makes 115 = .ok (.iconst 0, 1) := by decide +kernel
theorem dL_makes_116 : decode cL_makes 116 = .ok (.invokestatic 149, 3) := by decide +kernel
theorem dL_makes_119 : decode cL_makes 119 = .ok (.iconst 5, 1) := by decide +kernel
theorem dL_makes_120 : decode cL_makes 120 = .ok (.if_icmp .eq 5, 3) := by decide +kernel
theorem dL_makes_123 : decode cL_makes 123 = .ok (.iconst 0, 1) := by decide +kernel
theorem dL_makes_124 : decode cL_makes 124 = .ok (.ireturn, 1) := by decide +kernel
theorem dL_makes_125 : decode cL_makes 125 = .ok (.iload 4, 2) := by decide +kernel
theorem dL_makes_127 : decode cL_makes 127 = .ok (.bipush 10, 2) := by decide +kernel
theorem dL_makes_129 : decode cL_makes 129 = .ok (.ishr, 1) := by decide +kernel
theorem dL_makes_130 : decode cL_makes 130 = .ok (.iconst 3, 1) := by decide +kernel
theorem dL_makes_131 : decode cL_makes 131 = .ok (.iand, 1) := by decide +kernel
theorem dL_makes_132 : decode cL_makes 132 = .ok (.ifCond .ne 13, 3) := by decide +kernel
theorem dL_makes_135 : decode cL_makes 135 = .ok (.aload_n 0, 1) := by decide +kernel
theorem dL_makes_136 : decode cL_makes 136 = .ok (.iconst 1, 1) := by decide +kernel
theorem dL_makes_137 : decode cL_makes 137 = .ok (.invokestatic 169, 3) := by decide +kernel
theorem dL_makes_140 : decode cL_makes 140 = .ok (.ifCond .ge 5, 3) := by decide +kernel
theorem dL_makes_143 : decode cL_makes 143 = .ok (.iconst 0, 1) := by decide +kernel
theorem dL_makes_144 : decode cL_makes 144 = .ok (.ireturn, 1) := by decide +kernel
theorem dL_makes_145 : decode cL_makes 145 = .ok (.iinc 3 1, 3) := by decide +kernel
theorem dL_makes_148 : decode cL_makes 148 = .ok (.goto (-111), 3) := by decide +kernel
theorem dL_makes_151 : decode cL_makes 151 = .ok (.aload_n 1, 1) := by decide +kernel
theorem dL_makes_152 : decode cL_makes 152 = .ok (.bipush 9, 2) := by decide +kernel
theorem dL_makes_154 : decode cL_makes 154 = .ok (.invokestatic 157, 3) := by decide +kernel
theorem dL_makes_157 : decode cL_makes 157 = .ok (.iconst 1, 1) := by decide +kernel
theorem dL_makes_158 : decode cL_makes 158 = .ok (.iand, 1) := by decide +kernel
theorem dL_makes_159 : decode cL_makes 159 = .ok (.ifCond .ne 25, 3) := by decide +kernel
theorem dL_makes_162 : decode cL_makes 162 = .ok (.aload_n 0, 1) := by decide +kernel
theorem dL_makes_163 : decode cL_makes 163 = .ok (.aload_n 1, 1) := by decide +kernel
theorem dL_makes_164 : decode cL_makes 164 = .ok (.bipush 9, 2) := by decide +kernel
theorem dL_makes_166 : decode cL_makes 166 = .ok (.invokestatic 157, 3) := by decide +kernel
theorem dL_makes_169 : decode cL_makes 169 = .ok (.iconst 1, 1) := by decide +kernel
theorem dL_makes_170 : decode cL_makes 170 = .ok (.ishr, 1) := by decide +kernel
theorem dL_makes_171 : decode cL_makes 171 = .ok (.iload_n 2, 1) := by decide +kernel
theorem dL_makes_172 : decode cL_makes 172 = .ok (.invokestatic 161, 3) := by decide +kernel
theorem dL_makes_175 : decode cL_makes 175 = .ok (.iconst 1, 1) := by decide +kernel
theorem dL_makes_176 : decode cL_makes 176 = .ok (.invokestatic 171, 3) := by decide +kernel
theorem dL_makes_179 : decode cL_makes 179 = .ok (.ifCond .eq 5, 3) := by decide +kernel
theorem dL_makes_182 : decode cL_makes 182 = .ok (.iconst 0, 1) := by decide +kernel
theorem dL_makes_183 : decode cL_makes 183 = .ok (.ireturn, 1) := by decide +kernel
theorem dL_makes_184 : decode cL_makes 184 = .ok (.aload_n 0, 1) := by decide +kernel
theorem dL_makes_185 : decode cL_makes 185 = .ok (.iconst 1, 1) := by decide +kernel
theorem dL_makes_186 : decode cL_makes 186 = .ok (.aload_n 1, 1) := by decide +kernel
theorem dL_makes_187 : decode cL_makes 187 = .ok (.bipush 10, 2) := by decide +kernel
theorem dL_makes_189 : decode cL_makes 189 = .ok (.invokestatic 157, 3) := by decide +kernel
theorem dL_makes_192 : decode cL_makes 192 = .ok (.bipush 25, 2) := by decide +kernel
theorem dL_makes_194 : decode cL_makes 194 = .ok (.invokestatic 161, 3) := by decide +kernel
theorem dL_makes_197 : decode cL_makes 197 = .ok (.iadd, 1) := by decide +kernel
theorem dL_makes_198 : decode cL_makes 198 = .ok (.invokestatic 169, 3) := by decide +kernel
theorem dL_makes_201 : decode cL_makes 201 = .ok (.ifCond .lt 7, 3) := by decide +kernel
theorem dL_makes_204 : decode cL_makes 204 = .ok (.iconst 1, 1) := by decide +kernel
theorem dL_makes_205 : decode cL_makes 205 = .ok (.goto 4, 3) := by decide +kernel
theorem dL_makes_208 : decode cL_makes 208 = .ok (.iconst 0, 1) := by decide +kernel
theorem dL_makes_209 : decode cL_makes 209 = .ok (.ireturn, 1) := by decide +kernel
set_option maxRecDepth 20000 in
theorem ggL_asks_L_meanCost : GoodIn wsL_asks wsL_meanCost := goodIn_ca (goodIn_ca (goodIn_r _ [9, 10, 11, 12, 13, 14, 15, 16, 17, 18, 19, 20, 21, 22, 23, 24, 25, 26, 27, 28, 29, 30, 31, 32, 33, 34, 35, 36, 37, 38, 39, 40, 41, 732, 733, 734, 735, 736, 737, 738, 739, 740, 741, 742, 743, 744, 745, 746, 747, 748, 749, 750, 751] rfl (by decide +kernel)) (goodIn_sub (fun _ h => List.mem_cons_of_mem _ (List.mem_append_left _ (List.mem_append_left _ (List.mem_append_left _ (List.mem_append_left _ (List.mem_append_right _ h)))))) (by decide +kernel))) (goodIn_sub (fun _ h => List.mem_cons_of_mem _ (List.mem_append_left _ (List.mem_append_left _ (List.mem_append_left _ (List.mem_append_right _ h))))) (by decide +kernel))
set_option maxRecDepth 20000 in
theorem gL_asks_L_meanCost : GoodIn wsL_asks (va_wsS RL 176 yL_meanCost wsL_meanCost) := goodIn_app (goodIn_of _ (by decide +kernel)) ggL_asks_L_meanCost
set_option maxRecDepth 20000 in
theorem ggL_asks_Jxe99ae_doubleToLongBits_ccdee : GoodIn wsL_asks wsJxe99ae_doubleToLongBits_ccdee := goodIn_r _ [45, 46, 47, 48, 49, 50, 51, 52, 44, 53] rfl (by decide +kernel)
set_option maxRecDepth 20000 in
theorem gL_asks_Jxe99ae_doubleToLongBits_ccdee : GoodIn wsL_asks (va_wsS RL 179 yJxe99ae_doubleToLongBits_ccdee wsJxe99ae_doubleToLongBits_ccdee) := goodIn_app (goodIn_of _ (by decide +kernel)) ggL_asks_Jxe99ae_doubleToLongBits_ccdee
set_option maxRecDepth 20000 in
theorem ggL_asks_L_lostShare : GoodIn wsL_asks wsL_lostShare := goodIn_ca (goodIn_r _ [56, 10, 57, 58, 59, 60, 15, 61, 17, 18, 19, 732, 733, 734, 735, 736, 737, 738, 739, 740, 741, 742, 743, 744, 745, 746, 747, 748, 749, 750, 751, 752, 753, 754] rfl (by decide +kernel)) (goodIn_sub (fun _ h => List.mem_cons_of_mem _ (List.mem_append_left _ (List.mem_append_left _ (List.mem_append_left _ (List.mem_append_left _ (List.mem_append_right _ h)))))) (by decide +kernel))
set_option maxRecDepth 20000 in
theorem gL_asks_L_lostShare : GoodIn wsL_asks (va_wsS RL 185 yL_lostShare wsL_lostShare) := goodIn_app (goodIn_of _ (by decide +kernel)) ggL_asks_L_lostShare
set_option maxRecDepth 20000 in
theorem ggL_asks_Jxf58ca_floatToIntBits_5c35a : GoodIn wsL_asks wsJxf58ca_floatToIntBits_5c35a := goodIn_r _ [65, 66, 67, 68, 69, 70, 71, 72, 64, 73] rfl (by decide +kernel)
set_option maxRecDepth 20000 in
theorem gL_asks_Jxf58ca_floatToIntBits_5c35a : GoodIn wsL_asks (va_wsS RL 188 yJxf58ca_floatToIntBits_5c35a wsJxf58ca_floatToIntBits_5c35a) := goodIn_app (goodIn_of _ (by decide +kernel)) ggL_asks_Jxf58ca_floatToIntBits_5c35a
set_option maxRecDepth 20000 in
theorem ggL_asks_L_account : GoodIn wsL_asks wsL_account := goodIn_ca (goodIn_ca (goodIn_r _ [76, 77, 78, 79, 80, 15, 81, 82, 83, 19, 84, 85, 20, 21, 22, 23, 24, 25, 26, 27, 28, 29, 30, 31, 32, 33, 34, 35, 36, 37, 86, 87, 88, 89, 90, 91, 92, 93, 94, 95, 96, 97, 98, 99, 100, 101, 102, 103, 104, 105, 106, 107, 108, 109, 110, 111, 112, 113, 114, 115, 116, 117, 118, 119, 120, 121, 122, 123, 124, 125, 126, 127, 128, 129, 130, 131, 132, 133, 134, 135, 136, 732, 733, 734, 735, 736, 737, 738, 739, 740, 741, 742, 743, 744, 745, 746, 747, 748, 749, 750, 751, 752, 753, 754, 755, 756, 757, 758, 759, 760, 761, 762, 763, 764, 765, 766, 767, 768, 769, 770, 771] rfl (by decide +kernel)) (goodIn_sub (fun _ h => List.mem_cons_of_mem _ (List.mem_append_left _ (List.mem_append_left _ (List.mem_append_right _ h)))) (by decide +kernel))) (goodIn_sub (fun _ h => List.mem_cons_of_mem _ (List.mem_append_left _ (List.mem_append_left _ (List.mem_append_left _ (List.mem_append_right _ h))))) (by decide +kernel))
set_option maxRecDepth 20000 in
theorem gL_asks_L_account : GoodIn wsL_asks (va_wsS RL 194 yL_account wsL_account) := goodIn_app (goodIn_of _ (by decide +kernel)) ggL_asks_L_account
set_option maxRecDepth 20000 in
theorem ggL_asks_L_surveyorOf : GoodIn wsL_asks wsL_surveyorOf := goodIn_ca (goodIn_ca (goodIn_ca (goodIn_r _ [139, 140, 141, 142, 143, 15, 144, 82, 83, 19, 145, 146, 147, 148, 149, 150, 151, 152, 153, 23, 154, 25, 155, 156, 157, 158, 159, 160, 161, 95, 96, 97, 98, 99, 35, 36, 37, 100, 101, 102, 103, 104, 105, 106, 107, 108, 109, 110, 111, 112, 113, 114, 115, 116, 117, 118, 119, 120, 121, 122, 123, 124, 125, 126, 127, 128, 129, 130, 162, 163, 164, 165, 166, 167, 168, 169, 34, 170, 27, 28, 29, 30, 31, 32, 33, 171, 91, 92, 93, 94, 131, 132, 133, 134, 135, 136, 172, 173, 174, 175, 176, 177, 178, 179, 180, 181, 182, 183, 184, 185, 186, 187, 188, 189, 190, 732, 733, 734, 735, 736, 737, 738, 739, 740, 741, 768, 769, 770, 771, 742, 743, 744, 745, 746, 747, 748, 749, 750, 751, 763, 764, 765, 766, 767, 752, 753, 754] rfl (by decide +kernel)) (goodIn_sub (fun _ h => List.mem_cons_of_mem _ (List.mem_append_left _ (List.mem_append_left _ (List.mem_append_right _ h)))) (by decide +kernel))) (goodIn_sub (fun _ h => List.mem_cons_of_mem _ (List.mem_append_left _ (List.mem_append_right _ h))) (by decide +kernel))) (goodIn_sub (fun _ h => List.mem_cons_of_mem _ (List.mem_append_left _ (List.mem_append_left _ (List.mem_append_left _ (List.mem_append_right _ h))))) (by decide +kernel))
set_option maxRecDepth 20000 in
theorem gL_asks_L_surveyorOf : GoodIn wsL_asks (va_wsS RL 196 yL_surveyorOf wsL_surveyorOf) := goodIn_app (goodIn_of _ (by decide +kernel)) ggL_asks_L_surveyorOf
set_option maxRecDepth 20000 in
theorem ggL_asks_L_cost : GoodIn wsL_asks wsL_cost := goodIn_ca (goodIn_ca (goodIn_ca (goodIn_r _ [193, 140, 194, 195, 196, 15, 197, 198, 199, 19, 145, 146, 147, 148, 149, 150, 151, 152, 153, 23, 154, 25, 200, 31, 32, 33, 34, 35, 36, 37, 732, 733, 734, 735, 736, 737, 738, 739, 740, 741, 742, 743, 744, 745, 746, 747, 748, 749, 750, 751] rfl (by decide +kernel)) (goodIn_sub (fun _ h => List.mem_cons_of_mem _ (List.mem_append_right _ h)) (by decide +kernel))) (goodIn_sub (fun _ h => List.mem_cons_of_mem _ (List.mem_append_left _ (List.mem_append_right _ h))) (by decide +kernel))) (goodIn_sub (fun _ h => List.mem_cons_of_mem _ (List.mem_append_left _ (List.mem_append_left _ (List.mem_append_left _ (List.mem_append_right _ h))))) (by decide +kernel))
set_option maxRecDepth 20000 in
theorem gL_asks_L_cost : GoodIn wsL_asks (va_wsS RL 198 yL_cost wsL_cost) := goodIn_app (goodIn_of _ (by decide +kernel)) ggL_asks_L_cost
set_option maxRecDepth 20000 in
theorem ggL_asks_L_distance : GoodIn wsL_asks wsL_distance := goodIn_ca (goodIn_ca (goodIn_ca (goodIn_r _ [203, 140, 204, 205, 206, 15, 207, 208, 19, 145, 146, 147, 148, 149, 150, 151, 152, 153, 23, 154, 25, 209, 210, 211, 212, 213, 214, 215, 95, 96, 97, 98, 99, 35, 36, 37, 100, 101, 102, 103, 104, 105, 106, 107, 108, 109, 110, 111, 112, 113, 114, 115, 116, 117, 118, 119, 120, 121, 122, 123, 124, 125, 126, 127, 128, 129, 130, 216, 217, 218, 134, 219, 220, 221, 222, 223, 224, 225, 226, 227, 228, 229, 230, 231, 232, 233, 234, 235, 236, 237, 238, 239, 240, 241, 242, 243, 244, 245, 246, 247, 248, 249, 198, 199, 250, 732, 733, 734, 735, 736, 737, 738, 739, 740, 741, 742, 743, 744, 745, 746, 747, 748, 749, 750, 751, 772, 773, 763, 764, 765, 766, 767, 768, 769, 770, 771] rfl (by decide +kernel)) (goodIn_sub (fun _ h => List.mem_cons_of_mem _ (List.mem_append_left _ (List.mem_append_right _ h))) (by decide +kernel))) (goodIn_sub (fun _ h => List.mem_cons_of_mem _ (List.mem_append_left _ (List.mem_append_left _ (List.mem_append_left _ (List.mem_append_right _ h))))) (by decide +kernel))) (goodIn_sub (fun _ h => List.mem_cons_of_mem _ (List.mem_append_right _ h)) (by decide +kernel))
set_option maxRecDepth 20000 in
theorem gL_asks_L_distance : GoodIn wsL_asks (va_wsS RL 200 yL_distance wsL_distance) := goodIn_app (goodIn_of _ (by decide +kernel)) ggL_asks_L_distance
set_option maxRecDepth 20000 in
theorem ggL_asks_L_distanceAgain : GoodIn wsL_asks wsL_distanceAgain := goodIn_ca (goodIn_ca (goodIn_ca (goodIn_r _ [253, 140, 254, 255, 256, 15, 257, 208, 19, 145, 146, 147, 148, 149, 150, 151, 152, 153, 23, 154, 25, 209, 210, 211, 212, 213, 214, 215, 95, 96, 97, 98, 99, 35, 36, 37, 100, 101, 102, 103, 104, 105, 106, 107, 108, 109, 110, 111, 112, 113, 114, 115, 116, 117, 118, 119, 120, 121, 122, 123, 124, 125, 126, 127, 128, 129, 130, 216, 217, 218, 134, 219, 220, 258, 259, 260, 261, 225, 226, 227, 228, 229, 230, 231, 232, 233, 234, 239, 240, 241, 242, 243, 244, 245, 246, 247, 248, 249, 198, 199, 250, 732, 733, 734, 735, 736, 737, 738, 739, 740, 741, 742, 743, 744, 745, 746, 747, 748, 749, 750, 751, 772, 773, 763, 764, 765, 766, 767, 768, 769, 770, 771] rfl (by decide +kernel)) (goodIn_sub (fun _ h => List.mem_cons_of_mem _ (List.mem_append_left _ (List.mem_append_right _ h))) (by decide +kernel))) (goodIn_sub (fun _ h => List.mem_cons_of_mem _ (List.mem_append_left _ (List.mem_append_left _ (List.mem_append_left _ (List.mem_append_right _ h))))) (by decide +kernel))) (goodIn_sub (fun _ h => List.mem_cons_of_mem _ (List.mem_append_right _ h)) (by decide +kernel))
set_option maxRecDepth 20000 in
theorem gL_asks_L_distanceAgain : GoodIn wsL_asks (va_wsS RL 202 yL_distanceAgain wsL_distanceAgain) := goodIn_app (goodIn_of _ (by decide +kernel)) ggL_asks_L_distanceAgain
set_option maxRecDepth 20000 in
theorem ggL_asks_L_next : GoodIn wsL_asks wsL_next := goodIn_ca (goodIn_ca (goodIn_ca (goodIn_r _ [264, 140, 265, 266, 267, 15, 268, 198, 199, 145, 146, 147, 148, 149, 150, 19, 151, 152, 153, 23, 154, 25, 269, 270, 271, 272, 208, 209, 210, 211, 212, 213, 214, 215, 95, 96, 97, 98, 99, 35, 36, 37, 100, 101, 102, 103, 104, 105, 106, 107, 108, 109, 110, 111, 112, 113, 114, 115, 116, 117, 118, 119, 120, 121, 122, 123, 124, 125, 126, 127, 128, 129, 130, 216, 217, 218, 134, 219, 220, 273, 274, 275, 276, 230, 277, 222, 223, 224, 225, 226, 227, 228, 229, 231, 232, 233, 234, 235, 236, 237, 238, 239, 240, 241, 242, 278, 244, 245, 246, 732, 733, 734, 735, 736, 737, 738, 739, 740, 741, 742, 743, 744, 745, 746, 747, 748, 749, 750, 751, 772, 773, 763, 764, 765, 766, 767, 768, 769, 770, 771] rfl (by decide +kernel)) (goodIn_sub (fun _ h => List.mem_cons_of_mem _ (List.mem_append_right _ h)) (by decide +kernel))) (goodIn_sub (fun _ h => List.mem_cons_of_mem _ (List.mem_append_left _ (List.mem_append_right _ h))) (by decide +kernel))) (goodIn_sub (fun _ h => List.mem_cons_of_mem _ (List.mem_append_left _ (List.mem_append_left _ (List.mem_append_left _ (List.mem_append_right _ h))))) (by decide +kernel))
set_option maxRecDepth 20000 in
theorem gL_asks_L_next : GoodIn wsL_asks (va_wsS RL 204 yL_next wsL_next) := goodIn_app (goodIn_of _ (by decide +kernel)) ggL_asks_L_next
set_option maxRecDepth 20000 in
theorem ggL_asks_L_follow : GoodIn wsL_asks wsL_follow := goodIn_ca (goodIn_ca (goodIn_ca (goodIn_r _ [281, 140, 282, 283, 284, 15, 285, 198, 199, 19, 145, 146, 147, 148, 149, 150, 151, 152, 153, 23, 154, 25, 269, 270, 271, 272, 208, 209, 210, 211, 212, 213, 214, 215, 95, 96, 97, 98, 99, 35, 36, 37, 100, 101, 102, 103, 104, 105, 106, 107, 108, 109, 110, 111, 112, 113, 114, 115, 116, 117, 118, 119, 120, 121, 122, 123, 124, 125, 126, 127, 128, 129, 130, 216, 217, 218, 134, 219, 220, 273, 274, 275, 276, 230, 277, 222, 223, 224, 225, 226, 227, 228, 229, 231, 232, 233, 234, 235, 236, 237, 238, 239, 240, 241, 242, 278, 244, 245, 246, 200, 31, 32, 33, 34, 732, 733, 734, 735, 736, 737, 738, 739, 740, 741, 742, 743, 744, 745, 746, 747, 748, 749, 750, 751, 772, 773, 763, 764, 765, 766, 767, 768, 769, 770, 771] rfl (by decide +kernel)) (goodIn_sub (fun _ h => List.mem_cons_of_mem _ (List.mem_append_right _ h)) (by decide +kernel))) (goodIn_sub (fun _ h => List.mem_cons_of_mem _ (List.mem_append_left _ (List.mem_append_right _ h))) (by decide +kernel))) (goodIn_sub (fun _ h => List.mem_cons_of_mem _ (List.mem_append_left _ (List.mem_append_left _ (List.mem_append_left _ (List.mem_append_right _ h))))) (by decide +kernel))
set_option maxRecDepth 20000 in
theorem gL_asks_L_follow : GoodIn wsL_asks (va_wsS RL 206 yL_follow wsL_follow) := goodIn_app (goodIn_of _ (by decide +kernel)) ggL_asks_L_follow
set_option maxRecDepth 20000 in
theorem ggL_asks_L_real : GoodIn wsL_asks wsL_real := goodIn_ca (goodIn_ca (goodIn_ca (goodIn_r _ [288, 140, 289, 290, 291, 15, 292, 208, 19, 145, 146, 147, 148, 149, 150, 151, 152, 153, 23, 154, 25, 293, 294, 295, 212, 296, 214, 297, 167, 168, 169, 34, 159, 160, 35, 36, 37, 298, 31, 32, 33, 221, 222, 223, 224, 225, 226, 227, 228, 229, 230, 231, 232, 233, 234, 235, 236, 237, 238, 239, 240, 241, 242, 243, 244, 245, 246, 247, 248, 249, 198, 199, 250, 732, 733, 734, 735, 736, 737, 738, 739, 740, 741, 742, 743, 744, 745, 746, 747, 748, 749, 750, 751, 772, 773] rfl (by decide +kernel)) (goodIn_sub (fun _ h => List.mem_cons_of_mem _ (List.mem_append_left _ (List.mem_append_right _ h))) (by decide +kernel))) (goodIn_sub (fun _ h => List.mem_cons_of_mem _ (List.mem_append_left _ (List.mem_append_left _ (List.mem_append_left _ (List.mem_append_right _ h))))) (by decide +kernel))) (goodIn_sub (fun _ h => List.mem_cons_of_mem _ (List.mem_append_right _ h)) (by decide +kernel))
set_option maxRecDepth 20000 in
theorem gL_asks_L_real : GoodIn wsL_asks (va_wsS RL 208 yL_real wsL_real) := goodIn_app (goodIn_of _ (by decide +kernel)) ggL_asks_L_real
set_option maxRecDepth 20000 in
theorem ggL_asks_L_page : GoodIn wsL_asks wsL_page := goodIn_ca (goodIn_ca (goodIn_ca (goodIn_ca (goodIn_r _ [301, 140, 302, 303, 304, 15, 305, 82, 83, 198, 199, 19, 145, 146, 147, 148, 149, 150, 151, 152, 153, 23, 154, 25, 161, 95, 96, 97, 98, 99, 35, 36, 37, 100, 101, 102, 103, 104, 105, 106, 107, 108, 109, 110, 111, 112, 113, 114, 115, 116, 117, 118, 119, 120, 121, 122, 123, 124, 125, 126, 127, 128, 129, 130, 306, 132, 133, 134, 135, 136, 307, 308, 309, 310, 311, 312, 313, 314, 315, 220, 732, 733, 734, 735, 736, 737, 738, 739, 740, 741, 768, 769, 770, 771, 742, 743, 744, 745, 746, 747, 748, 749, 750, 751, 763, 764, 765, 766, 767] rfl (by decide +kernel)) (goodIn_sub (fun _ h => List.mem_cons_of_mem _ (List.mem_append_left _ (List.mem_append_left _ (List.mem_append_right _ h)))) (by decide +kernel))) (goodIn_sub (fun _ h => List.mem_cons_of_mem _ (List.mem_append_right _ h)) (by decide +kernel))) (goodIn_sub (fun _ h => List.mem_cons_of_mem _ (List.mem_append_left _ (List.mem_append_right _ h))) (by decide +kernel))) (goodIn_sub (fun _ h => List.mem_cons_of_mem _ (List.mem_append_left _ (List.mem_append_left _ (List.mem_append_left _ (List.mem_append_right _ h))))) (by decide +kernel))
set_option maxRecDepth 20000 in
theorem gL_asks_L_page : GoodIn wsL_asks (va_wsS RL 210 yL_page wsL_page) := goodIn_app (goodIn_of _ (by decide +kernel)) ggL_asks_L_page
set_option maxRecDepth 20000 in
theorem ggL_asks_L_told : GoodIn wsL_asks wsL_told := goodIn_ca (goodIn_ca (goodIn_ca (goodIn_r _ [318, 140, 319, 320, 321, 15, 322, 198, 199, 19, 145, 146, 147, 148, 149, 150, 151, 152, 153, 23, 154, 25, 161, 95, 96, 97, 98, 99, 35, 36, 37, 100, 101, 102, 103, 104, 105, 106, 107, 108, 109, 110, 111, 112, 113, 114, 115, 116, 117, 118, 119, 120, 121, 122, 123, 124, 125, 126, 127, 128, 129, 130, 323, 217, 218, 134, 219, 220, 732, 733, 734, 735, 736, 737, 738, 739, 740, 741, 742, 743, 744, 745, 746, 747, 748, 749, 750, 751, 763, 764, 765, 766, 767, 768, 769, 770, 771] rfl (by decide +kernel)) (goodIn_sub (fun _ h => List.mem_cons_of_mem _ (List.mem_append_right _ h)) (by decide +kernel))) (goodIn_sub (fun _ h => List.mem_cons_of_mem _ (List.mem_append_left _ (List.mem_append_right _ h))) (by decide +kernel))) (goodIn_sub (fun _ h => List.mem_cons_of_mem _ (List.mem_append_left _ (List.mem_append_left _ (List.mem_append_left _ (List.mem_append_right _ h))))) (by decide +kernel))
set_option maxRecDepth 20000 in
theorem gL_asks_L_told : GoodIn wsL_asks (va_wsS RL 212 yL_told wsL_told) := goodIn_app (goodIn_of _ (by decide +kernel)) ggL_asks_L_told
set_option maxRecDepth 20000 in
theorem ggL_asks_L_reached : GoodIn wsL_asks wsL_reached := goodIn_ca (goodIn_ca (goodIn_r _ [326, 140, 327, 328, 329, 15, 330, 208, 19, 250, 145, 146, 147, 148, 149, 150, 151, 152, 153, 23, 154, 25, 209, 210, 211, 212, 213, 214, 215, 95, 96, 97, 98, 99, 35, 36, 37, 100, 101, 102, 103, 104, 105, 106, 107, 108, 109, 110, 111, 112, 113, 114, 115, 116, 117, 118, 119, 120, 121, 122, 123, 124, 125, 126, 127, 128, 129, 130, 216, 217, 218, 134, 219, 220, 221, 222, 223, 224, 225, 226, 227, 228, 229, 230, 231, 232, 233, 234, 235, 236, 237, 238, 239, 240, 241, 242, 243, 244, 245, 246, 732, 733, 734, 735, 736, 737, 738, 739, 740, 741, 742, 743, 744, 745, 746, 747, 748, 749, 750, 751, 772, 773, 763, 764, 765, 766, 767, 768, 769, 770, 771] rfl (by decide +kernel)) (goodIn_sub (fun _ h => List.mem_cons_of_mem _ (List.mem_append_left _ (List.mem_append_right _ h))) (by decide +kernel))) (goodIn_sub (fun _ h => List.mem_cons_of_mem _ (List.mem_append_left _ (List.mem_append_left _ (List.mem_append_left _ (List.mem_append_right _ h))))) (by decide +kernel))
set_option maxRecDepth 20000 in
theorem gL_asks_L_reached : GoodIn wsL_asks (va_wsS RL 214 yL_reached wsL_reached) := goodIn_app (goodIn_of _ (by decide +kernel)) ggL_asks_L_reached
set_option maxRecDepth 20000 in
theorem ggL_asks_L_right : GoodIn wsL_asks wsL_right := goodIn_ca (goodIn_ca (goodIn_r _ [333, 140, 334, 335, 336, 15, 337, 338, 208, 19, 145, 146, 147, 148, 149, 150, 151, 152, 153, 23, 154, 25, 209, 210, 211, 212, 213, 214, 215, 95, 96, 97, 98, 99, 35, 36, 37, 100, 101, 102, 103, 104, 105, 106, 107, 108, 109, 110, 111, 112, 113, 114, 115, 116, 117, 118, 119, 120, 121, 122, 123, 124, 125, 126, 127, 128, 129, 130, 216, 217, 218, 134, 219, 220, 221, 222, 223, 224, 225, 226, 227, 228, 229, 230, 231, 232, 233, 234, 235, 236, 237, 238, 239, 240, 241, 242, 243, 244, 245, 246, 293, 294, 295, 296, 297, 167, 168, 169, 34, 159, 160, 298, 31, 32, 33, 732, 733, 734, 735, 736, 737, 738, 739, 740, 741, 742, 743, 744, 745, 746, 747, 748, 749, 750, 751, 772, 773, 763, 764, 765, 766, 767, 768, 769, 770, 771] rfl (by decide +kernel)) (goodIn_sub (fun _ h => List.mem_cons_of_mem _ (List.mem_append_left _ (List.mem_append_left _ (List.mem_append_left _ (List.mem_append_right _ h))))) (by decide +kernel))) (goodIn_sub (fun _ h => List.mem_cons_of_mem _ (List.mem_append_left _ (List.mem_append_right _ h))) (by decide +kernel))
set_option maxRecDepth 20000 in
theorem gL_asks_L_right : GoodIn wsL_asks (va_wsS RL 216 yL_right wsL_right) := goodIn_app (goodIn_of _ (by decide +kernel)) ggL_asks_L_right
set_option maxRecDepth 20000 in
theorem ggL_asks_L_busiest : GoodIn wsL_asks wsL_busiest := goodIn_ca (goodIn_ca (goodIn_r _ [341, 342, 343, 344, 345, 15, 346, 198, 199, 19, 347, 348, 349, 23, 350, 25, 351, 163, 164, 165, 166, 167, 168, 169, 34, 159, 160, 152, 153, 154, 35, 36, 37, 94, 95, 96, 97, 98, 99, 100, 101, 102, 103, 104, 105, 106, 107, 108, 109, 110, 111, 112, 113, 114, 115, 116, 117, 118, 119, 120, 121, 122, 123, 124, 125, 126, 127, 128, 129, 130, 732, 733, 734, 735, 736, 737, 738, 739, 740, 741, 742, 743, 744, 745, 746, 747, 748, 749, 750, 751, 768, 769, 770, 771, 763, 764, 765, 766, 767] rfl (by decide +kernel)) (goodIn_sub (fun _ h => List.mem_cons_of_mem _ (List.mem_append_right _ h)) (by decide +kernel))) (goodIn_sub (fun _ h => List.mem_cons_of_mem _ (List.mem_append_left _ (List.mem_append_left _ (List.mem_append_left _ (List.mem_append_right _ h))))) (by decide +kernel))
set_option maxRecDepth 20000 in
theorem gL_asks_L_busiest : GoodIn wsL_asks (va_wsS RL 219 yL_busiest wsL_busiest) := goodIn_app (goodIn_of _ (by decide +kernel)) ggL_asks_L_busiest
set_option maxRecDepth 20000 in
theorem ggL_asks_L_line : GoodIn wsL_asks wsL_line := goodIn_ca (goodIn_ca (goodIn_r _ [354, 140, 355, 356, 357, 15, 358, 359, 19, 145, 146, 147, 148, 149, 150, 151, 152, 153, 23, 154, 25, 360, 361, 362, 363, 364, 365, 366, 367, 368, 369, 370, 371, 372, 373, 374, 375, 376, 377, 378, 379, 380, 381, 382, 383, 384, 385, 386, 387, 388, 389, 390, 391, 392, 393, 394, 4, 395, 396, 397, 398, 399, 400, 401, 233, 402, 403, 404, 405, 406, 407, 408, 409, 410, 3, 5, 411, 412, 413, 414, 415, 416, 417, 418, 419, 420, 421, 422, 423, 424, 425, 426, 427, 428, 429, 430, 431, 432, 433, 434, 435, 436, 437, 438, 439, 440, 161, 95, 96, 97, 98, 99, 35, 36, 37, 100, 101, 102, 103, 104, 105, 106, 107, 108, 109, 110, 111, 112, 113, 114, 115, 116, 117, 118, 119, 120, 121, 122, 123, 124, 125, 126, 127, 128, 129, 130, 306, 132, 133, 134, 135, 136, 441, 442, 443, 444, 445, 446, 447, 448, 449, 450, 451, 452, 453, 454, 455, 456, 457, 458, 459, 460, 461, 462, 463, 464, 465, 466, 467, 468, 469, 470, 471, 472, 473, 474, 475, 476, 477, 478, 479, 480, 481, 482, 483, 484, 485, 486, 487, 488, 489, 490, 491, 492, 493, 494, 495, 496, 497, 498, 499, 500, 501, 502, 503, 504, 505, 506, 507, 508, 509, 510, 511, 512, 513, 514, 515, 516, 517, 518, 519, 520, 521, 522, 523, 524, 525, 526, 527, 528, 529, 530, 531, 532, 533, 534, 535, 536, 537, 538, 539, 540, 541, 542, 543, 544, 545, 323, 217, 218, 219, 220, 732, 733, 734, 735, 736, 737, 738, 739, 740, 741, 742, 743, 744, 745, 746, 747, 748, 749, 750, 751, 774, 775, 776, 777, 778, 779, 780, 781, 782, 783, 784, 785, 786, 787, 788, 789, 763, 764, 765, 766, 767, 768, 769, 770, 771] rfl (by decide +kernel)) (goodIn_sub (fun _ h => List.mem_cons_of_mem _ (List.mem_append_left _ (List.mem_append_right _ h))) (by decide +kernel))) (goodIn_sub (fun _ h => List.mem_cons_of_mem _ (List.mem_append_left _ (List.mem_append_left _ (List.mem_append_left _ (List.mem_append_right _ h))))) (by decide +kernel))
set_option maxRecDepth 20000 in
theorem gL_asks_L_line : GoodIn wsL_asks (va_wsS RL 152 yL_line wsL_line) := goodIn_app (goodIn_of _ (by decide +kernel)) ggL_asks_L_line
set_option maxRecDepth 20000 in
theorem ggL_asks_L_character : GoodIn wsL_asks wsL_character := goodIn_ca (goodIn_r _ [548, 140, 549, 550, 551, 15, 552, 149, 150, 359, 445, 446, 447, 363, 448, 449, 450, 367, 451, 369, 452, 374, 553, 554, 555, 556, 557, 558, 559, 560, 382, 375, 561, 3, 4, 5, 562, 509, 490, 510, 492, 511, 123, 124, 125, 563, 564, 438, 565, 499, 500, 501, 485, 486, 487, 732, 733, 734, 735, 736, 737, 738, 739, 740, 741, 780, 781, 782, 783] rfl (by decide +kernel)) (goodIn_sub (fun _ h => List.mem_cons_of_mem _ (List.mem_append_left _ (List.mem_append_right _ h))) (by decide +kernel))
set_option maxRecDepth 20000 in
theorem gL_asks_L_character : GoodIn wsL_asks (va_wsS RL 155 yL_character wsL_character) := goodIn_app (goodIn_of _ (by decide +kernel)) ggL_asks_L_character
set_option maxRecDepth 20000 in
theorem ggL_asks_L_letter : GoodIn wsL_asks wsL_letter := goodIn_ca (goodIn_ca (goodIn_ca (goodIn_r _ [568, 77, 569, 570, 571, 15, 572, 82, 83, 198, 199, 19, 573, 184, 185, 175, 186, 177, 574, 575, 576, 577, 182, 183, 187, 188, 189, 190, 578, 179, 180, 181, 579, 580, 581, 23, 582, 98, 583, 584, 585, 586, 587, 100, 101, 102, 103, 104, 105, 106, 107, 108, 109, 110, 111, 112, 113, 114, 115, 116, 117, 118, 119, 120, 121, 122, 123, 124, 125, 126, 127, 128, 129, 130, 732, 733, 734, 735, 736, 737, 738, 739, 740, 741, 742, 743, 744, 745, 746, 747, 748, 749, 750, 751, 768, 769, 770, 771, 752, 753, 754, 763, 764, 765, 766, 767] rfl (by decide +kernel)) (goodIn_sub (fun _ h => List.mem_cons_of_mem _ (List.mem_append_left _ (List.mem_append_left _ (List.mem_append_right _ h)))) (by decide +kernel))) (goodIn_sub (fun _ h => List.mem_cons_of_mem _ (List.mem_append_right _ h)) (by decide +kernel))) (goodIn_sub (fun _ h => List.mem_cons_of_mem _ (List.mem_append_left _ (List.mem_append_left _ (List.mem_append_left _ (List.mem_append_right _ h))))) (by decide +kernel))
set_option maxRecDepth 20000 in
theorem gL_asks_L_letter : GoodIn wsL_asks (va_wsS RL 226 yL_letter wsL_letter) := goodIn_app (goodIn_of _ (by decide +kernel)) ggL_asks_L_letter
set_option maxRecDepth 20000 in
theorem ggL_asks_L_agree : GoodIn wsL_asks wsL_agree := goodIn_ca (goodIn_ca (goodIn_r _ [590, 77, 591, 592, 593, 15, 594, 19, 595, 596, 597, 82, 83, 155, 156, 157, 23, 158, 159, 160, 152, 153, 154, 25, 598, 599, 600, 601, 94, 95, 96, 97, 98, 99, 35, 36, 37, 100, 101, 102, 103, 104, 105, 106, 107, 108, 109, 110, 111, 112, 113, 114, 115, 116, 117, 118, 119, 120, 121, 122, 123, 124, 125, 126, 127, 128, 129, 130, 732, 733, 734, 735, 736, 737, 738, 739, 740, 741, 742, 743, 744, 745, 746, 747, 748, 749, 750, 751, 768, 769, 770, 771, 763, 764, 765, 766, 767] rfl (by decide +kernel)) (goodIn_sub (fun _ h => List.mem_cons_of_mem _ (List.mem_append_left _ (List.mem_append_left _ (List.mem_append_right _ h)))) (by decide +kernel))) (goodIn_sub (fun _ h => List.mem_cons_of_mem _ (List.mem_append_left _ (List.mem_append_left _ (List.mem_append_left _ (List.mem_append_right _ h))))) (by decide +kernel))
set_option maxRecDepth 20000 in
theorem gL_asks_L_agree : GoodIn wsL_asks (va_wsS RL 228 yL_agree wsL_agree) := goodIn_app (goodIn_of _ (by decide +kernel)) ggL_asks_L_agree
set_option maxRecDepth 20000 in
theorem ggL_asks_L_agreeAgain : GoodIn wsL_asks wsL_agreeAgain := goodIn_ca (goodIn_ca (goodIn_r _ [604, 77, 605, 606, 607, 15, 608, 19, 595, 596, 597, 82, 83, 155, 156, 157, 23, 158, 159, 160, 152, 153, 154, 25, 609, 610, 611, 612, 613, 394, 4, 395, 94, 95, 96, 97, 98, 99, 35, 36, 37, 100, 101, 102, 103, 104, 105, 106, 107, 108, 109, 110, 111, 112, 113, 114, 115, 116, 117, 118, 119, 120, 121, 122, 123, 124, 125, 126, 127, 128, 129, 130, 732, 733, 734, 735, 736, 737, 738, 739, 740, 741, 742, 743, 744, 745, 746, 747, 748, 749, 750, 751, 768, 769, 770, 771, 763, 764, 765, 766, 767] rfl (by decide +kernel)) (goodIn_sub (fun _ h => List.mem_cons_of_mem _ (List.mem_append_left _ (List.mem_append_left _ (List.mem_append_right _ h)))) (by decide +kernel))) (goodIn_sub (fun _ h => List.mem_cons_of_mem _ (List.mem_append_left _ (List.mem_append_left _ (List.mem_append_left _ (List.mem_append_right _ h))))) (by decide +kernel))
set_option maxRecDepth 20000 in
theorem gL_asks_L_agreeAgain : GoodIn wsL_asks (va_wsS RL 230 yL_agreeAgain wsL_agreeAgain) := goodIn_app (goodIn_of _ (by decide +kernel)) ggL_asks_L_agreeAgain
set_option maxRecDepth 20000 in
theorem ggL_asks_L_members : GoodIn wsL_asks wsL_members := goodIn_ca (goodIn_ca (goodIn_r _ [616, 77, 617, 618, 619, 15, 620, 19, 595, 596, 597, 82, 83, 155, 156, 157, 23, 158, 159, 160, 152, 153, 154, 25, 732, 733, 734, 735, 736, 737, 738, 739, 740, 741, 742, 743, 744, 745, 746, 747, 748, 749, 750, 751] rfl (by decide +kernel)) (goodIn_sub (fun _ h => List.mem_cons_of_mem _ (List.mem_append_left _ (List.mem_append_left _ (List.mem_append_right _ h)))) (by decide +kernel))) (goodIn_sub (fun _ h => List.mem_cons_of_mem _ (List.mem_append_left _ (List.mem_append_left _ (List.mem_append_left _ (List.mem_append_right _ h))))) (by decide +kernel))
set_option maxRecDepth 20000 in
theorem gL_asks_L_members : GoodIn wsL_asks (va_wsS RL 232 yL_members wsL_members) := goodIn_app (goodIn_of _ (by decide +kernel)) ggL_asks_L_members
set_option maxRecDepth 20000 in
theorem ggL_asks_L_settledIn : GoodIn wsL_asks wsL_settledIn := goodIn_ca (goodIn_ca (goodIn_r _ [623, 342, 624, 625, 626, 15, 627, 198, 199, 19, 628, 629, 630, 631, 23, 632, 159, 633, 412, 413, 414, 34, 99, 583, 25, 311, 634, 635, 636, 637, 638, 639, 175, 640, 182, 177, 338, 641, 642, 643, 644, 645, 646, 647, 648, 649, 650, 94, 95, 96, 97, 98, 35, 36, 37, 100, 101, 102, 103, 104, 105, 106, 107, 108, 109, 110, 111, 112, 113, 114, 115, 116, 117, 118, 119, 120, 121, 122, 123, 124, 125, 126, 127, 128, 129, 130, 651, 308, 309, 310, 652, 653, 654, 655, 656, 657, 134, 166, 167, 168, 169, 160, 152, 153, 154, 30, 31, 32, 33, 658, 659, 660, 661, 662, 663, 664, 136, 665, 220, 666, 667, 668, 669, 670, 671, 672, 673, 674, 675, 676, 677, 678, 679, 680, 681, 682, 683, 684, 685, 686, 687, 688, 689, 690, 394, 4, 395, 691, 692, 390, 391, 392, 393, 396, 397, 398, 399, 693, 694, 233, 695, 696, 697, 698, 699, 700, 701, 702, 703, 704, 410, 3, 5, 411, 705, 706, 707, 708, 709, 710, 711, 712, 713, 714, 715, 716, 717, 718, 405, 406, 719, 720, 721, 722, 723, 724, 725, 575, 576, 577, 183, 184, 185, 186, 187, 188, 189, 190, 726, 179, 180, 181, 727, 580, 581, 582, 584, 585, 586, 587, 728, 729, 730, 731, 732, 733, 734, 735, 736, 737, 738, 739, 740, 741, 742, 743, 744, 745, 746, 747, 748, 749, 750, 751, 752, 753, 754, 763, 764, 765, 766, 767, 768, 769, 770, 771] rfl (by decide +kernel)) (goodIn_sub (fun _ h => List.mem_cons_of_mem _ (List.mem_append_right _ h)) (by decide +kernel))) (goodIn_sub (fun _ h => List.mem_cons_of_mem _ (List.mem_append_left _ (List.mem_append_left _ (List.mem_append_left _ (List.mem_append_right _ h))))) (by decide +kernel))
set_option maxRecDepth 20000 in
theorem gL_asks_L_settledIn : GoodIn wsL_asks (va_wsS RL 234 yL_settledIn wsL_settledIn) := goodIn_app (goodIn_of _ (by decide +kernel)) ggL_asks_L_settledIn
theorem dL_asks_0 : decode cL_asks 0 = .ok (.ldc2_w 174, 3) := by decide +kernel
theorem dL_asks_3 : decode cL_asks 3 = .ok (.aload_n 0, 1) := by decide +kernel
theorem dL_asks_4 : decode cL_asks 4 = .ok (.invokestatic 176, 3) := by decide +kernel
theorem dL_asks_7 : decode cL_asks 7 = .ok (.invokestatic 179, 3) := by decide +kernel
theorem dL_asks_10 : decode cL_asks 10 = .ok (.lmul, 1) := by decide +kernel
theorem dL_asks_11 : decode cL_asks 11 = .ok (.aload_n 0, 1) := by decide +kernel
theorem dL_asks_12 : decode cL_asks 12 = .ok (.invokestatic 185, 3) := by decide +kernel
theorem dL_asks_15 : decode cL_asks 15 = .ok (.invokestatic 188, 3) := by decide +kernel
theorem dL_asks_18 : decode cL_asks 18 = .ok (.i2l, 1) := by decide +kernel
theorem dL_asks_19 : decode cL_asks 19 = .ok (.ladd, 1) := by decide +kernel
theorem dL_asks_20 : decode cL_asks 20 = .ok (.lstore_n 1, 1) := by decide +kernel
theorem dL_asks_21 : decode cL_asks 21 = .ok (.iconst 0, 1) := by decide +kernel
theorem dL_asks_22 : decode cL_asks 22 = .ok (.istore_n 3, 1) := by decide +kernel
theorem dL_asks_23 : decode cL_asks 23 = .ok (.iload_n 3, 1) := by decide +kernel
theorem dL_asks_24 : decode cL_asks 24 = .ok (.bipush 9, 2) := by decide +kernel
theorem dL_asks_26 : decode cL_asks 26 = .ok (.if_icmp .ge 22, 3) := by decide +kernel
theorem dL_asks_29 : decode cL_asks 29 = .ok (.ldc2_w 174, 3) := by decide +kernel
theorem dL_asks_32 : decode cL_asks 32 = .ok (.lload_n 1, 1) := by decide +kernel
theorem dL_asks_33 : decode cL_asks 33 = .ok (.lmul, 1) := by decide +kernel
theorem dL_asks_34 : decode cL_asks 34 = .ok (.aload_n 0, 1) := by decide +kernel
theorem dL_asks_35 : decode cL_asks 35 = .ok (.iload_n 3, 1) := by decide +kernel
theorem dL_asks_36 : decode cL_asks 36 = .ok (.invokestatic 194, 3) := by decide +kernel
theorem dL_asks_39 : decode cL_asks 39 = .ok (.i2l, 1) := by decide +kernel
theorem dL_asks_40 : decode cL_asks 40 = .ok (.ladd, 1) := by decide +kernel
theorem dL_asks_41 : decode cL_asks 41 = .ok (.lstore_n 1, 1) := by decide +kernel
theorem dL_asks_42 : decode cL_asks 42 = .ok (.iinc 3 1, 3) := by decide +kernel
theorem dL_asks_45 : decode cL_asks 45 = .ok (.goto (-22), 3) := by decide +kernel
theorem dL_asks_48 : decode cL_asks 48 = .ok (.aload_n 0, 1) := by decide +kernel
theorem dL_asks_49 : decode cL_asks 49 = .ok (.iconst 1, 1) := by decide +kernel
theorem dL_asks_50 : decode cL_asks 50 = .ok (.invokestatic 194, 3) := by decide +kernel
theorem dL_asks_53 : decode cL_asks 53 = .ok (.istore_n 3, 1) := by decide +kernel
theorem dL_asks_54 : decode cL_asks 54 = .ok (.iconst 0, 1) := by decide +kernel
theorem dL_asks_55 : decode cL_asks 55 = .ok (.istore 4, 2) := by decide +kernel
theorem dL_asks_57 : decode cL_asks 57 = .ok (.iload 4, 2) := by decide +kernel
theorem dL_asks_59 : decode cL_asks 59 = .ok (.iload_n 3, 1) := by decide +kernel
theorem dL_asks_60 : decode cL_asks 60 = .ok (.if_icmp .ge 284, 3) := by decide +kernel
theorem dL_asks_63 : decode cL_asks 63 = .ok (.iconst 0, 1) := by decide +kernel
theorem dL_asks_64 : decode cL_asks 64 = .ok (.istore 5, 2) := by decide +kernel
theorem dL_asks_66 : decode cL_asks 66 = .ok (.iload 5, 2) := by decide +kernel
theorem dL_asks_68 : decode cL_asks 68 = .ok (.bipush 6, 2) := by decide +kernel
theorem dL_asks_70 : decode cL_asks 70 = .ok (.if_icmp .ge 25, 3) := by decide +kernel
theorem dL_asks_73 : decode cL_asks 73 = .ok (.ldc2_w 174, 3) := by decide +kernel
theorem dL_asks_76 : decode cL_asks 76 = .ok (.lload_n 1, 1) := by decide +kernel
theorem dL_asks_77 : decode cL_asks 77 = .ok (.lmul, 1) := by decide +kernel
theorem dL_asks_78 : decode cL_asks 78 = .ok (.aload_n 0, 1) := by decide +kernel
theorem dL_asks_79 : decode cL_asks 79 = .ok (.iload 4, 2) := by decide +kernel
theorem dL_asks_81 : decode cL_asks 81 = .ok (.iload 5, 2) := by decide +kernel
theorem dL_asks_83 : decode cL_asks 83 = .ok (.invokestatic 196, 3) := by decide +kernel
theorem dL_asks_86 : decode cL_asks 86 = .ok (.i2l, 1) := by decide +kernel
theorem dL_asks_87 : decode cL_asks 87 = .ok (.ladd, 1) := by decide +kernel
theorem dL_asks_88 : decode cL_asks 88 = .ok (.lstore_n 1, 1) := by decide +kernel
