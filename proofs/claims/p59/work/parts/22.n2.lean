set_option maxRecDepth 20000 in
theorem ggX6_init_X0_init : GoodIn wsX6_init wsX0_init := goodIn_r _ [25, 26, 2, 3, 27, 28, 94] (by decide +kernel) (by decide +kernel)
set_option maxRecDepth 20000 in
theorem gX6_init_X0_init_n15 : GoodIn wsX6_init (wsX0_init) := ggX6_init_X0_init
set_option maxRecDepth 20000 in
theorem ggX6_init_X0_include : GoodIn wsX6_init wsX0_include := goodIn_r _ [32, 28, 33, 34, 7, 35, 36, 37, 38, 39, 40, 41, 42, 43, 94] (by decide +kernel) (by decide +kernel)
set_option maxRecDepth 20000 in
theorem gX6_init_X0_include : GoodIn wsX6_init (wsV RX6 16 RX0 yX0_include wsX0_include) := goodIn_app (goodIn_of _ (by decide +kernel)) ggX6_init_X0_include
set_option maxRecDepth 20000 in
theorem ggX6_init_X0_includeOne : GoodIn wsX6_init wsX0_includeOne := goodIn_r _ [47, 28, 94] (by decide +kernel) (by decide +kernel)
set_option maxRecDepth 20000 in
theorem gX6_init_X0_includeOne : GoodIn wsX6_init (wsV RX6 20 RX0 yX0_includeOne wsX0_includeOne) := goodIn_app (goodIn_of _ (by decide +kernel)) ggX6_init_X0_includeOne
set_option maxRecDepth 20000 in
theorem ggX6_init_X3_init : GoodIn wsX6_init wsX3_init := goodIn_r _ [49, 50, 2, 3, 51, 52, 53, 95, 96] (by decide +kernel) (by decide +kernel)
set_option maxRecDepth 20000 in
theorem gX6_init_X3_init_n30 : GoodIn wsX6_init (wsX3_init) := ggX6_init_X3_init
set_option maxRecDepth 20000 in
theorem ggX6_init_X1_init : GoodIn wsX6_init wsX1_init := goodIn_r _ [56, 57, 2, 3, 58, 59, 60, 61, 62, 63, 64, 65, 66, 67, 68, 69, 70, 71, 72, 73, 74, 75, 76, 77, 78, 79, 80, 81, 104, 105, 106, 107, 108, 109, 97, 98, 99, 100, 101, 110, 111, 112, 113] (by decide +kernel) (by decide +kernel)
set_option maxRecDepth 20000 in
theorem gX6_init_X1_init : GoodIn wsX6_init (wsX1_init) := ggX6_init_X1_init
set_option maxRecDepth 20000 in
theorem ggX6_init_X4_init : GoodIn wsX6_init wsX4_init := goodIn_r _ [83, 84, 2, 3, 51, 85, 86, 102, 103] (by decide +kernel) (by decide +kernel)
set_option maxRecDepth 20000 in
theorem gX6_init_X4_init_n44 : GoodIn wsX6_init (wsX4_init) := ggX6_init_X4_init
theorem dX6_init_0 : decode cX6_init 0 = .ok (.aload_n 0, 1) := by decide +kernel
theorem dX6_init_1 : decode cX6_init 1 = .ok (.invokespecial 3, 3) := by decide +kernel
theorem dX6_init_4 : decode cX6_init 4 = .ok (.aload_n 0, 1) := by decide +kernel
theorem dX6_init_5 : decode cX6_init 5 = .ok (.bipush 8, 2) := by decide +kernel
theorem dX6_init_7 : decode cX6_init 7 = .ok (.anewarray 9, 3) := by decide +kernel
theorem dX6_init_10 : decode cX6_init 10 = .ok (.putfield 11, 3) := by decide +kernel
theorem dX6_init_13 : decode cX6_init 13 = .ok (.iconst 0, 1) := by decide +kernel
theorem dX6_init_14 : decode cX6_init 14 = .ok (.istore_n 1, 1) := by decide +kernel
theorem dX6_init_15 : decode cX6_init 15 = .ok (.iload_n 1, 1) := by decide +kernel
theorem dX6_init_16 : decode cX6_init 16 = .ok (.bipush 8, 2) := by decide +kernel
theorem dX6_init_18 : decode cX6_init 18 = .ok (.if_icmp .ge 22, 3) := by decide +kernel
theorem dX6_init_21 : decode cX6_init 21 = .ok (.aload_n 0, 1) := by decide +kernel
theorem dX6_init_22 : decode cX6_init 22 = .ok (.getfield 11, 3) := by decide +kernel
theorem dX6_init_25 : decode cX6_init 25 = .ok (.iload_n 1, 1) := by decide +kernel
theorem dX6_init_26 : decode cX6_init 26 = .ok (.new 9, 3) := by decide +kernel
theorem dX6_init_29 : decode cX6_init 29 = .ok (.dup, 1) := by decide +kernel
theorem dX6_init_30 : decode cX6_init 30 = .ok (.invokespecial 15, 3) := by decide +kernel
theorem dX6_init_33 : decode cX6_init 33 = .ok (.aastore, 1) := by decide +kernel
theorem dX6_init_34 : decode cX6_init 34 = .ok (.iinc 1 1, 3) := by decide +kernel
theorem dX6_init_37 : decode cX6_init 37 = .ok (.goto (-22), 3) := by decide +kernel
theorem dX6_init_40 : decode cX6_init 40 = .ok (.aload_n 0, 1) := by decide +kernel
theorem dX6_init_41 : decode cX6_init 41 = .ok (.getfield 11, 3) := by decide +kernel
theorem dX6_init_44 : decode cX6_init 44 = .ok (.iconst 0, 1) := by decide +kernel
theorem dX6_init_45 : decode cX6_init 45 = .ok (.aaload, 1) := by decide +kernel
theorem dX6_init_46 : decode cX6_init 46 = .ok (.iconst 0, 1) := by decide +kernel
theorem dX6_init_47 : decode cX6_init 47 = .ok (.bipush 10, 2) := by decide +kernel
theorem dX6_init_49 : decode cX6_init 49 = .ok (.invokevirtual 16, 3) := by decide +kernel
theorem dX6_init_52 : decode cX6_init 52 = .ok (.iconst 0, 1) := by decide +kernel
theorem dX6_init_53 : decode cX6_init 53 = .ok (.istore_n 1, 1) := by decide +kernel
theorem dX6_init_54 : decode cX6_init 54 = .ok (.iload_n 1, 1) := by decide +kernel
theorem dX6_init_55 : decode cX6_init 55 = .ok (.bipush 18, 2) := by decide +kernel
theorem dX6_init_57 : decode cX6_init 57 = .ok (.if_icmp .gt 19, 3) := by decide +kernel
theorem dX6_init_60 : decode cX6_init 60 = .ok (.aload_n 0, 1) := by decide +kernel
theorem dX6_init_61 : decode cX6_init 61 = .ok (.getfield 11, 3) := by decide +kernel
theorem dX6_init_64 : decode cX6_init 64 = .ok (.iconst 1, 1) := by decide +kernel
theorem dX6_init_65 : decode cX6_init 65 = .ok (.aaload, 1) := by decide +kernel
theorem dX6_init_66 : decode cX6_init 66 = .ok (.iload_n 1, 1) := by decide +kernel
theorem dX6_init_67 : decode cX6_init 67 = .ok (.invokevirtual 20, 3) := by decide +kernel
theorem dX6_init_70 : decode cX6_init 70 = .ok (.iinc 1 2, 3) := by decide +kernel
theorem dX6_init_73 : decode cX6_init 73 = .ok (.goto (-19), 3) := by decide +kernel
theorem dX6_init_76 : decode cX6_init 76 = .ok (.getstatic 24, 3) := by decide +kernel
theorem dX6_init_79 : decode cX6_init 79 = .ok (.astore_n 1, 1) := by decide +kernel
theorem dX6_init_80 : decode cX6_init 80 = .ok (.aload_n 1, 1) := by decide +kernel
theorem dX6_init_81 : decode cX6_init 81 = .ok (.arraylength, 1) := by decide +kernel
theorem dX6_init_82 : decode cX6_init 82 = .ok (.istore_n 2, 1) := by decide +kernel
theorem dX6_init_83 : decode cX6_init 83 = .ok (.iconst 0, 1) := by decide +kernel
theorem dX6_init_84 : decode cX6_init 84 = .ok (.istore_n 3, 1) := by decide +kernel
theorem dX6_init_85 : decode cX6_init 85 = .ok (.iload_n 3, 1) := by decide +kernel
theorem dX6_init_86 : decode cX6_init 86 = .ok (.iload_n 2, 1) := by decide +kernel
theorem dX6_init_87 : decode cX6_init 87 = .ok (.if_icmp .ge 25, 3) := by decide +kernel
theorem dX6_init_90 : decode cX6_init 90 = .ok (.aload_n 1, 1) := by decide +kernel
theorem dX6_init_91 : decode cX6_init 91 = .ok (.iload_n 3, 1) := by decide +kernel
theorem dX6_init_92 : decode cX6_init 92 = .ok (.iaload, 1) := by decide +kernel
theorem dX6_init_93 : decode cX6_init 93 = .ok (.istore 4, 2) := by decide +kernel
theorem dX6_init_95 : decode cX6_init 95 = .ok (.aload_n 0, 1) := by decide +kernel
theorem dX6_init_96 : decode cX6_init 96 = .ok (.getfield 11, 3) := by decide +kernel
theorem dX6_init_99 : decode cX6_init 99 = .ok (.iconst 2, 1) := by decide +kernel
theorem dX6_init_100 : decode cX6_init 100 = .ok (.aaload, 1) := by decide +kernel
theorem dX6_init_101 : decode cX6_init 101 = .ok (.iload 4, 2) := by decide +kernel
theorem dX6_init_103 : decode cX6_init 103 = .ok (.invokevirtual 20, 3) := by decide +kernel
theorem dX6_init_106 : decode cX6_init 106 = .ok (.iinc 3 1, 3) := by decide +kernel
theorem dX6_init_109 : decode cX6_init 109 = .ok (.goto (-24), 3) := by decide +kernel
theorem dX6_init_112 : decode cX6_init 112 = .ok (.aload_n 0, 1) := by decide +kernel
theorem dX6_init_113 : decode cX6_init 113 = .ok (.new 28, 3) := by decide +kernel
theorem dX6_init_116 : decode cX6_init 116 = .ok (.dup, 1) := by decide +kernel
theorem dX6_init_117 : decode cX6_init 117 = .ok (.invokespecial 30, 3) := by decide +kernel
theorem dX6_init_120 : decode cX6_init 120 = .ok (.putfield 31, 3) := by decide +kernel
theorem dX6_init_123 : decode cX6_init 123 = .ok (.aload_n 0, 1) := by decide +kernel
theorem dX6_init_124 : decode cX6_init 124 = .ok (.new 35, 3) := by decide +kernel
theorem dX6_init_127 : decode cX6_init 127 = .ok (.dup, 1) := by decide +kernel
theorem dX6_init_128 : decode cX6_init 128 = .ok (.invokespecial 37, 3) := by decide +kernel
theorem dX6_init_131 : decode cX6_init 131 = .ok (.putfield 38, 3) := by decide +kernel
theorem dX6_init_134 : decode cX6_init 134 = .ok (.aload_n 0, 1) := by decide +kernel
theorem dX6_init_135 : decode cX6_init 135 = .ok (.new 42, 3) := by decide +kernel
theorem dX6_init_138 : decode cX6_init 138 = .ok (.dup, 1) := by decide +kernel
theorem dX6_init_139 : decode cX6_init 139 = .ok (.invokespecial 44, 3) := by decide +kernel
theorem dX6_init_142 : decode cX6_init 142 = .ok (.putfield 45, 3) := by decide +kernel
theorem dX6_init_145 : decode cX6_init 145 = .ok (.aload_n 0, 1) := by decide +kernel
theorem dX6_init_146 : decode cX6_init 146 = .ok (.iconst (-1), 1) := by decide +kernel
theorem dX6_init_147 : decode cX6_init 147 = .ok (.putfield 49, 3) := by decide +kernel
theorem dX6_init_150 : decode cX6_init 150 = .ok (.aload_n 0, 1) := by decide +kernel
theorem dX6_init_151 : decode cX6_init 151 = .ok (.iconst (-1), 1) := by decide +kernel
theorem dX6_init_152 : decode cX6_init 152 = .ok (.putfield 53, 3) := by decide +kernel
theorem dX6_init_155 : decode cX6_init 155 = .ok (.aload_n 0, 1) := by decide +kernel
theorem dX6_init_156 : decode cX6_init 156 = .ok (.iconst 0, 1) := by decide +kernel
theorem dX6_init_157 : decode cX6_init 157 = .ok (.putfield 56, 3) := by decide +kernel
theorem dX6_init_160 : decode cX6_init 160 = .ok (.return_, 1) := by decide +kernel
set_option maxRecDepth 20000 in
theorem ggX6_append_X3_bytesOf : GoodIn wsX6_append wsX3_bytesOf := goodIn_r _ [7] (by decide +kernel) (by decide +kernel)
set_option maxRecDepth 20000 in
theorem gX6_append_X3_bytesOf : GoodIn wsX6_append (va_wsS RX6 59 yX3_bytesOf wsX3_bytesOf) := goodIn_app (goodIn_of _ (by decide +kernel)) ggX6_append_X3_bytesOf
set_option maxRecDepth 20000 in
theorem ggX6_append_X3_size : GoodIn wsX6_append wsX3_size := goodIn_r _ [11, 12, 25, 26] (by decide +kernel) (by decide +kernel)
set_option maxRecDepth 20000 in
theorem gX6_append_X3_size : GoodIn wsX6_append (wsV RX6 63 RX3 yX3_size wsX3_size) := goodIn_app (goodIn_of _ (by decide +kernel)) ggX6_append_X3_size
set_option maxRecDepth 20000 in
theorem ggX6_append_X3_take : GoodIn wsX6_append wsX3_take := goodIn_r _ [16, 12, 17, 25, 26] (by decide +kernel) (by decide +kernel)
set_option maxRecDepth 20000 in
theorem gX6_append_X3_take : GoodIn wsX6_append (wsV RX6 74 RX3 yX3_take wsX3_take) := goodIn_app (goodIn_of _ (by decide +kernel)) ggX6_append_X3_take
theorem dX6_append_0 : decode cX6_append 0 = .ok (.iload_n 1, 1) := by decide +kernel
theorem dX6_append_1 : decode cX6_append 1 = .ok (.invokestatic 59, 3) := by decide +kernel
theorem dX6_append_4 : decode cX6_append 4 = .ok (.iload_n 2, 1) := by decide +kernel
theorem dX6_append_5 : decode cX6_append 5 = .ok (.invokestatic 59, 3) := by decide +kernel
theorem dX6_append_8 : decode cX6_append 8 = .ok (.iadd, 1) := by decide +kernel
theorem dX6_append_9 : decode cX6_append 9 = .ok (.iload_n 3, 1) := by decide +kernel
theorem dX6_append_10 : decode cX6_append 10 = .ok (.invokestatic 59, 3) := by decide +kernel
theorem dX6_append_13 : decode cX6_append 13 = .ok (.iadd, 1) := by decide +kernel
theorem dX6_append_14 : decode cX6_append 14 = .ok (.iload 4, 2) := by decide +kernel
theorem dX6_append_16 : decode cX6_append 16 = .ok (.invokestatic 59, 3) := by decide +kernel
theorem dX6_append_19 : decode cX6_append 19 = .ok (.iadd, 1) := by decide +kernel
theorem dX6_append_20 : decode cX6_append 20 = .ok (.iload 5, 2) := by decide +kernel
theorem dX6_append_22 : decode cX6_append 22 = .ok (.invokestatic 59, 3) := by decide +kernel
theorem dX6_append_25 : decode cX6_append 25 = .ok (.iadd, 1) := by decide +kernel
theorem dX6_append_26 : decode cX6_append 26 = .ok (.istore 6, 2) := by decide +kernel
theorem dX6_append_28 : decode cX6_append 28 = .ok (.aload_n 0, 1) := by decide +kernel
theorem dX6_append_29 : decode cX6_append 29 = .ok (.getfield 31, 3) := by decide +kernel
theorem dX6_append_32 : decode cX6_append 32 = .ok (.invokevirtual 63, 3) := by decide +kernel
theorem dX6_append_35 : decode cX6_append 35 = .ok (.iload 6, 2) := by decide +kernel
theorem dX6_append_37 : decode cX6_append 37 = .ok (.iadd, 1) := by decide +kernel
theorem dX6_append_38 : decode cX6_append 38 = .ok (.sipush 400, 3) := by decide +kernel
theorem dX6_append_41 : decode cX6_append 41 = .ok (.if_icmp .le 13, 3) := by decide +kernel
theorem dX6_append_44 : decode cX6_append 44 = .ok (.new 67, 3) := by decide +kernel
theorem dX6_append_47 : decode cX6_append 47 = .ok (.dup, 1) := by decide +kernel
theorem dX6_append_48 : decode cX6_append 48 = .ok (.ldc 69, 2) := by decide +kernel
theorem dX6_append_50 : decode cX6_append 50 = .ok (.invokespecial 71, 3) := by decide +kernel
theorem dX6_append_53 : decode cX6_append 53 = .ok (.athrow, 1) := by decide +kernel
theorem dX6_append_54 : decode cX6_append 54 = .ok (.aload_n 0, 1) := by decide +kernel
theorem dX6_append_55 : decode cX6_append 55 = .ok (.getfield 31, 3) := by decide +kernel
theorem dX6_append_58 : decode cX6_append 58 = .ok (.iload_n 1, 1) := by decide +kernel
theorem dX6_append_59 : decode cX6_append 59 = .ok (.invokevirtual 74, 3) := by decide +kernel
theorem dX6_append_62 : decode cX6_append 62 = .ok (.aload_n 0, 1) := by decide +kernel
theorem dX6_append_63 : decode cX6_append 63 = .ok (.getfield 31, 3) := by decide +kernel
theorem dX6_append_66 : decode cX6_append 66 = .ok (.iload_n 2, 1) := by decide +kernel
theorem dX6_append_67 : decode cX6_append 67 = .ok (.invokevirtual 74, 3) := by decide +kernel
theorem dX6_append_70 : decode cX6_append 70 = .ok (.aload_n 0, 1) := by decide +kernel
theorem dX6_append_71 : decode cX6_append 71 = .ok (.getfield 31, 3) := by decide +kernel
theorem dX6_append_74 : decode cX6_append 74 = .ok (.iload_n 3, 1) := by decide +kernel
theorem dX6_append_75 : decode cX6_append 75 = .ok (.invokevirtual 74, 3) := by decide +kernel
theorem dX6_append_78 : decode cX6_append 78 = .ok (.aload_n 0, 1) := by decide +kernel
theorem dX6_append_79 : decode cX6_append 79 = .ok (.getfield 31, 3) := by decide +kernel
theorem dX6_append_82 : decode cX6_append 82 = .ok (.iload 4, 2) := by decide +kernel
theorem dX6_append_84 : decode cX6_append 84 = .ok (.invokevirtual 74, 3) := by decide +kernel
theorem dX6_append_87 : decode cX6_append 87 = .ok (.aload_n 0, 1) := by decide +kernel
theorem dX6_append_88 : decode cX6_append 88 = .ok (.getfield 31, 3) := by decide +kernel
theorem dX6_append_91 : decode cX6_append 91 = .ok (.iload 5, 2) := by decide +kernel
theorem dX6_append_93 : decode cX6_append 93 = .ok (.invokevirtual 74, 3) := by decide +kernel
theorem dX6_append_96 : decode cX6_append 96 = .ok (.aload_n 0, 1) := by decide +kernel
theorem dX6_append_97 : decode cX6_append 97 = .ok (.getfield 31, 3) := by decide +kernel
theorem dX6_append_100 : decode cX6_append 100 = .ok (.invokevirtual 63, 3) := by decide +kernel
theorem dX6_append_103 : decode cX6_append 103 = .ok (.ireturn, 1) := by decide +kernel
set_option maxRecDepth 20000 in
theorem ggX6_run_X1_read : GoodIn wsX6_run wsX1_read := goodIn_r _ [11, 12, 13, 14, 15, 16, 17, 18, 19, 20, 21, 22, 23, 24, 25, 26, 27, 28, 29, 30, 31, 32, 33, 34, 35, 36, 37, 38, 39, 40, 41, 42, 43, 44, 45, 46, 47, 48, 49, 50, 51, 52, 53, 54, 55, 56, 57, 58, 59, 60, 61, 62, 63, 64, 65, 66, 67, 68, 69, 70, 71, 72, 73, 74, 75, 76, 77, 78, 79, 80, 81, 82, 83, 84, 85, 86, 87, 88, 89, 90, 91, 92, 93, 94, 95, 96, 97, 98, 99, 100, 101, 102, 103, 104, 105, 106, 107, 108, 109, 110, 111, 112, 113, 114, 115, 116, 117, 118, 119, 120, 121, 122, 123, 124, 125, 126, 127, 128, 129, 130, 131, 132, 133, 134, 135, 136, 137, 138, 139, 140, 141, 142, 143, 144, 145, 146, 147, 148, 149, 150, 151, 152, 153, 154, 155, 10, 156, 157, 158, 159, 160, 161, 162, 163, 164, 165, 166, 167, 168, 169, 170, 171, 172, 173, 174, 175, 176, 177, 178, 179, 180, 181, 182, 183, 184, 185, 186, 187, 188, 189, 190, 191, 192, 193, 272, 273, 274, 275, 276, 277, 278, 279, 280, 281, 282, 283, 284, 285, 286, 287, 288, 289, 290, 291, 292] (by decide +kernel) (by decide +kernel)
set_option maxRecDepth 20000 in
theorem gX6_run_X1_read : GoodIn wsX6_run (wsV RX6 80 RX1 yX1_read wsX1_read) := goodIn_app (goodIn_of _ (by decide +kernel)) ggX6_run_X1_read
set_option maxRecDepth 20000 in
theorem ggX6_run_X3_empty : GoodIn wsX6_run wsX3_empty := goodIn_r _ [197, 29, 283, 284] (by decide +kernel) (by decide +kernel)
set_option maxRecDepth 20000 in
theorem gX6_run_X3_empty : GoodIn wsX6_run (wsV RX6 77 RX3 yX3_empty wsX3_empty) := goodIn_app (goodIn_of _ (by decide +kernel)) ggX6_run_X3_empty
set_option maxRecDepth 20000 in
theorem ggX6_run_X6_doStatements : GoodIn wsX6_run wsX6_doStatements := goodIn_ca (goodIn_r _ [202, 3, 203, 204, 205, 6, 206, 207, 208, 10, 209, 12, 210, 211, 212, 213, 15, 214, 215, 216, 201, 217, 218, 219, 220, 221, 222, 223, 1, 2, 224, 225, 226, 227, 228, 229, 230, 231, 232, 233, 234, 92, 51, 93, 235, 50, 52, 236, 237, 238, 239, 240, 241, 242, 243, 244, 245, 246, 247, 248, 185, 249, 250, 251, 252, 253, 254, 255, 256, 257, 258, 259, 260, 261, 262, 263, 264, 265, 266, 267, 268, 269, 270, 271, 289, 290, 291, 292, 272, 273, 274, 275, 276, 293] (by decide +kernel) (by decide +kernel)) (goodIn_sub (fun _ h => List.mem_cons_of_mem _ (List.mem_append_right _ h)) (by decide +kernel))
set_option maxRecDepth 20000 in
theorem gX6_run_X6_doStatements : GoodIn wsX6_run (wsV RX6 89 RX6 yX6_doStatements wsX6_doStatements) := goodIn_app (goodIn_of _ (by decide +kernel)) ggX6_run_X6_doStatements
theorem dX6_run_0 : decode cX6_run 0 = .ok (.aload_n 0, 1) := by decide +kernel
theorem dX6_run_1 : decode cX6_run 1 = .ok (.aload_n 0, 1) := by decide +kernel
theorem dX6_run_2 : decode cX6_run 2 = .ok (.getfield 38, 3) := by decide +kernel
theorem dX6_run_5 : decode cX6_run 5 = .ok (.aload_n 0, 1) := by decide +kernel
theorem dX6_run_6 : decode cX6_run 6 = .ok (.getfield 31, 3) := by decide +kernel
theorem dX6_run_9 : decode cX6_run 9 = .ok (.invokevirtual 80, 3) := by decide +kernel
theorem dX6_run_12 : decode cX6_run 12 = .ok (.putfield 49, 3) := by decide +kernel
theorem dX6_run_15 : decode cX6_run 15 = .ok (.aload_n 0, 1) := by decide +kernel
theorem dX6_run_16 : decode cX6_run 16 = .ok (.iconst (-1), 1) := by decide +kernel
theorem dX6_run_17 : decode cX6_run 17 = .ok (.putfield 53, 3) := by decide +kernel
theorem dX6_run_20 : decode cX6_run 20 = .ok (.aload_n 0, 1) := by decide +kernel
theorem dX6_run_21 : decode cX6_run 21 = .ok (.getfield 31, 3) := by decide +kernel
theorem dX6_run_24 : decode cX6_run 24 = .ok (.invokevirtual 77, 3) := by decide +kernel
theorem dX6_run_27 : decode cX6_run 27 = .ok (.aload_n 0, 1) := by decide +kernel
theorem dX6_run_28 : decode cX6_run 28 = .ok (.getfield 49, 3) := by decide +kernel
theorem dX6_run_31 : decode cX6_run 31 = .ok (.iconst (-1), 1) := by decide +kernel
theorem dX6_run_32 : decode cX6_run 32 = .ok (.if_icmp .eq 13, 3) := by decide +kernel
theorem dX6_run_35 : decode cX6_run 35 = .ok (.new 84, 3) := by decide +kernel
theorem dX6_run_38 : decode cX6_run 38 = .ok (.dup, 1) := by decide +kernel
theorem dX6_run_39 : decode cX6_run 39 = .ok (.ldc 86, 2) := by decide +kernel
theorem dX6_run_41 : decode cX6_run 41 = .ok (.invokespecial 88, 3) := by decide +kernel
theorem dX6_run_44 : decode cX6_run 44 = .ok (.athrow, 1) := by decide +kernel
theorem dX6_run_45 : decode cX6_run 45 = .ok (.aload_n 0, 1) := by decide +kernel
theorem dX6_run_46 : decode cX6_run 46 = .ok (.invokevirtual 89, 3) := by decide +kernel
theorem dX6_run_49 : decode cX6_run 49 = .ok (.ireturn, 1) := by decide +kernel
theorem dX6_errorPosition_0 : decode cX6_errorPosition 0 = .ok (.aload_n 0, 1) := by decide +kernel
theorem dX6_errorPosition_1 : decode cX6_errorPosition 1 = .ok (.getfield 49, 3) := by decide +kernel
theorem dX6_errorPosition_4 : decode cX6_errorPosition 4 = .ok (.ireturn, 1) := by decide +kernel
theorem dX6_stoppedAt_0 : decode cX6_stoppedAt 0 = .ok (.aload_n 0, 1) := by decide +kernel
theorem dX6_stoppedAt_1 : decode cX6_stoppedAt 1 = .ok (.getfield 53, 3) := by decide +kernel
theorem dX6_stoppedAt_4 : decode cX6_stoppedAt 4 = .ok (.ireturn, 1) := by decide +kernel
set_option maxRecDepth 20000 in
theorem ggX6_add_X6_setToFillAt : GoodIn wsX6_add wsX6_setToFillAt := goodIn_ca (goodIn_ca (goodIn_r _ [5, 6, 7, 8, 9, 10, 4, 11, 12, 13, 14, 15, 16, 17, 18, 19, 34, 35, 36, 37, 38, 39, 40] (by decide +kernel) (by decide +kernel)) (goodIn_sub (fun _ h => List.mem_cons_of_mem _ (List.mem_append_left _ (List.mem_append_right _ h))) (by decide +kernel))) (goodIn_sub (fun _ h => List.mem_cons_of_mem _ (List.mem_append_right _ h)) (by decide +kernel))
set_option maxRecDepth 20000 in
theorem gX6_add_X6_setToFillAt : GoodIn wsX6_add (wsV RX6 92 RX6 yX6_setToFillAt wsX6_setToFillAt) := goodIn_app (goodIn_of _ (by decide +kernel)) ggX6_add_X6_setToFillAt
set_option maxRecDepth 20000 in
theorem ggX6_add_X0_holds : GoodIn wsX6_add wsX0_holds := goodIn_r _ [24, 25, 26, 27, 23, 28, 29, 41] (by decide +kernel) (by decide +kernel)
set_option maxRecDepth 20000 in
theorem gX6_add_X0_holds : GoodIn wsX6_add (wsV RX6 96 RX0 yX0_holds wsX0_holds) := goodIn_app (goodIn_of _ (by decide +kernel)) ggX6_add_X0_holds
set_option maxRecDepth 20000 in
theorem ggX6_add_X0_includeOne : GoodIn wsX6_add wsX0_includeOne := goodIn_r _ [33, 29, 41] (by decide +kernel) (by decide +kernel)
set_option maxRecDepth 20000 in
theorem gX6_add_X0_includeOne : GoodIn wsX6_add (wsV RX6 20 RX0 yX0_includeOne wsX0_includeOne) := goodIn_app (goodIn_of _ (by decide +kernel)) ggX6_add_X0_includeOne
theorem dX6_add_0 : decode cX6_add 0 = .ok (.aload_n 0, 1) := by decide +kernel
theorem dX6_add_1 : decode cX6_add 1 = .ok (.iload_n 1, 1) := by decide +kernel
theorem dX6_add_2 : decode cX6_add 2 = .ok (.iload_n 2, 1) := by decide +kernel
theorem dX6_add_3 : decode cX6_add 3 = .ok (.invokevirtual 92, 3) := by decide +kernel
theorem dX6_add_6 : decode cX6_add 6 = .ok (.astore_n 3, 1) := by decide +kernel
theorem dX6_add_7 : decode cX6_add 7 = .ok (.aload_n 3, 1) := by decide +kernel
theorem dX6_add_8 : decode cX6_add 8 = .ok (.iload_n 2, 1) := by decide +kernel
theorem dX6_add_9 : decode cX6_add 9 = .ok (.invokevirtual 96, 3) := by decide +kernel
theorem dX6_add_12 : decode cX6_add 12 = .ok (.istore 4, 2) := by decide +kernel
theorem dX6_add_14 : decode cX6_add 14 = .ok (.aload_n 3, 1) := by decide +kernel
theorem dX6_add_15 : decode cX6_add 15 = .ok (.iload_n 2, 1) := by decide +kernel
theorem dX6_add_16 : decode cX6_add 16 = .ok (.invokevirtual 20, 3) := by decide +kernel
theorem dX6_add_19 : decode cX6_add 19 = .ok (.iload 4, 2) := by decide +kernel
theorem dX6_add_21 : decode cX6_add 21 = .ok (.ifCond .ne 7, 3) := by decide +kernel
theorem dX6_add_24 : decode cX6_add 24 = .ok (.iconst 1, 1) := by decide +kernel
theorem dX6_add_25 : decode cX6_add 25 = .ok (.goto 4, 3) := by decide +kernel
theorem dX6_add_28 : decode cX6_add 28 = .ok (.iconst 0, 1) := by decide +kernel
theorem dX6_add_29 : decode cX6_add 29 = .ok (.ireturn, 1) := by decide +kernel
set_option maxRecDepth 20000 in
theorem ggX6_flip_X6_setToFillAt : GoodIn wsX6_flip wsX6_setToFillAt := goodIn_ca (goodIn_ca (goodIn_r _ [5, 6, 7, 8, 9, 10, 4, 11, 12, 13, 14, 15, 16, 17, 18, 19, 43, 44, 45, 46, 47, 48, 49] (by decide +kernel) (by decide +kernel)) (goodIn_sub (fun _ h => List.mem_cons_of_mem _ (List.mem_append_left _ (List.mem_append_right _ h))) (by decide +kernel))) (goodIn_sub (fun _ h => List.mem_cons_of_mem _ (List.mem_append_right _ h)) (by decide +kernel))
set_option maxRecDepth 20000 in
theorem gX6_flip_X6_setToFillAt : GoodIn wsX6_flip (wsV RX6 92 RX6 yX6_setToFillAt wsX6_setToFillAt) := goodIn_app (goodIn_of _ (by decide +kernel)) ggX6_flip_X6_setToFillAt
set_option maxRecDepth 20000 in
theorem ggX6_flip_X0_holds : GoodIn wsX6_flip wsX0_holds := goodIn_r _ [24, 25, 26, 27, 23, 28, 29, 50] (by decide +kernel) (by decide +kernel)
set_option maxRecDepth 20000 in
theorem gX6_flip_X0_holds : GoodIn wsX6_flip (wsV RX6 96 RX0 yX0_holds wsX0_holds) := goodIn_app (goodIn_of _ (by decide +kernel)) ggX6_flip_X0_holds
set_option maxRecDepth 20000 in
theorem ggX6_flip_X0_decideOne : GoodIn wsX6_flip wsX0_decideOne := goodIn_r _ [33, 34, 35, 36, 23, 37, 29, 38, 39, 40, 41, 42, 50] (by decide +kernel) (by decide +kernel)
set_option maxRecDepth 20000 in
theorem gX6_flip_X0_decideOne : GoodIn wsX6_flip (wsV RX6 107 RX0 yX0_decideOne wsX0_decideOne) := goodIn_app (goodIn_of _ (by decide +kernel)) ggX6_flip_X0_decideOne
theorem dX6_flip_0 : decode cX6_flip 0 = .ok (.aload_n 0, 1) := by decide +kernel
theorem dX6_flip_1 : decode cX6_flip 1 = .ok (.iload_n 1, 1) := by decide +kernel
theorem dX6_flip_2 : decode cX6_flip 2 = .ok (.iload_n 2, 1) := by decide +kernel
theorem dX6_flip_3 : decode cX6_flip 3 = .ok (.invokevirtual 92, 3) := by decide +kernel
theorem dX6_flip_6 : decode cX6_flip 6 = .ok (.astore_n 3, 1) := by decide +kernel
theorem dX6_flip_7 : decode cX6_flip 7 = .ok (.aload_n 3, 1) := by decide +kernel
theorem dX6_flip_8 : decode cX6_flip 8 = .ok (.iload_n 2, 1) := by decide +kernel
theorem dX6_flip_9 : decode cX6_flip 9 = .ok (.invokevirtual 96, 3) := by decide +kernel
theorem dX6_flip_12 : decode cX6_flip 12 = .ok (.ifCond .ne 7, 3) := by decide +kernel
theorem dX6_flip_15 : decode cX6_flip 15 = .ok (.iconst 1, 1) := by decide +kernel
theorem dX6_flip_16 : decode cX6_flip 16 = .ok (.goto 4, 3) := by decide +kernel
theorem dX6_flip_19 : decode cX6_flip 19 = .ok (.iconst 0, 1) := by decide +kernel
theorem dX6_flip_20 : decode cX6_flip 20 = .ok (.istore 4, 2) := by decide +kernel
theorem dX6_flip_22 : decode cX6_flip 22 = .ok (.aload_n 3, 1) := by decide +kernel
theorem dX6_flip_23 : decode cX6_flip 23 = .ok (.iload_n 2, 1) := by decide +kernel
theorem dX6_flip_24 : decode cX6_flip 24 = .ok (.iload 4, 2) := by decide +kernel
theorem dX6_flip_26 : decode cX6_flip 26 = .ok (.invokevirtual 107, 3) := by decide +kernel
theorem dX6_flip_29 : decode cX6_flip 29 = .ok (.iload 4, 2) := by decide +kernel
theorem dX6_flip_31 : decode cX6_flip 31 = .ok (.ireturn, 1) := by decide +kernel
set_option maxRecDepth 20000 in
theorem ggX6_addRange_X6_setToFillIn : GoodIn wsX6_addRange wsX6_setToFillIn := goodIn_ca (goodIn_ca (goodIn_r _ [5, 6, 7, 8, 9, 10, 4, 11, 12, 13, 14, 15, 16, 17, 18, 19, 52, 53, 54, 55, 56, 57, 58] (by decide +kernel) (by decide +kernel)) (goodIn_sub (fun _ h => List.mem_cons_of_mem _ (List.mem_append_left _ (List.mem_append_right _ h))) (by decide +kernel))) (goodIn_sub (fun _ h => List.mem_cons_of_mem _ (List.mem_append_right _ h)) (by decide +kernel))
set_option maxRecDepth 20000 in
theorem gX6_addRange_X6_setToFillIn : GoodIn wsX6_addRange (wsV RX6 111 RX6 yX6_setToFillIn wsX6_setToFillIn) := goodIn_app (goodIn_of _ (by decide +kernel)) ggX6_addRange_X6_setToFillIn
set_option maxRecDepth 20000 in
theorem ggX6_addRange_X0_include : GoodIn wsX6_addRange wsX0_include := goodIn_r _ [24, 25, 26, 27, 23, 28, 29, 30, 31, 32, 33, 34, 35, 36, 59] (by decide +kernel) (by decide +kernel)
set_option maxRecDepth 20000 in
theorem gX6_addRange_X0_include : GoodIn wsX6_addRange (wsV RX6 16 RX0 yX0_include wsX0_include) := goodIn_app (goodIn_of _ (by decide +kernel)) ggX6_addRange_X0_include
set_option maxRecDepth 20000 in
theorem ggX6_addRange_X0_size : GoodIn wsX6_addRange wsX0_size := goodIn_r _ [40, 41, 42, 43, 23, 44, 25, 26, 27, 28, 29, 30, 31, 32, 33, 34, 35, 36, 45, 46, 47, 48, 49, 50, 51, 59] (by decide +kernel) (by decide +kernel)
set_option maxRecDepth 20000 in
theorem gX6_addRange_X0_size : GoodIn wsX6_addRange (wsV RX6 114 RX0 yX0_size wsX0_size) := goodIn_app (goodIn_of _ (by decide +kernel)) ggX6_addRange_X0_size
theorem dX6_addRange_0 : decode cX6_addRange 0 = .ok (.aload_n 0, 1) := by decide +kernel
theorem dX6_addRange_1 : decode cX6_addRange 1 = .ok (.iload_n 1, 1) := by decide +kernel
theorem dX6_addRange_2 : decode cX6_addRange 2 = .ok (.iload_n 2, 1) := by decide +kernel
theorem dX6_addRange_3 : decode cX6_addRange 3 = .ok (.iload_n 3, 1) := by decide +kernel
theorem dX6_addRange_4 : decode cX6_addRange 4 = .ok (.invokevirtual 111, 3) := by decide +kernel
theorem dX6_addRange_7 : decode cX6_addRange 7 = .ok (.astore 4, 2) := by decide +kernel
theorem dX6_addRange_9 : decode cX6_addRange 9 = .ok (.aload 4, 2) := by decide +kernel
theorem dX6_addRange_11 : decode cX6_addRange 11 = .ok (.iload_n 2, 1) := by decide +kernel
theorem dX6_addRange_12 : decode cX6_addRange 12 = .ok (.iload_n 3, 1) := by decide +kernel
theorem dX6_addRange_13 : decode cX6_addRange 13 = .ok (.invokevirtual 16, 3) := by decide +kernel
theorem dX6_addRange_16 : decode cX6_addRange 16 = .ok (.aload 4, 2) := by decide +kernel
theorem dX6_addRange_18 : decode cX6_addRange 18 = .ok (.invokevirtual 114, 3) := by decide +kernel
theorem dX6_addRange_21 : decode cX6_addRange 21 = .ok (.ireturn, 1) := by decide +kernel
set_option maxRecDepth 20000 in
theorem ggX6_removeRange_X6_setAskedIn : GoodIn wsX6_removeRange wsX6_setAskedIn := goodIn_ca (goodIn_ca (goodIn_r _ [5, 6, 7, 8, 9, 10, 11, 4, 12, 13, 14, 15, 48, 49, 50, 51, 52, 53, 54] (by decide +kernel) (by decide +kernel)) (goodIn_sub (fun _ h => List.mem_cons_of_mem _ (List.mem_append_left _ (List.mem_append_right _ h))) (by decide +kernel))) (goodIn_sub (fun _ h => List.mem_cons_of_mem _ (List.mem_append_right _ h)) (by decide +kernel))
set_option maxRecDepth 20000 in
theorem gX6_removeRange_X6_setAskedIn : GoodIn wsX6_removeRange (wsV RX6 115 RX6 yX6_setAskedIn wsX6_setAskedIn) := goodIn_app (goodIn_of _ (by decide +kernel)) ggX6_removeRange_X6_setAskedIn
set_option maxRecDepth 20000 in
theorem ggX6_removeRange_X0_exclude : GoodIn wsX6_removeRange wsX0_exclude := goodIn_r _ [20, 21, 22, 23, 24, 19, 25, 26, 27, 28, 29, 30, 31, 32, 55] (by decide +kernel) (by decide +kernel)
set_option maxRecDepth 20000 in
theorem gX6_removeRange_X0_exclude : GoodIn wsX6_removeRange (wsV RX6 118 RX0 yX0_exclude wsX0_exclude) := goodIn_app (goodIn_of _ (by decide +kernel)) ggX6_removeRange_X0_exclude
set_option maxRecDepth 20000 in
theorem ggX6_removeRange_X0_size : GoodIn wsX6_removeRange wsX0_size := goodIn_r _ [36, 37, 38, 39, 19, 40, 21, 23, 24, 25, 26, 27, 28, 29, 30, 31, 32, 22, 41, 42, 43, 44, 45, 46, 47, 55] (by decide +kernel) (by decide +kernel)
set_option maxRecDepth 20000 in
theorem gX6_removeRange_X0_size : GoodIn wsX6_removeRange (wsV RX6 114 RX0 yX0_size wsX0_size) := goodIn_app (goodIn_of _ (by decide +kernel)) ggX6_removeRange_X0_size
theorem dX6_removeRange_0 : decode cX6_removeRange 0 = .ok (.aload_n 0, 1) := by decide +kernel
theorem dX6_removeRange_1 : decode cX6_removeRange 1 = .ok (.iload_n 1, 1) := by decide +kernel
theorem dX6_removeRange_2 : decode cX6_removeRange 2 = .ok (.iload_n 2, 1) := by decide +kernel
theorem dX6_removeRange_3 : decode cX6_removeRange 3 = .ok (.iload_n 3, 1) := by decide +kernel
theorem dX6_removeRange_4 : decode cX6_removeRange 4 = .ok (.invokevirtual 115, 3) := by decide +kernel
theorem dX6_removeRange_7 : decode cX6_removeRange 7 = .ok (.astore 4, 2) := by decide +kernel
theorem dX6_removeRange_9 : decode cX6_removeRange 9 = .ok (.aload 4, 2) := by decide +kernel
theorem dX6_removeRange_11 : decode cX6_removeRange 11 = .ok (.iload_n 2, 1) := by decide +kernel
theorem dX6_removeRange_12 : decode cX6_removeRange 12 = .ok (.iload_n 3, 1) := by decide +kernel
theorem dX6_removeRange_13 : decode cX6_removeRange 13 = .ok (.invokevirtual 118, 3) := by decide +kernel
theorem dX6_removeRange_16 : decode cX6_removeRange 16 = .ok (.aload 4, 2) := by decide +kernel
theorem dX6_removeRange_18 : decode cX6_removeRange 18 = .ok (.invokevirtual 114, 3) := by decide +kernel
theorem dX6_removeRange_21 : decode cX6_removeRange 21 = .ok (.ireturn, 1) := by decide +kernel
set_option maxRecDepth 20000 in
theorem ggX6_putRange_X6_setToFillIn : GoodIn wsX6_putRange wsX6_setToFillIn := goodIn_ca (goodIn_ca (goodIn_r _ [5, 6, 7, 8, 9, 10, 4, 11, 12, 13, 14, 15, 16, 17, 18, 19, 60, 61, 62, 63, 64, 65, 66] (by decide +kernel) (by decide +kernel)) (goodIn_sub (fun _ h => List.mem_cons_of_mem _ (List.mem_append_left _ (List.mem_append_right _ h))) (by decide +kernel))) (goodIn_sub (fun _ h => List.mem_cons_of_mem _ (List.mem_append_right _ h)) (by decide +kernel))
set_option maxRecDepth 20000 in
theorem gX6_putRange_X6_setToFillIn : GoodIn wsX6_putRange (wsV RX6 111 RX6 yX6_setToFillIn wsX6_setToFillIn) := goodIn_app (goodIn_of _ (by decide +kernel)) ggX6_putRange_X6_setToFillIn
set_option maxRecDepth 20000 in
theorem ggX6_putRange_X0_decide : GoodIn wsX6_putRange wsX0_decide := goodIn_r _ [24, 25, 26, 27, 23, 28, 29, 30, 31, 32, 33, 34, 35, 36, 37, 38, 39, 40, 41, 42, 43, 44, 67] (by decide +kernel) (by decide +kernel)
set_option maxRecDepth 20000 in
theorem gX6_putRange_X0_decide : GoodIn wsX6_putRange (wsV RX6 121 RX0 yX0_decide wsX0_decide) := goodIn_app (goodIn_of _ (by decide +kernel)) ggX6_putRange_X0_decide
set_option maxRecDepth 20000 in
theorem ggX6_putRange_X0_size : GoodIn wsX6_putRange wsX0_size := goodIn_r _ [48, 49, 50, 51, 23, 52, 29, 30, 31, 32, 33, 34, 35, 36, 37, 38, 39, 40, 53, 54, 55, 56, 57, 58, 59, 67] (by decide +kernel) (by decide +kernel)
set_option maxRecDepth 20000 in
theorem gX6_putRange_X0_size : GoodIn wsX6_putRange (wsV RX6 114 RX0 yX0_size wsX0_size) := goodIn_app (goodIn_of _ (by decide +kernel)) ggX6_putRange_X0_size
theorem dX6_putRange_0 : decode cX6_putRange 0 = .ok (.aload_n 0, 1) := by decide +kernel
theorem dX6_putRange_1 : decode cX6_putRange 1 = .ok (.iload_n 1, 1) := by decide +kernel
theorem dX6_putRange_2 : decode cX6_putRange 2 = .ok (.iload_n 2, 1) := by decide +kernel
theorem dX6_putRange_3 : decode cX6_putRange 3 = .ok (.iload_n 3, 1) := by decide +kernel
theorem dX6_putRange_4 : decode cX6_putRange 4 = .ok (.invokevirtual 111, 3) := by decide +kernel
theorem dX6_putRange_7 : decode cX6_putRange 7 = .ok (.astore 5, 2) := by decide +kernel
theorem dX6_putRange_9 : decode cX6_putRange 9 = .ok (.aload 5, 2) := by decide +kernel
theorem dX6_putRange_11 : decode cX6_putRange 11 = .ok (.iload_n 2, 1) := by decide +kernel
theorem dX6_putRange_12 : decode cX6_putRange 12 = .ok (.iload_n 3, 1) := by decide +kernel
theorem dX6_putRange_13 : decode cX6_putRange 13 = .ok (.iload 4, 2) := by decide +kernel
theorem dX6_putRange_15 : decode cX6_putRange 15 = .ok (.invokevirtual 121, 3) := by decide +kernel
theorem dX6_putRange_18 : decode cX6_putRange 18 = .ok (.aload 5, 2) := by decide +kernel
theorem dX6_putRange_20 : decode cX6_putRange 20 = .ok (.invokevirtual 114, 3) := by decide +kernel
theorem dX6_putRange_23 : decode cX6_putRange 23 = .ok (.ireturn, 1) := by decide +kernel
set_option maxRecDepth 20000 in
theorem ggX6_flipRange_X6_setToFillIn : GoodIn wsX6_flipRange wsX6_setToFillIn := goodIn_ca (goodIn_ca (goodIn_r _ [5, 6, 7, 8, 9, 10, 4, 11, 12, 13, 14, 15, 16, 17, 18, 19, 52, 53, 54, 55, 56, 57, 58] (by decide +kernel) (by decide +kernel)) (goodIn_sub (fun _ h => List.mem_cons_of_mem _ (List.mem_append_left _ (List.mem_append_right _ h))) (by decide +kernel))) (goodIn_sub (fun _ h => List.mem_cons_of_mem _ (List.mem_append_right _ h)) (by decide +kernel))
set_option maxRecDepth 20000 in
theorem gX6_flipRange_X6_setToFillIn : GoodIn wsX6_flipRange (wsV RX6 111 RX6 yX6_setToFillIn wsX6_setToFillIn) := goodIn_app (goodIn_of _ (by decide +kernel)) ggX6_flipRange_X6_setToFillIn
set_option maxRecDepth 20000 in
theorem ggX6_flipRange_X0_toggle : GoodIn wsX6_flipRange wsX0_toggle := goodIn_r _ [24, 25, 26, 27, 23, 28, 29, 30, 31, 32, 33, 34, 35, 36, 59] (by decide +kernel) (by decide +kernel)
set_option maxRecDepth 20000 in
theorem gX6_flipRange_X0_toggle : GoodIn wsX6_flipRange (wsV RX6 125 RX0 yX0_toggle wsX0_toggle) := goodIn_app (goodIn_of _ (by decide +kernel)) ggX6_flipRange_X0_toggle
set_option maxRecDepth 20000 in
theorem ggX6_flipRange_X0_size : GoodIn wsX6_flipRange wsX0_size := goodIn_r _ [40, 41, 42, 43, 23, 44, 25, 26, 27, 28, 29, 30, 31, 32, 33, 34, 35, 36, 45, 46, 47, 48, 49, 50, 51, 59] (by decide +kernel) (by decide +kernel)
set_option maxRecDepth 20000 in
theorem gX6_flipRange_X0_size : GoodIn wsX6_flipRange (wsV RX6 114 RX0 yX0_size wsX0_size) := goodIn_app (goodIn_of _ (by decide +kernel)) ggX6_flipRange_X0_size
theorem dX6_flipRange_0 : decode cX6_flipRange 0 = .ok (.aload_n 0, 1) := by decide +kernel
theorem dX6_flipRange_1 : decode cX6_flipRange 1 = .ok (.iload_n 1, 1) := by decide +kernel
theorem dX6_flipRange_2 : decode cX6_flipRange 2 = .ok (.iload_n 2, 1) := by decide +kernel
theorem dX6_flipRange_3 : decode cX6_flipRange 3 = .ok (.iload_n 3, 1) := by decide +kernel
theorem dX6_flipRange_4 : decode cX6_flipRange 4 = .ok (.invokevirtual 111, 3) := by decide +kernel
theorem dX6_flipRange_7 : decode cX6_flipRange 7 = .ok (.astore 4, 2) := by decide +kernel
theorem dX6_flipRange_9 : decode cX6_flipRange 9 = .ok (.aload 4, 2) := by decide +kernel
theorem dX6_flipRange_11 : decode cX6_flipRange 11 = .ok (.iload_n 2, 1) := by decide +kernel
theorem dX6_flipRange_12 : decode cX6_flipRange 12 = .ok (.iload_n 3, 1) := by decide +kernel
theorem dX6_flipRange_13 : decode cX6_flipRange 13 = .ok (.invokevirtual 125, 3) := by decide +kernel
theorem dX6_flipRange_16 : decode cX6_flipRange 16 = .ok (.aload 4, 2) := by decide +kernel
theorem dX6_flipRange_18 : decode cX6_flipRange 18 = .ok (.invokevirtual 114, 3) := by decide +kernel
theorem dX6_flipRange_21 : decode cX6_flipRange 21 = .ok (.ireturn, 1) := by decide +kernel
set_option maxRecDepth 20000 in
theorem ggX6_removeAll_X6_setOf : GoodIn wsX6_removeAll wsX6_setOf := goodIn_ca (goodIn_r _ [5, 6, 7, 8, 45, 46, 47, 48, 49, 50, 51] (by decide +kernel) (by decide +kernel)) (goodIn_sub (fun _ h => List.mem_cons_of_mem _ (List.mem_append_right _ h)) (by decide +kernel))
set_option maxRecDepth 20000 in
theorem gX6_removeAll_X6_setOf : GoodIn wsX6_removeAll (wsV RX6 128 RX6 yX6_setOf wsX6_setOf) := goodIn_app (goodIn_of _ (by decide +kernel)) ggX6_removeAll_X6_setOf
set_option maxRecDepth 20000 in
theorem ggX6_removeAll_X0_size : GoodIn wsX6_removeAll wsX0_size := goodIn_r _ [13, 14, 15, 16, 12, 17, 18, 19, 20, 21, 22, 23, 24, 25, 26, 27, 28, 29, 30, 31, 32, 33, 34, 35, 36, 52] (by decide +kernel) (by decide +kernel)
set_option maxRecDepth 20000 in
theorem gX6_removeAll_X0_size : GoodIn wsX6_removeAll (wsV RX6 114 RX0 yX0_size wsX0_size) := goodIn_app (goodIn_of _ (by decide +kernel)) ggX6_removeAll_X0_size
set_option maxRecDepth 20000 in
theorem ggX6_removeAll_X0_clear : GoodIn wsX6_removeAll wsX0_clear := goodIn_r _ [40, 41, 42, 43, 12, 44, 18, 29, 19, 20, 21, 22, 23, 24, 25, 26, 27, 28, 52] (by decide +kernel) (by decide +kernel)
set_option maxRecDepth 20000 in
theorem gX6_removeAll_X0_clear : GoodIn wsX6_removeAll (wsV RX6 132 RX0 yX0_clear wsX0_clear) := goodIn_app (goodIn_of _ (by decide +kernel)) ggX6_removeAll_X0_clear
theorem dX6_removeAll_0 : decode cX6_removeAll 0 = .ok (.aload_n 0, 1) := by decide +kernel
theorem dX6_removeAll_1 : decode cX6_removeAll 1 = .ok (.iload_n 1, 1) := by decide +kernel
theorem dX6_removeAll_2 : decode cX6_removeAll 2 = .ok (.invokevirtual 128, 3) := by decide +kernel
theorem dX6_removeAll_5 : decode cX6_removeAll 5 = .ok (.astore_n 2, 1) := by decide +kernel
theorem dX6_removeAll_6 : decode cX6_removeAll 6 = .ok (.aload_n 2, 1) := by decide +kernel
theorem dX6_removeAll_7 : decode cX6_removeAll 7 = .ok (.invokevirtual 114, 3) := by decide +kernel
theorem dX6_removeAll_10 : decode cX6_removeAll 10 = .ok (.istore_n 3, 1) := by decide +kernel
theorem dX6_removeAll_11 : decode cX6_removeAll 11 = .ok (.aload_n 2, 1) := by decide +kernel
theorem dX6_removeAll_12 : decode cX6_removeAll 12 = .ok (.invokevirtual 132, 3) := by decide +kernel
theorem dX6_removeAll_15 : decode cX6_removeAll 15 = .ok (.iload_n 3, 1) := by decide +kernel
theorem dX6_removeAll_16 : decode cX6_removeAll 16 = .ok (.ireturn, 1) := by decide +kernel
set_option maxRecDepth 20000 in
theorem ggX6_renew_X6_setOf : GoodIn wsX6_renew wsX6_setOf := goodIn_ca (goodIn_r _ [6, 7, 8, 9, 49, 50, 51, 52, 53, 54, 55] (by decide +kernel) (by decide +kernel)) (goodIn_sub (fun _ h => List.mem_cons_of_mem _ (List.mem_append_right _ h)) (by decide +kernel))
set_option maxRecDepth 20000 in
theorem gX6_renew_X6_setOf : GoodIn wsX6_renew (wsV RX6 128 RX6 yX6_setOf wsX6_setOf) := goodIn_app (goodIn_of _ (by decide +kernel)) ggX6_renew_X6_setOf
set_option maxRecDepth 20000 in
theorem ggX6_renew_X6_checkNumber : GoodIn wsX6_renew wsX6_checkNumber := goodIn_ca (goodIn_r _ [12, 7, 8] (by decide +kernel) (by decide +kernel)) (goodIn_sub (fun _ h => List.mem_cons_of_mem _ (List.mem_append_right _ h)) (by decide +kernel))
set_option maxRecDepth 20000 in
theorem gX6_renew_X6_checkNumber : GoodIn wsX6_renew (va_wsS RX6 135 yX6_checkNumber wsX6_checkNumber) := goodIn_app (goodIn_of _ (by decide +kernel)) ggX6_renew_X6_checkNumber
set_option maxRecDepth 20000 in
theorem ggX6_renew_X0_size : GoodIn wsX6_renew wsX0_size := goodIn_r _ [17, 18, 19, 20, 16, 21, 22, 23, 24, 25, 26, 27, 28, 29, 30, 31, 32, 33, 34, 35, 36, 37, 38, 39, 40, 56] (by decide +kernel) (by decide +kernel)
set_option maxRecDepth 20000 in
theorem gX6_renew_X0_size : GoodIn wsX6_renew (wsV RX6 114 RX0 yX0_size wsX0_size) := goodIn_app (goodIn_of _ (by decide +kernel)) ggX6_renew_X0_size
set_option maxRecDepth 20000 in
theorem ggX6_renew_X0_clear : GoodIn wsX6_renew wsX0_clear := goodIn_r _ [44, 45, 46, 47, 16, 48, 22, 33, 23, 24, 25, 26, 27, 28, 29, 30, 31, 32, 56] (by decide +kernel) (by decide +kernel)
set_option maxRecDepth 20000 in
theorem gX6_renew_X0_clear : GoodIn wsX6_renew (wsV RX6 132 RX0 yX0_clear wsX0_clear) := goodIn_app (goodIn_of _ (by decide +kernel)) ggX6_renew_X0_clear
theorem dX6_renew_0 : decode cX6_renew 0 = .ok (.aload_n 0, 1) := by decide +kernel
theorem dX6_renew_1 : decode cX6_renew 1 = .ok (.iload_n 1, 1) := by decide +kernel
theorem dX6_renew_2 : decode cX6_renew 2 = .ok (.invokevirtual 128, 3) := by decide +kernel
theorem dX6_renew_5 : decode cX6_renew 5 = .ok (.astore_n 3, 1) := by decide +kernel
theorem dX6_renew_6 : decode cX6_renew 6 = .ok (.iload_n 2, 1) := by decide +kernel
theorem dX6_renew_7 : decode cX6_renew 7 = .ok (.ifCond .ge 13, 3) := by decide +kernel
theorem dX6_renew_10 : decode cX6_renew 10 = .ok (.aload_n 0, 1) := by decide +kernel
theorem dX6_renew_11 : decode cX6_renew 11 = .ok (.dup, 1) := by decide +kernel
theorem dX6_renew_12 : decode cX6_renew 12 = .ok (.getfield 56, 3) := by decide +kernel
theorem dX6_renew_15 : decode cX6_renew 15 = .ok (.iconst 1, 1) := by decide +kernel
theorem dX6_renew_16 : decode cX6_renew 16 = .ok (.iadd, 1) := by decide +kernel
theorem dX6_renew_17 : decode cX6_renew 17 = .ok (.putfield 56, 3) := by decide +kernel
theorem dX6_renew_20 : decode cX6_renew 20 = .ok (.iload_n 2, 1) := by decide +kernel
theorem dX6_renew_21 : decode cX6_renew 21 = .ok (.iconst 0, 1) := by decide +kernel
theorem dX6_renew_22 : decode cX6_renew 22 = .ok (.sipush 1024, 3) := by decide +kernel
theorem dX6_renew_25 : decode cX6_renew 25 = .ok (.invokestatic 135, 3) := by decide +kernel
theorem dX6_renew_28 : decode cX6_renew 28 = .ok (.aload_n 3, 1) := by decide +kernel
theorem dX6_renew_29 : decode cX6_renew 29 = .ok (.invokevirtual 114, 3) := by decide +kernel
theorem dX6_renew_32 : decode cX6_renew 32 = .ok (.istore 4, 2) := by decide +kernel
theorem dX6_renew_34 : decode cX6_renew 34 = .ok (.aload_n 3, 1) := by decide +kernel
theorem dX6_renew_35 : decode cX6_renew 35 = .ok (.invokevirtual 132, 3) := by decide +kernel
theorem dX6_renew_38 : decode cX6_renew 38 = .ok (.iload 4, 2) := by decide +kernel
theorem dX6_renew_40 : decode cX6_renew 40 = .ok (.ireturn, 1) := by decide +kernel
set_option maxRecDepth 20000 in
theorem ggX6_intersect_X6_combine : GoodIn wsX6_intersect wsX6_combine := goodIn_ca (goodIn_r _ [5, 6, 7, 8, 4, 9, 10, 11, 12, 13, 14, 15, 16, 17, 18, 19, 20, 21, 22, 23, 24, 25, 26, 27, 28, 29, 30, 31, 32, 33, 34, 35, 36, 37, 38, 39, 40, 41, 42, 43, 44, 45, 46, 47, 48, 49, 50, 51, 52, 53, 54, 55] (by decide +kernel) (by decide +kernel)) (goodIn_sub (fun _ h => List.mem_cons_of_mem _ (List.mem_append_right _ h)) (by decide +kernel))
set_option maxRecDepth 20000 in
theorem gX6_intersect_X6_combine : GoodIn wsX6_intersect (wsV RX6 139 RX6 yX6_combine wsX6_combine) := goodIn_app (goodIn_of _ (by decide +kernel)) ggX6_intersect_X6_combine
theorem dX6_intersect_0 : decode cX6_intersect 0 = .ok (.aload_n 0, 1) := by decide +kernel
theorem dX6_intersect_1 : decode cX6_intersect 1 = .ok (.iload_n 1, 1) := by decide +kernel
theorem dX6_intersect_2 : decode cX6_intersect 2 = .ok (.bipush 38, 2) := by decide +kernel
theorem dX6_intersect_4 : decode cX6_intersect 4 = .ok (.iload_n 2, 1) := by decide +kernel
theorem dX6_intersect_5 : decode cX6_intersect 5 = .ok (.invokevirtual 139, 3) := by decide +kernel
theorem dX6_intersect_8 : decode cX6_intersect 8 = .ok (.ireturn, 1) := by decide +kernel
set_option maxRecDepth 20000 in
theorem ggX6_unite_X6_combine : GoodIn wsX6_unite wsX6_combine := goodIn_ca (goodIn_r _ [5, 6, 7, 8, 4, 9, 10, 11, 12, 13, 14, 15, 16, 17, 18, 19, 20, 21, 22, 23, 24, 25, 26, 27, 28, 29, 30, 31, 32, 33, 34, 35, 36, 37, 38, 39, 40, 41, 42, 43, 44, 45, 46, 47, 48, 49, 50, 51, 52, 53, 54, 55] (by decide +kernel) (by decide +kernel)) (goodIn_sub (fun _ h => List.mem_cons_of_mem _ (List.mem_append_right _ h)) (by decide +kernel))
set_option maxRecDepth 20000 in
theorem gX6_unite_X6_combine : GoodIn wsX6_unite (wsV RX6 139 RX6 yX6_combine wsX6_combine) := goodIn_app (goodIn_of _ (by decide +kernel)) ggX6_unite_X6_combine
theorem dX6_unite_0 : decode cX6_unite 0 = .ok (.aload_n 0, 1) := by decide +kernel
theorem dX6_unite_1 : decode cX6_unite 1 = .ok (.iload_n 1, 1) := by decide +kernel
theorem dX6_unite_2 : decode cX6_unite 2 = .ok (.bipush 124, 2) := by decide +kernel
theorem dX6_unite_4 : decode cX6_unite 4 = .ok (.iload_n 2, 1) := by decide +kernel
theorem dX6_unite_5 : decode cX6_unite 5 = .ok (.invokevirtual 139, 3) := by decide +kernel
theorem dX6_unite_8 : decode cX6_unite 8 = .ok (.ireturn, 1) := by decide +kernel
set_option maxRecDepth 20000 in
theorem ggX6_differ_X6_combine : GoodIn wsX6_differ wsX6_combine := goodIn_ca (goodIn_r _ [5, 6, 7, 8, 4, 9, 10, 11, 12, 13, 14, 15, 16, 17, 18, 19, 20, 21, 22, 23, 24, 25, 26, 27, 28, 29, 30, 31, 32, 33, 34, 35, 36, 37, 38, 39, 40, 41, 42, 43, 44, 45, 46, 47, 48, 49, 50, 51, 52, 53, 54, 55] (by decide +kernel) (by decide +kernel)) (goodIn_sub (fun _ h => List.mem_cons_of_mem _ (List.mem_append_right _ h)) (by decide +kernel))
set_option maxRecDepth 20000 in
theorem gX6_differ_X6_combine : GoodIn wsX6_differ (wsV RX6 139 RX6 yX6_combine wsX6_combine) := goodIn_app (goodIn_of _ (by decide +kernel)) ggX6_differ_X6_combine
theorem dX6_differ_0 : decode cX6_differ 0 = .ok (.aload_n 0, 1) := by decide +kernel
theorem dX6_differ_1 : decode cX6_differ 1 = .ok (.iload_n 1, 1) := by decide +kernel
theorem dX6_differ_2 : decode cX6_differ 2 = .ok (.bipush 126, 2) := by decide +kernel
theorem dX6_differ_4 : decode cX6_differ 4 = .ok (.iload_n 2, 1) := by decide +kernel
theorem dX6_differ_5 : decode cX6_differ 5 = .ok (.invokevirtual 139, 3) := by decide +kernel
theorem dX6_differ_8 : decode cX6_differ 8 = .ok (.ireturn, 1) := by decide +kernel
set_option maxRecDepth 20000 in
theorem ggX6_subtract_X6_combine : GoodIn wsX6_subtract wsX6_combine := goodIn_ca (goodIn_r _ [5, 6, 7, 8, 4, 9, 10, 11, 12, 13, 14, 15, 16, 17, 18, 19, 20, 21, 22, 23, 24, 25, 26, 27, 28, 29, 30, 31, 32, 33, 34, 35, 36, 37, 38, 39, 40, 41, 42, 43, 44, 45, 46, 47, 48, 49, 50, 51, 52, 53, 54, 55] (by decide +kernel) (by decide +kernel)) (goodIn_sub (fun _ h => List.mem_cons_of_mem _ (List.mem_append_right _ h)) (by decide +kernel))
set_option maxRecDepth 20000 in
theorem gX6_subtract_X6_combine : GoodIn wsX6_subtract (wsV RX6 139 RX6 yX6_combine wsX6_combine) := goodIn_app (goodIn_of _ (by decide +kernel)) ggX6_subtract_X6_combine
theorem dX6_subtract_0 : decode cX6_subtract 0 = .ok (.aload_n 0, 1) := by decide +kernel
theorem dX6_subtract_1 : decode cX6_subtract 1 = .ok (.iload_n 1, 1) := by decide +kernel
theorem dX6_subtract_2 : decode cX6_subtract 2 = .ok (.bipush 33, 2) := by decide +kernel
theorem dX6_subtract_4 : decode cX6_subtract 4 = .ok (.iload_n 2, 1) := by decide +kernel
theorem dX6_subtract_5 : decode cX6_subtract 5 = .ok (.invokevirtual 139, 3) := by decide +kernel
theorem dX6_subtract_8 : decode cX6_subtract 8 = .ok (.ireturn, 1) := by decide +kernel
set_option maxRecDepth 20000 in
theorem ggX6_copy_X6_combine : GoodIn wsX6_copy wsX6_combine := goodIn_ca (goodIn_r _ [5, 6, 7, 8, 4, 9, 10, 11, 12, 13, 14, 15, 16, 17, 18, 19, 20, 21, 22, 23, 24, 25, 26, 27, 28, 29, 30, 31, 32, 33, 34, 35, 36, 37, 38, 39, 40, 41, 42, 43, 44, 45, 46, 47, 48, 49, 50, 51, 52, 53, 54, 55] (by decide +kernel) (by decide +kernel)) (goodIn_sub (fun _ h => List.mem_cons_of_mem _ (List.mem_append_right _ h)) (by decide +kernel))
set_option maxRecDepth 20000 in
theorem gX6_copy_X6_combine : GoodIn wsX6_copy (wsV RX6 139 RX6 yX6_combine wsX6_combine) := goodIn_app (goodIn_of _ (by decide +kernel)) ggX6_copy_X6_combine
theorem dX6_copy_0 : decode cX6_copy 0 = .ok (.aload_n 0, 1) := by decide +kernel
theorem dX6_copy_1 : decode cX6_copy 1 = .ok (.iload_n 1, 1) := by decide +kernel
theorem dX6_copy_2 : decode cX6_copy 2 = .ok (.bipush 61, 2) := by decide +kernel
theorem dX6_copy_4 : decode cX6_copy 4 = .ok (.iload_n 2, 1) := by decide +kernel
theorem dX6_copy_5 : decode cX6_copy 5 = .ok (.invokevirtual 139, 3) := by decide +kernel
theorem dX6_copy_8 : decode cX6_copy 8 = .ok (.ireturn, 1) := by decide +kernel
set_option maxRecDepth 20000 in
theorem ggX6_takePart_X6_setOf : GoodIn wsX6_takePart wsX6_setOf := goodIn_ca (goodIn_r _ [5, 6, 7, 8, 56, 57, 58, 59, 60, 61, 62] (by decide +kernel) (by decide +kernel)) (goodIn_sub (fun _ h => List.mem_cons_of_mem _ (List.mem_append_left _ (List.mem_append_right _ h))) (by decide +kernel))
set_option maxRecDepth 20000 in
theorem gX6_takePart_X6_setOf : GoodIn wsX6_takePart (wsV RX6 128 RX6 yX6_setOf wsX6_setOf) := goodIn_app (goodIn_of _ (by decide +kernel)) ggX6_takePart_X6_setOf
set_option maxRecDepth 20000 in
theorem ggX6_takePart_X6_setAskedIn : GoodIn wsX6_takePart wsX6_setAskedIn := goodIn_ca (goodIn_ca (goodIn_r _ [12, 13, 14, 15, 1, 2, 3, 4, 5, 6, 7, 8, 56, 57, 58, 59, 60, 61, 62] (by decide +kernel) (by decide +kernel)) (goodIn_sub (fun _ h => List.mem_cons_of_mem _ (List.mem_append_right _ h)) (by decide +kernel))) (goodIn_sub (fun _ h => List.mem_cons_of_mem _ (List.mem_append_left _ (List.mem_append_right _ h))) (by decide +kernel))
set_option maxRecDepth 20000 in
theorem gX6_takePart_X6_setAskedIn : GoodIn wsX6_takePart (wsV RX6 115 RX6 yX6_setAskedIn wsX6_setAskedIn) := goodIn_app (goodIn_of _ (by decide +kernel)) ggX6_takePart_X6_setAskedIn
set_option maxRecDepth 20000 in
theorem ggX6_takePart_X0_becomePart : GoodIn wsX6_takePart wsX0_becomePart := goodIn_r _ [20, 21, 22, 23, 24, 25, 26, 27, 28, 19, 29, 30, 31, 32, 33, 34, 35, 36, 37, 38, 39, 40, 63] (by decide +kernel) (by decide +kernel)
set_option maxRecDepth 20000 in
theorem gX6_takePart_X0_becomePart : GoodIn wsX6_takePart (wsV RX6 143 RX0 yX0_becomePart wsX0_becomePart) := goodIn_app (goodIn_of _ (by decide +kernel)) ggX6_takePart_X0_becomePart
set_option maxRecDepth 20000 in
theorem ggX6_takePart_X0_size : GoodIn wsX6_takePart wsX0_size := goodIn_r _ [44, 45, 46, 47, 19, 48, 25, 34, 35, 36, 37, 38, 23, 39, 21, 22, 24, 40, 49, 50, 51, 52, 53, 54, 55, 63] (by decide +kernel) (by decide +kernel)
set_option maxRecDepth 20000 in
theorem gX6_takePart_X0_size : GoodIn wsX6_takePart (wsV RX6 114 RX0 yX0_size wsX0_size) := goodIn_app (goodIn_of _ (by decide +kernel)) ggX6_takePart_X0_size
theorem dX6_takePart_0 : decode cX6_takePart 0 = .ok (.aload_n 0, 1) := by decide +kernel
theorem dX6_takePart_1 : decode cX6_takePart 1 = .ok (.iload_n 1, 1) := by decide +kernel
theorem dX6_takePart_2 : decode cX6_takePart 2 = .ok (.invokevirtual 128, 3) := by decide +kernel
theorem dX6_takePart_5 : decode cX6_takePart 5 = .ok (.astore 5, 2) := by decide +kernel
theorem dX6_takePart_7 : decode cX6_takePart 7 = .ok (.aload_n 0, 1) := by decide +kernel
theorem dX6_takePart_8 : decode cX6_takePart 8 = .ok (.iload_n 2, 1) := by decide +kernel
theorem dX6_takePart_9 : decode cX6_takePart 9 = .ok (.iload_n 3, 1) := by decide +kernel
theorem dX6_takePart_10 : decode cX6_takePart 10 = .ok (.iload 4, 2) := by decide +kernel
theorem dX6_takePart_12 : decode cX6_takePart 12 = .ok (.invokevirtual 115, 3) := by decide +kernel
theorem dX6_takePart_15 : decode cX6_takePart 15 = .ok (.astore 6, 2) := by decide +kernel
theorem dX6_takePart_17 : decode cX6_takePart 17 = .ok (.aload 5, 2) := by decide +kernel
theorem dX6_takePart_19 : decode cX6_takePart 19 = .ok (.aload 6, 2) := by decide +kernel
theorem dX6_takePart_21 : decode cX6_takePart 21 = .ok (.iload_n 3, 1) := by decide +kernel
theorem dX6_takePart_22 : decode cX6_takePart 22 = .ok (.iload 4, 2) := by decide +kernel
theorem dX6_takePart_24 : decode cX6_takePart 24 = .ok (.invokevirtual 143, 3) := by decide +kernel
theorem dX6_takePart_27 : decode cX6_takePart 27 = .ok (.aload 5, 2) := by decide +kernel
theorem dX6_takePart_29 : decode cX6_takePart 29 = .ok (.invokevirtual 114, 3) := by decide +kernel
theorem dX6_takePart_32 : decode cX6_takePart 32 = .ok (.ireturn, 1) := by decide +kernel
set_option maxRecDepth 20000 in
theorem ggX6_shift_X6_setOf : GoodIn wsX6_shift wsX6_setOf := goodIn_ca (goodIn_r _ [5, 6, 7, 8, 56, 57, 58, 59, 60, 61, 62] (by decide +kernel) (by decide +kernel)) (goodIn_sub (fun _ h => List.mem_cons_of_mem _ (List.mem_append_right _ h)) (by decide +kernel))
set_option maxRecDepth 20000 in
theorem gX6_shift_X6_setOf : GoodIn wsX6_shift (wsV RX6 128 RX6 yX6_setOf wsX6_setOf) := goodIn_app (goodIn_of _ (by decide +kernel)) ggX6_shift_X6_setOf
set_option maxRecDepth 20000 in
theorem ggX6_shift_X6_checkNumber : GoodIn wsX6_shift wsX6_checkNumber := goodIn_ca (goodIn_r _ [11, 6, 7] (by decide +kernel) (by decide +kernel)) (goodIn_sub (fun _ h => List.mem_cons_of_mem _ (List.mem_append_right _ h)) (by decide +kernel))
set_option maxRecDepth 20000 in
theorem gX6_shift_X6_checkNumber : GoodIn wsX6_shift (va_wsS RX6 135 yX6_checkNumber wsX6_checkNumber) := goodIn_app (goodIn_of _ (by decide +kernel)) ggX6_shift_X6_checkNumber
set_option maxRecDepth 20000 in
theorem ggX6_shift_X0_moveUp : GoodIn wsX6_shift wsX0_moveUp := goodIn_r _ [16, 17, 18, 19, 20, 15, 21, 22, 23, 24, 25, 63] (by decide +kernel) (by decide +kernel)
set_option maxRecDepth 20000 in
theorem gX6_shift_X0_moveUp : GoodIn wsX6_shift (wsV RX6 147 RX0 yX0_moveUp wsX0_moveUp) := goodIn_app (goodIn_of _ (by decide +kernel)) ggX6_shift_X0_moveUp
set_option maxRecDepth 20000 in
theorem ggX6_shift_X0_becomePart : GoodIn wsX6_shift wsX0_becomePart := goodIn_r _ [29, 30, 31, 32, 33, 17, 18, 19, 20, 15, 21, 22, 23, 24, 25, 34, 35, 36, 37, 38, 39, 40, 63] (by decide +kernel) (by decide +kernel)
set_option maxRecDepth 20000 in
theorem gX6_shift_X0_becomePart : GoodIn wsX6_shift (wsV RX6 143 RX0 yX0_becomePart wsX0_becomePart) := goodIn_app (goodIn_of _ (by decide +kernel)) ggX6_shift_X0_becomePart
set_option maxRecDepth 20000 in
theorem ggX6_shift_X0_size : GoodIn wsX6_shift wsX0_size := goodIn_r _ [44, 45, 46, 47, 15, 48, 17, 34, 35, 36, 37, 38, 32, 39, 30, 31, 33, 40, 49, 50, 51, 52, 53, 54, 55, 63] (by decide +kernel) (by decide +kernel)
set_option maxRecDepth 20000 in
theorem gX6_shift_X0_size : GoodIn wsX6_shift (wsV RX6 114 RX0 yX0_size wsX0_size) := goodIn_app (goodIn_of _ (by decide +kernel)) ggX6_shift_X0_size
theorem dX6_shift_0 : decode cX6_shift 0 = .ok (.aload_n 0, 1) := by decide +kernel
theorem dX6_shift_1 : decode cX6_shift 1 = .ok (.iload_n 1, 1) := by decide +kernel
theorem dX6_shift_2 : decode cX6_shift 2 = .ok (.invokevirtual 128, 3) := by decide +kernel
theorem dX6_shift_5 : decode cX6_shift 5 = .ok (.astore_n 3, 1) := by decide +kernel
theorem dX6_shift_6 : decode cX6_shift 6 = .ok (.iload_n 2, 1) := by decide +kernel
theorem dX6_shift_7 : decode cX6_shift 7 = .ok (.sipush (-1023), 3) := by decide +kernel
theorem dX6_shift_10 : decode cX6_shift 10 = .ok (.sipush 1023, 3) := by decide +kernel
theorem dX6_shift_13 : decode cX6_shift 13 = .ok (.invokestatic 135, 3) := by decide +kernel
theorem dX6_shift_16 : decode cX6_shift 16 = .ok (.iload_n 2, 1) := by decide +kernel
theorem dX6_shift_17 : decode cX6_shift 17 = .ok (.ifCond .le 11, 3) := by decide +kernel
theorem dX6_shift_20 : decode cX6_shift 20 = .ok (.aload_n 3, 1) := by decide +kernel
theorem dX6_shift_21 : decode cX6_shift 21 = .ok (.iload_n 2, 1) := by decide +kernel
theorem dX6_shift_22 : decode cX6_shift 22 = .ok (.invokevirtual 147, 3) := by decide +kernel
theorem dX6_shift_25 : decode cX6_shift 25 = .ok (.goto 13, 3) := by decide +kernel
theorem dX6_shift_28 : decode cX6_shift 28 = .ok (.aload_n 3, 1) := by decide +kernel
theorem dX6_shift_29 : decode cX6_shift 29 = .ok (.aload_n 3, 1) := by decide +kernel
theorem dX6_shift_30 : decode cX6_shift 30 = .ok (.iload_n 2, 1) := by decide +kernel
theorem dX6_shift_31 : decode cX6_shift 31 = .ok (.ineg, 1) := by decide +kernel
theorem dX6_shift_32 : decode cX6_shift 32 = .ok (.sipush 1024, 3) := by decide +kernel
theorem dX6_shift_35 : decode cX6_shift 35 = .ok (.invokevirtual 143, 3) := by decide +kernel
theorem dX6_shift_38 : decode cX6_shift 38 = .ok (.aload_n 3, 1) := by decide +kernel
theorem dX6_shift_39 : decode cX6_shift 39 = .ok (.invokevirtual 114, 3) := by decide +kernel
theorem dX6_shift_42 : decode cX6_shift 42 = .ok (.ireturn, 1) := by decide +kernel
set_option maxRecDepth 20000 in
theorem ggX6_sieve_X6_setOf : GoodIn wsX6_sieve wsX6_setOf := goodIn_ca (goodIn_r _ [5, 6, 7, 8, 72, 73, 74, 75, 76, 77, 78] (by decide +kernel) (by decide +kernel)) (goodIn_sub (fun _ h => List.mem_cons_of_mem _ (List.mem_append_right _ h)) (by decide +kernel))
set_option maxRecDepth 20000 in
theorem gX6_sieve_X6_setOf : GoodIn wsX6_sieve (wsV RX6 128 RX6 yX6_setOf wsX6_setOf) := goodIn_app (goodIn_of _ (by decide +kernel)) ggX6_sieve_X6_setOf
set_option maxRecDepth 20000 in
theorem ggX6_sieve_X6_checkNumber : GoodIn wsX6_sieve wsX6_checkNumber := goodIn_ca (goodIn_r _ [11, 6, 7] (by decide +kernel) (by decide +kernel)) (goodIn_sub (fun _ h => List.mem_cons_of_mem _ (List.mem_append_right _ h)) (by decide +kernel))
set_option maxRecDepth 20000 in
theorem gX6_sieve_X6_checkNumber : GoodIn wsX6_sieve (va_wsS RX6 135 yX6_checkNumber wsX6_checkNumber) := goodIn_app (goodIn_of _ (by decide +kernel)) ggX6_sieve_X6_checkNumber
set_option maxRecDepth 20000 in
theorem ggX6_sieve_X0_becomePrimes : GoodIn wsX6_sieve wsX0_becomePrimes := goodIn_r _ [16, 17, 18, 19, 15, 20, 21, 22, 23, 24, 25, 26, 27, 28, 29, 30, 31, 32, 33, 34, 35, 36, 37, 38, 39, 40, 41, 42, 43, 44, 45, 46, 47, 48, 49, 50, 51, 52, 53, 54, 55, 56, 79] (by decide +kernel) (by decide +kernel)
set_option maxRecDepth 20000 in
theorem gX6_sieve_X0_becomePrimes : GoodIn wsX6_sieve (wsV RX6 150 RX0 yX0_becomePrimes wsX0_becomePrimes) := goodIn_app (goodIn_of _ (by decide +kernel)) ggX6_sieve_X0_becomePrimes
set_option maxRecDepth 20000 in
theorem ggX6_sieve_X0_size : GoodIn wsX6_sieve wsX0_size := goodIn_r _ [60, 61, 62, 63, 15, 64, 25, 27, 28, 29, 30, 31, 32, 33, 34, 35, 36, 26, 65, 66, 67, 68, 69, 70, 71, 79] (by decide +kernel) (by decide +kernel)
set_option maxRecDepth 20000 in
theorem gX6_sieve_X0_size : GoodIn wsX6_sieve (wsV RX6 114 RX0 yX0_size wsX0_size) := goodIn_app (goodIn_of _ (by decide +kernel)) ggX6_sieve_X0_size
theorem dX6_sieve_0 : decode cX6_sieve 0 = .ok (.aload_n 0, 1) := by decide +kernel
theorem dX6_sieve_1 : decode cX6_sieve 1 = .ok (.iload_n 1, 1) := by decide +kernel
theorem dX6_sieve_2 : decode cX6_sieve 2 = .ok (.invokevirtual 128, 3) := by decide +kernel
theorem dX6_sieve_5 : decode cX6_sieve 5 = .ok (.astore_n 3, 1) := by decide +kernel
theorem dX6_sieve_6 : decode cX6_sieve 6 = .ok (.iload_n 2, 1) := by decide +kernel
theorem dX6_sieve_7 : decode cX6_sieve 7 = .ok (.iconst 0, 1) := by decide +kernel
theorem dX6_sieve_8 : decode cX6_sieve 8 = .ok (.sipush 1024, 3) := by decide +kernel
theorem dX6_sieve_11 : decode cX6_sieve 11 = .ok (.invokestatic 135, 3) := by decide +kernel
theorem dX6_sieve_14 : decode cX6_sieve 14 = .ok (.aload_n 3, 1) := by decide +kernel
theorem dX6_sieve_15 : decode cX6_sieve 15 = .ok (.iload_n 2, 1) := by decide +kernel
theorem dX6_sieve_16 : decode cX6_sieve 16 = .ok (.invokevirtual 150, 3) := by decide +kernel
theorem dX6_sieve_19 : decode cX6_sieve 19 = .ok (.aload_n 3, 1) := by decide +kernel
theorem dX6_sieve_20 : decode cX6_sieve 20 = .ok (.invokevirtual 114, 3) := by decide +kernel
theorem dX6_sieve_23 : decode cX6_sieve 23 = .ok (.ireturn, 1) := by decide +kernel
set_option maxRecDepth 20000 in
theorem ggX6_loadWords_X6_setOf : GoodIn wsX6_loadWords wsX6_setOf := goodIn_ca (goodIn_r _ [5, 6, 7, 8, 51, 52, 53, 54, 55, 56, 57] (by decide +kernel) (by decide +kernel)) (goodIn_sub (fun _ h => List.mem_cons_of_mem _ (List.mem_append_right _ h)) (by decide +kernel))
set_option maxRecDepth 20000 in
theorem gX6_loadWords_X6_setOf : GoodIn wsX6_loadWords (wsV RX6 128 RX6 yX6_setOf wsX6_setOf) := goodIn_app (goodIn_of _ (by decide +kernel)) ggX6_loadWords_X6_setOf
set_option maxRecDepth 20000 in
theorem ggX6_loadWords_X0_becomeWords : GoodIn wsX6_loadWords wsX0_becomeWords := goodIn_r _ [13, 14, 15, 16, 17, 12, 18, 19, 20, 21, 22, 23, 24, 25, 26, 27, 28, 29, 30, 31, 32, 33, 58] (by decide +kernel) (by decide +kernel)
set_option maxRecDepth 20000 in
theorem gX6_loadWords_X0_becomeWords : GoodIn wsX6_loadWords (wsV RX6 153 RX0 yX0_becomeWords wsX0_becomeWords) := goodIn_app (goodIn_of _ (by decide +kernel)) ggX6_loadWords_X0_becomeWords
set_option maxRecDepth 20000 in
theorem ggX6_loadWords_X0_end : GoodIn wsX6_loadWords wsX0_end := goodIn_r _ [37, 38, 39, 40, 12, 41, 31, 32, 29, 33, 14, 24, 25, 26, 27, 28, 30, 23, 42, 43, 44, 45, 46, 47, 48, 49, 50, 58] (by decide +kernel) (by decide +kernel)
set_option maxRecDepth 20000 in
theorem gX6_loadWords_X0_end : GoodIn wsX6_loadWords (wsV RX6 157 RX0 yX0_end wsX0_end) := goodIn_app (goodIn_of _ (by decide +kernel)) ggX6_loadWords_X0_end
theorem dX6_loadWords_0 : decode cX6_loadWords 0 = .ok (.aload_n 0, 1) := by decide +kernel
theorem dX6_loadWords_1 : decode cX6_loadWords 1 = .ok (.iload_n 1, 1) := by decide +kernel
theorem dX6_loadWords_2 : decode cX6_loadWords 2 = .ok (.invokevirtual 128, 3) := by decide +kernel
theorem dX6_loadWords_5 : decode cX6_loadWords 5 = .ok (.astore 8, 2) := by decide +kernel
theorem dX6_loadWords_7 : decode cX6_loadWords 7 = .ok (.aload 8, 2) := by decide +kernel
theorem dX6_loadWords_9 : decode cX6_loadWords 9 = .ok (.lload_n 2, 1) := by decide +kernel
theorem dX6_loadWords_10 : decode cX6_loadWords 10 = .ok (.lload 4, 2) := by decide +kernel
theorem dX6_loadWords_12 : decode cX6_loadWords 12 = .ok (.lload 6, 2) := by decide +kernel
theorem dX6_loadWords_14 : decode cX6_loadWords 14 = .ok (.invokevirtual 153, 3) := by decide +kernel
theorem dX6_loadWords_17 : decode cX6_loadWords 17 = .ok (.aload 8, 2) := by decide +kernel
theorem dX6_loadWords_19 : decode cX6_loadWords 19 = .ok (.invokevirtual 157, 3) := by decide +kernel
theorem dX6_loadWords_22 : decode cX6_loadWords 22 = .ok (.ireturn, 1) := by decide +kernel
set_option maxRecDepth 20000 in
theorem ggX6_wordCount_X6_setOf : GoodIn wsX6_wordCount wsX6_setOf := goodIn_ca (goodIn_r _ [5, 6, 7, 8, 43, 44, 45, 46, 47, 48, 49] (by decide +kernel) (by decide +kernel)) (goodIn_sub (fun _ h => List.mem_cons_of_mem _ (List.mem_append_right _ h)) (by decide +kernel))
set_option maxRecDepth 20000 in
theorem gX6_wordCount_X6_setOf : GoodIn wsX6_wordCount (wsV RX6 128 RX6 yX6_setOf wsX6_setOf) := goodIn_app (goodIn_of _ (by decide +kernel)) ggX6_wordCount_X6_setOf
set_option maxRecDepth 20000 in
theorem ggX6_wordCount_X0_usedWords : GoodIn wsX6_wordCount wsX0_usedWords := goodIn_r _ [13, 14, 15, 16, 12, 17, 18, 19, 20, 21, 22, 23, 24, 25, 26, 27, 28, 29, 30, 31, 32, 33, 34, 35, 36, 37, 38, 39, 40, 41, 42, 50] (by decide +kernel) (by decide +kernel)
set_option maxRecDepth 20000 in
theorem gX6_wordCount_X0_usedWords : GoodIn wsX6_wordCount (wsV RX6 166 RX0 yX0_usedWords wsX0_usedWords) := goodIn_app (goodIn_of _ (by decide +kernel)) ggX6_wordCount_X0_usedWords
theorem dX6_wordCount_0 : decode cX6_wordCount 0 = .ok (.aload_n 0, 1) := by decide +kernel
theorem dX6_wordCount_1 : decode cX6_wordCount 1 = .ok (.iload_n 1, 1) := by decide +kernel
theorem dX6_wordCount_2 : decode cX6_wordCount 2 = .ok (.invokevirtual 128, 3) := by decide +kernel
theorem dX6_wordCount_5 : decode cX6_wordCount 5 = .ok (.invokevirtual 166, 3) := by decide +kernel
theorem dX6_wordCount_8 : decode cX6_wordCount 8 = .ok (.ireturn, 1) := by decide +kernel
set_option maxRecDepth 20000 in
theorem ggX6_wordAt_X6_setOf : GoodIn wsX6_wordAt wsX6_setOf := goodIn_ca (goodIn_r _ [5, 6, 7, 8, 52, 53, 54, 55, 56, 57, 58] (by decide +kernel) (by decide +kernel)) (goodIn_sub (fun _ h => List.mem_cons_of_mem _ (List.mem_append_left _ (List.mem_append_right _ h))) (by decide +kernel))
set_option maxRecDepth 20000 in
theorem gX6_wordAt_X6_setOf : GoodIn wsX6_wordAt (wsV RX6 128 RX6 yX6_setOf wsX6_setOf) := goodIn_app (goodIn_of _ (by decide +kernel)) ggX6_wordAt_X6_setOf
set_option maxRecDepth 20000 in
theorem ggX6_wordAt_X0_usedWords : GoodIn wsX6_wordAt wsX0_usedWords := goodIn_r _ [13, 14, 15, 16, 12, 17, 18, 19, 20, 21, 22, 23, 24, 25, 26, 27, 28, 29, 30, 31, 32, 33, 34, 35, 36, 37, 38, 39, 40, 41, 42, 59] (by decide +kernel) (by decide +kernel)
set_option maxRecDepth 20000 in
theorem gX6_wordAt_X0_usedWords : GoodIn wsX6_wordAt (wsV RX6 166 RX0 yX0_usedWords wsX0_usedWords) := goodIn_app (goodIn_of _ (by decide +kernel)) ggX6_wordAt_X0_usedWords
set_option maxRecDepth 20000 in
theorem ggX6_wordAt_X6_checkPlace : GoodIn wsX6_wordAt wsX6_checkPlace := goodIn_ca (goodIn_r _ [45, 46, 47] (by decide +kernel) (by decide +kernel)) (goodIn_sub (fun _ h => List.mem_cons_of_mem _ (List.mem_append_right _ h)) (by decide +kernel))
set_option maxRecDepth 20000 in
theorem gX6_wordAt_X6_checkPlace : GoodIn wsX6_wordAt (va_wsS RX6 169 yX6_checkPlace wsX6_checkPlace) := goodIn_app (goodIn_of _ (by decide +kernel)) ggX6_wordAt_X6_checkPlace
set_option maxRecDepth 20000 in
theorem ggX6_wordAt_X0_word : GoodIn wsX6_wordAt wsX0_word := goodIn_r _ [51, 26, 59] (by decide +kernel) (by decide +kernel)
set_option maxRecDepth 20000 in
theorem gX6_wordAt_X0_word : GoodIn wsX6_wordAt (wsV RX6 172 RX0 yX0_word wsX0_word) := goodIn_app (goodIn_of _ (by decide +kernel)) ggX6_wordAt_X0_word
theorem dX6_wordAt_0 : decode cX6_wordAt 0 = .ok (.aload_n 0, 1) := by decide +kernel
theorem dX6_wordAt_1 : decode cX6_wordAt 1 = .ok (.iload_n 1, 1) := by decide +kernel
theorem dX6_wordAt_2 : decode cX6_wordAt 2 = .ok (.invokevirtual 128, 3) := by decide +kernel
theorem dX6_wordAt_5 : decode cX6_wordAt 5 = .ok (.astore_n 3, 1) := by decide +kernel
theorem dX6_wordAt_6 : decode cX6_wordAt 6 = .ok (.iload_n 2, 1) := by decide +kernel
theorem dX6_wordAt_7 : decode cX6_wordAt 7 = .ok (.aload_n 3, 1) := by decide +kernel
theorem dX6_wordAt_8 : decode cX6_wordAt 8 = .ok (.invokevirtual 166, 3) := by decide +kernel
theorem dX6_wordAt_11 : decode cX6_wordAt 11 = .ok (.invokestatic 169, 3) := by decide +kernel
theorem dX6_wordAt_14 : decode cX6_wordAt 14 = .ok (.aload_n 3, 1) := by decide +kernel
theorem dX6_wordAt_15 : decode cX6_wordAt 15 = .ok (.iload_n 2, 1) := by decide +kernel
theorem dX6_wordAt_16 : decode cX6_wordAt 16 = .ok (.invokevirtual 172, 3) := by decide +kernel
theorem dX6_wordAt_19 : decode cX6_wordAt 19 = .ok (.lreturn, 1) := by decide +kernel
set_option maxRecDepth 20000 in
theorem ggX6_byteCount_X6_setOf : GoodIn wsX6_byteCount wsX6_setOf := goodIn_ca (goodIn_r _ [5, 6, 7, 8, 43, 44, 45, 46, 47, 48, 49] (by decide +kernel) (by decide +kernel)) (goodIn_sub (fun _ h => List.mem_cons_of_mem _ (List.mem_append_right _ h)) (by decide +kernel))
set_option maxRecDepth 20000 in
theorem gX6_byteCount_X6_setOf : GoodIn wsX6_byteCount (wsV RX6 128 RX6 yX6_setOf wsX6_setOf) := goodIn_app (goodIn_of _ (by decide +kernel)) ggX6_byteCount_X6_setOf
set_option maxRecDepth 20000 in
theorem ggX6_byteCount_X0_usedBytes : GoodIn wsX6_byteCount wsX0_usedBytes := goodIn_r _ [13, 14, 15, 16, 12, 17, 18, 19, 20, 21, 22, 23, 24, 25, 26, 27, 28, 29, 30, 31, 32, 33, 34, 35, 36, 37, 38, 39, 40, 41, 42, 50] (by decide +kernel) (by decide +kernel)
set_option maxRecDepth 20000 in
theorem gX6_byteCount_X0_usedBytes : GoodIn wsX6_byteCount (wsV RX6 176 RX0 yX0_usedBytes wsX0_usedBytes) := goodIn_app (goodIn_of _ (by decide +kernel)) ggX6_byteCount_X0_usedBytes
theorem dX6_byteCount_0 : decode cX6_byteCount 0 = .ok (.aload_n 0, 1) := by decide +kernel
theorem dX6_byteCount_1 : decode cX6_byteCount 1 = .ok (.iload_n 1, 1) := by decide +kernel
theorem dX6_byteCount_2 : decode cX6_byteCount 2 = .ok (.invokevirtual 128, 3) := by decide +kernel
theorem dX6_byteCount_5 : decode cX6_byteCount 5 = .ok (.invokevirtual 176, 3) := by decide +kernel
theorem dX6_byteCount_8 : decode cX6_byteCount 8 = .ok (.ireturn, 1) := by decide +kernel
set_option maxRecDepth 20000 in
theorem ggX6_byteAt_X6_setOf : GoodIn wsX6_byteAt wsX6_setOf := goodIn_ca (goodIn_r _ [6, 7, 8, 9, 57, 58, 59, 60, 61, 62, 63] (by decide +kernel) (by decide +kernel)) (goodIn_sub (fun _ h => List.mem_cons_of_mem _ (List.mem_append_left _ (List.mem_append_right _ h))) (by decide +kernel))
set_option maxRecDepth 20000 in
theorem gX6_byteAt_X6_setOf : GoodIn wsX6_byteAt (wsV RX6 128 RX6 yX6_setOf wsX6_setOf) := goodIn_app (goodIn_of _ (by decide +kernel)) ggX6_byteAt_X6_setOf
set_option maxRecDepth 20000 in
theorem ggX6_byteAt_X0_usedBytes : GoodIn wsX6_byteAt wsX0_usedBytes := goodIn_r _ [14, 15, 16, 17, 13, 18, 19, 20, 21, 22, 23, 24, 25, 26, 27, 28, 29, 30, 31, 32, 33, 34, 35, 36, 37, 38, 39, 40, 41, 42, 43, 64] (by decide +kernel) (by decide +kernel)
set_option maxRecDepth 20000 in
theorem gX6_byteAt_X0_usedBytes : GoodIn wsX6_byteAt (wsV RX6 176 RX0 yX0_usedBytes wsX0_usedBytes) := goodIn_app (goodIn_of _ (by decide +kernel)) ggX6_byteAt_X0_usedBytes
set_option maxRecDepth 20000 in
theorem ggX6_byteAt_X6_checkPlace : GoodIn wsX6_byteAt wsX6_checkPlace := goodIn_ca (goodIn_r _ [46, 47, 48] (by decide +kernel) (by decide +kernel)) (goodIn_sub (fun _ h => List.mem_cons_of_mem _ (List.mem_append_right _ h)) (by decide +kernel))
set_option maxRecDepth 20000 in
theorem gX6_byteAt_X6_checkPlace : GoodIn wsX6_byteAt (va_wsS RX6 169 yX6_checkPlace wsX6_checkPlace) := goodIn_app (goodIn_of _ (by decide +kernel)) ggX6_byteAt_X6_checkPlace
set_option maxRecDepth 20000 in
theorem ggX6_byteAt_X0_wordFrom : GoodIn wsX6_byteAt wsX0_wordFrom := goodIn_r _ [52, 53, 54, 55, 13, 56, 27, 64] (by decide +kernel) (by decide +kernel)
set_option maxRecDepth 20000 in
theorem gX6_byteAt_X0_wordFrom : GoodIn wsX6_byteAt (wsV RX6 179 RX0 yX0_wordFrom wsX0_wordFrom) := goodIn_app (goodIn_of _ (by decide +kernel)) ggX6_byteAt_X0_wordFrom
theorem dX6_byteAt_0 : decode cX6_byteAt 0 = .ok (.aload_n 0, 1) := by decide +kernel
theorem dX6_byteAt_1 : decode cX6_byteAt 1 = .ok (.iload_n 1, 1) := by decide +kernel
theorem dX6_byteAt_2 : decode cX6_byteAt 2 = .ok (.invokevirtual 128, 3) := by decide +kernel
theorem dX6_byteAt_5 : decode cX6_byteAt 5 = .ok (.astore_n 3, 1) := by decide +kernel
theorem dX6_byteAt_6 : decode cX6_byteAt 6 = .ok (.iload_n 2, 1) := by decide +kernel
theorem dX6_byteAt_7 : decode cX6_byteAt 7 = .ok (.aload_n 3, 1) := by decide +kernel
theorem dX6_byteAt_8 : decode cX6_byteAt 8 = .ok (.invokevirtual 176, 3) := by decide +kernel
theorem dX6_byteAt_11 : decode cX6_byteAt 11 = .ok (.invokestatic 169, 3) := by decide +kernel
theorem dX6_byteAt_14 : decode cX6_byteAt 14 = .ok (.aload_n 3, 1) := by decide +kernel
theorem dX6_byteAt_15 : decode cX6_byteAt 15 = .ok (.bipush 8, 2) := by decide +kernel
theorem dX6_byteAt_17 : decode cX6_byteAt 17 = .ok (.iload_n 2, 1) := by decide +kernel
theorem dX6_byteAt_18 : decode cX6_byteAt 18 = .ok (.imul, 1) := by decide +kernel
theorem dX6_byteAt_19 : decode cX6_byteAt 19 = .ok (.invokevirtual 179, 3) := by decide +kernel
theorem dX6_byteAt_22 : decode cX6_byteAt 22 = .ok (.ldc2_w 182, 3) := by decide +kernel
theorem dX6_byteAt_25 : decode cX6_byteAt 25 = .ok (.land, 1) := by decide +kernel
theorem dX6_byteAt_26 : decode cX6_byteAt 26 = .ok (.l2i, 1) := by decide +kernel
theorem dX6_byteAt_27 : decode cX6_byteAt 27 = .ok (.ireturn, 1) := by decide +kernel
set_option maxRecDepth 20000 in
theorem ggX6_fingerprint_X6_setOf : GoodIn wsX6_fingerprint wsX6_setOf := goodIn_ca (goodIn_r _ [5, 6, 7, 8, 16, 17, 18, 19, 20, 21, 22] (by decide +kernel) (by decide +kernel)) (goodIn_sub (fun _ h => List.mem_cons_of_mem _ (List.mem_append_right _ h)) (by decide +kernel))
set_option maxRecDepth 20000 in
theorem gX6_fingerprint_X6_setOf : GoodIn wsX6_fingerprint (wsV RX6 128 RX6 yX6_setOf wsX6_setOf) := goodIn_app (goodIn_of _ (by decide +kernel)) ggX6_fingerprint_X6_setOf
set_option maxRecDepth 20000 in
theorem ggX6_fingerprint_X0_digest : GoodIn wsX6_fingerprint wsX0_digest := goodIn_r _ [13, 14, 15, 23] (by decide +kernel) (by decide +kernel)
set_option maxRecDepth 20000 in
theorem gX6_fingerprint_X0_digest : GoodIn wsX6_fingerprint (wsV RX6 184 RX0 yX0_digest wsX0_digest) := goodIn_app (goodIn_of _ (by decide +kernel)) ggX6_fingerprint_X0_digest
theorem dX6_fingerprint_0 : decode cX6_fingerprint 0 = .ok (.aload_n 0, 1) := by decide +kernel
theorem dX6_fingerprint_1 : decode cX6_fingerprint 1 = .ok (.iload_n 1, 1) := by decide +kernel
theorem dX6_fingerprint_2 : decode cX6_fingerprint 2 = .ok (.invokevirtual 128, 3) := by decide +kernel
theorem dX6_fingerprint_5 : decode cX6_fingerprint 5 = .ok (.invokevirtual 184, 3) := by decide +kernel
theorem dX6_fingerprint_8 : decode cX6_fingerprint 8 = .ok (.ireturn, 1) := by decide +kernel
set_option maxRecDepth 20000 in
theorem ggX6_has_X6_setAskedAt : GoodIn wsX6_has wsX6_setAskedAt := goodIn_ca (goodIn_ca (goodIn_r _ [5, 6, 7, 8, 9, 10, 11, 4, 12, 13, 14, 15, 26, 27, 28, 29, 30, 31, 32] (by decide +kernel) (by decide +kernel)) (goodIn_sub (fun _ h => List.mem_cons_of_mem _ (List.mem_append_left _ (List.mem_append_right _ h))) (by decide +kernel))) (goodIn_sub (fun _ h => List.mem_cons_of_mem _ (List.mem_append_right _ h)) (by decide +kernel))
set_option maxRecDepth 20000 in
theorem gX6_has_X6_setAskedAt : GoodIn wsX6_has (wsV RX6 100 RX6 yX6_setAskedAt wsX6_setAskedAt) := goodIn_app (goodIn_of _ (by decide +kernel)) ggX6_has_X6_setAskedAt
set_option maxRecDepth 20000 in
theorem ggX6_has_X0_holds : GoodIn wsX6_has wsX0_holds := goodIn_r _ [20, 21, 22, 23, 19, 24, 25, 33] (by decide +kernel) (by decide +kernel)
set_option maxRecDepth 20000 in
theorem gX6_has_X0_holds : GoodIn wsX6_has (wsV RX6 96 RX0 yX0_holds wsX0_holds) := goodIn_app (goodIn_of _ (by decide +kernel)) ggX6_has_X0_holds
theorem dX6_has_0 : decode cX6_has 0 = .ok (.aload_n 0, 1) := by decide +kernel
theorem dX6_has_1 : decode cX6_has 1 = .ok (.iload_n 1, 1) := by decide +kernel
theorem dX6_has_2 : decode cX6_has 2 = .ok (.iload_n 2, 1) := by decide +kernel
theorem dX6_has_3 : decode cX6_has 3 = .ok (.iconst 0, 1) := by decide +kernel
theorem dX6_has_4 : decode cX6_has 4 = .ok (.invokevirtual 100, 3) := by decide +kernel
theorem dX6_has_7 : decode cX6_has 7 = .ok (.iload_n 2, 1) := by decide +kernel
theorem dX6_has_8 : decode cX6_has 8 = .ok (.invokevirtual 96, 3) := by decide +kernel
theorem dX6_has_11 : decode cX6_has 11 = .ok (.ireturn, 1) := by decide +kernel
set_option maxRecDepth 20000 in
theorem ggX6_count_X6_setOf : GoodIn wsX6_count wsX6_setOf := goodIn_ca (goodIn_r _ [5, 6, 7, 8, 37, 38, 39, 40, 41, 42, 43] (by decide +kernel) (by decide +kernel)) (goodIn_sub (fun _ h => List.mem_cons_of_mem _ (List.mem_append_right _ h)) (by decide +kernel))
set_option maxRecDepth 20000 in
theorem gX6_count_X6_setOf : GoodIn wsX6_count (wsV RX6 128 RX6 yX6_setOf wsX6_setOf) := goodIn_app (goodIn_of _ (by decide +kernel)) ggX6_count_X6_setOf
set_option maxRecDepth 20000 in
theorem ggX6_count_X0_size : GoodIn wsX6_count wsX0_size := goodIn_r _ [13, 14, 15, 16, 12, 17, 18, 19, 20, 21, 22, 23, 24, 25, 26, 27, 28, 29, 30, 31, 32, 33, 34, 35, 36, 44] (by decide +kernel) (by decide +kernel)
set_option maxRecDepth 20000 in
theorem gX6_count_X0_size : GoodIn wsX6_count (wsV RX6 114 RX0 yX0_size wsX0_size) := goodIn_app (goodIn_of _ (by decide +kernel)) ggX6_count_X0_size
theorem dX6_count_0 : decode cX6_count 0 = .ok (.aload_n 0, 1) := by decide +kernel
theorem dX6_count_1 : decode cX6_count 1 = .ok (.iload_n 1, 1) := by decide +kernel
theorem dX6_count_2 : decode cX6_count 2 = .ok (.invokevirtual 128, 3) := by decide +kernel
theorem dX6_count_5 : decode cX6_count 5 = .ok (.invokevirtual 114, 3) := by decide +kernel
theorem dX6_count_8 : decode cX6_count 8 = .ok (.ireturn, 1) := by decide +kernel
set_option maxRecDepth 20000 in
theorem ggX6_countIn_X6_setAskedIn : GoodIn wsX6_countIn wsX6_setAskedIn := goodIn_ca (goodIn_ca (goodIn_r _ [5, 6, 7, 8, 9, 10, 11, 4, 12, 13, 14, 15, 40, 41, 42, 43, 44, 45, 46] (by decide +kernel) (by decide +kernel)) (goodIn_sub (fun _ h => List.mem_cons_of_mem _ (List.mem_append_left _ (List.mem_append_right _ h))) (by decide +kernel))) (goodIn_sub (fun _ h => List.mem_cons_of_mem _ (List.mem_append_right _ h)) (by decide +kernel))
set_option maxRecDepth 20000 in
theorem gX6_countIn_X6_setAskedIn : GoodIn wsX6_countIn (wsV RX6 115 RX6 yX6_setAskedIn wsX6_setAskedIn) := goodIn_app (goodIn_of _ (by decide +kernel)) ggX6_countIn_X6_setAskedIn
set_option maxRecDepth 20000 in
theorem ggX6_countIn_X0_sizeIn : GoodIn wsX6_countIn wsX0_sizeIn := goodIn_r _ [20, 21, 22, 23, 19, 24, 25, 26, 27, 28, 29, 30, 31, 32, 33, 34, 35, 36, 37, 38, 39, 47] (by decide +kernel) (by decide +kernel)
set_option maxRecDepth 20000 in
theorem gX6_countIn_X0_sizeIn : GoodIn wsX6_countIn (wsV RX6 187 RX0 yX0_sizeIn wsX0_sizeIn) := goodIn_app (goodIn_of _ (by decide +kernel)) ggX6_countIn_X0_sizeIn
theorem dX6_countIn_0 : decode cX6_countIn 0 = .ok (.aload_n 0, 1) := by decide +kernel
theorem dX6_countIn_1 : decode cX6_countIn 1 = .ok (.iload_n 1, 1) := by decide +kernel
theorem dX6_countIn_2 : decode cX6_countIn 2 = .ok (.iload_n 2, 1) := by decide +kernel
theorem dX6_countIn_3 : decode cX6_countIn 3 = .ok (.iload_n 3, 1) := by decide +kernel
theorem dX6_countIn_4 : decode cX6_countIn 4 = .ok (.invokevirtual 115, 3) := by decide +kernel
theorem dX6_countIn_7 : decode cX6_countIn 7 = .ok (.iload_n 2, 1) := by decide +kernel
theorem dX6_countIn_8 : decode cX6_countIn 8 = .ok (.iload_n 3, 1) := by decide +kernel
theorem dX6_countIn_9 : decode cX6_countIn 9 = .ok (.invokevirtual 187, 3) := by decide +kernel
theorem dX6_countIn_12 : decode cX6_countIn 12 = .ok (.ireturn, 1) := by decide +kernel
set_option maxRecDepth 20000 in
theorem ggX6_length_X6_setOf : GoodIn wsX6_length wsX6_setOf := goodIn_ca (goodIn_r _ [5, 6, 7, 8, 39, 40, 41, 42, 43, 44, 45] (by decide +kernel) (by decide +kernel)) (goodIn_sub (fun _ h => List.mem_cons_of_mem _ (List.mem_append_right _ h)) (by decide +kernel))
set_option maxRecDepth 20000 in
theorem gX6_length_X6_setOf : GoodIn wsX6_length (wsV RX6 128 RX6 yX6_setOf wsX6_setOf) := goodIn_app (goodIn_of _ (by decide +kernel)) ggX6_length_X6_setOf
set_option maxRecDepth 20000 in
theorem ggX6_length_X0_end : GoodIn wsX6_length wsX0_end := goodIn_r _ [13, 14, 15, 16, 12, 17, 18, 19, 20, 21, 22, 23, 24, 25, 26, 27, 28, 29, 30, 31, 32, 33, 34, 35, 36, 37, 38, 46] (by decide +kernel) (by decide +kernel)
set_option maxRecDepth 20000 in
theorem gX6_length_X0_end : GoodIn wsX6_length (wsV RX6 157 RX0 yX0_end wsX0_end) := goodIn_app (goodIn_of _ (by decide +kernel)) ggX6_length_X0_end
theorem dX6_length_0 : decode cX6_length 0 = .ok (.aload_n 0, 1) := by decide +kernel
theorem dX6_length_1 : decode cX6_length 1 = .ok (.iload_n 1, 1) := by decide +kernel
theorem dX6_length_2 : decode cX6_length 2 = .ok (.invokevirtual 128, 3) := by decide +kernel
theorem dX6_length_5 : decode cX6_length 5 = .ok (.invokevirtual 157, 3) := by decide +kernel
theorem dX6_length_8 : decode cX6_length 8 = .ok (.ireturn, 1) := by decide +kernel
set_option maxRecDepth 20000 in
theorem ggX6_isEmpty_X6_setOf : GoodIn wsX6_isEmpty wsX6_setOf := goodIn_ca (goodIn_r _ [5, 6, 7, 8, 37, 38, 39, 40, 41, 42, 43] (by decide +kernel) (by decide +kernel)) (goodIn_sub (fun _ h => List.mem_cons_of_mem _ (List.mem_append_right _ h)) (by decide +kernel))
set_option maxRecDepth 20000 in
theorem gX6_isEmpty_X6_setOf : GoodIn wsX6_isEmpty (wsV RX6 128 RX6 yX6_setOf wsX6_setOf) := goodIn_app (goodIn_of _ (by decide +kernel)) ggX6_isEmpty_X6_setOf
set_option maxRecDepth 20000 in
theorem ggX6_isEmpty_X0_size : GoodIn wsX6_isEmpty wsX0_size := goodIn_r _ [13, 14, 15, 16, 12, 17, 18, 19, 20, 21, 22, 23, 24, 25, 26, 27, 28, 29, 30, 31, 32, 33, 34, 35, 36, 44] (by decide +kernel) (by decide +kernel)
set_option maxRecDepth 20000 in
theorem gX6_isEmpty_X0_size : GoodIn wsX6_isEmpty (wsV RX6 114 RX0 yX0_size wsX0_size) := goodIn_app (goodIn_of _ (by decide +kernel)) ggX6_isEmpty_X0_size
theorem dX6_isEmpty_0 : decode cX6_isEmpty 0 = .ok (.aload_n 0, 1) := by decide +kernel
theorem dX6_isEmpty_1 : decode cX6_isEmpty 1 = .ok (.iload_n 1, 1) := by decide +kernel
theorem dX6_isEmpty_2 : decode cX6_isEmpty 2 = .ok (.invokevirtual 128, 3) := by decide +kernel
theorem dX6_isEmpty_5 : decode cX6_isEmpty 5 = .ok (.invokevirtual 114, 3) := by decide +kernel
theorem dX6_isEmpty_8 : decode cX6_isEmpty 8 = .ok (.ifCond .ne 7, 3) := by decide +kernel
theorem dX6_isEmpty_11 : decode cX6_isEmpty 11 = .ok (.iconst 1, 1) := by decide +kernel
theorem dX6_isEmpty_12 : decode cX6_isEmpty 12 = .ok (.goto 4, 3) := by decide +kernel
theorem dX6_isEmpty_15 : decode cX6_isEmpty 15 = .ok (.iconst 0, 1) := by decide +kernel
theorem dX6_isEmpty_16 : decode cX6_isEmpty 16 = .ok (.ireturn, 1) := by decide +kernel
set_option maxRecDepth 20000 in
theorem ggX6_isRoomy_X6_setOf : GoodIn wsX6_isRoomy wsX6_setOf := goodIn_ca (goodIn_r _ [5, 6, 7, 8, 39, 40, 41, 42, 43, 44, 45] (by decide +kernel) (by decide +kernel)) (goodIn_sub (fun _ h => List.mem_cons_of_mem _ (List.mem_append_right _ h)) (by decide +kernel))
set_option maxRecDepth 20000 in
theorem gX6_isRoomy_X6_setOf : GoodIn wsX6_isRoomy (wsV RX6 128 RX6 yX6_setOf wsX6_setOf) := goodIn_app (goodIn_of _ (by decide +kernel)) ggX6_isRoomy_X6_setOf
set_option maxRecDepth 20000 in
theorem ggX6_isRoomy_X0_end : GoodIn wsX6_isRoomy wsX0_end := goodIn_r _ [13, 14, 15, 16, 12, 17, 18, 19, 20, 21, 22, 23, 24, 25, 26, 27, 28, 29, 30, 31, 32, 33, 34, 35, 36, 37, 38, 46] (by decide +kernel) (by decide +kernel)
set_option maxRecDepth 20000 in
theorem gX6_isRoomy_X0_end : GoodIn wsX6_isRoomy (wsV RX6 157 RX0 yX0_end wsX0_end) := goodIn_app (goodIn_of _ (by decide +kernel)) ggX6_isRoomy_X0_end
theorem dX6_isRoomy_0 : decode cX6_isRoomy 0 = .ok (.aload_n 0, 1) := by decide +kernel
theorem dX6_isRoomy_1 : decode cX6_isRoomy 1 = .ok (.iload_n 1, 1) := by decide +kernel
theorem dX6_isRoomy_2 : decode cX6_isRoomy 2 = .ok (.invokevirtual 128, 3) := by decide +kernel
theorem dX6_isRoomy_5 : decode cX6_isRoomy 5 = .ok (.invokevirtual 157, 3) := by decide +kernel
theorem dX6_isRoomy_8 : decode cX6_isRoomy 8 = .ok (.sipush 1024, 3) := by decide +kernel
theorem dX6_isRoomy_11 : decode cX6_isRoomy 11 = .ok (.if_icmp .gt 7, 3) := by decide +kernel
theorem dX6_isRoomy_14 : decode cX6_isRoomy 14 = .ok (.iconst 1, 1) := by decide +kernel
theorem dX6_isRoomy_15 : decode cX6_isRoomy 15 = .ok (.goto 4, 3) := by decide +kernel
theorem dX6_isRoomy_18 : decode cX6_isRoomy 18 = .ok (.iconst 0, 1) := by decide +kernel
theorem dX6_isRoomy_19 : decode cX6_isRoomy 19 = .ok (.ireturn, 1) := by decide +kernel
set_option maxRecDepth 20000 in
theorem ggX6_next_X6_setAskedAt : GoodIn wsX6_next wsX6_setAskedAt := goodIn_ca (goodIn_ca (goodIn_r _ [5, 6, 7, 8, 9, 10, 11, 4, 12, 13, 14, 15, 42, 43, 44, 45, 46, 47, 48] (by decide +kernel) (by decide +kernel)) (goodIn_sub (fun _ h => List.mem_cons_of_mem _ (List.mem_append_left _ (List.mem_append_right _ h))) (by decide +kernel))) (goodIn_sub (fun _ h => List.mem_cons_of_mem _ (List.mem_append_right _ h)) (by decide +kernel))
set_option maxRecDepth 20000 in
theorem gX6_next_X6_setAskedAt : GoodIn wsX6_next (wsV RX6 100 RX6 yX6_setAskedAt wsX6_setAskedAt) := goodIn_app (goodIn_of _ (by decide +kernel)) ggX6_next_X6_setAskedAt
set_option maxRecDepth 20000 in
theorem ggX6_next_X0_firstFrom : GoodIn wsX6_next wsX0_firstFrom := goodIn_r _ [20, 21, 22, 23, 19, 24, 25, 26, 27, 28, 29, 30, 31, 32, 33, 34, 35, 36, 37, 38, 39, 40, 41, 49] (by decide +kernel) (by decide +kernel)
set_option maxRecDepth 20000 in
theorem gX6_next_X0_firstFrom : GoodIn wsX6_next (wsV RX6 191 RX0 yX0_firstFrom wsX0_firstFrom) := goodIn_app (goodIn_of _ (by decide +kernel)) ggX6_next_X0_firstFrom
theorem dX6_next_0 : decode cX6_next 0 = .ok (.aload_n 0, 1) := by decide +kernel
theorem dX6_next_1 : decode cX6_next 1 = .ok (.iload_n 1, 1) := by decide +kernel
theorem dX6_next_2 : decode cX6_next 2 = .ok (.iload_n 2, 1) := by decide +kernel
theorem dX6_next_3 : decode cX6_next 3 = .ok (.iconst 0, 1) := by decide +kernel
theorem dX6_next_4 : decode cX6_next 4 = .ok (.invokevirtual 100, 3) := by decide +kernel
theorem dX6_next_7 : decode cX6_next 7 = .ok (.iload_n 2, 1) := by decide +kernel
theorem dX6_next_8 : decode cX6_next 8 = .ok (.invokevirtual 191, 3) := by decide +kernel
theorem dX6_next_11 : decode cX6_next 11 = .ok (.ireturn, 1) := by decide +kernel
set_option maxRecDepth 20000 in
theorem ggX6_nextMissing_X6_setAskedAt : GoodIn wsX6_nextMissing wsX6_setAskedAt := goodIn_ca (goodIn_ca (goodIn_r _ [5, 6, 7, 8, 9, 10, 11, 4, 12, 13, 14, 15, 42, 43, 44, 45, 46, 47, 48] (by decide +kernel) (by decide +kernel)) (goodIn_sub (fun _ h => List.mem_cons_of_mem _ (List.mem_append_left _ (List.mem_append_right _ h))) (by decide +kernel))) (goodIn_sub (fun _ h => List.mem_cons_of_mem _ (List.mem_append_right _ h)) (by decide +kernel))
set_option maxRecDepth 20000 in
theorem gX6_nextMissing_X6_setAskedAt : GoodIn wsX6_nextMissing (wsV RX6 100 RX6 yX6_setAskedAt wsX6_setAskedAt) := goodIn_app (goodIn_of _ (by decide +kernel)) ggX6_nextMissing_X6_setAskedAt
set_option maxRecDepth 20000 in
theorem ggX6_nextMissing_X0_firstGapFrom : GoodIn wsX6_nextMissing wsX0_firstGapFrom := goodIn_r _ [20, 21, 22, 23, 24, 25, 26, 27, 28, 19, 29, 30, 31, 32, 33, 34, 35, 36, 37, 38, 39, 40, 41, 49] (by decide +kernel) (by decide +kernel)
set_option maxRecDepth 20000 in
theorem gX6_nextMissing_X0_firstGapFrom : GoodIn wsX6_nextMissing (wsV RX6 194 RX0 yX0_firstGapFrom wsX0_firstGapFrom) := goodIn_app (goodIn_of _ (by decide +kernel)) ggX6_nextMissing_X0_firstGapFrom
theorem dX6_nextMissing_0 : decode cX6_nextMissing 0 = .ok (.aload_n 0, 1) := by decide +kernel
theorem dX6_nextMissing_1 : decode cX6_nextMissing 1 = .ok (.iload_n 1, 1) := by decide +kernel
theorem dX6_nextMissing_2 : decode cX6_nextMissing 2 = .ok (.iload_n 2, 1) := by decide +kernel
theorem dX6_nextMissing_3 : decode cX6_nextMissing 3 = .ok (.iconst 0, 1) := by decide +kernel
theorem dX6_nextMissing_4 : decode cX6_nextMissing 4 = .ok (.invokevirtual 100, 3) := by decide +kernel
theorem dX6_nextMissing_7 : decode cX6_nextMissing 7 = .ok (.iload_n 2, 1) := by decide +kernel
theorem dX6_nextMissing_8 : decode cX6_nextMissing 8 = .ok (.invokevirtual 194, 3) := by decide +kernel
theorem dX6_nextMissing_11 : decode cX6_nextMissing 11 = .ok (.ireturn, 1) := by decide +kernel
set_option maxRecDepth 20000 in
theorem ggX6_previous_X6_setAskedAt : GoodIn wsX6_previous wsX6_setAskedAt := goodIn_ca (goodIn_ca (goodIn_r _ [5, 6, 7, 8, 9, 10, 11, 4, 12, 13, 14, 15, 42, 43, 44, 45, 46, 47, 48] (by decide +kernel) (by decide +kernel)) (goodIn_sub (fun _ h => List.mem_cons_of_mem _ (List.mem_append_left _ (List.mem_append_right _ h))) (by decide +kernel))) (goodIn_sub (fun _ h => List.mem_cons_of_mem _ (List.mem_append_right _ h)) (by decide +kernel))
set_option maxRecDepth 20000 in
theorem gX6_previous_X6_setAskedAt : GoodIn wsX6_previous (wsV RX6 100 RX6 yX6_setAskedAt wsX6_setAskedAt) := goodIn_app (goodIn_of _ (by decide +kernel)) ggX6_previous_X6_setAskedAt
set_option maxRecDepth 20000 in
theorem ggX6_previous_X0_lastUpTo : GoodIn wsX6_previous wsX0_lastUpTo := goodIn_r _ [20, 21, 22, 23, 24, 25, 26, 27, 19, 28, 29, 30, 31, 32, 33, 34, 35, 36, 37, 38, 39, 40, 41, 49] (by decide +kernel) (by decide +kernel)
set_option maxRecDepth 20000 in
theorem gX6_previous_X0_lastUpTo : GoodIn wsX6_previous (wsV RX6 197 RX0 yX0_lastUpTo wsX0_lastUpTo) := goodIn_app (goodIn_of _ (by decide +kernel)) ggX6_previous_X0_lastUpTo
theorem dX6_previous_0 : decode cX6_previous 0 = .ok (.aload_n 0, 1) := by decide +kernel
theorem dX6_previous_1 : decode cX6_previous 1 = .ok (.iload_n 1, 1) := by decide +kernel
theorem dX6_previous_2 : decode cX6_previous 2 = .ok (.iload_n 2, 1) := by decide +kernel
theorem dX6_previous_3 : decode cX6_previous 3 = .ok (.iconst (-1), 1) := by decide +kernel
theorem dX6_previous_4 : decode cX6_previous 4 = .ok (.invokevirtual 100, 3) := by decide +kernel
theorem dX6_previous_7 : decode cX6_previous 7 = .ok (.iload_n 2, 1) := by decide +kernel
theorem dX6_previous_8 : decode cX6_previous 8 = .ok (.invokevirtual 197, 3) := by decide +kernel
theorem dX6_previous_11 : decode cX6_previous 11 = .ok (.ireturn, 1) := by decide +kernel
set_option maxRecDepth 20000 in
theorem ggX6_previousMissing_X6_setAskedAt : GoodIn wsX6_previousMissing wsX6_setAskedAt := goodIn_ca (goodIn_ca (goodIn_r _ [5, 6, 7, 8, 9, 10, 11, 4, 12, 13, 14, 15, 42, 43, 44, 45, 46, 47, 48] (by decide +kernel) (by decide +kernel)) (goodIn_sub (fun _ h => List.mem_cons_of_mem _ (List.mem_append_left _ (List.mem_append_right _ h))) (by decide +kernel))) (goodIn_sub (fun _ h => List.mem_cons_of_mem _ (List.mem_append_right _ h)) (by decide +kernel))
set_option maxRecDepth 20000 in
theorem gX6_previousMissing_X6_setAskedAt : GoodIn wsX6_previousMissing (wsV RX6 100 RX6 yX6_setAskedAt wsX6_setAskedAt) := goodIn_app (goodIn_of _ (by decide +kernel)) ggX6_previousMissing_X6_setAskedAt
set_option maxRecDepth 20000 in
theorem ggX6_previousMissing_X0_lastGapUpTo : GoodIn wsX6_previousMissing wsX0_lastGapUpTo := goodIn_r _ [20, 21, 22, 23, 24, 19, 25, 26, 27, 28, 29, 30, 31, 32, 33, 34, 35, 36, 37, 38, 39, 40, 41, 49] (by decide +kernel) (by decide +kernel)
set_option maxRecDepth 20000 in
theorem gX6_previousMissing_X0_lastGapUpTo : GoodIn wsX6_previousMissing (wsV RX6 200 RX0 yX0_lastGapUpTo wsX0_lastGapUpTo) := goodIn_app (goodIn_of _ (by decide +kernel)) ggX6_previousMissing_X0_lastGapUpTo
theorem dX6_previousMissing_0 : decode cX6_previousMissing 0 = .ok (.aload_n 0, 1) := by decide +kernel
theorem dX6_previousMissing_1 : decode cX6_previousMissing 1 = .ok (.iload_n 1, 1) := by decide +kernel
theorem dX6_previousMissing_2 : decode cX6_previousMissing 2 = .ok (.iload_n 2, 1) := by decide +kernel
theorem dX6_previousMissing_3 : decode cX6_previousMissing 3 = .ok (.iconst (-1), 1) := by decide +kernel
theorem dX6_previousMissing_4 : decode cX6_previousMissing 4 = .ok (.invokevirtual 100, 3) := by decide +kernel
theorem dX6_previousMissing_7 : decode cX6_previousMissing 7 = .ok (.iload_n 2, 1) := by decide +kernel
theorem dX6_previousMissing_8 : decode cX6_previousMissing 8 = .ok (.invokevirtual 200, 3) := by decide +kernel
theorem dX6_previousMissing_11 : decode cX6_previousMissing 11 = .ok (.ireturn, 1) := by decide +kernel
set_option maxRecDepth 20000 in
theorem ggX6_memberAt_X6_setOf : GoodIn wsX6_memberAt wsX6_setOf := goodIn_ca (goodIn_r _ [5, 6, 7, 8, 51, 52, 53, 54, 55, 56, 57] (by decide +kernel) (by decide +kernel)) (goodIn_sub (fun _ h => List.mem_cons_of_mem _ (List.mem_append_right _ h)) (by decide +kernel))
set_option maxRecDepth 20000 in
theorem gX6_memberAt_X6_setOf : GoodIn wsX6_memberAt (wsV RX6 128 RX6 yX6_setOf wsX6_setOf) := goodIn_app (goodIn_of _ (by decide +kernel)) ggX6_memberAt_X6_setOf
set_option maxRecDepth 20000 in
theorem ggX6_memberAt_X0_memberInPlace : GoodIn wsX6_memberAt wsX0_memberInPlace := goodIn_r _ [13, 14, 15, 16, 12, 17, 18, 19, 20, 21, 22, 23, 24, 25, 26, 27, 28, 29, 30, 31, 32, 33, 34, 35, 36, 37, 38, 39, 40, 41, 42, 43, 44, 45, 46, 47, 48, 49, 50, 58] (by decide +kernel) (by decide +kernel)
set_option maxRecDepth 20000 in
theorem gX6_memberAt_X0_memberInPlace : GoodIn wsX6_memberAt (wsV RX6 203 RX0 yX0_memberInPlace wsX0_memberInPlace) := goodIn_app (goodIn_of _ (by decide +kernel)) ggX6_memberAt_X0_memberInPlace
theorem dX6_memberAt_0 : decode cX6_memberAt 0 = .ok (.aload_n 0, 1) := by decide +kernel
theorem dX6_memberAt_1 : decode cX6_memberAt 1 = .ok (.iload_n 1, 1) := by decide +kernel
theorem dX6_memberAt_2 : decode cX6_memberAt 2 = .ok (.invokevirtual 128, 3) := by decide +kernel
theorem dX6_memberAt_5 : decode cX6_memberAt 5 = .ok (.iload_n 2, 1) := by decide +kernel
theorem dX6_memberAt_6 : decode cX6_memberAt 6 = .ok (.invokevirtual 203, 3) := by decide +kernel
theorem dX6_memberAt_9 : decode cX6_memberAt 9 = .ok (.ireturn, 1) := by decide +kernel
set_option maxRecDepth 20000 in
theorem ggX6_sum_X6_setOf : GoodIn wsX6_sum wsX6_setOf := goodIn_ca (goodIn_r _ [5, 6, 7, 8, 51, 52, 53, 54, 55, 56, 57] (by decide +kernel) (by decide +kernel)) (goodIn_sub (fun _ h => List.mem_cons_of_mem _ (List.mem_append_right _ h)) (by decide +kernel))
set_option maxRecDepth 20000 in
theorem gX6_sum_X6_setOf : GoodIn wsX6_sum (wsV RX6 128 RX6 yX6_setOf wsX6_setOf) := goodIn_app (goodIn_of _ (by decide +kernel)) ggX6_sum_X6_setOf
set_option maxRecDepth 20000 in
theorem ggX6_sum_X0_total : GoodIn wsX6_sum wsX0_total := goodIn_r _ [13, 14, 15, 16, 12, 17, 18, 19, 20, 21, 22, 23, 24, 25, 26, 27, 28, 29, 30, 31, 32, 33, 34, 35, 36, 37, 38, 39, 40, 41, 42, 43, 44, 45, 46, 47, 48, 49, 50, 58] (by decide +kernel) (by decide +kernel)
set_option maxRecDepth 20000 in
theorem gX6_sum_X0_total : GoodIn wsX6_sum (wsV RX6 206 RX0 yX0_total wsX0_total) := goodIn_app (goodIn_of _ (by decide +kernel)) ggX6_sum_X0_total
theorem dX6_sum_0 : decode cX6_sum 0 = .ok (.aload_n 0, 1) := by decide +kernel
theorem dX6_sum_1 : decode cX6_sum 1 = .ok (.iload_n 1, 1) := by decide +kernel
theorem dX6_sum_2 : decode cX6_sum 2 = .ok (.invokevirtual 128, 3) := by decide +kernel
theorem dX6_sum_5 : decode cX6_sum 5 = .ok (.invokevirtual 206, 3) := by decide +kernel
theorem dX6_sum_8 : decode cX6_sum 8 = .ok (.lreturn, 1) := by decide +kernel
set_option maxRecDepth 20000 in
theorem ggX6_runs_X6_setOf : GoodIn wsX6_runs wsX6_setOf := goodIn_ca (goodIn_r _ [5, 6, 7, 8, 51, 52, 53, 54, 55, 56, 57] (by decide +kernel) (by decide +kernel)) (goodIn_sub (fun _ h => List.mem_cons_of_mem _ (List.mem_append_right _ h)) (by decide +kernel))
set_option maxRecDepth 20000 in
theorem gX6_runs_X6_setOf : GoodIn wsX6_runs (wsV RX6 128 RX6 yX6_setOf wsX6_setOf) := goodIn_app (goodIn_of _ (by decide +kernel)) ggX6_runs_X6_setOf
set_option maxRecDepth 20000 in
theorem ggX6_runs_X0_rows : GoodIn wsX6_runs wsX0_rows := goodIn_r _ [13, 14, 15, 16, 12, 17, 18, 19, 20, 21, 22, 23, 24, 25, 26, 27, 28, 29, 30, 31, 32, 33, 34, 35, 36, 37, 38, 39, 40, 41, 42, 43, 44, 45, 46, 47, 48, 49, 50, 58] (by decide +kernel) (by decide +kernel)
set_option maxRecDepth 20000 in
theorem gX6_runs_X0_rows : GoodIn wsX6_runs (wsV RX6 210 RX0 yX0_rows wsX0_rows) := goodIn_app (goodIn_of _ (by decide +kernel)) ggX6_runs_X0_rows
theorem dX6_runs_0 : decode cX6_runs 0 = .ok (.aload_n 0, 1) := by decide +kernel
theorem dX6_runs_1 : decode cX6_runs 1 = .ok (.iload_n 1, 1) := by decide +kernel
theorem dX6_runs_2 : decode cX6_runs 2 = .ok (.invokevirtual 128, 3) := by decide +kernel
theorem dX6_runs_5 : decode cX6_runs 5 = .ok (.invokevirtual 210, 3) := by decide +kernel
theorem dX6_runs_8 : decode cX6_runs 8 = .ok (.ireturn, 1) := by decide +kernel
set_option maxRecDepth 20000 in
theorem ggX6_areEqual_X6_setOf : GoodIn wsX6_areEqual wsX6_setOf := goodIn_ca (goodIn_r _ [5, 6, 7, 8, 26, 27, 28, 29, 30, 31, 32] (by decide +kernel) (by decide +kernel)) (goodIn_sub (fun _ h => List.mem_cons_of_mem _ (List.mem_append_right _ h)) (by decide +kernel))
set_option maxRecDepth 20000 in
theorem gX6_areEqual_X6_setOf : GoodIn wsX6_areEqual (wsV RX6 128 RX6 yX6_setOf wsX6_setOf) := goodIn_app (goodIn_of _ (by decide +kernel)) ggX6_areEqual_X6_setOf
set_option maxRecDepth 20000 in
theorem ggX6_areEqual_X0_sizeOfEither : GoodIn wsX6_areEqual wsX0_sizeOfEither := goodIn_r _ [13, 14, 15, 16, 17, 18, 19, 20, 21, 33] (by decide +kernel) (by decide +kernel)
set_option maxRecDepth 20000 in
theorem gX6_areEqual_X0_sizeOfEither : GoodIn wsX6_areEqual (wsV RX6 216 RX0 yX0_sizeOfEither wsX0_sizeOfEither) := goodIn_app (goodIn_of _ (by decide +kernel)) ggX6_areEqual_X0_sizeOfEither
set_option maxRecDepth 20000 in
theorem ggX6_areEqual_X0_sizeOfCommon : GoodIn wsX6_areEqual wsX0_sizeOfCommon := goodIn_r _ [25, 14, 15, 16, 17, 18, 19, 20, 21, 33] (by decide +kernel) (by decide +kernel)
set_option maxRecDepth 20000 in
theorem gX6_areEqual_X0_sizeOfCommon : GoodIn wsX6_areEqual (wsV RX6 220 RX0 yX0_sizeOfCommon wsX0_sizeOfCommon) := goodIn_app (goodIn_of _ (by decide +kernel)) ggX6_areEqual_X0_sizeOfCommon
theorem dX6_areEqual_0 : decode cX6_areEqual 0 = .ok (.aload_n 0, 1) := by decide +kernel
theorem dX6_areEqual_1 : decode cX6_areEqual 1 = .ok (.iload_n 1, 1) := by decide +kernel
theorem dX6_areEqual_2 : decode cX6_areEqual 2 = .ok (.invokevirtual 128, 3) := by decide +kernel
theorem dX6_areEqual_5 : decode cX6_areEqual 5 = .ok (.aload_n 0, 1) := by decide +kernel
theorem dX6_areEqual_6 : decode cX6_areEqual 6 = .ok (.iload_n 2, 1) := by decide +kernel
theorem dX6_areEqual_7 : decode cX6_areEqual 7 = .ok (.invokevirtual 128, 3) := by decide +kernel
theorem dX6_areEqual_10 : decode cX6_areEqual 10 = .ok (.invokevirtual 216, 3) := by decide +kernel
theorem dX6_areEqual_13 : decode cX6_areEqual 13 = .ok (.aload_n 0, 1) := by decide +kernel
theorem dX6_areEqual_14 : decode cX6_areEqual 14 = .ok (.iload_n 1, 1) := by decide +kernel
theorem dX6_areEqual_15 : decode cX6_areEqual 15 = .ok (.invokevirtual 128, 3) := by decide +kernel
theorem dX6_areEqual_18 : decode cX6_areEqual 18 = .ok (.aload_n 0, 1) := by decide +kernel
theorem dX6_areEqual_19 : decode cX6_areEqual 19 = .ok (.iload_n 2, 1) := by decide +kernel
theorem dX6_areEqual_20 : decode cX6_areEqual 20 = .ok (.invokevirtual 128, 3) := by decide +kernel
theorem dX6_areEqual_23 : decode cX6_areEqual 23 = .ok (.invokevirtual 220, 3) := by decide +kernel
theorem dX6_areEqual_26 : decode cX6_areEqual 26 = .ok (.if_icmp .ne 7, 3) := by decide +kernel
theorem dX6_areEqual_29 : decode cX6_areEqual 29 = .ok (.iconst 1, 1) := by decide +kernel
theorem dX6_areEqual_30 : decode cX6_areEqual 30 = .ok (.goto 4, 3) := by decide +kernel
theorem dX6_areEqual_33 : decode cX6_areEqual 33 = .ok (.iconst 0, 1) := by decide +kernel
theorem dX6_areEqual_34 : decode cX6_areEqual 34 = .ok (.ireturn, 1) := by decide +kernel
set_option maxRecDepth 20000 in
theorem ggX6_meet_X6_setOf : GoodIn wsX6_meet wsX6_setOf := goodIn_ca (goodIn_r _ [5, 6, 7, 8, 22, 23, 24, 25, 26, 27, 28] (by decide +kernel) (by decide +kernel)) (goodIn_sub (fun _ h => List.mem_cons_of_mem _ (List.mem_append_right _ h)) (by decide +kernel))
set_option maxRecDepth 20000 in
theorem gX6_meet_X6_setOf : GoodIn wsX6_meet (wsV RX6 128 RX6 yX6_setOf wsX6_setOf) := goodIn_app (goodIn_of _ (by decide +kernel)) ggX6_meet_X6_setOf
set_option maxRecDepth 20000 in
theorem ggX6_meet_X0_sizeOfCommon : GoodIn wsX6_meet wsX0_sizeOfCommon := goodIn_r _ [13, 14, 15, 16, 17, 18, 19, 20, 21, 29] (by decide +kernel) (by decide +kernel)
set_option maxRecDepth 20000 in
theorem gX6_meet_X0_sizeOfCommon : GoodIn wsX6_meet (wsV RX6 220 RX0 yX0_sizeOfCommon wsX0_sizeOfCommon) := goodIn_app (goodIn_of _ (by decide +kernel)) ggX6_meet_X0_sizeOfCommon
theorem dX6_meet_0 : decode cX6_meet 0 = .ok (.aload_n 0, 1) := by decide +kernel
theorem dX6_meet_1 : decode cX6_meet 1 = .ok (.iload_n 1, 1) := by decide +kernel
theorem dX6_meet_2 : decode cX6_meet 2 = .ok (.invokevirtual 128, 3) := by decide +kernel
theorem dX6_meet_5 : decode cX6_meet 5 = .ok (.aload_n 0, 1) := by decide +kernel
theorem dX6_meet_6 : decode cX6_meet 6 = .ok (.iload_n 2, 1) := by decide +kernel
theorem dX6_meet_7 : decode cX6_meet 7 = .ok (.invokevirtual 128, 3) := by decide +kernel
theorem dX6_meet_10 : decode cX6_meet 10 = .ok (.invokevirtual 220, 3) := by decide +kernel
theorem dX6_meet_13 : decode cX6_meet 13 = .ok (.ifCond .le 7, 3) := by decide +kernel
theorem dX6_meet_16 : decode cX6_meet 16 = .ok (.iconst 1, 1) := by decide +kernel
theorem dX6_meet_17 : decode cX6_meet 17 = .ok (.goto 4, 3) := by decide +kernel
theorem dX6_meet_20 : decode cX6_meet 20 = .ok (.iconst 0, 1) := by decide +kernel
theorem dX6_meet_21 : decode cX6_meet 21 = .ok (.ireturn, 1) := by decide +kernel
set_option maxRecDepth 20000 in
theorem ggX6_isWithin_X6_setOf : GoodIn wsX6_isWithin wsX6_setOf := goodIn_ca (goodIn_r _ [5, 6, 7, 8, 41, 42, 43, 44, 45, 46, 47] (by decide +kernel) (by decide +kernel)) (goodIn_sub (fun _ h => List.mem_cons_of_mem _ (List.mem_append_right _ h)) (by decide +kernel))
set_option maxRecDepth 20000 in
theorem gX6_isWithin_X6_setOf : GoodIn wsX6_isWithin (wsV RX6 128 RX6 yX6_setOf wsX6_setOf) := goodIn_app (goodIn_of _ (by decide +kernel)) ggX6_isWithin_X6_setOf
set_option maxRecDepth 20000 in
theorem ggX6_isWithin_X0_sizeOfCommon : GoodIn wsX6_isWithin wsX0_sizeOfCommon := goodIn_r _ [13, 14, 15, 16, 17, 18, 19, 20, 21, 48] (by decide +kernel) (by decide +kernel)
set_option maxRecDepth 20000 in
theorem gX6_isWithin_X0_sizeOfCommon : GoodIn wsX6_isWithin (wsV RX6 220 RX0 yX0_sizeOfCommon wsX0_sizeOfCommon) := goodIn_app (goodIn_of _ (by decide +kernel)) ggX6_isWithin_X0_sizeOfCommon
set_option maxRecDepth 20000 in
theorem ggX6_isWithin_X0_size : GoodIn wsX6_isWithin wsX0_size := goodIn_r _ [25, 26, 27, 28, 12, 29, 14, 30, 31, 32, 33, 34, 35, 36, 37, 38, 39, 40, 15, 16, 17, 18, 19, 20, 21, 48] (by decide +kernel) (by decide +kernel)
set_option maxRecDepth 20000 in
theorem gX6_isWithin_X0_size : GoodIn wsX6_isWithin (wsV RX6 114 RX0 yX0_size wsX0_size) := goodIn_app (goodIn_of _ (by decide +kernel)) ggX6_isWithin_X0_size
theorem dX6_isWithin_0 : decode cX6_isWithin 0 = .ok (.aload_n 0, 1) := by decide +kernel
theorem dX6_isWithin_1 : decode cX6_isWithin 1 = .ok (.iload_n 1, 1) := by decide +kernel
theorem dX6_isWithin_2 : decode cX6_isWithin 2 = .ok (.invokevirtual 128, 3) := by decide +kernel
theorem dX6_isWithin_5 : decode cX6_isWithin 5 = .ok (.aload_n 0, 1) := by decide +kernel
theorem dX6_isWithin_6 : decode cX6_isWithin 6 = .ok (.iload_n 2, 1) := by decide +kernel
theorem dX6_isWithin_7 : decode cX6_isWithin 7 = .ok (.invokevirtual 128, 3) := by decide +kernel
theorem dX6_isWithin_10 : decode cX6_isWithin 10 = .ok (.invokevirtual 220, 3) := by decide +kernel
theorem dX6_isWithin_13 : decode cX6_isWithin 13 = .ok (.aload_n 0, 1) := by decide +kernel
theorem dX6_isWithin_14 : decode cX6_isWithin 14 = .ok (.iload_n 1, 1) := by decide +kernel
theorem dX6_isWithin_15 : decode cX6_isWithin 15 = .ok (.invokevirtual 128, 3) := by decide +kernel
theorem dX6_isWithin_18 : decode cX6_isWithin 18 = .ok (.invokevirtual 114, 3) := by decide +kernel
theorem dX6_isWithin_21 : decode cX6_isWithin 21 = .ok (.if_icmp .ne 7, 3) := by decide +kernel
theorem dX6_isWithin_24 : decode cX6_isWithin 24 = .ok (.iconst 1, 1) := by decide +kernel
theorem dX6_isWithin_25 : decode cX6_isWithin 25 = .ok (.goto 4, 3) := by decide +kernel
theorem dX6_isWithin_28 : decode cX6_isWithin 28 = .ok (.iconst 0, 1) := by decide +kernel
theorem dX6_isWithin_29 : decode cX6_isWithin 29 = .ok (.ireturn, 1) := by decide +kernel
set_option maxRecDepth 20000 in
theorem ggX6_unionCount_X6_setOf : GoodIn wsX6_unionCount wsX6_setOf := goodIn_ca (goodIn_r _ [5, 6, 7, 8, 22, 23, 24, 25, 26, 27, 28] (by decide +kernel) (by decide +kernel)) (goodIn_sub (fun _ h => List.mem_cons_of_mem _ (List.mem_append_right _ h)) (by decide +kernel))
set_option maxRecDepth 20000 in
theorem gX6_unionCount_X6_setOf : GoodIn wsX6_unionCount (wsV RX6 128 RX6 yX6_setOf wsX6_setOf) := goodIn_app (goodIn_of _ (by decide +kernel)) ggX6_unionCount_X6_setOf
set_option maxRecDepth 20000 in
theorem ggX6_unionCount_X0_sizeOfEither : GoodIn wsX6_unionCount wsX0_sizeOfEither := goodIn_r _ [13, 14, 15, 16, 17, 18, 19, 20, 21, 29] (by decide +kernel) (by decide +kernel)
set_option maxRecDepth 20000 in
theorem gX6_unionCount_X0_sizeOfEither : GoodIn wsX6_unionCount (wsV RX6 216 RX0 yX0_sizeOfEither wsX0_sizeOfEither) := goodIn_app (goodIn_of _ (by decide +kernel)) ggX6_unionCount_X0_sizeOfEither
theorem dX6_unionCount_0 : decode cX6_unionCount 0 = .ok (.aload_n 0, 1) := by decide +kernel
theorem dX6_unionCount_1 : decode cX6_unionCount 1 = .ok (.iload_n 1, 1) := by decide +kernel
theorem dX6_unionCount_2 : decode cX6_unionCount 2 = .ok (.invokevirtual 128, 3) := by decide +kernel
theorem dX6_unionCount_5 : decode cX6_unionCount 5 = .ok (.aload_n 0, 1) := by decide +kernel
theorem dX6_unionCount_6 : decode cX6_unionCount 6 = .ok (.iload_n 2, 1) := by decide +kernel
theorem dX6_unionCount_7 : decode cX6_unionCount 7 = .ok (.invokevirtual 128, 3) := by decide +kernel
theorem dX6_unionCount_10 : decode cX6_unionCount 10 = .ok (.invokevirtual 216, 3) := by decide +kernel
theorem dX6_unionCount_13 : decode cX6_unionCount 13 = .ok (.ireturn, 1) := by decide +kernel
set_option maxRecDepth 20000 in
theorem ggX6_distance_X6_setOf : GoodIn wsX6_distance wsX6_setOf := goodIn_ca (goodIn_r _ [5, 6, 7, 8, 26, 27, 28, 29, 30, 31, 32] (by decide +kernel) (by decide +kernel)) (goodIn_sub (fun _ h => List.mem_cons_of_mem _ (List.mem_append_right _ h)) (by decide +kernel))
set_option maxRecDepth 20000 in
theorem gX6_distance_X6_setOf : GoodIn wsX6_distance (wsV RX6 128 RX6 yX6_setOf wsX6_setOf) := goodIn_app (goodIn_of _ (by decide +kernel)) ggX6_distance_X6_setOf
set_option maxRecDepth 20000 in
theorem ggX6_distance_X0_sizeOfEither : GoodIn wsX6_distance wsX0_sizeOfEither := goodIn_r _ [13, 14, 15, 16, 17, 18, 19, 20, 21, 33] (by decide +kernel) (by decide +kernel)
set_option maxRecDepth 20000 in
theorem gX6_distance_X0_sizeOfEither : GoodIn wsX6_distance (wsV RX6 216 RX0 yX0_sizeOfEither wsX0_sizeOfEither) := goodIn_app (goodIn_of _ (by decide +kernel)) ggX6_distance_X0_sizeOfEither
set_option maxRecDepth 20000 in
theorem ggX6_distance_X0_sizeOfCommon : GoodIn wsX6_distance wsX0_sizeOfCommon := goodIn_r _ [25, 14, 15, 16, 17, 18, 19, 20, 21, 33] (by decide +kernel) (by decide +kernel)
set_option maxRecDepth 20000 in
theorem gX6_distance_X0_sizeOfCommon : GoodIn wsX6_distance (wsV RX6 220 RX0 yX0_sizeOfCommon wsX0_sizeOfCommon) := goodIn_app (goodIn_of _ (by decide +kernel)) ggX6_distance_X0_sizeOfCommon
theorem dX6_distance_0 : decode cX6_distance 0 = .ok (.aload_n 0, 1) := by decide +kernel
theorem dX6_distance_1 : decode cX6_distance 1 = .ok (.iload_n 1, 1) := by decide +kernel
theorem dX6_distance_2 : decode cX6_distance 2 = .ok (.invokevirtual 128, 3) := by decide +kernel
theorem dX6_distance_5 : decode cX6_distance 5 = .ok (.aload_n 0, 1) := by decide +kernel
theorem dX6_distance_6 : decode cX6_distance 6 = .ok (.iload_n 2, 1) := by decide +kernel
theorem dX6_distance_7 : decode cX6_distance 7 = .ok (.invokevirtual 128, 3) := by decide +kernel
theorem dX6_distance_10 : decode cX6_distance 10 = .ok (.invokevirtual 216, 3) := by decide +kernel
theorem dX6_distance_13 : decode cX6_distance 13 = .ok (.aload_n 0, 1) := by decide +kernel
theorem dX6_distance_14 : decode cX6_distance 14 = .ok (.iload_n 1, 1) := by decide +kernel
theorem dX6_distance_15 : decode cX6_distance 15 = .ok (.invokevirtual 128, 3) := by decide +kernel
theorem dX6_distance_18 : decode cX6_distance 18 = .ok (.aload_n 0, 1) := by decide +kernel
theorem dX6_distance_19 : decode cX6_distance 19 = .ok (.iload_n 2, 1) := by decide +kernel
theorem dX6_distance_20 : decode cX6_distance 20 = .ok (.invokevirtual 128, 3) := by decide +kernel
theorem dX6_distance_23 : decode cX6_distance 23 = .ok (.invokevirtual 220, 3) := by decide +kernel
theorem dX6_distance_26 : decode cX6_distance 26 = .ok (.isub, 1) := by decide +kernel
theorem dX6_distance_27 : decode cX6_distance 27 = .ok (.ireturn, 1) := by decide +kernel
set_option maxRecDepth 20000 in
theorem ggX6_firstCommon_X6_setOf : GoodIn wsX6_firstCommon wsX6_setOf := goodIn_ca (goodIn_r _ [5, 6, 7, 8, 24, 25, 26, 27, 28, 29, 30] (by decide +kernel) (by decide +kernel)) (goodIn_sub (fun _ h => List.mem_cons_of_mem _ (List.mem_append_right _ h)) (by decide +kernel))
set_option maxRecDepth 20000 in
theorem gX6_firstCommon_X6_setOf : GoodIn wsX6_firstCommon (wsV RX6 128 RX6 yX6_setOf wsX6_setOf) := goodIn_app (goodIn_of _ (by decide +kernel)) ggX6_firstCommon_X6_setOf
set_option maxRecDepth 20000 in
theorem ggX6_firstCommon_X0_firstCommonWith : GoodIn wsX6_firstCommon wsX0_firstCommonWith := goodIn_r _ [13, 14, 15, 16, 17, 18, 19, 20, 21, 22, 23, 31] (by decide +kernel) (by decide +kernel)
set_option maxRecDepth 20000 in
theorem gX6_firstCommon_X0_firstCommonWith : GoodIn wsX6_firstCommon (wsV RX6 223 RX0 yX0_firstCommonWith wsX0_firstCommonWith) := goodIn_app (goodIn_of _ (by decide +kernel)) ggX6_firstCommon_X0_firstCommonWith
theorem dX6_firstCommon_0 : decode cX6_firstCommon 0 = .ok (.aload_n 0, 1) := by decide +kernel
theorem dX6_firstCommon_1 : decode cX6_firstCommon 1 = .ok (.iload_n 1, 1) := by decide +kernel
theorem dX6_firstCommon_2 : decode cX6_firstCommon 2 = .ok (.invokevirtual 128, 3) := by decide +kernel
theorem dX6_firstCommon_5 : decode cX6_firstCommon 5 = .ok (.aload_n 0, 1) := by decide +kernel
theorem dX6_firstCommon_6 : decode cX6_firstCommon 6 = .ok (.iload_n 2, 1) := by decide +kernel
theorem dX6_firstCommon_7 : decode cX6_firstCommon 7 = .ok (.invokevirtual 128, 3) := by decide +kernel
theorem dX6_firstCommon_10 : decode cX6_firstCommon 10 = .ok (.invokevirtual 223, 3) := by decide +kernel
theorem dX6_firstCommon_13 : decode cX6_firstCommon 13 = .ok (.ireturn, 1) := by decide +kernel
theorem dX6_refusals_0 : decode cX6_refusals 0 = .ok (.aload_n 0, 1) := by decide +kernel
theorem dX6_refusals_1 : decode cX6_refusals 1 = .ok (.getfield 56, 3) := by decide +kernel
theorem dX6_refusals_4 : decode cX6_refusals 4 = .ok (.ireturn, 1) := by decide +kernel
set_option maxRecDepth 20000 in
theorem ggX6_errors_X0_keepsLawsWith : GoodIn wsX6_errors wsX0_keepsLawsWith := goodIn_r _ [6, 7, 8, 9, 10, 11, 5, 12, 13, 14, 15, 16, 17, 18, 19, 20, 21, 22, 23, 24, 25, 26, 27, 28, 29, 30, 31, 32, 33, 34, 35, 36, 37, 38, 39, 40, 41, 49] (by decide +kernel) (by decide +kernel)
set_option maxRecDepth 20000 in
theorem gX6_errors_X0_keepsLawsWith : GoodIn wsX6_errors (wsV RX6 236 RX0 yX0_keepsLawsWith wsX0_keepsLawsWith) := goodIn_app (goodIn_of _ (by decide +kernel)) ggX6_errors_X0_keepsLawsWith
theorem dX6_errors_0 : decode cX6_errors 0 = .ok (.iconst 0, 1) := by decide +kernel
theorem dX6_errors_1 : decode cX6_errors 1 = .ok (.istore_n 1, 1) := by decide +kernel
theorem dX6_errors_2 : decode cX6_errors 2 = .ok (.iconst 0, 1) := by decide +kernel
theorem dX6_errors_3 : decode cX6_errors 3 = .ok (.istore_n 2, 1) := by decide +kernel
theorem dX6_errors_4 : decode cX6_errors 4 = .ok (.iload_n 2, 1) := by decide +kernel
theorem dX6_errors_5 : decode cX6_errors 5 = .ok (.bipush 8, 2) := by decide +kernel
theorem dX6_errors_7 : decode cX6_errors 7 = .ok (.if_icmp .ge 46, 3) := by decide +kernel
theorem dX6_errors_10 : decode cX6_errors 10 = .ok (.iload_n 2, 1) := by decide +kernel
theorem dX6_errors_11 : decode cX6_errors 11 = .ok (.iconst 1, 1) := by decide +kernel
theorem dX6_errors_12 : decode cX6_errors 12 = .ok (.iadd, 1) := by decide +kernel
theorem dX6_errors_13 : decode cX6_errors 13 = .ok (.istore_n 3, 1) := by decide +kernel
theorem dX6_errors_14 : decode cX6_errors 14 = .ok (.iload_n 3, 1) := by decide +kernel
theorem dX6_errors_15 : decode cX6_errors 15 = .ok (.bipush 8, 2) := by decide +kernel
theorem dX6_errors_17 : decode cX6_errors 17 = .ok (.if_icmp .ge 30, 3) := by decide +kernel
theorem dX6_errors_20 : decode cX6_errors 20 = .ok (.aload_n 0, 1) := by decide +kernel
theorem dX6_errors_21 : decode cX6_errors 21 = .ok (.getfield 11, 3) := by decide +kernel
theorem dX6_errors_24 : decode cX6_errors 24 = .ok (.iload_n 2, 1) := by decide +kernel
theorem dX6_errors_25 : decode cX6_errors 25 = .ok (.aaload, 1) := by decide +kernel
theorem dX6_errors_26 : decode cX6_errors 26 = .ok (.aload_n 0, 1) := by decide +kernel
theorem dX6_errors_27 : decode cX6_errors 27 = .ok (.getfield 11, 3) := by decide +kernel
theorem dX6_errors_30 : decode cX6_errors 30 = .ok (.iload_n 3, 1) := by decide +kernel
theorem dX6_errors_31 : decode cX6_errors 31 = .ok (.aaload, 1) := by decide +kernel
theorem dX6_errors_32 : decode cX6_errors 32 = .ok (.invokevirtual 236, 3) := by decide +kernel
theorem dX6_errors_35 : decode cX6_errors 35 = .ok (.ifCond .ne 6, 3) := by decide +kernel
theorem dX6_errors_38 : decode cX6_errors 38 = .ok (.iinc 1 1, 3) := by decide +kernel
theorem dX6_errors_41 : decode cX6_errors 41 = .ok (.iinc 3 1, 3) := by decide +kernel
theorem dX6_errors_44 : decode cX6_errors 44 = .ok (.goto (-30), 3) := by decide +kernel
theorem dX6_errors_47 : decode cX6_errors 47 = .ok (.iinc 2 1, 3) := by decide +kernel
theorem dX6_errors_50 : decode cX6_errors 50 = .ok (.goto (-46), 3) := by decide +kernel
theorem dX6_errors_53 : decode cX6_errors 53 = .ok (.iload_n 1, 1) := by decide +kernel
theorem dX6_errors_54 : decode cX6_errors 54 = .ok (.ireturn, 1) := by decide +kernel
theorem dX6_setOf_0 : decode cX6_setOf 0 = .ok (.iload_n 1, 1) := by decide +kernel
theorem dX6_setOf_1 : decode cX6_setOf 1 = .ok (.ifCond .lt 9, 3) := by decide +kernel
theorem dX6_setOf_4 : decode cX6_setOf 4 = .ok (.iload_n 1, 1) := by decide +kernel
theorem dX6_setOf_5 : decode cX6_setOf 5 = .ok (.bipush 8, 2) := by decide +kernel
theorem dX6_setOf_7 : decode cX6_setOf 7 = .ok (.if_icmp .lt 13, 3) := by decide +kernel
theorem dX6_setOf_10 : decode cX6_setOf 10 = .ok (.new 84, 3) := by decide +kernel
theorem dX6_setOf_13 : decode cX6_setOf 13 = .ok (.dup, 1) := by decide +kernel
theorem dX6_setOf_14 : decode cX6_setOf 14 = .ok (.ldc 240, 2) := by decide +kernel
theorem dX6_setOf_16 : decode cX6_setOf 16 = .ok (.invokespecial 88, 3) := by decide +kernel
theorem dX6_setOf_19 : decode cX6_setOf 19 = .ok (.athrow, 1) := by decide +kernel
theorem dX6_setOf_20 : decode cX6_setOf 20 = .ok (.aload_n 0, 1) := by decide +kernel
theorem dX6_setOf_21 : decode cX6_setOf 21 = .ok (.getfield 11, 3) := by decide +kernel
theorem dX6_setOf_24 : decode cX6_setOf 24 = .ok (.iload_n 1, 1) := by decide +kernel
theorem dX6_setOf_25 : decode cX6_setOf 25 = .ok (.aaload, 1) := by decide +kernel
theorem dX6_setOf_26 : decode cX6_setOf 26 = .ok (.areturn, 1) := by decide +kernel
set_option maxRecDepth 20000 in
theorem ggX6_setAskedAt_X6_setOf : GoodIn wsX6_setAskedAt wsX6_setOf := goodIn_ca (goodIn_r _ [8, 9, 10, 11, 12, 13, 14, 15, 16, 17, 18] (by decide +kernel) (by decide +kernel)) (goodIn_sub (fun _ h => List.mem_cons_of_mem _ (List.mem_append_right _ h)) (by decide +kernel))
set_option maxRecDepth 20000 in
theorem gX6_setAskedAt_X6_setOf : GoodIn wsX6_setAskedAt (wsV RX6 128 RX6 yX6_setOf wsX6_setOf) := goodIn_app (goodIn_of _ (by decide +kernel)) ggX6_setAskedAt_X6_setOf
theorem dX6_setAskedAt_0 : decode cX6_setAskedAt 0 = .ok (.aload_n 0, 1) := by decide +kernel
theorem dX6_setAskedAt_1 : decode cX6_setAskedAt 1 = .ok (.iload_n 1, 1) := by decide +kernel
theorem dX6_setAskedAt_2 : decode cX6_setAskedAt 2 = .ok (.invokevirtual 128, 3) := by decide +kernel
theorem dX6_setAskedAt_5 : decode cX6_setAskedAt 5 = .ok (.astore 4, 2) := by decide +kernel
theorem dX6_setAskedAt_7 : decode cX6_setAskedAt 7 = .ok (.iload_n 2, 1) := by decide +kernel
theorem dX6_setAskedAt_8 : decode cX6_setAskedAt 8 = .ok (.iload_n 3, 1) := by decide +kernel
theorem dX6_setAskedAt_9 : decode cX6_setAskedAt 9 = .ok (.if_icmp .ge 23, 3) := by decide +kernel
theorem dX6_setAskedAt_12 : decode cX6_setAskedAt 12 = .ok (.aload_n 0, 1) := by decide +kernel
theorem dX6_setAskedAt_13 : decode cX6_setAskedAt 13 = .ok (.dup, 1) := by decide +kernel
theorem dX6_setAskedAt_14 : decode cX6_setAskedAt 14 = .ok (.getfield 56, 3) := by decide +kernel
theorem dX6_setAskedAt_17 : decode cX6_setAskedAt 17 = .ok (.iconst 1, 1) := by decide +kernel
theorem dX6_setAskedAt_18 : decode cX6_setAskedAt 18 = .ok (.iadd, 1) := by decide +kernel
theorem dX6_setAskedAt_19 : decode cX6_setAskedAt 19 = .ok (.putfield 56, 3) := by decide +kernel
theorem dX6_setAskedAt_22 : decode cX6_setAskedAt 22 = .ok (.new 242, 3) := by decide +kernel
theorem dX6_setAskedAt_25 : decode cX6_setAskedAt 25 = .ok (.dup, 1) := by decide +kernel
theorem dX6_setAskedAt_26 : decode cX6_setAskedAt 26 = .ok (.ldc 244, 2) := by decide +kernel
theorem dX6_setAskedAt_28 : decode cX6_setAskedAt 28 = .ok (.invokespecial 246, 3) := by decide +kernel
theorem dX6_setAskedAt_31 : decode cX6_setAskedAt 31 = .ok (.athrow, 1) := by decide +kernel
theorem dX6_setAskedAt_32 : decode cX6_setAskedAt 32 = .ok (.aload 4, 2) := by decide +kernel
theorem dX6_setAskedAt_34 : decode cX6_setAskedAt 34 = .ok (.areturn, 1) := by decide +kernel
set_option maxRecDepth 20000 in
theorem ggX6_setToFillAt_X6_setAskedAt : GoodIn wsX6_setToFillAt wsX6_setAskedAt := goodIn_ca (goodIn_ca (goodIn_r _ [7, 8, 9, 10, 11, 12, 13, 6, 14, 1, 2, 15, 16, 17, 18, 19, 20, 21, 22] (by decide +kernel) (by decide +kernel)) (goodIn_sub (fun _ h => List.mem_cons_of_mem _ (List.mem_append_right _ h)) (by decide +kernel))) (goodIn_sub (fun _ h => List.mem_cons_of_mem _ (List.mem_append_left _ (List.mem_append_right _ h))) (by decide +kernel))
set_option maxRecDepth 20000 in
theorem gX6_setToFillAt_X6_setAskedAt : GoodIn wsX6_setToFillAt (wsV RX6 100 RX6 yX6_setAskedAt wsX6_setAskedAt) := goodIn_app (goodIn_of _ (by decide +kernel)) ggX6_setToFillAt_X6_setAskedAt
theorem dX6_setToFillAt_0 : decode cX6_setToFillAt 0 = .ok (.iload_n 2, 1) := by decide +kernel
theorem dX6_setToFillAt_1 : decode cX6_setToFillAt 1 = .ok (.sipush 1023, 3) := by decide +kernel
theorem dX6_setToFillAt_4 : decode cX6_setToFillAt 4 = .ok (.if_icmp .le 13, 3) := by decide +kernel
theorem dX6_setToFillAt_7 : decode cX6_setToFillAt 7 = .ok (.new 84, 3) := by decide +kernel
theorem dX6_setToFillAt_10 : decode cX6_setToFillAt 10 = .ok (.dup, 1) := by decide +kernel
theorem dX6_setToFillAt_11 : decode cX6_setToFillAt 11 = .ok (.ldc 247, 2) := by decide +kernel
theorem dX6_setToFillAt_13 : decode cX6_setToFillAt 13 = .ok (.invokespecial 88, 3) := by decide +kernel
theorem dX6_setToFillAt_16 : decode cX6_setToFillAt 16 = .ok (.athrow, 1) := by decide +kernel
theorem dX6_setToFillAt_17 : decode cX6_setToFillAt 17 = .ok (.aload_n 0, 1) := by decide +kernel
theorem dX6_setToFillAt_18 : decode cX6_setToFillAt 18 = .ok (.iload_n 1, 1) := by decide +kernel
theorem dX6_setToFillAt_19 : decode cX6_setToFillAt 19 = .ok (.iload_n 2, 1) := by decide +kernel
theorem dX6_setToFillAt_20 : decode cX6_setToFillAt 20 = .ok (.iconst 0, 1) := by decide +kernel
theorem dX6_setToFillAt_21 : decode cX6_setToFillAt 21 = .ok (.invokevirtual 100, 3) := by decide +kernel
theorem dX6_setToFillAt_24 : decode cX6_setToFillAt 24 = .ok (.areturn, 1) := by decide +kernel
set_option maxRecDepth 20000 in
theorem ggX6_setAskedIn_X6_setOf : GoodIn wsX6_setAskedIn wsX6_setOf := goodIn_ca (goodIn_r _ [8, 9, 10, 11, 12, 13, 14, 15, 16, 17, 18] (by decide +kernel) (by decide +kernel)) (goodIn_sub (fun _ h => List.mem_cons_of_mem _ (List.mem_append_right _ h)) (by decide +kernel))
set_option maxRecDepth 20000 in
theorem gX6_setAskedIn_X6_setOf : GoodIn wsX6_setAskedIn (wsV RX6 128 RX6 yX6_setOf wsX6_setOf) := goodIn_app (goodIn_of _ (by decide +kernel)) ggX6_setAskedIn_X6_setOf
theorem dX6_setAskedIn_0 : decode cX6_setAskedIn 0 = .ok (.aload_n 0, 1) := by decide +kernel
theorem dX6_setAskedIn_1 : decode cX6_setAskedIn 1 = .ok (.iload_n 1, 1) := by decide +kernel
theorem dX6_setAskedIn_2 : decode cX6_setAskedIn 2 = .ok (.invokevirtual 128, 3) := by decide +kernel
theorem dX6_setAskedIn_5 : decode cX6_setAskedIn 5 = .ok (.astore 4, 2) := by decide +kernel
theorem dX6_setAskedIn_7 : decode cX6_setAskedIn 7 = .ok (.iload_n 2, 1) := by decide +kernel
theorem dX6_setAskedIn_8 : decode cX6_setAskedIn 8 = .ok (.ifCond .lt 12, 3) := by decide +kernel
theorem dX6_setAskedIn_11 : decode cX6_setAskedIn 11 = .ok (.iload_n 3, 1) := by decide +kernel
theorem dX6_setAskedIn_12 : decode cX6_setAskedIn 12 = .ok (.ifCond .lt 8, 3) := by decide +kernel
theorem dX6_setAskedIn_15 : decode cX6_setAskedIn 15 = .ok (.iload_n 2, 1) := by decide +kernel
theorem dX6_setAskedIn_16 : decode cX6_setAskedIn 16 = .ok (.iload_n 3, 1) := by decide +kernel
theorem dX6_setAskedIn_17 : decode cX6_setAskedIn 17 = .ok (.if_icmp .le 23, 3) := by decide +kernel
theorem dX6_setAskedIn_20 : decode cX6_setAskedIn 20 = .ok (.aload_n 0, 1) := by decide +kernel
theorem dX6_setAskedIn_21 : decode cX6_setAskedIn 21 = .ok (.dup, 1) := by decide +kernel
theorem dX6_setAskedIn_22 : decode cX6_setAskedIn 22 = .ok (.getfield 56, 3) := by decide +kernel
theorem dX6_setAskedIn_25 : decode cX6_setAskedIn 25 = .ok (.iconst 1, 1) := by decide +kernel
theorem dX6_setAskedIn_26 : decode cX6_setAskedIn 26 = .ok (.iadd, 1) := by decide +kernel
theorem dX6_setAskedIn_27 : decode cX6_setAskedIn 27 = .ok (.putfield 56, 3) := by decide +kernel
theorem dX6_setAskedIn_30 : decode cX6_setAskedIn 30 = .ok (.new 242, 3) := by decide +kernel
theorem dX6_setAskedIn_33 : decode cX6_setAskedIn 33 = .ok (.dup, 1) := by decide +kernel
theorem dX6_setAskedIn_34 : decode cX6_setAskedIn 34 = .ok (.ldc 249, 2) := by decide +kernel
theorem dX6_setAskedIn_36 : decode cX6_setAskedIn 36 = .ok (.invokespecial 246, 3) := by decide +kernel
theorem dX6_setAskedIn_39 : decode cX6_setAskedIn 39 = .ok (.athrow, 1) := by decide +kernel
theorem dX6_setAskedIn_40 : decode cX6_setAskedIn 40 = .ok (.aload 4, 2) := by decide +kernel
theorem dX6_setAskedIn_42 : decode cX6_setAskedIn 42 = .ok (.areturn, 1) := by decide +kernel
set_option maxRecDepth 20000 in
theorem ggX6_setToFillIn_X6_setAskedIn : GoodIn wsX6_setToFillIn wsX6_setAskedIn := goodIn_ca (goodIn_ca (goodIn_r _ [7, 8, 9, 10, 11, 12, 13, 6, 14, 1, 2, 15, 16, 17, 18, 19, 20, 21, 22] (by decide +kernel) (by decide +kernel)) (goodIn_sub (fun _ h => List.mem_cons_of_mem _ (List.mem_append_right _ h)) (by decide +kernel))) (goodIn_sub (fun _ h => List.mem_cons_of_mem _ (List.mem_append_left _ (List.mem_append_right _ h))) (by decide +kernel))
set_option maxRecDepth 20000 in
theorem gX6_setToFillIn_X6_setAskedIn : GoodIn wsX6_setToFillIn (wsV RX6 115 RX6 yX6_setAskedIn wsX6_setAskedIn) := goodIn_app (goodIn_of _ (by decide +kernel)) ggX6_setToFillIn_X6_setAskedIn
theorem dX6_setToFillIn_0 : decode cX6_setToFillIn 0 = .ok (.iload_n 3, 1) := by decide +kernel
theorem dX6_setToFillIn_1 : decode cX6_setToFillIn 1 = .ok (.sipush 1024, 3) := by decide +kernel
theorem dX6_setToFillIn_4 : decode cX6_setToFillIn 4 = .ok (.if_icmp .le 13, 3) := by decide +kernel
theorem dX6_setToFillIn_7 : decode cX6_setToFillIn 7 = .ok (.new 84, 3) := by decide +kernel
theorem dX6_setToFillIn_10 : decode cX6_setToFillIn 10 = .ok (.dup, 1) := by decide +kernel
theorem dX6_setToFillIn_11 : decode cX6_setToFillIn 11 = .ok (.ldc 251, 2) := by decide +kernel
theorem dX6_setToFillIn_13 : decode cX6_setToFillIn 13 = .ok (.invokespecial 88, 3) := by decide +kernel
theorem dX6_setToFillIn_16 : decode cX6_setToFillIn 16 = .ok (.athrow, 1) := by decide +kernel
theorem dX6_setToFillIn_17 : decode cX6_setToFillIn 17 = .ok (.aload_n 0, 1) := by decide +kernel
theorem dX6_setToFillIn_18 : decode cX6_setToFillIn 18 = .ok (.iload_n 1, 1) := by decide +kernel
theorem dX6_setToFillIn_19 : decode cX6_setToFillIn 19 = .ok (.iload_n 2, 1) := by decide +kernel
theorem dX6_setToFillIn_20 : decode cX6_setToFillIn 20 = .ok (.iload_n 3, 1) := by decide +kernel
theorem dX6_setToFillIn_21 : decode cX6_setToFillIn 21 = .ok (.invokevirtual 115, 3) := by decide +kernel
theorem dX6_setToFillIn_24 : decode cX6_setToFillIn 24 = .ok (.areturn, 1) := by decide +kernel
theorem dX6_checkNumber_0 : decode cX6_checkNumber 0 = .ok (.iload_n 0, 1) := by decide +kernel
theorem dX6_checkNumber_1 : decode cX6_checkNumber 1 = .ok (.iload_n 1, 1) := by decide +kernel
theorem dX6_checkNumber_2 : decode cX6_checkNumber 2 = .ok (.if_icmp .lt 8, 3) := by decide +kernel
theorem dX6_checkNumber_5 : decode cX6_checkNumber 5 = .ok (.iload_n 0, 1) := by decide +kernel
theorem dX6_checkNumber_6 : decode cX6_checkNumber 6 = .ok (.iload_n 2, 1) := by decide +kernel
theorem dX6_checkNumber_7 : decode cX6_checkNumber 7 = .ok (.if_icmp .le 13, 3) := by decide +kernel
theorem dX6_checkNumber_10 : decode cX6_checkNumber 10 = .ok (.new 84, 3) := by decide +kernel
theorem dX6_checkNumber_13 : decode cX6_checkNumber 13 = .ok (.dup, 1) := by decide +kernel
theorem dX6_checkNumber_14 : decode cX6_checkNumber 14 = .ok (.ldc 253, 2) := by decide +kernel
theorem dX6_checkNumber_16 : decode cX6_checkNumber 16 = .ok (.invokespecial 88, 3) := by decide +kernel
theorem dX6_checkNumber_19 : decode cX6_checkNumber 19 = .ok (.athrow, 1) := by decide +kernel
theorem dX6_checkNumber_20 : decode cX6_checkNumber 20 = .ok (.return_, 1) := by decide +kernel
theorem dX6_checkPlace_0 : decode cX6_checkPlace 0 = .ok (.iload_n 0, 1) := by decide +kernel
theorem dX6_checkPlace_1 : decode cX6_checkPlace 1 = .ok (.ifCond .lt 8, 3) := by decide +kernel
theorem dX6_checkPlace_4 : decode cX6_checkPlace 4 = .ok (.iload_n 0, 1) := by decide +kernel
theorem dX6_checkPlace_5 : decode cX6_checkPlace 5 = .ok (.iload_n 1, 1) := by decide +kernel
theorem dX6_checkPlace_6 : decode cX6_checkPlace 6 = .ok (.if_icmp .lt 13, 3) := by decide +kernel
theorem dX6_checkPlace_9 : decode cX6_checkPlace 9 = .ok (.new 242, 3) := by decide +kernel
theorem dX6_checkPlace_12 : decode cX6_checkPlace 12 = .ok (.dup, 1) := by decide +kernel
theorem dX6_checkPlace_13 : decode cX6_checkPlace 13 = .ok (.ldc 255, 2) := by decide +kernel
theorem dX6_checkPlace_15 : decode cX6_checkPlace 15 = .ok (.invokespecial 246, 3) := by decide +kernel
theorem dX6_checkPlace_18 : decode cX6_checkPlace 18 = .ok (.athrow, 1) := by decide +kernel
theorem dX6_checkPlace_19 : decode cX6_checkPlace 19 = .ok (.return_, 1) := by decide +kernel
set_option maxRecDepth 20000 in
theorem ggX6_combine_X6_setOf : GoodIn wsX6_combine wsX6_setOf := goodIn_ca (goodIn_r _ [5, 6, 7, 8, 44, 45, 46, 47, 48, 49, 50] (by decide +kernel) (by decide +kernel)) (goodIn_sub (fun _ h => List.mem_cons_of_mem _ (List.mem_append_right _ h)) (by decide +kernel))
set_option maxRecDepth 20000 in
theorem gX6_combine_X6_setOf : GoodIn wsX6_combine (wsV RX6 128 RX6 yX6_setOf wsX6_setOf) := goodIn_app (goodIn_of _ (by decide +kernel)) ggX6_combine_X6_setOf
set_option maxRecDepth 20000 in
theorem ggX6_combine_X0_combineWith : GoodIn wsX6_combine wsX0_combineWith := goodIn_r _ [13, 14, 15, 16, 12, 17, 18, 51] (by decide +kernel) (by decide +kernel)
set_option maxRecDepth 20000 in
theorem gX6_combine_X0_combineWith : GoodIn wsX6_combine (wsV RX6 257 RX0 yX0_combineWith wsX0_combineWith) := goodIn_app (goodIn_of _ (by decide +kernel)) ggX6_combine_X0_combineWith
set_option maxRecDepth 20000 in
theorem ggX6_combine_X0_size : GoodIn wsX6_combine wsX0_size := goodIn_r _ [22, 23, 24, 25, 12, 26, 14, 27, 28, 29, 30, 31, 32, 33, 34, 35, 36, 18, 37, 38, 39, 40, 41, 42, 43, 51] (by decide +kernel) (by decide +kernel)
set_option maxRecDepth 20000 in
theorem gX6_combine_X0_size : GoodIn wsX6_combine (wsV RX6 114 RX0 yX0_size wsX0_size) := goodIn_app (goodIn_of _ (by decide +kernel)) ggX6_combine_X0_size
theorem dX6_combine_0 : decode cX6_combine 0 = .ok (.aload_n 0, 1) := by decide +kernel
theorem dX6_combine_1 : decode cX6_combine 1 = .ok (.iload_n 1, 1) := by decide +kernel
theorem dX6_combine_2 : decode cX6_combine 2 = .ok (.invokevirtual 128, 3) := by decide +kernel
theorem dX6_combine_5 : decode cX6_combine 5 = .ok (.astore 4, 2) := by decide +kernel
theorem dX6_combine_7 : decode cX6_combine 7 = .ok (.aload 4, 2) := by decide +kernel
theorem dX6_combine_9 : decode cX6_combine 9 = .ok (.aload_n 0, 1) := by decide +kernel
theorem dX6_combine_10 : decode cX6_combine 10 = .ok (.iload_n 3, 1) := by decide +kernel
theorem dX6_combine_11 : decode cX6_combine 11 = .ok (.invokevirtual 128, 3) := by decide +kernel
theorem dX6_combine_14 : decode cX6_combine 14 = .ok (.iload_n 2, 1) := by decide +kernel
theorem dX6_combine_15 : decode cX6_combine 15 = .ok (.invokevirtual 257, 3) := by decide +kernel
theorem dX6_combine_18 : decode cX6_combine 18 = .ok (.aload 4, 2) := by decide +kernel
theorem dX6_combine_20 : decode cX6_combine 20 = .ok (.invokevirtual 114, 3) := by decide +kernel
theorem dX6_combine_23 : decode cX6_combine 23 = .ok (.ireturn, 1) := by decide +kernel
set_option maxRecDepth 20000 in
theorem ggX6_doStatements_X1_statements : GoodIn wsX6_doStatements wsX1_statements := goodIn_r _ [10, 11, 88, 89, 90, 91, 92] (by decide +kernel) (by decide +kernel)
set_option maxRecDepth 20000 in
theorem gX6_doStatements_X1_statements : GoodIn wsX6_doStatements (wsV RX6 261 RX1 yX1_statements wsX1_statements) := goodIn_app (goodIn_of _ (by decide +kernel)) ggX6_doStatements_X1_statements
set_option maxRecDepth 20000 in
theorem ggX6_doStatements_X1_statement : GoodIn wsX6_doStatements wsX1_statement := goodIn_r _ [15, 16, 88, 89, 90, 91, 92] (by decide +kernel) (by decide +kernel)
set_option maxRecDepth 20000 in
theorem gX6_doStatements_X1_statement : GoodIn wsX6_doStatements (wsV RX6 264 RX1 yX1_statement wsX1_statement) := goodIn_app (goodIn_of _ (by decide +kernel)) ggX6_doStatements_X1_statement
set_option maxRecDepth 20000 in
theorem ggX6_doStatements_X6_doStatement : GoodIn wsX6_doStatements wsX6_doStatement := goodIn_ca (goodIn_r _ [21, 22, 23, 2, 3, 1, 24, 25, 26, 20, 27, 28, 29, 30, 31, 32, 33, 34, 35, 36, 37, 38, 39, 40, 41, 42, 43, 44, 45, 46, 47, 48, 49, 50, 51, 52, 53, 54, 55, 56, 57, 58, 9, 59, 60, 61, 62, 63, 64, 65, 66, 67, 68, 69, 70, 71, 72, 73, 74, 75, 76, 84, 85, 86, 87, 77, 78, 79, 80, 81, 82, 83, 93, 88, 89, 90, 91, 92] (by decide +kernel) (by decide +kernel)) (goodIn_sub (fun _ h => List.mem_cons_of_mem _ (List.mem_append_right _ h)) (by decide +kernel))
set_option maxRecDepth 20000 in
theorem gX6_doStatements_X6_doStatement : GoodIn wsX6_doStatements (wsV RX6 276 RX6 yX6_doStatement wsX6_doStatement) := goodIn_app (goodIn_of _ (by decide +kernel)) ggX6_doStatements_X6_doStatement
theorem dX6_doStatements_0 : decode cX6_doStatements 0 = .ok (.iconst 0, 1) := by decide +kernel
theorem dX6_doStatements_1 : decode cX6_doStatements 1 = .ok (.istore_n 1, 1) := by decide +kernel
theorem dX6_doStatements_2 : decode cX6_doStatements 2 = .ok (.iload_n 1, 1) := by decide +kernel
theorem dX6_doStatements_3 : decode cX6_doStatements 3 = .ok (.aload_n 0, 1) := by decide +kernel
theorem dX6_doStatements_4 : decode cX6_doStatements 4 = .ok (.getfield 38, 3) := by decide +kernel
theorem dX6_doStatements_7 : decode cX6_doStatements 7 = .ok (.invokevirtual 261, 3) := by decide +kernel
theorem dX6_doStatements_10 : decode cX6_doStatements 10 = .ok (.if_icmp .ge 57, 3) := by decide +kernel
theorem dX6_doStatements_13 : decode cX6_doStatements 13 = .ok (.iload_n 1, 1) := by decide +kernel
theorem dX6_doStatements_14 : decode cX6_doStatements 14 = .ok (.bipush 100, 2) := by decide +kernel
theorem dX6_doStatements_16 : decode cX6_doStatements 16 = .ok (.if_icmp .ge 51, 3) := by decide +kernel
theorem dX6_doStatements_19 : decode cX6_doStatements 19 = .ok (.aload_n 0, 1) := by decide +kernel
theorem dX6_doStatements_20 : decode cX6_doStatements 20 = .ok (.getfield 38, 3) := by decide +kernel
theorem dX6_doStatements_23 : decode cX6_doStatements 23 = .ok (.iload_n 1, 1) := by decide +kernel
theorem dX6_doStatements_24 : decode cX6_doStatements 24 = .ok (.invokevirtual 264, 3) := by decide +kernel
theorem dX6_doStatements_27 : decode cX6_doStatements 27 = .ok (.astore_n 2, 1) := by decide +kernel
theorem dX6_doStatements_28 : decode cX6_doStatements 28 = .ok (.aload_n 2, 1) := by decide +kernel
theorem dX6_doStatements_29 : decode cX6_doStatements 29 = .ok (.getfield 268, 3) := by decide +kernel
theorem dX6_doStatements_32 : decode cX6_doStatements 32 = .ok (.aload_n 2, 1) := by decide +kernel
theorem dX6_doStatements_33 : decode cX6_doStatements 33 = .ok (.getfield 273, 3) := by decide +kernel
theorem dX6_doStatements_36 : decode cX6_doStatements 36 = .ok (.if_icmp .le 20, 3) := by decide +kernel
theorem dX6_doStatements_39 : decode cX6_doStatements 39 = .ok (.aload_n 0, 1) := by decide +kernel
theorem dX6_doStatements_40 : decode cX6_doStatements 40 = .ok (.dup, 1) := by decide +kernel
theorem dX6_doStatements_41 : decode cX6_doStatements 41 = .ok (.getfield 56, 3) := by decide +kernel
theorem dX6_doStatements_44 : decode cX6_doStatements 44 = .ok (.iconst 1, 1) := by decide +kernel
theorem dX6_doStatements_45 : decode cX6_doStatements 45 = .ok (.iadd, 1) := by decide +kernel
theorem dX6_doStatements_46 : decode cX6_doStatements 46 = .ok (.putfield 56, 3) := by decide +kernel
theorem dX6_doStatements_49 : decode cX6_doStatements 49 = .ok (.aload_n 0, 1) := by decide +kernel
theorem dX6_doStatements_50 : decode cX6_doStatements 50 = .ok (.iload_n 1, 1) := by decide +kernel
theorem dX6_doStatements_51 : decode cX6_doStatements 51 = .ok (.putfield 53, 3) := by decide +kernel
theorem dX6_doStatements_54 : decode cX6_doStatements 54 = .ok (.iload_n 1, 1) := by decide +kernel
theorem dX6_doStatements_55 : decode cX6_doStatements 55 = .ok (.ireturn, 1) := by decide +kernel
theorem dX6_doStatements_56 : decode cX6_doStatements 56 = .ok (.aload_n 0, 1) := by decide +kernel
theorem dX6_doStatements_57 : decode cX6_doStatements 57 = .ok (.aload_n 2, 1) := by decide +kernel
theorem dX6_doStatements_58 : decode cX6_doStatements 58 = .ok (.invokevirtual 276, 3) := by decide +kernel
theorem dX6_doStatements_61 : decode cX6_doStatements 61 = .ok (.iinc 1 1, 3) := by decide +kernel
theorem dX6_doStatements_64 : decode cX6_doStatements 64 = .ok (.goto (-62), 3) := by decide +kernel
theorem dX6_doStatements_67 : decode cX6_doStatements 67 = .ok (.aload_n 0, 1) := by decide +kernel
theorem dX6_doStatements_68 : decode cX6_doStatements 68 = .ok (.getfield 38, 3) := by decide +kernel
theorem dX6_doStatements_71 : decode cX6_doStatements 71 = .ok (.invokevirtual 261, 3) := by decide +kernel
theorem dX6_doStatements_74 : decode cX6_doStatements 74 = .ok (.ireturn, 1) := by decide +kernel
set_option maxRecDepth 20000 in
theorem ggX6_doStatement_X6_setOf : GoodIn wsX6_doStatement wsX6_setOf := goodIn_ca (goodIn_r _ [10, 11, 12, 13, 65, 66, 67, 68, 69, 70, 71] (by decide +kernel) (by decide +kernel)) (goodIn_sub (fun _ h => List.mem_cons_of_mem _ (List.mem_append_right _ h)) (by decide +kernel))
set_option maxRecDepth 20000 in
theorem gX6_doStatement_X6_setOf : GoodIn wsX6_doStatement (wsV RX6 128 RX6 yX6_setOf wsX6_setOf) := goodIn_app (goodIn_of _ (by decide +kernel)) ggX6_doStatement_X6_setOf
set_option maxRecDepth 20000 in
theorem ggX6_doStatement_X0_include : GoodIn wsX6_doStatement wsX0_include := goodIn_r _ [18, 19, 20, 21, 17, 22, 23, 24, 25, 26, 27, 28, 29, 30, 72] (by decide +kernel) (by decide +kernel)
set_option maxRecDepth 20000 in
theorem gX6_doStatement_X0_include : GoodIn wsX6_doStatement (wsV RX6 16 RX0 yX0_include wsX0_include) := goodIn_app (goodIn_of _ (by decide +kernel)) ggX6_doStatement_X0_include
set_option maxRecDepth 20000 in
theorem ggX6_doStatement_X0_exclude : GoodIn wsX6_doStatement wsX0_exclude := goodIn_r _ [34, 19, 30, 20, 21, 17, 22, 23, 24, 25, 26, 27, 28, 29, 72] (by decide +kernel) (by decide +kernel)
set_option maxRecDepth 20000 in
theorem gX6_doStatement_X0_exclude : GoodIn wsX6_doStatement (wsV RX6 118 RX0 yX0_exclude wsX0_exclude) := goodIn_app (goodIn_of _ (by decide +kernel)) ggX6_doStatement_X0_exclude
set_option maxRecDepth 20000 in
theorem ggX6_doStatement_X0_toggle : GoodIn wsX6_doStatement wsX0_toggle := goodIn_r _ [38, 19, 20, 21, 17, 22, 23, 24, 25, 26, 27, 28, 29, 30, 72] (by decide +kernel) (by decide +kernel)
set_option maxRecDepth 20000 in
theorem gX6_doStatement_X0_toggle : GoodIn wsX6_doStatement (wsV RX6 125 RX0 yX0_toggle wsX0_toggle) := goodIn_app (goodIn_of _ (by decide +kernel)) ggX6_doStatement_X0_toggle
set_option maxRecDepth 20000 in
theorem ggX6_doStatement_X1_fill : GoodIn wsX6_doStatement wsX1_fill := goodIn_r _ [43, 44, 45, 46, 47, 17, 48, 49, 32, 33, 34, 19, 30, 20, 21, 22, 23, 24, 25, 26, 27, 28, 29, 50, 51, 52, 53, 73, 74, 75, 76, 77, 72] (by decide +kernel) (by decide +kernel)
set_option maxRecDepth 20000 in
theorem gX6_doStatement_X1_fill : GoodIn wsX6_doStatement (wsV RX6 286 RX1 yX1_fill wsX1_fill) := goodIn_app (goodIn_of _ (by decide +kernel)) ggX6_doStatement_X1_fill
set_option maxRecDepth 20000 in
theorem ggX6_doStatement_X0_combineWith : GoodIn wsX6_doStatement wsX0_combineWith := goodIn_r _ [57, 19, 58, 59, 17, 60, 30, 72] (by decide +kernel) (by decide +kernel)
set_option maxRecDepth 20000 in
theorem gX6_doStatement_X0_combineWith : GoodIn wsX6_doStatement (wsV RX6 257 RX0 yX0_combineWith wsX0_combineWith) := goodIn_app (goodIn_of _ (by decide +kernel)) ggX6_doStatement_X0_combineWith
theorem dX6_doStatement_0 : decode cX6_doStatement 0 = .ok (.aload_n 0, 1) := by decide +kernel
theorem dX6_doStatement_1 : decode cX6_doStatement 1 = .ok (.aload_n 1, 1) := by decide +kernel
theorem dX6_doStatement_2 : decode cX6_doStatement 2 = .ok (.getfield 280, 3) := by decide +kernel
theorem dX6_doStatement_5 : decode cX6_doStatement 5 = .ok (.invokevirtual 128, 3) := by decide +kernel
theorem dX6_doStatement_8 : decode cX6_doStatement 8 = .ok (.astore_n 2, 1) := by decide +kernel
theorem dX6_doStatement_9 : decode cX6_doStatement 9 = .ok (.aload_n 1, 1) := by decide +kernel
theorem dX6_doStatement_10 : decode cX6_doStatement 10 = .ok (.getfield 283, 3) := by decide +kernel
theorem dX6_doStatement_13 : decode cX6_doStatement 13 = .ok (.lookupswitch 107 #[(43, 43), (45, 58), (91, 88), (94, 73)], 43) := by decide +kernel
theorem dX6_doStatement_56 : decode cX6_doStatement 56 = .ok (.aload_n 2, 1) := by decide +kernel
theorem dX6_doStatement_57 : decode cX6_doStatement 57 = .ok (.aload_n 1, 1) := by decide +kernel
theorem dX6_doStatement_58 : decode cX6_doStatement 58 = .ok (.getfield 268, 3) := by decide +kernel
theorem dX6_doStatement_61 : decode cX6_doStatement 61 = .ok (.aload_n 1, 1) := by decide +kernel
theorem dX6_doStatement_62 : decode cX6_doStatement 62 = .ok (.getfield 273, 3) := by decide +kernel
theorem dX6_doStatement_65 : decode cX6_doStatement 65 = .ok (.invokevirtual 16, 3) := by decide +kernel
theorem dX6_doStatement_68 : decode cX6_doStatement 68 = .ok (.goto 68, 3) := by decide +kernel
theorem dX6_doStatement_71 : decode cX6_doStatement 71 = .ok (.aload_n 2, 1) := by decide +kernel
theorem dX6_doStatement_72 : decode cX6_doStatement 72 = .ok (.aload_n 1, 1) := by decide +kernel
theorem dX6_doStatement_73 : decode cX6_doStatement 73 = .ok (.getfield 268, 3) := by decide +kernel
theorem dX6_doStatement_76 : decode cX6_doStatement 76 = .ok (.aload_n 1, 1) := by decide +kernel
theorem dX6_doStatement_77 : decode cX6_doStatement 77 = .ok (.getfield 273, 3) := by decide +kernel
theorem dX6_doStatement_80 : decode cX6_doStatement 80 = .ok (.invokevirtual 118, 3) := by decide +kernel
theorem dX6_doStatement_83 : decode cX6_doStatement 83 = .ok (.goto 53, 3) := by decide +kernel
theorem dX6_doStatement_86 : decode cX6_doStatement 86 = .ok (.aload_n 2, 1) := by decide +kernel
theorem dX6_doStatement_87 : decode cX6_doStatement 87 = .ok (.aload_n 1, 1) := by decide +kernel
theorem dX6_doStatement_88 : decode cX6_doStatement 88 = .ok (.getfield 268, 3) := by decide +kernel
theorem dX6_doStatement_91 : decode cX6_doStatement 91 = .ok (.aload_n 1, 1) := by decide +kernel
theorem dX6_doStatement_92 : decode cX6_doStatement 92 = .ok (.getfield 273, 3) := by decide +kernel
theorem dX6_doStatement_95 : decode cX6_doStatement 95 = .ok (.invokevirtual 125, 3) := by decide +kernel
theorem dX6_doStatement_98 : decode cX6_doStatement 98 = .ok (.goto 38, 3) := by decide +kernel
theorem dX6_doStatement_101 : decode cX6_doStatement 101 = .ok (.aload_n 0, 1) := by decide +kernel
theorem dX6_doStatement_102 : decode cX6_doStatement 102 = .ok (.getfield 38, 3) := by decide +kernel
theorem dX6_doStatement_105 : decode cX6_doStatement 105 = .ok (.aload_n 2, 1) := by decide +kernel
theorem dX6_doStatement_106 : decode cX6_doStatement 106 = .ok (.aload_n 1, 1) := by decide +kernel
theorem dX6_doStatement_107 : decode cX6_doStatement 107 = .ok (.getfield 268, 3) := by decide +kernel
theorem dX6_doStatement_110 : decode cX6_doStatement 110 = .ok (.aload_n 1, 1) := by decide +kernel
theorem dX6_doStatement_111 : decode cX6_doStatement 111 = .ok (.getfield 273, 3) := by decide +kernel
theorem dX6_doStatement_114 : decode cX6_doStatement 114 = .ok (.invokevirtual 286, 3) := by decide +kernel
theorem dX6_doStatement_117 : decode cX6_doStatement 117 = .ok (.goto 19, 3) := by decide +kernel
theorem dX6_doStatement_120 : decode cX6_doStatement 120 = .ok (.aload_n 2, 1) := by decide +kernel
theorem dX6_doStatement_121 : decode cX6_doStatement 121 = .ok (.aload_n 0, 1) := by decide +kernel
theorem dX6_doStatement_122 : decode cX6_doStatement 122 = .ok (.aload_n 1, 1) := by decide +kernel
theorem dX6_doStatement_123 : decode cX6_doStatement 123 = .ok (.getfield 268, 3) := by decide +kernel
theorem dX6_doStatement_126 : decode cX6_doStatement 126 = .ok (.invokevirtual 128, 3) := by decide +kernel
theorem dX6_doStatement_129 : decode cX6_doStatement 129 = .ok (.aload_n 1, 1) := by decide +kernel
theorem dX6_doStatement_130 : decode cX6_doStatement 130 = .ok (.getfield 283, 3) := by decide +kernel
theorem dX6_doStatement_133 : decode cX6_doStatement 133 = .ok (.invokevirtual 257, 3) := by decide +kernel
theorem dX6_doStatement_136 : decode cX6_doStatement 136 = .ok (.return_, 1) := by decide +kernel
