set_option maxRecDepth 20000 in
theorem ggL_append_X6_append : GoodIn wsL_append wsX6_append := goodIn_ca (goodIn_r _ [6, 7, 8, 9, 10, 11, 12, 13, 14, 15, 16, 17, 18, 19, 20, 21, 22, 23, 24, 25, 26, 27, 28, 29, 30, 31, 32] (by decide +kernel) (by decide +kernel)) (goodIn_sub (fun _ h => List.mem_cons_of_mem _ (List.mem_append_right _ h)) (by decide +kernel))
set_option maxRecDepth 20000 in
theorem gL_append_X6_append : GoodIn wsL_append (wsV RL 7 RX6 yX6_append wsX6_append) := goodIn_app (goodIn_of _ (by decide +kernel)) ggL_append_X6_append
theorem dL_append_0 : decode cL_append 0 = .ok (.aload 6, 2) := by decide +kernel
theorem dL_append_2 : decode cL_append 2 = .ok (.iconst 0, 1) := by decide +kernel
theorem dL_append_3 : decode cL_append 3 = .ok (.aload_n 0, 1) := by decide +kernel
theorem dL_append_4 : decode cL_append 4 = .ok (.iload_n 1, 1) := by decide +kernel
theorem dL_append_5 : decode cL_append 5 = .ok (.iload_n 2, 1) := by decide +kernel
theorem dL_append_6 : decode cL_append 6 = .ok (.iload_n 3, 1) := by decide +kernel
theorem dL_append_7 : decode cL_append 7 = .ok (.iload 4, 2) := by decide +kernel
theorem dL_append_9 : decode cL_append 9 = .ok (.iload 5, 2) := by decide +kernel
theorem dL_append_11 : decode cL_append 11 = .ok (.invokevirtual 7, 3) := by decide +kernel
theorem dL_append_14 : decode cL_append 14 = .ok (.i2l, 1) := by decide +kernel
theorem dL_append_15 : decode cL_append 15 = .ok (.lastore, 1) := by decide +kernel
theorem dL_append_16 : decode cL_append 16 = .ok (.goto 7, 3) := by decide +kernel
theorem dL_append_19 : decode cL_append 19 = .ok (.astore 7, 2) := by decide +kernel
theorem dL_append_21 : decode cL_append 21 = .ok (.iconst 1, 1) := by decide +kernel
theorem dL_append_22 : decode cL_append 22 = .ok (.ireturn, 1) := by decide +kernel
theorem dL_append_23 : decode cL_append 23 = .ok (.iconst 0, 1) := by decide +kernel
theorem dL_append_24 : decode cL_append 24 = .ok (.ireturn, 1) := by decide +kernel
set_option maxRecDepth 20000 in
theorem ggL_run_X6_run : GoodIn wsL_run wsX6_run := goodIn_ca (goodIn_r _ [6, 7, 8, 9, 10, 11, 12, 13, 14, 15, 16, 17, 18, 19, 20, 21, 22, 23, 24, 25, 26, 27, 28, 29, 30, 31, 32, 33, 34, 35, 36, 37, 38, 39, 40, 41, 42, 43, 44, 45, 46, 47, 48, 49, 50, 51, 52, 53, 54, 55, 56, 57, 58, 59, 60, 61, 62, 63, 64, 65, 66, 67, 68, 69, 70, 71, 72, 73, 74, 75, 76, 77, 78, 79, 80, 81, 82, 83, 84, 85, 86, 87, 88, 89, 90, 91, 92, 93, 94, 95, 96, 97, 98, 99, 100, 101, 102, 103, 104, 105, 106, 107, 108, 109, 110, 111, 112, 113, 114, 115, 116, 117, 118, 119, 120, 121, 122, 123, 124, 125, 126, 127, 128, 129, 130, 131, 132, 133, 134, 135, 136, 137, 138, 139, 140, 141, 142, 143, 144, 145, 146, 147, 148, 149, 150, 151, 152, 153, 154, 155, 156, 157, 158, 159, 160, 161, 162, 163, 164, 165, 166, 167, 168, 169, 170, 171, 172, 173, 174, 175, 176, 177, 178, 179, 180, 181, 182, 183, 184, 185, 186, 187, 188, 189, 190, 191, 192, 193, 194, 195, 196, 197, 198, 199, 200, 201, 202, 203, 204, 205, 206, 5, 207, 208, 209, 210, 211, 212, 213, 214, 215, 216, 217, 218, 219, 220, 221, 222, 223, 224, 225, 226, 227, 228, 229, 230, 231, 232, 233, 234, 235, 236, 237, 238, 239, 240, 241, 242, 243, 244, 245, 246, 247, 248, 249, 250, 251, 252, 253, 254, 255, 256, 257, 258, 259, 260, 261, 262, 263, 264, 265, 266, 267, 268, 269, 270, 271, 272, 273, 274, 275, 276, 277, 278, 279, 280, 281, 282, 283, 284, 285, 286, 287, 288, 289, 290, 291, 292, 293, 294] (by decide +kernel) (by decide +kernel)) (goodIn_sub (fun _ h => List.mem_cons_of_mem _ (List.mem_append_right _ h)) (by decide +kernel))
set_option maxRecDepth 20000 in
theorem gL_run_X6_run : GoodIn wsL_run (wsV RL 15 RX6 yX6_run wsX6_run) := goodIn_app (goodIn_of _ (by decide +kernel)) ggL_run_X6_run
theorem dL_run_0 : decode cL_run 0 = .ok (.aload_n 1, 1) := by decide +kernel
theorem dL_run_1 : decode cL_run 1 = .ok (.iconst 0, 1) := by decide +kernel
theorem dL_run_2 : decode cL_run 2 = .ok (.aload_n 0, 1) := by decide +kernel
theorem dL_run_3 : decode cL_run 3 = .ok (.invokevirtual 15, 3) := by decide +kernel
theorem dL_run_6 : decode cL_run 6 = .ok (.i2l, 1) := by decide +kernel
theorem dL_run_7 : decode cL_run 7 = .ok (.lastore, 1) := by decide +kernel
theorem dL_run_8 : decode cL_run 8 = .ok (.goto 6, 3) := by decide +kernel
theorem dL_run_11 : decode cL_run 11 = .ok (.astore_n 2, 1) := by decide +kernel
theorem dL_run_12 : decode cL_run 12 = .ok (.iconst 1, 1) := by decide +kernel
theorem dL_run_13 : decode cL_run 13 = .ok (.ireturn, 1) := by decide +kernel
theorem dL_run_14 : decode cL_run 14 = .ok (.iconst 0, 1) := by decide +kernel
theorem dL_run_15 : decode cL_run 15 = .ok (.ireturn, 1) := by decide +kernel
set_option maxRecDepth 20000 in
theorem ggL_add_X6_add : GoodIn wsL_add wsX6_add := goodIn_ca (goodIn_ca (goodIn_r _ [7, 8, 9, 10, 6, 11, 12, 13, 14, 15, 16, 17, 18, 19, 20, 21, 22, 23, 24, 25, 26, 27, 28, 29, 30, 31, 32, 33, 34, 35, 36, 37, 38, 39, 40, 41, 42, 43, 44, 45, 46, 47] (by decide +kernel) (by decide +kernel)) (goodIn_sub (fun _ h => List.mem_cons_of_mem _ (List.mem_append_left _ (List.mem_append_right _ h))) (by decide +kernel))) (goodIn_sub (fun _ h => List.mem_cons_of_mem _ (List.mem_append_right _ h)) (by decide +kernel))
set_option maxRecDepth 20000 in
theorem gL_add_X6_add : GoodIn wsL_add (wsV RL 21 RX6 yX6_add wsX6_add) := goodIn_app (goodIn_of _ (by decide +kernel)) ggL_add_X6_add
theorem dL_add_0 : decode cL_add 0 = .ok (.aload_n 3, 1) := by decide +kernel
theorem dL_add_1 : decode cL_add 1 = .ok (.iconst 0, 1) := by decide +kernel
theorem dL_add_2 : decode cL_add 2 = .ok (.aload_n 0, 1) := by decide +kernel
theorem dL_add_3 : decode cL_add 3 = .ok (.iload_n 1, 1) := by decide +kernel
theorem dL_add_4 : decode cL_add 4 = .ok (.iload_n 2, 1) := by decide +kernel
theorem dL_add_5 : decode cL_add 5 = .ok (.invokevirtual 21, 3) := by decide +kernel
theorem dL_add_8 : decode cL_add 8 = .ok (.ifCond .eq 7, 3) := by decide +kernel
theorem dL_add_11 : decode cL_add 11 = .ok (.lconst 1, 1) := by decide +kernel
theorem dL_add_12 : decode cL_add 12 = .ok (.goto 4, 3) := by decide +kernel
theorem dL_add_15 : decode cL_add 15 = .ok (.lconst 0, 1) := by decide +kernel
theorem dL_add_16 : decode cL_add 16 = .ok (.lastore, 1) := by decide +kernel
theorem dL_add_17 : decode cL_add 17 = .ok (.goto 11, 3) := by decide +kernel
theorem dL_add_20 : decode cL_add 20 = .ok (.astore 4, 2) := by decide +kernel
theorem dL_add_22 : decode cL_add 22 = .ok (.iconst 1, 1) := by decide +kernel
theorem dL_add_23 : decode cL_add 23 = .ok (.ireturn, 1) := by decide +kernel
theorem dL_add_24 : decode cL_add 24 = .ok (.astore 4, 2) := by decide +kernel
theorem dL_add_26 : decode cL_add 26 = .ok (.iconst 2, 1) := by decide +kernel
theorem dL_add_27 : decode cL_add 27 = .ok (.ireturn, 1) := by decide +kernel
theorem dL_add_28 : decode cL_add 28 = .ok (.iconst 0, 1) := by decide +kernel
theorem dL_add_29 : decode cL_add 29 = .ok (.ireturn, 1) := by decide +kernel
set_option maxRecDepth 20000 in
theorem ggL_remove_X6_remove : GoodIn wsL_remove wsX6_remove := goodIn_ca (goodIn_ca (goodIn_r _ [7, 8, 9, 10, 6, 11, 12, 13, 14, 15, 16, 17, 18, 19, 20, 21, 22, 23, 24, 25, 26, 27, 28, 29, 30, 31, 32, 33, 34, 35, 36, 37, 38, 39, 40, 41, 42, 43, 44] (by decide +kernel) (by decide +kernel)) (goodIn_sub (fun _ h => List.mem_cons_of_mem _ (List.mem_append_left _ (List.mem_append_right _ h))) (by decide +kernel))) (goodIn_sub (fun _ h => List.mem_cons_of_mem _ (List.mem_append_right _ h)) (by decide +kernel))
set_option maxRecDepth 20000 in
theorem gL_remove_X6_remove : GoodIn wsL_remove (wsV RL 27 RX6 yX6_remove wsX6_remove) := goodIn_app (goodIn_of _ (by decide +kernel)) ggL_remove_X6_remove
theorem dL_remove_0 : decode cL_remove 0 = .ok (.aload_n 3, 1) := by decide +kernel
theorem dL_remove_1 : decode cL_remove 1 = .ok (.iconst 0, 1) := by decide +kernel
theorem dL_remove_2 : decode cL_remove 2 = .ok (.aload_n 0, 1) := by decide +kernel
theorem dL_remove_3 : decode cL_remove 3 = .ok (.iload_n 1, 1) := by decide +kernel
theorem dL_remove_4 : decode cL_remove 4 = .ok (.iload_n 2, 1) := by decide +kernel
theorem dL_remove_5 : decode cL_remove 5 = .ok (.invokevirtual 27, 3) := by decide +kernel
theorem dL_remove_8 : decode cL_remove 8 = .ok (.ifCond .eq 7, 3) := by decide +kernel
theorem dL_remove_11 : decode cL_remove 11 = .ok (.lconst 1, 1) := by decide +kernel
theorem dL_remove_12 : decode cL_remove 12 = .ok (.goto 4, 3) := by decide +kernel
theorem dL_remove_15 : decode cL_remove 15 = .ok (.lconst 0, 1) := by decide +kernel
theorem dL_remove_16 : decode cL_remove 16 = .ok (.lastore, 1) := by decide +kernel
theorem dL_remove_17 : decode cL_remove 17 = .ok (.goto 11, 3) := by decide +kernel
theorem dL_remove_20 : decode cL_remove 20 = .ok (.astore 4, 2) := by decide +kernel
theorem dL_remove_22 : decode cL_remove 22 = .ok (.iconst 1, 1) := by decide +kernel
theorem dL_remove_23 : decode cL_remove 23 = .ok (.ireturn, 1) := by decide +kernel
theorem dL_remove_24 : decode cL_remove 24 = .ok (.astore 4, 2) := by decide +kernel
theorem dL_remove_26 : decode cL_remove 26 = .ok (.iconst 2, 1) := by decide +kernel
theorem dL_remove_27 : decode cL_remove 27 = .ok (.ireturn, 1) := by decide +kernel
theorem dL_remove_28 : decode cL_remove 28 = .ok (.iconst 0, 1) := by decide +kernel
theorem dL_remove_29 : decode cL_remove 29 = .ok (.ireturn, 1) := by decide +kernel
set_option maxRecDepth 20000 in
theorem ggL_put_X6_put : GoodIn wsL_put wsX6_put := goodIn_ca (goodIn_ca (goodIn_r _ [7, 8, 9, 10, 6, 11, 12, 13, 14, 15, 16, 17, 18, 19, 20, 21, 22, 23, 24, 25, 26, 27, 28, 29, 30, 31, 32, 33, 34, 35, 36, 37, 38, 39, 40, 41, 42, 43, 44, 45, 46, 47, 48, 49, 50, 51, 52, 53, 54, 55, 56] (by decide +kernel) (by decide +kernel)) (goodIn_sub (fun _ h => List.mem_cons_of_mem _ (List.mem_append_left _ (List.mem_append_right _ h))) (by decide +kernel))) (goodIn_sub (fun _ h => List.mem_cons_of_mem _ (List.mem_append_right _ h)) (by decide +kernel))
set_option maxRecDepth 20000 in
theorem gL_put_X6_put : GoodIn wsL_put (wsV RL 30 RX6 yX6_put wsX6_put) := goodIn_app (goodIn_of _ (by decide +kernel)) ggL_put_X6_put
theorem dL_put_0 : decode cL_put 0 = .ok (.aload 4, 2) := by decide +kernel
theorem dL_put_2 : decode cL_put 2 = .ok (.iconst 0, 1) := by decide +kernel
theorem dL_put_3 : decode cL_put 3 = .ok (.aload_n 0, 1) := by decide +kernel
theorem dL_put_4 : decode cL_put 4 = .ok (.iload_n 1, 1) := by decide +kernel
theorem dL_put_5 : decode cL_put 5 = .ok (.iload_n 2, 1) := by decide +kernel
theorem dL_put_6 : decode cL_put 6 = .ok (.iload_n 3, 1) := by decide +kernel
theorem dL_put_7 : decode cL_put 7 = .ok (.invokevirtual 30, 3) := by decide +kernel
theorem dL_put_10 : decode cL_put 10 = .ok (.ifCond .eq 7, 3) := by decide +kernel
theorem dL_put_13 : decode cL_put 13 = .ok (.lconst 1, 1) := by decide +kernel
theorem dL_put_14 : decode cL_put 14 = .ok (.goto 4, 3) := by decide +kernel
theorem dL_put_17 : decode cL_put 17 = .ok (.lconst 0, 1) := by decide +kernel
theorem dL_put_18 : decode cL_put 18 = .ok (.lastore, 1) := by decide +kernel
theorem dL_put_19 : decode cL_put 19 = .ok (.goto 11, 3) := by decide +kernel
theorem dL_put_22 : decode cL_put 22 = .ok (.astore 5, 2) := by decide +kernel
theorem dL_put_24 : decode cL_put 24 = .ok (.iconst 1, 1) := by decide +kernel
theorem dL_put_25 : decode cL_put 25 = .ok (.ireturn, 1) := by decide +kernel
theorem dL_put_26 : decode cL_put 26 = .ok (.astore 5, 2) := by decide +kernel
theorem dL_put_28 : decode cL_put 28 = .ok (.iconst 2, 1) := by decide +kernel
theorem dL_put_29 : decode cL_put 29 = .ok (.ireturn, 1) := by decide +kernel
theorem dL_put_30 : decode cL_put 30 = .ok (.iconst 0, 1) := by decide +kernel
theorem dL_put_31 : decode cL_put 31 = .ok (.ireturn, 1) := by decide +kernel
set_option maxRecDepth 20000 in
theorem ggL_flip_X6_flip : GoodIn wsL_flip wsX6_flip := goodIn_ca (goodIn_ca (goodIn_r _ [7, 8, 9, 10, 6, 11, 12, 13, 14, 15, 16, 17, 18, 19, 20, 21, 22, 23, 24, 25, 26, 27, 28, 29, 30, 31, 32, 33, 34, 35, 36, 37, 38, 39, 40, 41, 42, 43, 44, 45, 46, 47, 48, 49, 50, 51, 52, 53, 54, 55, 56] (by decide +kernel) (by decide +kernel)) (goodIn_sub (fun _ h => List.mem_cons_of_mem _ (List.mem_append_left _ (List.mem_append_right _ h))) (by decide +kernel))) (goodIn_sub (fun _ h => List.mem_cons_of_mem _ (List.mem_append_right _ h)) (by decide +kernel))
set_option maxRecDepth 20000 in
theorem gL_flip_X6_flip : GoodIn wsL_flip (wsV RL 34 RX6 yX6_flip wsX6_flip) := goodIn_app (goodIn_of _ (by decide +kernel)) ggL_flip_X6_flip
theorem dL_flip_0 : decode cL_flip 0 = .ok (.aload_n 3, 1) := by decide +kernel
theorem dL_flip_1 : decode cL_flip 1 = .ok (.iconst 0, 1) := by decide +kernel
theorem dL_flip_2 : decode cL_flip 2 = .ok (.aload_n 0, 1) := by decide +kernel
theorem dL_flip_3 : decode cL_flip 3 = .ok (.iload_n 1, 1) := by decide +kernel
theorem dL_flip_4 : decode cL_flip 4 = .ok (.iload_n 2, 1) := by decide +kernel
theorem dL_flip_5 : decode cL_flip 5 = .ok (.invokevirtual 34, 3) := by decide +kernel
theorem dL_flip_8 : decode cL_flip 8 = .ok (.ifCond .eq 7, 3) := by decide +kernel
theorem dL_flip_11 : decode cL_flip 11 = .ok (.lconst 1, 1) := by decide +kernel
theorem dL_flip_12 : decode cL_flip 12 = .ok (.goto 4, 3) := by decide +kernel
theorem dL_flip_15 : decode cL_flip 15 = .ok (.lconst 0, 1) := by decide +kernel
theorem dL_flip_16 : decode cL_flip 16 = .ok (.lastore, 1) := by decide +kernel
theorem dL_flip_17 : decode cL_flip 17 = .ok (.goto 11, 3) := by decide +kernel
theorem dL_flip_20 : decode cL_flip 20 = .ok (.astore 4, 2) := by decide +kernel
theorem dL_flip_22 : decode cL_flip 22 = .ok (.iconst 1, 1) := by decide +kernel
theorem dL_flip_23 : decode cL_flip 23 = .ok (.ireturn, 1) := by decide +kernel
theorem dL_flip_24 : decode cL_flip 24 = .ok (.astore 4, 2) := by decide +kernel
theorem dL_flip_26 : decode cL_flip 26 = .ok (.iconst 2, 1) := by decide +kernel
theorem dL_flip_27 : decode cL_flip 27 = .ok (.ireturn, 1) := by decide +kernel
theorem dL_flip_28 : decode cL_flip 28 = .ok (.iconst 0, 1) := by decide +kernel
theorem dL_flip_29 : decode cL_flip 29 = .ok (.ireturn, 1) := by decide +kernel
set_option maxRecDepth 20000 in
theorem ggL_addRange_X6_addRange : GoodIn wsL_addRange wsX6_addRange := goodIn_ca (goodIn_ca (goodIn_r _ [7, 8, 9, 10, 6, 11, 12, 13, 14, 15, 16, 17, 18, 19, 20, 21, 22, 23, 24, 25, 26, 27, 28, 29, 30, 31, 32, 33, 34, 35, 36, 37, 38, 39, 40, 41, 42, 43, 44, 45, 46, 47, 48, 49, 50, 51, 52, 53, 54, 55, 56, 57, 58, 59, 60, 61, 62, 63, 64, 65] (by decide +kernel) (by decide +kernel)) (goodIn_sub (fun _ h => List.mem_cons_of_mem _ (List.mem_append_left _ (List.mem_append_right _ h))) (by decide +kernel))) (goodIn_sub (fun _ h => List.mem_cons_of_mem _ (List.mem_append_right _ h)) (by decide +kernel))
set_option maxRecDepth 20000 in
theorem gL_addRange_X6_addRange : GoodIn wsL_addRange (wsV RL 37 RX6 yX6_addRange wsX6_addRange) := goodIn_app (goodIn_of _ (by decide +kernel)) ggL_addRange_X6_addRange
theorem dL_addRange_0 : decode cL_addRange 0 = .ok (.aload 4, 2) := by decide +kernel
theorem dL_addRange_2 : decode cL_addRange 2 = .ok (.iconst 0, 1) := by decide +kernel
theorem dL_addRange_3 : decode cL_addRange 3 = .ok (.aload_n 0, 1) := by decide +kernel
theorem dL_addRange_4 : decode cL_addRange 4 = .ok (.iload_n 1, 1) := by decide +kernel
theorem dL_addRange_5 : decode cL_addRange 5 = .ok (.iload_n 2, 1) := by decide +kernel
theorem dL_addRange_6 : decode cL_addRange 6 = .ok (.iload_n 3, 1) := by decide +kernel
theorem dL_addRange_7 : decode cL_addRange 7 = .ok (.invokevirtual 37, 3) := by decide +kernel
theorem dL_addRange_10 : decode cL_addRange 10 = .ok (.i2l, 1) := by decide +kernel
theorem dL_addRange_11 : decode cL_addRange 11 = .ok (.lastore, 1) := by decide +kernel
theorem dL_addRange_12 : decode cL_addRange 12 = .ok (.goto 11, 3) := by decide +kernel
theorem dL_addRange_15 : decode cL_addRange 15 = .ok (.astore 5, 2) := by decide +kernel
theorem dL_addRange_17 : decode cL_addRange 17 = .ok (.iconst 1, 1) := by decide +kernel
theorem dL_addRange_18 : decode cL_addRange 18 = .ok (.ireturn, 1) := by decide +kernel
theorem dL_addRange_19 : decode cL_addRange 19 = .ok (.astore 5, 2) := by decide +kernel
theorem dL_addRange_21 : decode cL_addRange 21 = .ok (.iconst 2, 1) := by decide +kernel
theorem dL_addRange_22 : decode cL_addRange 22 = .ok (.ireturn, 1) := by decide +kernel
theorem dL_addRange_23 : decode cL_addRange 23 = .ok (.iconst 0, 1) := by decide +kernel
theorem dL_addRange_24 : decode cL_addRange 24 = .ok (.ireturn, 1) := by decide +kernel
set_option maxRecDepth 20000 in
theorem ggL_removeRange_X6_removeRange : GoodIn wsL_removeRange wsX6_removeRange := goodIn_ca (goodIn_ca (goodIn_r _ [7, 8, 9, 10, 6, 11, 12, 13, 14, 15, 16, 17, 18, 19, 20, 21, 22, 23, 24, 25, 26, 27, 28, 29, 30, 31, 32, 33, 34, 35, 36, 37, 38, 39, 40, 41, 42, 43, 44, 45, 46, 47, 48, 49, 50, 51, 52, 53, 54, 55, 56, 57, 58, 59, 60, 61] (by decide +kernel) (by decide +kernel)) (goodIn_sub (fun _ h => List.mem_cons_of_mem _ (List.mem_append_left _ (List.mem_append_right _ h))) (by decide +kernel))) (goodIn_sub (fun _ h => List.mem_cons_of_mem _ (List.mem_append_right _ h)) (by decide +kernel))
set_option maxRecDepth 20000 in
theorem gL_removeRange_X6_removeRange : GoodIn wsL_removeRange (wsV RL 41 RX6 yX6_removeRange wsX6_removeRange) := goodIn_app (goodIn_of _ (by decide +kernel)) ggL_removeRange_X6_removeRange
theorem dL_removeRange_0 : decode cL_removeRange 0 = .ok (.aload 4, 2) := by decide +kernel
theorem dL_removeRange_2 : decode cL_removeRange 2 = .ok (.iconst 0, 1) := by decide +kernel
theorem dL_removeRange_3 : decode cL_removeRange 3 = .ok (.aload_n 0, 1) := by decide +kernel
theorem dL_removeRange_4 : decode cL_removeRange 4 = .ok (.iload_n 1, 1) := by decide +kernel
theorem dL_removeRange_5 : decode cL_removeRange 5 = .ok (.iload_n 2, 1) := by decide +kernel
theorem dL_removeRange_6 : decode cL_removeRange 6 = .ok (.iload_n 3, 1) := by decide +kernel
theorem dL_removeRange_7 : decode cL_removeRange 7 = .ok (.invokevirtual 41, 3) := by decide +kernel
theorem dL_removeRange_10 : decode cL_removeRange 10 = .ok (.i2l, 1) := by decide +kernel
theorem dL_removeRange_11 : decode cL_removeRange 11 = .ok (.lastore, 1) := by decide +kernel
theorem dL_removeRange_12 : decode cL_removeRange 12 = .ok (.goto 11, 3) := by decide +kernel
theorem dL_removeRange_15 : decode cL_removeRange 15 = .ok (.astore 5, 2) := by decide +kernel
theorem dL_removeRange_17 : decode cL_removeRange 17 = .ok (.iconst 1, 1) := by decide +kernel
theorem dL_removeRange_18 : decode cL_removeRange 18 = .ok (.ireturn, 1) := by decide +kernel
theorem dL_removeRange_19 : decode cL_removeRange 19 = .ok (.astore 5, 2) := by decide +kernel
theorem dL_removeRange_21 : decode cL_removeRange 21 = .ok (.iconst 2, 1) := by decide +kernel
theorem dL_removeRange_22 : decode cL_removeRange 22 = .ok (.ireturn, 1) := by decide +kernel
theorem dL_removeRange_23 : decode cL_removeRange 23 = .ok (.iconst 0, 1) := by decide +kernel
theorem dL_removeRange_24 : decode cL_removeRange 24 = .ok (.ireturn, 1) := by decide +kernel
set_option maxRecDepth 20000 in
theorem ggL_putRange_X6_putRange : GoodIn wsL_putRange wsX6_putRange := goodIn_ca (goodIn_ca (goodIn_r _ [7, 8, 9, 10, 6, 11, 12, 13, 14, 15, 16, 17, 18, 19, 20, 21, 22, 23, 24, 25, 26, 27, 28, 29, 30, 31, 32, 33, 34, 35, 36, 37, 38, 39, 40, 41, 42, 43, 44, 45, 46, 47, 48, 49, 50, 51, 52, 53, 54, 55, 56, 57, 58, 59, 60, 61, 62, 63, 64, 65, 66, 67, 68, 69, 70, 71, 72, 73] (by decide +kernel) (by decide +kernel)) (goodIn_sub (fun _ h => List.mem_cons_of_mem _ (List.mem_append_left _ (List.mem_append_right _ h))) (by decide +kernel))) (goodIn_sub (fun _ h => List.mem_cons_of_mem _ (List.mem_append_right _ h)) (by decide +kernel))
set_option maxRecDepth 20000 in
theorem gL_putRange_X6_putRange : GoodIn wsL_putRange (wsV RL 44 RX6 yX6_putRange wsX6_putRange) := goodIn_app (goodIn_of _ (by decide +kernel)) ggL_putRange_X6_putRange
theorem dL_putRange_0 : decode cL_putRange 0 = .ok (.aload 5, 2) := by decide +kernel
theorem dL_putRange_2 : decode cL_putRange 2 = .ok (.iconst 0, 1) := by decide +kernel
theorem dL_putRange_3 : decode cL_putRange 3 = .ok (.aload_n 0, 1) := by decide +kernel
theorem dL_putRange_4 : decode cL_putRange 4 = .ok (.iload_n 1, 1) := by decide +kernel
theorem dL_putRange_5 : decode cL_putRange 5 = .ok (.iload_n 2, 1) := by decide +kernel
theorem dL_putRange_6 : decode cL_putRange 6 = .ok (.iload_n 3, 1) := by decide +kernel
theorem dL_putRange_7 : decode cL_putRange 7 = .ok (.iload 4, 2) := by decide +kernel
theorem dL_putRange_9 : decode cL_putRange 9 = .ok (.invokevirtual 44, 3) := by decide +kernel
theorem dL_putRange_12 : decode cL_putRange 12 = .ok (.i2l, 1) := by decide +kernel
theorem dL_putRange_13 : decode cL_putRange 13 = .ok (.lastore, 1) := by decide +kernel
theorem dL_putRange_14 : decode cL_putRange 14 = .ok (.goto 11, 3) := by decide +kernel
theorem dL_putRange_17 : decode cL_putRange 17 = .ok (.astore 6, 2) := by decide +kernel
theorem dL_putRange_19 : decode cL_putRange 19 = .ok (.iconst 1, 1) := by decide +kernel
theorem dL_putRange_20 : decode cL_putRange 20 = .ok (.ireturn, 1) := by decide +kernel
theorem dL_putRange_21 : decode cL_putRange 21 = .ok (.astore 6, 2) := by decide +kernel
theorem dL_putRange_23 : decode cL_putRange 23 = .ok (.iconst 2, 1) := by decide +kernel
theorem dL_putRange_24 : decode cL_putRange 24 = .ok (.ireturn, 1) := by decide +kernel
theorem dL_putRange_25 : decode cL_putRange 25 = .ok (.iconst 0, 1) := by decide +kernel
theorem dL_putRange_26 : decode cL_putRange 26 = .ok (.ireturn, 1) := by decide +kernel
set_option maxRecDepth 20000 in
theorem ggL_flipRange_X6_flipRange : GoodIn wsL_flipRange wsX6_flipRange := goodIn_ca (goodIn_ca (goodIn_r _ [7, 8, 9, 10, 6, 11, 12, 13, 14, 15, 16, 17, 18, 19, 20, 21, 22, 23, 24, 25, 26, 27, 28, 29, 30, 31, 32, 33, 34, 35, 36, 37, 38, 39, 40, 41, 42, 43, 44, 45, 46, 47, 48, 49, 50, 51, 52, 53, 54, 55, 56, 57, 58, 59, 60, 61, 62, 63, 64, 65] (by decide +kernel) (by decide +kernel)) (goodIn_sub (fun _ h => List.mem_cons_of_mem _ (List.mem_append_left _ (List.mem_append_right _ h))) (by decide +kernel))) (goodIn_sub (fun _ h => List.mem_cons_of_mem _ (List.mem_append_right _ h)) (by decide +kernel))
set_option maxRecDepth 20000 in
theorem gL_flipRange_X6_flipRange : GoodIn wsL_flipRange (wsV RL 48 RX6 yX6_flipRange wsX6_flipRange) := goodIn_app (goodIn_of _ (by decide +kernel)) ggL_flipRange_X6_flipRange
theorem dL_flipRange_0 : decode cL_flipRange 0 = .ok (.aload 4, 2) := by decide +kernel
theorem dL_flipRange_2 : decode cL_flipRange 2 = .ok (.iconst 0, 1) := by decide +kernel
theorem dL_flipRange_3 : decode cL_flipRange 3 = .ok (.aload_n 0, 1) := by decide +kernel
theorem dL_flipRange_4 : decode cL_flipRange 4 = .ok (.iload_n 1, 1) := by decide +kernel
theorem dL_flipRange_5 : decode cL_flipRange 5 = .ok (.iload_n 2, 1) := by decide +kernel
theorem dL_flipRange_6 : decode cL_flipRange 6 = .ok (.iload_n 3, 1) := by decide +kernel
theorem dL_flipRange_7 : decode cL_flipRange 7 = .ok (.invokevirtual 48, 3) := by decide +kernel
theorem dL_flipRange_10 : decode cL_flipRange 10 = .ok (.i2l, 1) := by decide +kernel
theorem dL_flipRange_11 : decode cL_flipRange 11 = .ok (.lastore, 1) := by decide +kernel
theorem dL_flipRange_12 : decode cL_flipRange 12 = .ok (.goto 11, 3) := by decide +kernel
theorem dL_flipRange_15 : decode cL_flipRange 15 = .ok (.astore 5, 2) := by decide +kernel
theorem dL_flipRange_17 : decode cL_flipRange 17 = .ok (.iconst 1, 1) := by decide +kernel
theorem dL_flipRange_18 : decode cL_flipRange 18 = .ok (.ireturn, 1) := by decide +kernel
theorem dL_flipRange_19 : decode cL_flipRange 19 = .ok (.astore 5, 2) := by decide +kernel
theorem dL_flipRange_21 : decode cL_flipRange 21 = .ok (.iconst 2, 1) := by decide +kernel
theorem dL_flipRange_22 : decode cL_flipRange 22 = .ok (.ireturn, 1) := by decide +kernel
theorem dL_flipRange_23 : decode cL_flipRange 23 = .ok (.iconst 0, 1) := by decide +kernel
theorem dL_flipRange_24 : decode cL_flipRange 24 = .ok (.ireturn, 1) := by decide +kernel
set_option maxRecDepth 20000 in
theorem ggL_removeAll_X6_removeAll : GoodIn wsL_removeAll wsX6_removeAll := goodIn_ca (goodIn_r _ [6, 7, 8, 9, 5, 10, 11, 12, 13, 14, 15, 16, 17, 18, 19, 20, 21, 22, 23, 24, 25, 26, 27, 28, 29, 30, 31, 32, 33, 34, 35, 36, 37, 38, 39, 40, 41, 42, 43, 44, 45, 46, 47, 48, 49, 50, 51, 52, 53, 54, 55, 56, 57] (by decide +kernel) (by decide +kernel)) (goodIn_sub (fun _ h => List.mem_cons_of_mem _ (List.mem_append_right _ h)) (by decide +kernel))
set_option maxRecDepth 20000 in
theorem gL_removeAll_X6_removeAll : GoodIn wsL_removeAll (wsV RL 51 RX6 yX6_removeAll wsX6_removeAll) := goodIn_app (goodIn_of _ (by decide +kernel)) ggL_removeAll_X6_removeAll
theorem dL_removeAll_0 : decode cL_removeAll 0 = .ok (.aload_n 2, 1) := by decide +kernel
theorem dL_removeAll_1 : decode cL_removeAll 1 = .ok (.iconst 0, 1) := by decide +kernel
theorem dL_removeAll_2 : decode cL_removeAll 2 = .ok (.aload_n 0, 1) := by decide +kernel
theorem dL_removeAll_3 : decode cL_removeAll 3 = .ok (.iload_n 1, 1) := by decide +kernel
theorem dL_removeAll_4 : decode cL_removeAll 4 = .ok (.invokevirtual 51, 3) := by decide +kernel
theorem dL_removeAll_7 : decode cL_removeAll 7 = .ok (.i2l, 1) := by decide +kernel
theorem dL_removeAll_8 : decode cL_removeAll 8 = .ok (.lastore, 1) := by decide +kernel
theorem dL_removeAll_9 : decode cL_removeAll 9 = .ok (.goto 6, 3) := by decide +kernel
theorem dL_removeAll_12 : decode cL_removeAll 12 = .ok (.astore_n 3, 1) := by decide +kernel
theorem dL_removeAll_13 : decode cL_removeAll 13 = .ok (.iconst 1, 1) := by decide +kernel
theorem dL_removeAll_14 : decode cL_removeAll 14 = .ok (.ireturn, 1) := by decide +kernel
theorem dL_removeAll_15 : decode cL_removeAll 15 = .ok (.iconst 0, 1) := by decide +kernel
theorem dL_removeAll_16 : decode cL_removeAll 16 = .ok (.ireturn, 1) := by decide +kernel
set_option maxRecDepth 20000 in
theorem ggL_renew_X6_renew : GoodIn wsL_renew wsX6_renew := goodIn_ca (goodIn_r _ [6, 7, 8, 9, 10, 5, 11, 12, 13, 14, 15, 16, 17, 18, 19, 20, 21, 22, 23, 24, 25, 26, 27, 28, 29, 30, 31, 32, 33, 34, 35, 36, 37, 38, 39, 40, 41, 42, 43, 44, 45, 46, 47, 48, 49, 50, 51, 52, 53, 54, 55, 56, 57, 58, 59, 60, 61] (by decide +kernel) (by decide +kernel)) (goodIn_sub (fun _ h => List.mem_cons_of_mem _ (List.mem_append_right _ h)) (by decide +kernel))
set_option maxRecDepth 20000 in
theorem gL_renew_X6_renew : GoodIn wsL_renew (wsV RL 55 RX6 yX6_renew wsX6_renew) := goodIn_app (goodIn_of _ (by decide +kernel)) ggL_renew_X6_renew
theorem dL_renew_0 : decode cL_renew 0 = .ok (.aload_n 3, 1) := by decide +kernel
theorem dL_renew_1 : decode cL_renew 1 = .ok (.iconst 0, 1) := by decide +kernel
theorem dL_renew_2 : decode cL_renew 2 = .ok (.aload_n 0, 1) := by decide +kernel
theorem dL_renew_3 : decode cL_renew 3 = .ok (.iload_n 1, 1) := by decide +kernel
theorem dL_renew_4 : decode cL_renew 4 = .ok (.iload_n 2, 1) := by decide +kernel
theorem dL_renew_5 : decode cL_renew 5 = .ok (.invokevirtual 55, 3) := by decide +kernel
theorem dL_renew_8 : decode cL_renew 8 = .ok (.i2l, 1) := by decide +kernel
theorem dL_renew_9 : decode cL_renew 9 = .ok (.lastore, 1) := by decide +kernel
theorem dL_renew_10 : decode cL_renew 10 = .ok (.goto 7, 3) := by decide +kernel
theorem dL_renew_13 : decode cL_renew 13 = .ok (.astore 4, 2) := by decide +kernel
theorem dL_renew_15 : decode cL_renew 15 = .ok (.iconst 1, 1) := by decide +kernel
theorem dL_renew_16 : decode cL_renew 16 = .ok (.ireturn, 1) := by decide +kernel
theorem dL_renew_17 : decode cL_renew 17 = .ok (.iconst 0, 1) := by decide +kernel
theorem dL_renew_18 : decode cL_renew 18 = .ok (.ireturn, 1) := by decide +kernel
set_option maxRecDepth 20000 in
theorem ggL_intersect_X6_intersect : GoodIn wsL_intersect wsX6_intersect := goodIn_ca (goodIn_r _ [6, 7, 8, 9, 5, 10, 11, 12, 13, 14, 15, 16, 17, 18, 19, 20, 21, 22, 23, 24, 25, 26, 27, 28, 29, 30, 31, 32, 33, 34, 35, 36, 37, 38, 39, 40, 41, 42, 43, 44, 45, 46, 47, 48, 49, 50, 51, 52, 53, 54, 55, 56, 57, 58, 59, 60] (by decide +kernel) (by decide +kernel)) (goodIn_sub (fun _ h => List.mem_cons_of_mem _ (List.mem_append_right _ h)) (by decide +kernel))
set_option maxRecDepth 20000 in
theorem gL_intersect_X6_intersect : GoodIn wsL_intersect (wsV RL 59 RX6 yX6_intersect wsX6_intersect) := goodIn_app (goodIn_of _ (by decide +kernel)) ggL_intersect_X6_intersect
theorem dL_intersect_0 : decode cL_intersect 0 = .ok (.aload_n 3, 1) := by decide +kernel
theorem dL_intersect_1 : decode cL_intersect 1 = .ok (.iconst 0, 1) := by decide +kernel
theorem dL_intersect_2 : decode cL_intersect 2 = .ok (.aload_n 0, 1) := by decide +kernel
theorem dL_intersect_3 : decode cL_intersect 3 = .ok (.iload_n 1, 1) := by decide +kernel
theorem dL_intersect_4 : decode cL_intersect 4 = .ok (.iload_n 2, 1) := by decide +kernel
theorem dL_intersect_5 : decode cL_intersect 5 = .ok (.invokevirtual 59, 3) := by decide +kernel
theorem dL_intersect_8 : decode cL_intersect 8 = .ok (.i2l, 1) := by decide +kernel
theorem dL_intersect_9 : decode cL_intersect 9 = .ok (.lastore, 1) := by decide +kernel
theorem dL_intersect_10 : decode cL_intersect 10 = .ok (.goto 7, 3) := by decide +kernel
theorem dL_intersect_13 : decode cL_intersect 13 = .ok (.astore 4, 2) := by decide +kernel
theorem dL_intersect_15 : decode cL_intersect 15 = .ok (.iconst 1, 1) := by decide +kernel
theorem dL_intersect_16 : decode cL_intersect 16 = .ok (.ireturn, 1) := by decide +kernel
theorem dL_intersect_17 : decode cL_intersect 17 = .ok (.iconst 0, 1) := by decide +kernel
theorem dL_intersect_18 : decode cL_intersect 18 = .ok (.ireturn, 1) := by decide +kernel
set_option maxRecDepth 20000 in
theorem ggL_unite_X6_unite : GoodIn wsL_unite wsX6_unite := goodIn_ca (goodIn_r _ [6, 7, 8, 9, 5, 10, 11, 12, 13, 14, 15, 16, 17, 18, 19, 20, 21, 22, 23, 24, 25, 26, 27, 28, 29, 30, 31, 32, 33, 34, 35, 36, 37, 38, 39, 40, 41, 42, 43, 44, 45, 46, 47, 48, 49, 50, 51, 52, 53, 54, 55, 56, 57, 58, 59, 60] (by decide +kernel) (by decide +kernel)) (goodIn_sub (fun _ h => List.mem_cons_of_mem _ (List.mem_append_right _ h)) (by decide +kernel))
set_option maxRecDepth 20000 in
theorem gL_unite_X6_unite : GoodIn wsL_unite (wsV RL 62 RX6 yX6_unite wsX6_unite) := goodIn_app (goodIn_of _ (by decide +kernel)) ggL_unite_X6_unite
theorem dL_unite_0 : decode cL_unite 0 = .ok (.aload_n 3, 1) := by decide +kernel
theorem dL_unite_1 : decode cL_unite 1 = .ok (.iconst 0, 1) := by decide +kernel
theorem dL_unite_2 : decode cL_unite 2 = .ok (.aload_n 0, 1) := by decide +kernel
theorem dL_unite_3 : decode cL_unite 3 = .ok (.iload_n 1, 1) := by decide +kernel
theorem dL_unite_4 : decode cL_unite 4 = .ok (.iload_n 2, 1) := by decide +kernel
theorem dL_unite_5 : decode cL_unite 5 = .ok (.invokevirtual 62, 3) := by decide +kernel
theorem dL_unite_8 : decode cL_unite 8 = .ok (.i2l, 1) := by decide +kernel
theorem dL_unite_9 : decode cL_unite 9 = .ok (.lastore, 1) := by decide +kernel
theorem dL_unite_10 : decode cL_unite 10 = .ok (.goto 7, 3) := by decide +kernel
theorem dL_unite_13 : decode cL_unite 13 = .ok (.astore 4, 2) := by decide +kernel
theorem dL_unite_15 : decode cL_unite 15 = .ok (.iconst 1, 1) := by decide +kernel
theorem dL_unite_16 : decode cL_unite 16 = .ok (.ireturn, 1) := by decide +kernel
theorem dL_unite_17 : decode cL_unite 17 = .ok (.iconst 0, 1) := by decide +kernel
theorem dL_unite_18 : decode cL_unite 18 = .ok (.ireturn, 1) := by decide +kernel
set_option maxRecDepth 20000 in
theorem ggL_differ_X6_differ : GoodIn wsL_differ wsX6_differ := goodIn_ca (goodIn_r _ [6, 7, 8, 9, 5, 10, 11, 12, 13, 14, 15, 16, 17, 18, 19, 20, 21, 22, 23, 24, 25, 26, 27, 28, 29, 30, 31, 32, 33, 34, 35, 36, 37, 38, 39, 40, 41, 42, 43, 44, 45, 46, 47, 48, 49, 50, 51, 52, 53, 54, 55, 56, 57, 58, 59, 60] (by decide +kernel) (by decide +kernel)) (goodIn_sub (fun _ h => List.mem_cons_of_mem _ (List.mem_append_right _ h)) (by decide +kernel))
set_option maxRecDepth 20000 in
theorem gL_differ_X6_differ : GoodIn wsL_differ (wsV RL 65 RX6 yX6_differ wsX6_differ) := goodIn_app (goodIn_of _ (by decide +kernel)) ggL_differ_X6_differ
theorem dL_differ_0 : decode cL_differ 0 = .ok (.aload_n 3, 1) := by decide +kernel
theorem dL_differ_1 : decode cL_differ 1 = .ok (.iconst 0, 1) := by decide +kernel
theorem dL_differ_2 : decode cL_differ 2 = .ok (.aload_n 0, 1) := by decide +kernel
theorem dL_differ_3 : decode cL_differ 3 = .ok (.iload_n 1, 1) := by decide +kernel
theorem dL_differ_4 : decode cL_differ 4 = .ok (.iload_n 2, 1) := by decide +kernel
theorem dL_differ_5 : decode cL_differ 5 = .ok (.invokevirtual 65, 3) := by decide +kernel
theorem dL_differ_8 : decode cL_differ 8 = .ok (.i2l, 1) := by decide +kernel
theorem dL_differ_9 : decode cL_differ 9 = .ok (.lastore, 1) := by decide +kernel
theorem dL_differ_10 : decode cL_differ 10 = .ok (.goto 7, 3) := by decide +kernel
theorem dL_differ_13 : decode cL_differ 13 = .ok (.astore 4, 2) := by decide +kernel
theorem dL_differ_15 : decode cL_differ 15 = .ok (.iconst 1, 1) := by decide +kernel
theorem dL_differ_16 : decode cL_differ 16 = .ok (.ireturn, 1) := by decide +kernel
theorem dL_differ_17 : decode cL_differ 17 = .ok (.iconst 0, 1) := by decide +kernel
theorem dL_differ_18 : decode cL_differ 18 = .ok (.ireturn, 1) := by decide +kernel
set_option maxRecDepth 20000 in
theorem ggL_subtract_X6_subtract : GoodIn wsL_subtract wsX6_subtract := goodIn_ca (goodIn_r _ [6, 7, 8, 9, 5, 10, 11, 12, 13, 14, 15, 16, 17, 18, 19, 20, 21, 22, 23, 24, 25, 26, 27, 28, 29, 30, 31, 32, 33, 34, 35, 36, 37, 38, 39, 40, 41, 42, 43, 44, 45, 46, 47, 48, 49, 50, 51, 52, 53, 54, 55, 56, 57, 58, 59, 60] (by decide +kernel) (by decide +kernel)) (goodIn_sub (fun _ h => List.mem_cons_of_mem _ (List.mem_append_right _ h)) (by decide +kernel))
set_option maxRecDepth 20000 in
theorem gL_subtract_X6_subtract : GoodIn wsL_subtract (wsV RL 68 RX6 yX6_subtract wsX6_subtract) := goodIn_app (goodIn_of _ (by decide +kernel)) ggL_subtract_X6_subtract
theorem dL_subtract_0 : decode cL_subtract 0 = .ok (.aload_n 3, 1) := by decide +kernel
theorem dL_subtract_1 : decode cL_subtract 1 = .ok (.iconst 0, 1) := by decide +kernel
theorem dL_subtract_2 : decode cL_subtract 2 = .ok (.aload_n 0, 1) := by decide +kernel
theorem dL_subtract_3 : decode cL_subtract 3 = .ok (.iload_n 1, 1) := by decide +kernel
theorem dL_subtract_4 : decode cL_subtract 4 = .ok (.iload_n 2, 1) := by decide +kernel
theorem dL_subtract_5 : decode cL_subtract 5 = .ok (.invokevirtual 68, 3) := by decide +kernel
theorem dL_subtract_8 : decode cL_subtract 8 = .ok (.i2l, 1) := by decide +kernel
theorem dL_subtract_9 : decode cL_subtract 9 = .ok (.lastore, 1) := by decide +kernel
theorem dL_subtract_10 : decode cL_subtract 10 = .ok (.goto 7, 3) := by decide +kernel
theorem dL_subtract_13 : decode cL_subtract 13 = .ok (.astore 4, 2) := by decide +kernel
theorem dL_subtract_15 : decode cL_subtract 15 = .ok (.iconst 1, 1) := by decide +kernel
theorem dL_subtract_16 : decode cL_subtract 16 = .ok (.ireturn, 1) := by decide +kernel
theorem dL_subtract_17 : decode cL_subtract 17 = .ok (.iconst 0, 1) := by decide +kernel
theorem dL_subtract_18 : decode cL_subtract 18 = .ok (.ireturn, 1) := by decide +kernel
set_option maxRecDepth 20000 in
theorem ggL_copy_X6_copy : GoodIn wsL_copy wsX6_copy := goodIn_ca (goodIn_r _ [6, 7, 8, 9, 5, 10, 11, 12, 13, 14, 15, 16, 17, 18, 19, 20, 21, 22, 23, 24, 25, 26, 27, 28, 29, 30, 31, 32, 33, 34, 35, 36, 37, 38, 39, 40, 41, 42, 43, 44, 45, 46, 47, 48, 49, 50, 51, 52, 53, 54, 55, 56, 57, 58, 59, 60] (by decide +kernel) (by decide +kernel)) (goodIn_sub (fun _ h => List.mem_cons_of_mem _ (List.mem_append_right _ h)) (by decide +kernel))
set_option maxRecDepth 20000 in
theorem gL_copy_X6_copy : GoodIn wsL_copy (wsV RL 71 RX6 yX6_copy wsX6_copy) := goodIn_app (goodIn_of _ (by decide +kernel)) ggL_copy_X6_copy
theorem dL_copy_0 : decode cL_copy 0 = .ok (.aload_n 3, 1) := by decide +kernel
theorem dL_copy_1 : decode cL_copy 1 = .ok (.iconst 0, 1) := by decide +kernel
theorem dL_copy_2 : decode cL_copy 2 = .ok (.aload_n 0, 1) := by decide +kernel
theorem dL_copy_3 : decode cL_copy 3 = .ok (.iload_n 1, 1) := by decide +kernel
theorem dL_copy_4 : decode cL_copy 4 = .ok (.iload_n 2, 1) := by decide +kernel
theorem dL_copy_5 : decode cL_copy 5 = .ok (.invokevirtual 71, 3) := by decide +kernel
theorem dL_copy_8 : decode cL_copy 8 = .ok (.i2l, 1) := by decide +kernel
theorem dL_copy_9 : decode cL_copy 9 = .ok (.lastore, 1) := by decide +kernel
theorem dL_copy_10 : decode cL_copy 10 = .ok (.goto 7, 3) := by decide +kernel
theorem dL_copy_13 : decode cL_copy 13 = .ok (.astore 4, 2) := by decide +kernel
theorem dL_copy_15 : decode cL_copy 15 = .ok (.iconst 1, 1) := by decide +kernel
theorem dL_copy_16 : decode cL_copy 16 = .ok (.ireturn, 1) := by decide +kernel
theorem dL_copy_17 : decode cL_copy 17 = .ok (.iconst 0, 1) := by decide +kernel
theorem dL_copy_18 : decode cL_copy 18 = .ok (.ireturn, 1) := by decide +kernel
set_option maxRecDepth 20000 in
theorem ggL_takePart_X6_takePart : GoodIn wsL_takePart wsX6_takePart := goodIn_ca (goodIn_ca (goodIn_r _ [7, 8, 9, 10, 6, 11, 12, 13, 14, 15, 16, 17, 18, 19, 20, 21, 22, 23, 24, 25, 26, 27, 28, 29, 30, 31, 32, 33, 34, 35, 36, 37, 38, 39, 40, 41, 42, 43, 44, 45, 46, 47, 48, 49, 50, 51, 52, 53, 54, 55, 56, 57, 58, 59, 60, 61, 62, 63, 64, 65, 66, 67, 68, 69] (by decide +kernel) (by decide +kernel)) (goodIn_sub (fun _ h => List.mem_cons_of_mem _ (List.mem_append_left _ (List.mem_append_right _ h))) (by decide +kernel))) (goodIn_sub (fun _ h => List.mem_cons_of_mem _ (List.mem_append_right _ h)) (by decide +kernel))
set_option maxRecDepth 20000 in
theorem gL_takePart_X6_takePart : GoodIn wsL_takePart (wsV RL 74 RX6 yX6_takePart wsX6_takePart) := goodIn_app (goodIn_of _ (by decide +kernel)) ggL_takePart_X6_takePart
theorem dL_takePart_0 : decode cL_takePart 0 = .ok (.aload 5, 2) := by decide +kernel
theorem dL_takePart_2 : decode cL_takePart 2 = .ok (.iconst 0, 1) := by decide +kernel
theorem dL_takePart_3 : decode cL_takePart 3 = .ok (.aload_n 0, 1) := by decide +kernel
theorem dL_takePart_4 : decode cL_takePart 4 = .ok (.iload_n 1, 1) := by decide +kernel
theorem dL_takePart_5 : decode cL_takePart 5 = .ok (.iload_n 2, 1) := by decide +kernel
theorem dL_takePart_6 : decode cL_takePart 6 = .ok (.iload_n 3, 1) := by decide +kernel
theorem dL_takePart_7 : decode cL_takePart 7 = .ok (.iload 4, 2) := by decide +kernel
theorem dL_takePart_9 : decode cL_takePart 9 = .ok (.invokevirtual 74, 3) := by decide +kernel
theorem dL_takePart_12 : decode cL_takePart 12 = .ok (.i2l, 1) := by decide +kernel
theorem dL_takePart_13 : decode cL_takePart 13 = .ok (.lastore, 1) := by decide +kernel
theorem dL_takePart_14 : decode cL_takePart 14 = .ok (.goto 11, 3) := by decide +kernel
theorem dL_takePart_17 : decode cL_takePart 17 = .ok (.astore 6, 2) := by decide +kernel
theorem dL_takePart_19 : decode cL_takePart 19 = .ok (.iconst 1, 1) := by decide +kernel
theorem dL_takePart_20 : decode cL_takePart 20 = .ok (.ireturn, 1) := by decide +kernel
theorem dL_takePart_21 : decode cL_takePart 21 = .ok (.astore 6, 2) := by decide +kernel
theorem dL_takePart_23 : decode cL_takePart 23 = .ok (.iconst 2, 1) := by decide +kernel
theorem dL_takePart_24 : decode cL_takePart 24 = .ok (.ireturn, 1) := by decide +kernel
theorem dL_takePart_25 : decode cL_takePart 25 = .ok (.iconst 0, 1) := by decide +kernel
theorem dL_takePart_26 : decode cL_takePart 26 = .ok (.ireturn, 1) := by decide +kernel
set_option maxRecDepth 20000 in
theorem ggL_shift_X6_shift : GoodIn wsL_shift wsX6_shift := goodIn_ca (goodIn_r _ [6, 7, 8, 9, 5, 10, 11, 12, 13, 14, 15, 16, 17, 18, 19, 20, 21, 22, 23, 24, 25, 26, 27, 28, 29, 30, 31, 32, 33, 34, 35, 36, 37, 38, 39, 40, 41, 42, 43, 44, 45, 46, 47, 48, 49, 50, 51, 52, 53, 54, 55, 56, 57, 58, 59, 60, 61, 62, 63, 64, 65, 66, 67, 68] (by decide +kernel) (by decide +kernel)) (goodIn_sub (fun _ h => List.mem_cons_of_mem _ (List.mem_append_right _ h)) (by decide +kernel))
set_option maxRecDepth 20000 in
theorem gL_shift_X6_shift : GoodIn wsL_shift (wsV RL 78 RX6 yX6_shift wsX6_shift) := goodIn_app (goodIn_of _ (by decide +kernel)) ggL_shift_X6_shift
theorem dL_shift_0 : decode cL_shift 0 = .ok (.aload_n 3, 1) := by decide +kernel
theorem dL_shift_1 : decode cL_shift 1 = .ok (.iconst 0, 1) := by decide +kernel
theorem dL_shift_2 : decode cL_shift 2 = .ok (.aload_n 0, 1) := by decide +kernel
theorem dL_shift_3 : decode cL_shift 3 = .ok (.iload_n 1, 1) := by decide +kernel
theorem dL_shift_4 : decode cL_shift 4 = .ok (.iload_n 2, 1) := by decide +kernel
theorem dL_shift_5 : decode cL_shift 5 = .ok (.invokevirtual 78, 3) := by decide +kernel
theorem dL_shift_8 : decode cL_shift 8 = .ok (.i2l, 1) := by decide +kernel
theorem dL_shift_9 : decode cL_shift 9 = .ok (.lastore, 1) := by decide +kernel
theorem dL_shift_10 : decode cL_shift 10 = .ok (.goto 7, 3) := by decide +kernel
theorem dL_shift_13 : decode cL_shift 13 = .ok (.astore 4, 2) := by decide +kernel
theorem dL_shift_15 : decode cL_shift 15 = .ok (.iconst 1, 1) := by decide +kernel
theorem dL_shift_16 : decode cL_shift 16 = .ok (.ireturn, 1) := by decide +kernel
theorem dL_shift_17 : decode cL_shift 17 = .ok (.iconst 0, 1) := by decide +kernel
theorem dL_shift_18 : decode cL_shift 18 = .ok (.ireturn, 1) := by decide +kernel
set_option maxRecDepth 20000 in
theorem ggL_sieve_X6_sieve : GoodIn wsL_sieve wsX6_sieve := goodIn_ca (goodIn_r _ [6, 7, 8, 9, 5, 10, 11, 12, 13, 14, 15, 16, 17, 18, 19, 20, 21, 22, 23, 24, 25, 26, 27, 28, 29, 30, 31, 32, 33, 34, 35, 36, 37, 38, 39, 40, 41, 42, 43, 44, 45, 46, 47, 48, 49, 50, 51, 52, 53, 54, 55, 56, 57, 58, 59, 60, 61, 62, 63, 64, 65, 66, 67, 68, 69, 70, 71, 72, 73, 74, 75, 76, 77, 78, 79, 80, 81, 82, 83, 84] (by decide +kernel) (by decide +kernel)) (goodIn_sub (fun _ h => List.mem_cons_of_mem _ (List.mem_append_right _ h)) (by decide +kernel))
set_option maxRecDepth 20000 in
theorem gL_sieve_X6_sieve : GoodIn wsL_sieve (wsV RL 81 RX6 yX6_sieve wsX6_sieve) := goodIn_app (goodIn_of _ (by decide +kernel)) ggL_sieve_X6_sieve
theorem dL_sieve_0 : decode cL_sieve 0 = .ok (.aload_n 3, 1) := by decide +kernel
theorem dL_sieve_1 : decode cL_sieve 1 = .ok (.iconst 0, 1) := by decide +kernel
theorem dL_sieve_2 : decode cL_sieve 2 = .ok (.aload_n 0, 1) := by decide +kernel
theorem dL_sieve_3 : decode cL_sieve 3 = .ok (.iload_n 1, 1) := by decide +kernel
theorem dL_sieve_4 : decode cL_sieve 4 = .ok (.iload_n 2, 1) := by decide +kernel
theorem dL_sieve_5 : decode cL_sieve 5 = .ok (.invokevirtual 81, 3) := by decide +kernel
theorem dL_sieve_8 : decode cL_sieve 8 = .ok (.i2l, 1) := by decide +kernel
theorem dL_sieve_9 : decode cL_sieve 9 = .ok (.lastore, 1) := by decide +kernel
theorem dL_sieve_10 : decode cL_sieve 10 = .ok (.goto 7, 3) := by decide +kernel
theorem dL_sieve_13 : decode cL_sieve 13 = .ok (.astore 4, 2) := by decide +kernel
theorem dL_sieve_15 : decode cL_sieve 15 = .ok (.iconst 1, 1) := by decide +kernel
theorem dL_sieve_16 : decode cL_sieve 16 = .ok (.ireturn, 1) := by decide +kernel
theorem dL_sieve_17 : decode cL_sieve 17 = .ok (.iconst 0, 1) := by decide +kernel
theorem dL_sieve_18 : decode cL_sieve 18 = .ok (.ireturn, 1) := by decide +kernel
set_option maxRecDepth 20000 in
theorem ggL_loadWords_X6_loadWords : GoodIn wsL_loadWords wsX6_loadWords := goodIn_ca (goodIn_r _ [6, 7, 8, 9, 5, 10, 11, 12, 13, 14, 15, 16, 17, 18, 19, 20, 21, 22, 23, 24, 25, 26, 27, 28, 29, 30, 31, 32, 33, 34, 35, 36, 37, 38, 39, 40, 41, 42, 43, 44, 45, 46, 47, 48, 49, 50, 51, 52, 53, 54, 55, 56, 57, 58, 59, 60, 61, 62, 63] (by decide +kernel) (by decide +kernel)) (goodIn_sub (fun _ h => List.mem_cons_of_mem _ (List.mem_append_right _ h)) (by decide +kernel))
set_option maxRecDepth 20000 in
theorem gL_loadWords_X6_loadWords : GoodIn wsL_loadWords (wsV RL 84 RX6 yX6_loadWords wsX6_loadWords) := goodIn_app (goodIn_of _ (by decide +kernel)) ggL_loadWords_X6_loadWords
theorem dL_loadWords_0 : decode cL_loadWords 0 = .ok (.aload 8, 2) := by decide +kernel
theorem dL_loadWords_2 : decode cL_loadWords 2 = .ok (.iconst 0, 1) := by decide +kernel
theorem dL_loadWords_3 : decode cL_loadWords 3 = .ok (.aload_n 0, 1) := by decide +kernel
theorem dL_loadWords_4 : decode cL_loadWords 4 = .ok (.iload_n 1, 1) := by decide +kernel
theorem dL_loadWords_5 : decode cL_loadWords 5 = .ok (.lload_n 2, 1) := by decide +kernel
theorem dL_loadWords_6 : decode cL_loadWords 6 = .ok (.lload 4, 2) := by decide +kernel
theorem dL_loadWords_8 : decode cL_loadWords 8 = .ok (.lload 6, 2) := by decide +kernel
theorem dL_loadWords_10 : decode cL_loadWords 10 = .ok (.invokevirtual 84, 3) := by decide +kernel
theorem dL_loadWords_13 : decode cL_loadWords 13 = .ok (.i2l, 1) := by decide +kernel
theorem dL_loadWords_14 : decode cL_loadWords 14 = .ok (.lastore, 1) := by decide +kernel
theorem dL_loadWords_15 : decode cL_loadWords 15 = .ok (.goto 7, 3) := by decide +kernel
theorem dL_loadWords_18 : decode cL_loadWords 18 = .ok (.astore 9, 2) := by decide +kernel
theorem dL_loadWords_20 : decode cL_loadWords 20 = .ok (.iconst 1, 1) := by decide +kernel
theorem dL_loadWords_21 : decode cL_loadWords 21 = .ok (.ireturn, 1) := by decide +kernel
theorem dL_loadWords_22 : decode cL_loadWords 22 = .ok (.iconst 0, 1) := by decide +kernel
theorem dL_loadWords_23 : decode cL_loadWords 23 = .ok (.ireturn, 1) := by decide +kernel
set_option maxRecDepth 20000 in
theorem ggL_loadTape_X6_loadTape : GoodIn wsL_loadTape wsX6_loadTape := goodIn_ca (goodIn_ca (goodIn_r _ [7, 8, 9, 10, 11, 12, 13, 6, 14, 15, 16, 17, 18, 19, 20, 21, 22, 23, 24, 25, 26, 27, 28, 29, 30, 31, 32, 33, 34, 35, 36, 37, 38, 39, 40, 41, 42, 43, 44, 45, 46, 47, 48, 49, 50, 51, 52, 53, 54, 55, 56, 57, 58, 59, 60, 61, 62, 63, 64, 65, 66, 67, 68, 69, 70, 71, 72, 73, 74, 75, 76, 77, 78, 79, 80, 81, 82, 83, 84] (by decide +kernel) (by decide +kernel)) (goodIn_sub (fun _ h => List.mem_cons_of_mem _ (List.mem_append_left _ (List.mem_append_right _ h))) (by decide +kernel))) (goodIn_sub (fun _ h => List.mem_cons_of_mem _ (List.mem_append_right _ h)) (by decide +kernel))
set_option maxRecDepth 20000 in
theorem gL_loadTape_X6_loadTape : GoodIn wsL_loadTape (wsV RL 88 RX6 yX6_loadTape wsX6_loadTape) := goodIn_app (goodIn_of _ (by decide +kernel)) ggL_loadTape_X6_loadTape
theorem dL_loadTape_0 : decode cL_loadTape 0 = .ok (.aload_n 2, 1) := by decide +kernel
theorem dL_loadTape_1 : decode cL_loadTape 1 = .ok (.iconst 0, 1) := by decide +kernel
theorem dL_loadTape_2 : decode cL_loadTape 2 = .ok (.aload_n 0, 1) := by decide +kernel
theorem dL_loadTape_3 : decode cL_loadTape 3 = .ok (.iload_n 1, 1) := by decide +kernel
theorem dL_loadTape_4 : decode cL_loadTape 4 = .ok (.invokevirtual 88, 3) := by decide +kernel
theorem dL_loadTape_7 : decode cL_loadTape 7 = .ok (.i2l, 1) := by decide +kernel
theorem dL_loadTape_8 : decode cL_loadTape 8 = .ok (.lastore, 1) := by decide +kernel
theorem dL_loadTape_9 : decode cL_loadTape 9 = .ok (.goto 9, 3) := by decide +kernel
theorem dL_loadTape_12 : decode cL_loadTape 12 = .ok (.astore_n 3, 1) := by decide +kernel
theorem dL_loadTape_13 : decode cL_loadTape 13 = .ok (.iconst 1, 1) := by decide +kernel
theorem dL_loadTape_14 : decode cL_loadTape 14 = .ok (.ireturn, 1) := by decide +kernel
theorem dL_loadTape_15 : decode cL_loadTape 15 = .ok (.astore_n 3, 1) := by decide +kernel
theorem dL_loadTape_16 : decode cL_loadTape 16 = .ok (.iconst 2, 1) := by decide +kernel
theorem dL_loadTape_17 : decode cL_loadTape 17 = .ok (.ireturn, 1) := by decide +kernel
theorem dL_loadTape_18 : decode cL_loadTape 18 = .ok (.iconst 0, 1) := by decide +kernel
theorem dL_loadTape_19 : decode cL_loadTape 19 = .ok (.ireturn, 1) := by decide +kernel
set_option maxRecDepth 20000 in
theorem ggL_wordCount_X6_wordCount : GoodIn wsL_wordCount wsX6_wordCount := goodIn_ca (goodIn_r _ [6, 7, 8, 9, 5, 10, 11, 12, 13, 14, 15, 16, 17, 18, 19, 20, 21, 22, 23, 24, 25, 26, 27, 28, 29, 30, 31, 32, 33, 34, 35, 36, 37, 38, 39, 40, 41, 42, 43, 44, 45, 46, 47, 48, 49, 50, 51, 52, 53, 54, 55] (by decide +kernel) (by decide +kernel)) (goodIn_sub (fun _ h => List.mem_cons_of_mem _ (List.mem_append_right _ h)) (by decide +kernel))
set_option maxRecDepth 20000 in
theorem gL_wordCount_X6_wordCount : GoodIn wsL_wordCount (wsV RL 91 RX6 yX6_wordCount wsX6_wordCount) := goodIn_app (goodIn_of _ (by decide +kernel)) ggL_wordCount_X6_wordCount
theorem dL_wordCount_0 : decode cL_wordCount 0 = .ok (.aload_n 2, 1) := by decide +kernel
theorem dL_wordCount_1 : decode cL_wordCount 1 = .ok (.iconst 0, 1) := by decide +kernel
theorem dL_wordCount_2 : decode cL_wordCount 2 = .ok (.aload_n 0, 1) := by decide +kernel
theorem dL_wordCount_3 : decode cL_wordCount 3 = .ok (.iload_n 1, 1) := by decide +kernel
theorem dL_wordCount_4 : decode cL_wordCount 4 = .ok (.invokevirtual 91, 3) := by decide +kernel
theorem dL_wordCount_7 : decode cL_wordCount 7 = .ok (.i2l, 1) := by decide +kernel
theorem dL_wordCount_8 : decode cL_wordCount 8 = .ok (.lastore, 1) := by decide +kernel
theorem dL_wordCount_9 : decode cL_wordCount 9 = .ok (.goto 6, 3) := by decide +kernel
theorem dL_wordCount_12 : decode cL_wordCount 12 = .ok (.astore_n 3, 1) := by decide +kernel
theorem dL_wordCount_13 : decode cL_wordCount 13 = .ok (.iconst 1, 1) := by decide +kernel
theorem dL_wordCount_14 : decode cL_wordCount 14 = .ok (.ireturn, 1) := by decide +kernel
theorem dL_wordCount_15 : decode cL_wordCount 15 = .ok (.iconst 0, 1) := by decide +kernel
theorem dL_wordCount_16 : decode cL_wordCount 16 = .ok (.ireturn, 1) := by decide +kernel
set_option maxRecDepth 20000 in
theorem ggL_wordAt_X6_wordAt : GoodIn wsL_wordAt wsX6_wordAt := goodIn_ca (goodIn_ca (goodIn_r _ [7, 8, 9, 10, 6, 11, 12, 13, 14, 15, 16, 17, 18, 19, 20, 21, 22, 23, 24, 25, 26, 27, 28, 29, 30, 31, 32, 33, 34, 35, 36, 37, 38, 39, 40, 41, 42, 43, 44, 45, 46, 47, 48, 49, 50, 51, 52, 53, 54, 55, 56, 57, 58, 59, 60, 61, 62, 63, 64, 65] (by decide +kernel) (by decide +kernel)) (goodIn_sub (fun _ h => List.mem_cons_of_mem _ (List.mem_append_left _ (List.mem_append_right _ h))) (by decide +kernel))) (goodIn_sub (fun _ h => List.mem_cons_of_mem _ (List.mem_append_right _ h)) (by decide +kernel))
set_option maxRecDepth 20000 in
theorem gL_wordAt_X6_wordAt : GoodIn wsL_wordAt (wsV RL 94 RX6 yX6_wordAt wsX6_wordAt) := goodIn_app (goodIn_of _ (by decide +kernel)) ggL_wordAt_X6_wordAt
theorem dL_wordAt_0 : decode cL_wordAt 0 = .ok (.aload_n 3, 1) := by decide +kernel
theorem dL_wordAt_1 : decode cL_wordAt 1 = .ok (.iconst 0, 1) := by decide +kernel
theorem dL_wordAt_2 : decode cL_wordAt 2 = .ok (.aload_n 0, 1) := by decide +kernel
theorem dL_wordAt_3 : decode cL_wordAt 3 = .ok (.iload_n 1, 1) := by decide +kernel
theorem dL_wordAt_4 : decode cL_wordAt 4 = .ok (.iload_n 2, 1) := by decide +kernel
theorem dL_wordAt_5 : decode cL_wordAt 5 = .ok (.invokevirtual 94, 3) := by decide +kernel
theorem dL_wordAt_8 : decode cL_wordAt 8 = .ok (.lastore, 1) := by decide +kernel
theorem dL_wordAt_9 : decode cL_wordAt 9 = .ok (.goto 11, 3) := by decide +kernel
theorem dL_wordAt_12 : decode cL_wordAt 12 = .ok (.astore 4, 2) := by decide +kernel
theorem dL_wordAt_14 : decode cL_wordAt 14 = .ok (.iconst 1, 1) := by decide +kernel
theorem dL_wordAt_15 : decode cL_wordAt 15 = .ok (.ireturn, 1) := by decide +kernel
theorem dL_wordAt_16 : decode cL_wordAt 16 = .ok (.astore 4, 2) := by decide +kernel
theorem dL_wordAt_18 : decode cL_wordAt 18 = .ok (.iconst 2, 1) := by decide +kernel
theorem dL_wordAt_19 : decode cL_wordAt 19 = .ok (.ireturn, 1) := by decide +kernel
theorem dL_wordAt_20 : decode cL_wordAt 20 = .ok (.iconst 0, 1) := by decide +kernel
theorem dL_wordAt_21 : decode cL_wordAt 21 = .ok (.ireturn, 1) := by decide +kernel
set_option maxRecDepth 20000 in
theorem ggL_byteCount_X6_byteCount : GoodIn wsL_byteCount wsX6_byteCount := goodIn_ca (goodIn_r _ [6, 7, 8, 9, 5, 10, 11, 12, 13, 14, 15, 16, 17, 18, 19, 20, 21, 22, 23, 24, 25, 26, 27, 28, 29, 30, 31, 32, 33, 34, 35, 36, 37, 38, 39, 40, 41, 42, 43, 44, 45, 46, 47, 48, 49, 50, 51, 52, 53, 54, 55] (by decide +kernel) (by decide +kernel)) (goodIn_sub (fun _ h => List.mem_cons_of_mem _ (List.mem_append_right _ h)) (by decide +kernel))
set_option maxRecDepth 20000 in
theorem gL_byteCount_X6_byteCount : GoodIn wsL_byteCount (wsV RL 98 RX6 yX6_byteCount wsX6_byteCount) := goodIn_app (goodIn_of _ (by decide +kernel)) ggL_byteCount_X6_byteCount
theorem dL_byteCount_0 : decode cL_byteCount 0 = .ok (.aload_n 2, 1) := by decide +kernel
theorem dL_byteCount_1 : decode cL_byteCount 1 = .ok (.iconst 0, 1) := by decide +kernel
theorem dL_byteCount_2 : decode cL_byteCount 2 = .ok (.aload_n 0, 1) := by decide +kernel
theorem dL_byteCount_3 : decode cL_byteCount 3 = .ok (.iload_n 1, 1) := by decide +kernel
theorem dL_byteCount_4 : decode cL_byteCount 4 = .ok (.invokevirtual 98, 3) := by decide +kernel
theorem dL_byteCount_7 : decode cL_byteCount 7 = .ok (.i2l, 1) := by decide +kernel
theorem dL_byteCount_8 : decode cL_byteCount 8 = .ok (.lastore, 1) := by decide +kernel
theorem dL_byteCount_9 : decode cL_byteCount 9 = .ok (.goto 6, 3) := by decide +kernel
theorem dL_byteCount_12 : decode cL_byteCount 12 = .ok (.astore_n 3, 1) := by decide +kernel
theorem dL_byteCount_13 : decode cL_byteCount 13 = .ok (.iconst 1, 1) := by decide +kernel
theorem dL_byteCount_14 : decode cL_byteCount 14 = .ok (.ireturn, 1) := by decide +kernel
theorem dL_byteCount_15 : decode cL_byteCount 15 = .ok (.iconst 0, 1) := by decide +kernel
theorem dL_byteCount_16 : decode cL_byteCount 16 = .ok (.ireturn, 1) := by decide +kernel
set_option maxRecDepth 20000 in
theorem ggL_byteAt_X6_byteAt : GoodIn wsL_byteAt wsX6_byteAt := goodIn_ca (goodIn_ca (goodIn_r _ [7, 8, 9, 10, 11, 6, 12, 13, 14, 15, 16, 17, 18, 19, 20, 21, 22, 23, 24, 25, 26, 27, 28, 29, 30, 31, 32, 33, 34, 35, 36, 37, 38, 39, 40, 41, 42, 43, 44, 45, 46, 47, 48, 49, 50, 51, 52, 53, 54, 55, 56, 57, 58, 59, 60, 61, 62, 63, 64, 65, 66, 67, 68, 69, 70] (by decide +kernel) (by decide +kernel)) (goodIn_sub (fun _ h => List.mem_cons_of_mem _ (List.mem_append_left _ (List.mem_append_right _ h))) (by decide +kernel))) (goodIn_sub (fun _ h => List.mem_cons_of_mem _ (List.mem_append_right _ h)) (by decide +kernel))
set_option maxRecDepth 20000 in
theorem gL_byteAt_X6_byteAt : GoodIn wsL_byteAt (wsV RL 101 RX6 yX6_byteAt wsX6_byteAt) := goodIn_app (goodIn_of _ (by decide +kernel)) ggL_byteAt_X6_byteAt
theorem dL_byteAt_0 : decode cL_byteAt 0 = .ok (.aload_n 3, 1) := by decide +kernel
theorem dL_byteAt_1 : decode cL_byteAt 1 = .ok (.iconst 0, 1) := by decide +kernel
theorem dL_byteAt_2 : decode cL_byteAt 2 = .ok (.aload_n 0, 1) := by decide +kernel
theorem dL_byteAt_3 : decode cL_byteAt 3 = .ok (.iload_n 1, 1) := by decide +kernel
theorem dL_byteAt_4 : decode cL_byteAt 4 = .ok (.iload_n 2, 1) := by decide +kernel
theorem dL_byteAt_5 : decode cL_byteAt 5 = .ok (.invokevirtual 101, 3) := by decide +kernel
theorem dL_byteAt_8 : decode cL_byteAt 8 = .ok (.i2l, 1) := by decide +kernel
theorem dL_byteAt_9 : decode cL_byteAt 9 = .ok (.lastore, 1) := by decide +kernel
theorem dL_byteAt_10 : decode cL_byteAt 10 = .ok (.goto 11, 3) := by decide +kernel
theorem dL_byteAt_13 : decode cL_byteAt 13 = .ok (.astore 4, 2) := by decide +kernel
theorem dL_byteAt_15 : decode cL_byteAt 15 = .ok (.iconst 1, 1) := by decide +kernel
theorem dL_byteAt_16 : decode cL_byteAt 16 = .ok (.ireturn, 1) := by decide +kernel
theorem dL_byteAt_17 : decode cL_byteAt 17 = .ok (.astore 4, 2) := by decide +kernel
theorem dL_byteAt_19 : decode cL_byteAt 19 = .ok (.iconst 2, 1) := by decide +kernel
theorem dL_byteAt_20 : decode cL_byteAt 20 = .ok (.ireturn, 1) := by decide +kernel
theorem dL_byteAt_21 : decode cL_byteAt 21 = .ok (.iconst 0, 1) := by decide +kernel
theorem dL_byteAt_22 : decode cL_byteAt 22 = .ok (.ireturn, 1) := by decide +kernel
set_option maxRecDepth 20000 in
theorem ggL_fingerprint_X6_fingerprint : GoodIn wsL_fingerprint wsX6_fingerprint := goodIn_ca (goodIn_r _ [6, 7, 8, 9, 5, 10, 11, 12, 13, 14, 15, 16, 17, 18, 19, 20, 21, 22, 23, 24, 25, 26, 27, 28] (by decide +kernel) (by decide +kernel)) (goodIn_sub (fun _ h => List.mem_cons_of_mem _ (List.mem_append_right _ h)) (by decide +kernel))
set_option maxRecDepth 20000 in
theorem gL_fingerprint_X6_fingerprint : GoodIn wsL_fingerprint (wsV RL 104 RX6 yX6_fingerprint wsX6_fingerprint) := goodIn_app (goodIn_of _ (by decide +kernel)) ggL_fingerprint_X6_fingerprint
theorem dL_fingerprint_0 : decode cL_fingerprint 0 = .ok (.aload_n 2, 1) := by decide +kernel
theorem dL_fingerprint_1 : decode cL_fingerprint 1 = .ok (.iconst 0, 1) := by decide +kernel
theorem dL_fingerprint_2 : decode cL_fingerprint 2 = .ok (.aload_n 0, 1) := by decide +kernel
theorem dL_fingerprint_3 : decode cL_fingerprint 3 = .ok (.iload_n 1, 1) := by decide +kernel
theorem dL_fingerprint_4 : decode cL_fingerprint 4 = .ok (.invokevirtual 104, 3) := by decide +kernel
theorem dL_fingerprint_7 : decode cL_fingerprint 7 = .ok (.i2l, 1) := by decide +kernel
theorem dL_fingerprint_8 : decode cL_fingerprint 8 = .ok (.lastore, 1) := by decide +kernel
theorem dL_fingerprint_9 : decode cL_fingerprint 9 = .ok (.goto 6, 3) := by decide +kernel
theorem dL_fingerprint_12 : decode cL_fingerprint 12 = .ok (.astore_n 3, 1) := by decide +kernel
theorem dL_fingerprint_13 : decode cL_fingerprint 13 = .ok (.iconst 1, 1) := by decide +kernel
theorem dL_fingerprint_14 : decode cL_fingerprint 14 = .ok (.ireturn, 1) := by decide +kernel
theorem dL_fingerprint_15 : decode cL_fingerprint 15 = .ok (.iconst 0, 1) := by decide +kernel
theorem dL_fingerprint_16 : decode cL_fingerprint 16 = .ok (.ireturn, 1) := by decide +kernel
set_option maxRecDepth 20000 in
theorem ggL_has_X6_has : GoodIn wsL_has wsX6_has := goodIn_ca (goodIn_ca (goodIn_r _ [7, 8, 9, 10, 6, 11, 12, 13, 14, 15, 16, 17, 18, 19, 20, 21, 22, 23, 24, 25, 26, 27, 28, 29, 30, 31, 32, 33, 34, 35, 36, 37, 38, 39] (by decide +kernel) (by decide +kernel)) (goodIn_sub (fun _ h => List.mem_cons_of_mem _ (List.mem_append_left _ (List.mem_append_right _ h))) (by decide +kernel))) (goodIn_sub (fun _ h => List.mem_cons_of_mem _ (List.mem_append_right _ h)) (by decide +kernel))
set_option maxRecDepth 20000 in
theorem gL_has_X6_has : GoodIn wsL_has (wsV RL 107 RX6 yX6_has wsX6_has) := goodIn_app (goodIn_of _ (by decide +kernel)) ggL_has_X6_has
theorem dL_has_0 : decode cL_has 0 = .ok (.aload_n 3, 1) := by decide +kernel
theorem dL_has_1 : decode cL_has 1 = .ok (.iconst 0, 1) := by decide +kernel
theorem dL_has_2 : decode cL_has 2 = .ok (.aload_n 0, 1) := by decide +kernel
theorem dL_has_3 : decode cL_has 3 = .ok (.iload_n 1, 1) := by decide +kernel
theorem dL_has_4 : decode cL_has 4 = .ok (.iload_n 2, 1) := by decide +kernel
theorem dL_has_5 : decode cL_has 5 = .ok (.invokevirtual 107, 3) := by decide +kernel
theorem dL_has_8 : decode cL_has 8 = .ok (.ifCond .eq 7, 3) := by decide +kernel
theorem dL_has_11 : decode cL_has 11 = .ok (.lconst 1, 1) := by decide +kernel
theorem dL_has_12 : decode cL_has 12 = .ok (.goto 4, 3) := by decide +kernel
theorem dL_has_15 : decode cL_has 15 = .ok (.lconst 0, 1) := by decide +kernel
theorem dL_has_16 : decode cL_has 16 = .ok (.lastore, 1) := by decide +kernel
theorem dL_has_17 : decode cL_has 17 = .ok (.goto 11, 3) := by decide +kernel
theorem dL_has_20 : decode cL_has 20 = .ok (.astore 4, 2) := by decide +kernel
theorem dL_has_22 : decode cL_has 22 = .ok (.iconst 1, 1) := by decide +kernel
theorem dL_has_23 : decode cL_has 23 = .ok (.ireturn, 1) := by decide +kernel
theorem dL_has_24 : decode cL_has 24 = .ok (.astore 4, 2) := by decide +kernel
theorem dL_has_26 : decode cL_has 26 = .ok (.iconst 2, 1) := by decide +kernel
theorem dL_has_27 : decode cL_has 27 = .ok (.ireturn, 1) := by decide +kernel
theorem dL_has_28 : decode cL_has 28 = .ok (.iconst 0, 1) := by decide +kernel
theorem dL_has_29 : decode cL_has 29 = .ok (.ireturn, 1) := by decide +kernel
set_option maxRecDepth 20000 in
theorem ggL_count_X6_count : GoodIn wsL_count wsX6_count := goodIn_ca (goodIn_r _ [6, 7, 8, 9, 5, 10, 11, 12, 13, 14, 15, 16, 17, 18, 19, 20, 21, 22, 23, 24, 25, 26, 27, 28, 29, 30, 31, 32, 33, 34, 35, 36, 37, 38, 39, 40, 41, 42, 43, 44, 45, 46, 47, 48, 49] (by decide +kernel) (by decide +kernel)) (goodIn_sub (fun _ h => List.mem_cons_of_mem _ (List.mem_append_right _ h)) (by decide +kernel))
set_option maxRecDepth 20000 in
theorem gL_count_X6_count : GoodIn wsL_count (wsV RL 110 RX6 yX6_count wsX6_count) := goodIn_app (goodIn_of _ (by decide +kernel)) ggL_count_X6_count
theorem dL_count_0 : decode cL_count 0 = .ok (.aload_n 2, 1) := by decide +kernel
theorem dL_count_1 : decode cL_count 1 = .ok (.iconst 0, 1) := by decide +kernel
theorem dL_count_2 : decode cL_count 2 = .ok (.aload_n 0, 1) := by decide +kernel
theorem dL_count_3 : decode cL_count 3 = .ok (.iload_n 1, 1) := by decide +kernel
theorem dL_count_4 : decode cL_count 4 = .ok (.invokevirtual 110, 3) := by decide +kernel
theorem dL_count_7 : decode cL_count 7 = .ok (.i2l, 1) := by decide +kernel
theorem dL_count_8 : decode cL_count 8 = .ok (.lastore, 1) := by decide +kernel
theorem dL_count_9 : decode cL_count 9 = .ok (.goto 6, 3) := by decide +kernel
theorem dL_count_12 : decode cL_count 12 = .ok (.astore_n 3, 1) := by decide +kernel
theorem dL_count_13 : decode cL_count 13 = .ok (.iconst 1, 1) := by decide +kernel
theorem dL_count_14 : decode cL_count 14 = .ok (.ireturn, 1) := by decide +kernel
theorem dL_count_15 : decode cL_count 15 = .ok (.iconst 0, 1) := by decide +kernel
theorem dL_count_16 : decode cL_count 16 = .ok (.ireturn, 1) := by decide +kernel
set_option maxRecDepth 20000 in
theorem ggL_countIn_X6_countIn : GoodIn wsL_countIn wsX6_countIn := goodIn_ca (goodIn_ca (goodIn_r _ [7, 8, 9, 10, 6, 11, 12, 13, 14, 15, 16, 17, 18, 19, 20, 21, 22, 23, 24, 25, 26, 27, 28, 29, 30, 31, 32, 33, 34, 35, 36, 37, 38, 39, 40, 41, 42, 43, 44, 45, 46, 47, 48, 49, 50, 51, 52, 53] (by decide +kernel) (by decide +kernel)) (goodIn_sub (fun _ h => List.mem_cons_of_mem _ (List.mem_append_left _ (List.mem_append_right _ h))) (by decide +kernel))) (goodIn_sub (fun _ h => List.mem_cons_of_mem _ (List.mem_append_right _ h)) (by decide +kernel))
set_option maxRecDepth 20000 in
theorem gL_countIn_X6_countIn : GoodIn wsL_countIn (wsV RL 113 RX6 yX6_countIn wsX6_countIn) := goodIn_app (goodIn_of _ (by decide +kernel)) ggL_countIn_X6_countIn
theorem dL_countIn_0 : decode cL_countIn 0 = .ok (.aload 4, 2) := by decide +kernel
theorem dL_countIn_2 : decode cL_countIn 2 = .ok (.iconst 0, 1) := by decide +kernel
theorem dL_countIn_3 : decode cL_countIn 3 = .ok (.aload_n 0, 1) := by decide +kernel
theorem dL_countIn_4 : decode cL_countIn 4 = .ok (.iload_n 1, 1) := by decide +kernel
theorem dL_countIn_5 : decode cL_countIn 5 = .ok (.iload_n 2, 1) := by decide +kernel
theorem dL_countIn_6 : decode cL_countIn 6 = .ok (.iload_n 3, 1) := by decide +kernel
theorem dL_countIn_7 : decode cL_countIn 7 = .ok (.invokevirtual 113, 3) := by decide +kernel
theorem dL_countIn_10 : decode cL_countIn 10 = .ok (.i2l, 1) := by decide +kernel
theorem dL_countIn_11 : decode cL_countIn 11 = .ok (.lastore, 1) := by decide +kernel
theorem dL_countIn_12 : decode cL_countIn 12 = .ok (.goto 11, 3) := by decide +kernel
theorem dL_countIn_15 : decode cL_countIn 15 = .ok (.astore 5, 2) := by decide +kernel
theorem dL_countIn_17 : decode cL_countIn 17 = .ok (.iconst 1, 1) := by decide +kernel
theorem dL_countIn_18 : decode cL_countIn 18 = .ok (.ireturn, 1) := by decide +kernel
theorem dL_countIn_19 : decode cL_countIn 19 = .ok (.astore 5, 2) := by decide +kernel
theorem dL_countIn_21 : decode cL_countIn 21 = .ok (.iconst 2, 1) := by decide +kernel
theorem dL_countIn_22 : decode cL_countIn 22 = .ok (.ireturn, 1) := by decide +kernel
theorem dL_countIn_23 : decode cL_countIn 23 = .ok (.iconst 0, 1) := by decide +kernel
theorem dL_countIn_24 : decode cL_countIn 24 = .ok (.ireturn, 1) := by decide +kernel
set_option maxRecDepth 20000 in
theorem ggL_length_X6_length : GoodIn wsL_length wsX6_length := goodIn_ca (goodIn_r _ [6, 7, 8, 9, 5, 10, 11, 12, 13, 14, 15, 16, 17, 18, 19, 20, 21, 22, 23, 24, 25, 26, 27, 28, 29, 30, 31, 32, 33, 34, 35, 36, 37, 38, 39, 40, 41, 42, 43, 44, 45, 46, 47, 48, 49, 50, 51] (by decide +kernel) (by decide +kernel)) (goodIn_sub (fun _ h => List.mem_cons_of_mem _ (List.mem_append_right _ h)) (by decide +kernel))
set_option maxRecDepth 20000 in
theorem gL_length_X6_length : GoodIn wsL_length (wsV RL 116 RX6 yX6_length wsX6_length) := goodIn_app (goodIn_of _ (by decide +kernel)) ggL_length_X6_length
theorem dL_length_0 : decode cL_length 0 = .ok (.aload_n 2, 1) := by decide +kernel
theorem dL_length_1 : decode cL_length 1 = .ok (.iconst 0, 1) := by decide +kernel
theorem dL_length_2 : decode cL_length 2 = .ok (.aload_n 0, 1) := by decide +kernel
theorem dL_length_3 : decode cL_length 3 = .ok (.iload_n 1, 1) := by decide +kernel
theorem dL_length_4 : decode cL_length 4 = .ok (.invokevirtual 116, 3) := by decide +kernel
theorem dL_length_7 : decode cL_length 7 = .ok (.i2l, 1) := by decide +kernel
theorem dL_length_8 : decode cL_length 8 = .ok (.lastore, 1) := by decide +kernel
theorem dL_length_9 : decode cL_length 9 = .ok (.goto 6, 3) := by decide +kernel
theorem dL_length_12 : decode cL_length 12 = .ok (.astore_n 3, 1) := by decide +kernel
theorem dL_length_13 : decode cL_length 13 = .ok (.iconst 1, 1) := by decide +kernel
theorem dL_length_14 : decode cL_length 14 = .ok (.ireturn, 1) := by decide +kernel
theorem dL_length_15 : decode cL_length 15 = .ok (.iconst 0, 1) := by decide +kernel
theorem dL_length_16 : decode cL_length 16 = .ok (.ireturn, 1) := by decide +kernel
set_option maxRecDepth 20000 in
theorem ggL_isEmpty_X6_isEmpty : GoodIn wsL_isEmpty wsX6_isEmpty := goodIn_ca (goodIn_r _ [6, 7, 8, 9, 5, 10, 11, 12, 13, 14, 15, 16, 17, 18, 19, 20, 21, 22, 23, 24, 25, 26, 27, 28, 29, 30, 31, 32, 33, 34, 35, 36, 37, 38, 39, 40, 41, 42, 43, 44, 45, 46, 47, 48, 49] (by decide +kernel) (by decide +kernel)) (goodIn_sub (fun _ h => List.mem_cons_of_mem _ (List.mem_append_right _ h)) (by decide +kernel))
set_option maxRecDepth 20000 in
theorem gL_isEmpty_X6_isEmpty : GoodIn wsL_isEmpty (wsV RL 119 RX6 yX6_isEmpty wsX6_isEmpty) := goodIn_app (goodIn_of _ (by decide +kernel)) ggL_isEmpty_X6_isEmpty
theorem dL_isEmpty_0 : decode cL_isEmpty 0 = .ok (.aload_n 2, 1) := by decide +kernel
theorem dL_isEmpty_1 : decode cL_isEmpty 1 = .ok (.iconst 0, 1) := by decide +kernel
theorem dL_isEmpty_2 : decode cL_isEmpty 2 = .ok (.aload_n 0, 1) := by decide +kernel
theorem dL_isEmpty_3 : decode cL_isEmpty 3 = .ok (.iload_n 1, 1) := by decide +kernel
theorem dL_isEmpty_4 : decode cL_isEmpty 4 = .ok (.invokevirtual 119, 3) := by decide +kernel
theorem dL_isEmpty_7 : decode cL_isEmpty 7 = .ok (.ifCond .eq 7, 3) := by decide +kernel
theorem dL_isEmpty_10 : decode cL_isEmpty 10 = .ok (.lconst 1, 1) := by decide +kernel
theorem dL_isEmpty_11 : decode cL_isEmpty 11 = .ok (.goto 4, 3) := by decide +kernel
theorem dL_isEmpty_14 : decode cL_isEmpty 14 = .ok (.lconst 0, 1) := by decide +kernel
theorem dL_isEmpty_15 : decode cL_isEmpty 15 = .ok (.lastore, 1) := by decide +kernel
theorem dL_isEmpty_16 : decode cL_isEmpty 16 = .ok (.goto 6, 3) := by decide +kernel
theorem dL_isEmpty_19 : decode cL_isEmpty 19 = .ok (.astore_n 3, 1) := by decide +kernel
theorem dL_isEmpty_20 : decode cL_isEmpty 20 = .ok (.iconst 1, 1) := by decide +kernel
theorem dL_isEmpty_21 : decode cL_isEmpty 21 = .ok (.ireturn, 1) := by decide +kernel
theorem dL_isEmpty_22 : decode cL_isEmpty 22 = .ok (.iconst 0, 1) := by decide +kernel
theorem dL_isEmpty_23 : decode cL_isEmpty 23 = .ok (.ireturn, 1) := by decide +kernel
set_option maxRecDepth 20000 in
theorem ggL_isRoomy_X6_isRoomy : GoodIn wsL_isRoomy wsX6_isRoomy := goodIn_ca (goodIn_r _ [6, 7, 8, 9, 5, 10, 11, 12, 13, 14, 15, 16, 17, 18, 19, 20, 21, 22, 23, 24, 25, 26, 27, 28, 29, 30, 31, 32, 33, 34, 35, 36, 37, 38, 39, 40, 41, 42, 43, 44, 45, 46, 47, 48, 49, 50, 51] (by decide +kernel) (by decide +kernel)) (goodIn_sub (fun _ h => List.mem_cons_of_mem _ (List.mem_append_right _ h)) (by decide +kernel))
set_option maxRecDepth 20000 in
theorem gL_isRoomy_X6_isRoomy : GoodIn wsL_isRoomy (wsV RL 123 RX6 yX6_isRoomy wsX6_isRoomy) := goodIn_app (goodIn_of _ (by decide +kernel)) ggL_isRoomy_X6_isRoomy
theorem dL_isRoomy_0 : decode cL_isRoomy 0 = .ok (.aload_n 2, 1) := by decide +kernel
theorem dL_isRoomy_1 : decode cL_isRoomy 1 = .ok (.iconst 0, 1) := by decide +kernel
theorem dL_isRoomy_2 : decode cL_isRoomy 2 = .ok (.aload_n 0, 1) := by decide +kernel
theorem dL_isRoomy_3 : decode cL_isRoomy 3 = .ok (.iload_n 1, 1) := by decide +kernel
theorem dL_isRoomy_4 : decode cL_isRoomy 4 = .ok (.invokevirtual 123, 3) := by decide +kernel
theorem dL_isRoomy_7 : decode cL_isRoomy 7 = .ok (.ifCond .eq 7, 3) := by decide +kernel
theorem dL_isRoomy_10 : decode cL_isRoomy 10 = .ok (.lconst 1, 1) := by decide +kernel
theorem dL_isRoomy_11 : decode cL_isRoomy 11 = .ok (.goto 4, 3) := by decide +kernel
theorem dL_isRoomy_14 : decode cL_isRoomy 14 = .ok (.lconst 0, 1) := by decide +kernel
theorem dL_isRoomy_15 : decode cL_isRoomy 15 = .ok (.lastore, 1) := by decide +kernel
theorem dL_isRoomy_16 : decode cL_isRoomy 16 = .ok (.goto 6, 3) := by decide +kernel
theorem dL_isRoomy_19 : decode cL_isRoomy 19 = .ok (.astore_n 3, 1) := by decide +kernel
theorem dL_isRoomy_20 : decode cL_isRoomy 20 = .ok (.iconst 1, 1) := by decide +kernel
theorem dL_isRoomy_21 : decode cL_isRoomy 21 = .ok (.ireturn, 1) := by decide +kernel
theorem dL_isRoomy_22 : decode cL_isRoomy 22 = .ok (.iconst 0, 1) := by decide +kernel
theorem dL_isRoomy_23 : decode cL_isRoomy 23 = .ok (.ireturn, 1) := by decide +kernel
set_option maxRecDepth 20000 in
theorem ggL_next_X6_next : GoodIn wsL_next wsX6_next := goodIn_ca (goodIn_ca (goodIn_r _ [7, 8, 9, 10, 6, 11, 12, 13, 14, 15, 16, 17, 18, 19, 20, 21, 22, 23, 24, 25, 26, 27, 28, 29, 30, 31, 32, 33, 34, 35, 36, 37, 38, 39, 40, 41, 42, 43, 44, 45, 46, 47, 48, 49, 50, 51, 52, 53, 54, 55] (by decide +kernel) (by decide +kernel)) (goodIn_sub (fun _ h => List.mem_cons_of_mem _ (List.mem_append_left _ (List.mem_append_right _ h))) (by decide +kernel))) (goodIn_sub (fun _ h => List.mem_cons_of_mem _ (List.mem_append_right _ h)) (by decide +kernel))
set_option maxRecDepth 20000 in
theorem gL_next_X6_next : GoodIn wsL_next (wsV RL 126 RX6 yX6_next wsX6_next) := goodIn_app (goodIn_of _ (by decide +kernel)) ggL_next_X6_next
theorem dL_next_0 : decode cL_next 0 = .ok (.aload_n 3, 1) := by decide +kernel
theorem dL_next_1 : decode cL_next 1 = .ok (.iconst 0, 1) := by decide +kernel
theorem dL_next_2 : decode cL_next 2 = .ok (.aload_n 0, 1) := by decide +kernel
theorem dL_next_3 : decode cL_next 3 = .ok (.iload_n 1, 1) := by decide +kernel
theorem dL_next_4 : decode cL_next 4 = .ok (.iload_n 2, 1) := by decide +kernel
theorem dL_next_5 : decode cL_next 5 = .ok (.invokevirtual 126, 3) := by decide +kernel
theorem dL_next_8 : decode cL_next 8 = .ok (.i2l, 1) := by decide +kernel
theorem dL_next_9 : decode cL_next 9 = .ok (.lastore, 1) := by decide +kernel
theorem dL_next_10 : decode cL_next 10 = .ok (.goto 11, 3) := by decide +kernel
theorem dL_next_13 : decode cL_next 13 = .ok (.astore 4, 2) := by decide +kernel
theorem dL_next_15 : decode cL_next 15 = .ok (.iconst 1, 1) := by decide +kernel
theorem dL_next_16 : decode cL_next 16 = .ok (.ireturn, 1) := by decide +kernel
theorem dL_next_17 : decode cL_next 17 = .ok (.astore 4, 2) := by decide +kernel
theorem dL_next_19 : decode cL_next 19 = .ok (.iconst 2, 1) := by decide +kernel
theorem dL_next_20 : decode cL_next 20 = .ok (.ireturn, 1) := by decide +kernel
theorem dL_next_21 : decode cL_next 21 = .ok (.iconst 0, 1) := by decide +kernel
theorem dL_next_22 : decode cL_next 22 = .ok (.ireturn, 1) := by decide +kernel
set_option maxRecDepth 20000 in
theorem ggL_nextMissing_X6_nextMissing : GoodIn wsL_nextMissing wsX6_nextMissing := goodIn_ca (goodIn_ca (goodIn_r _ [7, 8, 9, 10, 6, 11, 12, 13, 14, 15, 16, 17, 18, 19, 20, 21, 22, 23, 24, 25, 26, 27, 28, 29, 30, 31, 32, 33, 34, 35, 36, 37, 38, 39, 40, 41, 42, 43, 44, 45, 46, 47, 48, 49, 50, 51, 52, 53, 54, 55] (by decide +kernel) (by decide +kernel)) (goodIn_sub (fun _ h => List.mem_cons_of_mem _ (List.mem_append_left _ (List.mem_append_right _ h))) (by decide +kernel))) (goodIn_sub (fun _ h => List.mem_cons_of_mem _ (List.mem_append_right _ h)) (by decide +kernel))
set_option maxRecDepth 20000 in
theorem gL_nextMissing_X6_nextMissing : GoodIn wsL_nextMissing (wsV RL 129 RX6 yX6_nextMissing wsX6_nextMissing) := goodIn_app (goodIn_of _ (by decide +kernel)) ggL_nextMissing_X6_nextMissing
theorem dL_nextMissing_0 : decode cL_nextMissing 0 = .ok (.aload_n 3, 1) := by decide +kernel
theorem dL_nextMissing_1 : decode cL_nextMissing 1 = .ok (.iconst 0, 1) := by decide +kernel
theorem dL_nextMissing_2 : decode cL_nextMissing 2 = .ok (.aload_n 0, 1) := by decide +kernel
theorem dL_nextMissing_3 : decode cL_nextMissing 3 = .ok (.iload_n 1, 1) := by decide +kernel
theorem dL_nextMissing_4 : decode cL_nextMissing 4 = .ok (.iload_n 2, 1) := by decide +kernel
theorem dL_nextMissing_5 : decode cL_nextMissing 5 = .ok (.invokevirtual 129, 3) := by decide +kernel
theorem dL_nextMissing_8 : decode cL_nextMissing 8 = .ok (.i2l, 1) := by decide +kernel
theorem dL_nextMissing_9 : decode cL_nextMissing 9 = .ok (.lastore, 1) := by decide +kernel
theorem dL_nextMissing_10 : decode cL_nextMissing 10 = .ok (.goto 11, 3) := by decide +kernel
theorem dL_nextMissing_13 : decode cL_nextMissing 13 = .ok (.astore 4, 2) := by decide +kernel
theorem dL_nextMissing_15 : decode cL_nextMissing 15 = .ok (.iconst 1, 1) := by decide +kernel
theorem dL_nextMissing_16 : decode cL_nextMissing 16 = .ok (.ireturn, 1) := by decide +kernel
theorem dL_nextMissing_17 : decode cL_nextMissing 17 = .ok (.astore 4, 2) := by decide +kernel
theorem dL_nextMissing_19 : decode cL_nextMissing 19 = .ok (.iconst 2, 1) := by decide +kernel
theorem dL_nextMissing_20 : decode cL_nextMissing 20 = .ok (.ireturn, 1) := by decide +kernel
theorem dL_nextMissing_21 : decode cL_nextMissing 21 = .ok (.iconst 0, 1) := by decide +kernel
theorem dL_nextMissing_22 : decode cL_nextMissing 22 = .ok (.ireturn, 1) := by decide +kernel
set_option maxRecDepth 20000 in
theorem ggL_previous_X6_previous : GoodIn wsL_previous wsX6_previous := goodIn_ca (goodIn_ca (goodIn_r _ [7, 8, 9, 10, 6, 11, 12, 13, 14, 15, 16, 17, 18, 19, 20, 21, 22, 23, 24, 25, 26, 27, 28, 29, 30, 31, 32, 33, 34, 35, 36, 37, 38, 39, 40, 41, 42, 43, 44, 45, 46, 47, 48, 49, 50, 51, 52, 53, 54, 55] (by decide +kernel) (by decide +kernel)) (goodIn_sub (fun _ h => List.mem_cons_of_mem _ (List.mem_append_left _ (List.mem_append_right _ h))) (by decide +kernel))) (goodIn_sub (fun _ h => List.mem_cons_of_mem _ (List.mem_append_right _ h)) (by decide +kernel))
set_option maxRecDepth 20000 in
theorem gL_previous_X6_previous : GoodIn wsL_previous (wsV RL 132 RX6 yX6_previous wsX6_previous) := goodIn_app (goodIn_of _ (by decide +kernel)) ggL_previous_X6_previous
theorem dL_previous_0 : decode cL_previous 0 = .ok (.aload_n 3, 1) := by decide +kernel
theorem dL_previous_1 : decode cL_previous 1 = .ok (.iconst 0, 1) := by decide +kernel
theorem dL_previous_2 : decode cL_previous 2 = .ok (.aload_n 0, 1) := by decide +kernel
theorem dL_previous_3 : decode cL_previous 3 = .ok (.iload_n 1, 1) := by decide +kernel
theorem dL_previous_4 : decode cL_previous 4 = .ok (.iload_n 2, 1) := by decide +kernel
theorem dL_previous_5 : decode cL_previous 5 = .ok (.invokevirtual 132, 3) := by decide +kernel
theorem dL_previous_8 : decode cL_previous 8 = .ok (.i2l, 1) := by decide +kernel
theorem dL_previous_9 : decode cL_previous 9 = .ok (.lastore, 1) := by decide +kernel
theorem dL_previous_10 : decode cL_previous 10 = .ok (.goto 11, 3) := by decide +kernel
theorem dL_previous_13 : decode cL_previous 13 = .ok (.astore 4, 2) := by decide +kernel
theorem dL_previous_15 : decode cL_previous 15 = .ok (.iconst 1, 1) := by decide +kernel
theorem dL_previous_16 : decode cL_previous 16 = .ok (.ireturn, 1) := by decide +kernel
theorem dL_previous_17 : decode cL_previous 17 = .ok (.astore 4, 2) := by decide +kernel
theorem dL_previous_19 : decode cL_previous 19 = .ok (.iconst 2, 1) := by decide +kernel
theorem dL_previous_20 : decode cL_previous 20 = .ok (.ireturn, 1) := by decide +kernel
theorem dL_previous_21 : decode cL_previous 21 = .ok (.iconst 0, 1) := by decide +kernel
theorem dL_previous_22 : decode cL_previous 22 = .ok (.ireturn, 1) := by decide +kernel
set_option maxRecDepth 20000 in
theorem ggL_previousMissing_X6_previousMissing : GoodIn wsL_previousMissing wsX6_previousMissing := goodIn_ca (goodIn_ca (goodIn_r _ [7, 8, 9, 10, 6, 11, 12, 13, 14, 15, 16, 17, 18, 19, 20, 21, 22, 23, 24, 25, 26, 27, 28, 29, 30, 31, 32, 33, 34, 35, 36, 37, 38, 39, 40, 41, 42, 43, 44, 45, 46, 47, 48, 49, 50, 51, 52, 53, 54, 55] (by decide +kernel) (by decide +kernel)) (goodIn_sub (fun _ h => List.mem_cons_of_mem _ (List.mem_append_left _ (List.mem_append_right _ h))) (by decide +kernel))) (goodIn_sub (fun _ h => List.mem_cons_of_mem _ (List.mem_append_right _ h)) (by decide +kernel))
set_option maxRecDepth 20000 in
theorem gL_previousMissing_X6_previousMissing : GoodIn wsL_previousMissing (wsV RL 135 RX6 yX6_previousMissing wsX6_previousMissing) := goodIn_app (goodIn_of _ (by decide +kernel)) ggL_previousMissing_X6_previousMissing
theorem dL_previousMissing_0 : decode cL_previousMissing 0 = .ok (.aload_n 3, 1) := by decide +kernel
theorem dL_previousMissing_1 : decode cL_previousMissing 1 = .ok (.iconst 0, 1) := by decide +kernel
theorem dL_previousMissing_2 : decode cL_previousMissing 2 = .ok (.aload_n 0, 1) := by decide +kernel
theorem dL_previousMissing_3 : decode cL_previousMissing 3 = .ok (.iload_n 1, 1) := by decide +kernel
theorem dL_previousMissing_4 : decode cL_previousMissing 4 = .ok (.iload_n 2, 1) := by decide +kernel
theorem dL_previousMissing_5 : decode cL_previousMissing 5 = .ok (.invokevirtual 135, 3) := by decide +kernel
theorem dL_previousMissing_8 : decode cL_previousMissing 8 = .ok (.i2l, 1) := by decide +kernel
theorem dL_previousMissing_9 : decode cL_previousMissing 9 = .ok (.lastore, 1) := by decide +kernel
theorem dL_previousMissing_10 : decode cL_previousMissing 10 = .ok (.goto 11, 3) := by decide +kernel
theorem dL_previousMissing_13 : decode cL_previousMissing 13 = .ok (.astore 4, 2) := by decide +kernel
theorem dL_previousMissing_15 : decode cL_previousMissing 15 = .ok (.iconst 1, 1) := by decide +kernel
theorem dL_previousMissing_16 : decode cL_previousMissing 16 = .ok (.ireturn, 1) := by decide +kernel
theorem dL_previousMissing_17 : decode cL_previousMissing 17 = .ok (.astore 4, 2) := by decide +kernel
theorem dL_previousMissing_19 : decode cL_previousMissing 19 = .ok (.iconst 2, 1) := by decide +kernel
theorem dL_previousMissing_20 : decode cL_previousMissing 20 = .ok (.ireturn, 1) := by decide +kernel
theorem dL_previousMissing_21 : decode cL_previousMissing 21 = .ok (.iconst 0, 1) := by decide +kernel
theorem dL_previousMissing_22 : decode cL_previousMissing 22 = .ok (.ireturn, 1) := by decide +kernel
set_option maxRecDepth 20000 in
theorem ggL_memberAt_X6_memberAt : GoodIn wsL_memberAt wsX6_memberAt := goodIn_ca (goodIn_r _ [6, 7, 8, 9, 5, 10, 11, 12, 13, 14, 15, 16, 17, 18, 19, 20, 21, 22, 23, 24, 25, 26, 27, 28, 29, 30, 31, 32, 33, 34, 35, 36, 37, 38, 39, 40, 41, 42, 43, 44, 45, 46, 47, 48, 49, 50, 51, 52, 53, 54, 55, 56, 57, 58, 59, 60, 61, 62, 63] (by decide +kernel) (by decide +kernel)) (goodIn_sub (fun _ h => List.mem_cons_of_mem _ (List.mem_append_right _ h)) (by decide +kernel))
set_option maxRecDepth 20000 in
theorem gL_memberAt_X6_memberAt : GoodIn wsL_memberAt (wsV RL 138 RX6 yX6_memberAt wsX6_memberAt) := goodIn_app (goodIn_of _ (by decide +kernel)) ggL_memberAt_X6_memberAt
theorem dL_memberAt_0 : decode cL_memberAt 0 = .ok (.aload_n 3, 1) := by decide +kernel
theorem dL_memberAt_1 : decode cL_memberAt 1 = .ok (.iconst 0, 1) := by decide +kernel
theorem dL_memberAt_2 : decode cL_memberAt 2 = .ok (.aload_n 0, 1) := by decide +kernel
theorem dL_memberAt_3 : decode cL_memberAt 3 = .ok (.iload_n 1, 1) := by decide +kernel
theorem dL_memberAt_4 : decode cL_memberAt 4 = .ok (.iload_n 2, 1) := by decide +kernel
theorem dL_memberAt_5 : decode cL_memberAt 5 = .ok (.invokevirtual 138, 3) := by decide +kernel
theorem dL_memberAt_8 : decode cL_memberAt 8 = .ok (.i2l, 1) := by decide +kernel
theorem dL_memberAt_9 : decode cL_memberAt 9 = .ok (.lastore, 1) := by decide +kernel
theorem dL_memberAt_10 : decode cL_memberAt 10 = .ok (.goto 7, 3) := by decide +kernel
theorem dL_memberAt_13 : decode cL_memberAt 13 = .ok (.astore 4, 2) := by decide +kernel
theorem dL_memberAt_15 : decode cL_memberAt 15 = .ok (.iconst 1, 1) := by decide +kernel
theorem dL_memberAt_16 : decode cL_memberAt 16 = .ok (.ireturn, 1) := by decide +kernel
theorem dL_memberAt_17 : decode cL_memberAt 17 = .ok (.iconst 0, 1) := by decide +kernel
theorem dL_memberAt_18 : decode cL_memberAt 18 = .ok (.ireturn, 1) := by decide +kernel
set_option maxRecDepth 20000 in
theorem ggL_sum_X6_sum : GoodIn wsL_sum wsX6_sum := goodIn_ca (goodIn_r _ [6, 7, 8, 9, 5, 10, 11, 12, 13, 14, 15, 16, 17, 18, 19, 20, 21, 22, 23, 24, 25, 26, 27, 28, 29, 30, 31, 32, 33, 34, 35, 36, 37, 38, 39, 40, 41, 42, 43, 44, 45, 46, 47, 48, 49, 50, 51, 52, 53, 54, 55, 56, 57, 58, 59, 60, 61, 62, 63] (by decide +kernel) (by decide +kernel)) (goodIn_sub (fun _ h => List.mem_cons_of_mem _ (List.mem_append_right _ h)) (by decide +kernel))
set_option maxRecDepth 20000 in
theorem gL_sum_X6_sum : GoodIn wsL_sum (wsV RL 141 RX6 yX6_sum wsX6_sum) := goodIn_app (goodIn_of _ (by decide +kernel)) ggL_sum_X6_sum
theorem dL_sum_0 : decode cL_sum 0 = .ok (.aload_n 2, 1) := by decide +kernel
theorem dL_sum_1 : decode cL_sum 1 = .ok (.iconst 0, 1) := by decide +kernel
theorem dL_sum_2 : decode cL_sum 2 = .ok (.aload_n 0, 1) := by decide +kernel
theorem dL_sum_3 : decode cL_sum 3 = .ok (.iload_n 1, 1) := by decide +kernel
theorem dL_sum_4 : decode cL_sum 4 = .ok (.invokevirtual 141, 3) := by decide +kernel
theorem dL_sum_7 : decode cL_sum 7 = .ok (.lastore, 1) := by decide +kernel
theorem dL_sum_8 : decode cL_sum 8 = .ok (.goto 6, 3) := by decide +kernel
theorem dL_sum_11 : decode cL_sum 11 = .ok (.astore_n 3, 1) := by decide +kernel
theorem dL_sum_12 : decode cL_sum 12 = .ok (.iconst 1, 1) := by decide +kernel
theorem dL_sum_13 : decode cL_sum 13 = .ok (.ireturn, 1) := by decide +kernel
theorem dL_sum_14 : decode cL_sum 14 = .ok (.iconst 0, 1) := by decide +kernel
theorem dL_sum_15 : decode cL_sum 15 = .ok (.ireturn, 1) := by decide +kernel
set_option maxRecDepth 20000 in
theorem ggL_runs_X6_runs : GoodIn wsL_runs wsX6_runs := goodIn_ca (goodIn_r _ [6, 7, 8, 9, 5, 10, 11, 12, 13, 14, 15, 16, 17, 18, 19, 20, 21, 22, 23, 24, 25, 26, 27, 28, 29, 30, 31, 32, 33, 34, 35, 36, 37, 38, 39, 40, 41, 42, 43, 44, 45, 46, 47, 48, 49, 50, 51, 52, 53, 54, 55, 56, 57, 58, 59, 60, 61, 62, 63] (by decide +kernel) (by decide +kernel)) (goodIn_sub (fun _ h => List.mem_cons_of_mem _ (List.mem_append_right _ h)) (by decide +kernel))
set_option maxRecDepth 20000 in
theorem gL_runs_X6_runs : GoodIn wsL_runs (wsV RL 145 RX6 yX6_runs wsX6_runs) := goodIn_app (goodIn_of _ (by decide +kernel)) ggL_runs_X6_runs
theorem dL_runs_0 : decode cL_runs 0 = .ok (.aload_n 2, 1) := by decide +kernel
theorem dL_runs_1 : decode cL_runs 1 = .ok (.iconst 0, 1) := by decide +kernel
theorem dL_runs_2 : decode cL_runs 2 = .ok (.aload_n 0, 1) := by decide +kernel
theorem dL_runs_3 : decode cL_runs 3 = .ok (.iload_n 1, 1) := by decide +kernel
theorem dL_runs_4 : decode cL_runs 4 = .ok (.invokevirtual 145, 3) := by decide +kernel
theorem dL_runs_7 : decode cL_runs 7 = .ok (.i2l, 1) := by decide +kernel
theorem dL_runs_8 : decode cL_runs 8 = .ok (.lastore, 1) := by decide +kernel
theorem dL_runs_9 : decode cL_runs 9 = .ok (.goto 6, 3) := by decide +kernel
theorem dL_runs_12 : decode cL_runs 12 = .ok (.astore_n 3, 1) := by decide +kernel
theorem dL_runs_13 : decode cL_runs 13 = .ok (.iconst 1, 1) := by decide +kernel
theorem dL_runs_14 : decode cL_runs 14 = .ok (.ireturn, 1) := by decide +kernel
theorem dL_runs_15 : decode cL_runs 15 = .ok (.iconst 0, 1) := by decide +kernel
theorem dL_runs_16 : decode cL_runs 16 = .ok (.ireturn, 1) := by decide +kernel
set_option maxRecDepth 20000 in
theorem ggL_longestRun_X6_longestRun : GoodIn wsL_longestRun wsX6_longestRun := goodIn_ca (goodIn_r _ [6, 7, 8, 9, 5, 10, 11, 12, 13, 14, 15, 16, 17, 18, 19, 20, 21, 22, 23, 24, 25, 26, 27, 28, 29, 30, 31, 32, 33, 34, 35, 36, 37, 38, 39, 40, 41, 42, 43, 44, 45, 46, 47, 48, 49, 50, 51, 52, 53, 54, 55, 56, 57, 58, 59, 60, 61, 62, 63] (by decide +kernel) (by decide +kernel)) (goodIn_sub (fun _ h => List.mem_cons_of_mem _ (List.mem_append_right _ h)) (by decide +kernel))
set_option maxRecDepth 20000 in
theorem gL_longestRun_X6_longestRun : GoodIn wsL_longestRun (wsV RL 148 RX6 yX6_longestRun wsX6_longestRun) := goodIn_app (goodIn_of _ (by decide +kernel)) ggL_longestRun_X6_longestRun
theorem dL_longestRun_0 : decode cL_longestRun 0 = .ok (.aload_n 2, 1) := by decide +kernel
theorem dL_longestRun_1 : decode cL_longestRun 1 = .ok (.iconst 0, 1) := by decide +kernel
theorem dL_longestRun_2 : decode cL_longestRun 2 = .ok (.aload_n 0, 1) := by decide +kernel
theorem dL_longestRun_3 : decode cL_longestRun 3 = .ok (.iload_n 1, 1) := by decide +kernel
theorem dL_longestRun_4 : decode cL_longestRun 4 = .ok (.invokevirtual 148, 3) := by decide +kernel
theorem dL_longestRun_7 : decode cL_longestRun 7 = .ok (.i2l, 1) := by decide +kernel
theorem dL_longestRun_8 : decode cL_longestRun 8 = .ok (.lastore, 1) := by decide +kernel
theorem dL_longestRun_9 : decode cL_longestRun 9 = .ok (.goto 6, 3) := by decide +kernel
theorem dL_longestRun_12 : decode cL_longestRun 12 = .ok (.astore_n 3, 1) := by decide +kernel
theorem dL_longestRun_13 : decode cL_longestRun 13 = .ok (.iconst 1, 1) := by decide +kernel
theorem dL_longestRun_14 : decode cL_longestRun 14 = .ok (.ireturn, 1) := by decide +kernel
theorem dL_longestRun_15 : decode cL_longestRun 15 = .ok (.iconst 0, 1) := by decide +kernel
theorem dL_longestRun_16 : decode cL_longestRun 16 = .ok (.ireturn, 1) := by decide +kernel
set_option maxRecDepth 20000 in
theorem ggL_areEqual_X6_areEqual : GoodIn wsL_areEqual wsX6_areEqual := goodIn_ca (goodIn_r _ [6, 7, 8, 9, 5, 10, 11, 12, 13, 14, 15, 16, 17, 18, 19, 20, 21, 22, 23, 24, 25, 26, 27, 28, 29, 30, 31, 32, 33, 34, 35, 36, 37, 38] (by decide +kernel) (by decide +kernel)) (goodIn_sub (fun _ h => List.mem_cons_of_mem _ (List.mem_append_right _ h)) (by decide +kernel))
set_option maxRecDepth 20000 in
theorem gL_areEqual_X6_areEqual : GoodIn wsL_areEqual (wsV RL 151 RX6 yX6_areEqual wsX6_areEqual) := goodIn_app (goodIn_of _ (by decide +kernel)) ggL_areEqual_X6_areEqual
theorem dL_areEqual_0 : decode cL_areEqual 0 = .ok (.aload_n 3, 1) := by decide +kernel
theorem dL_areEqual_1 : decode cL_areEqual 1 = .ok (.iconst 0, 1) := by decide +kernel
theorem dL_areEqual_2 : decode cL_areEqual 2 = .ok (.aload_n 0, 1) := by decide +kernel
theorem dL_areEqual_3 : decode cL_areEqual 3 = .ok (.iload_n 1, 1) := by decide +kernel
theorem dL_areEqual_4 : decode cL_areEqual 4 = .ok (.iload_n 2, 1) := by decide +kernel
theorem dL_areEqual_5 : decode cL_areEqual 5 = .ok (.invokevirtual 151, 3) := by decide +kernel
theorem dL_areEqual_8 : decode cL_areEqual 8 = .ok (.ifCond .eq 7, 3) := by decide +kernel
theorem dL_areEqual_11 : decode cL_areEqual 11 = .ok (.lconst 1, 1) := by decide +kernel
theorem dL_areEqual_12 : decode cL_areEqual 12 = .ok (.goto 4, 3) := by decide +kernel
theorem dL_areEqual_15 : decode cL_areEqual 15 = .ok (.lconst 0, 1) := by decide +kernel
theorem dL_areEqual_16 : decode cL_areEqual 16 = .ok (.lastore, 1) := by decide +kernel
theorem dL_areEqual_17 : decode cL_areEqual 17 = .ok (.goto 7, 3) := by decide +kernel
theorem dL_areEqual_20 : decode cL_areEqual 20 = .ok (.astore 4, 2) := by decide +kernel
theorem dL_areEqual_22 : decode cL_areEqual 22 = .ok (.iconst 1, 1) := by decide +kernel
theorem dL_areEqual_23 : decode cL_areEqual 23 = .ok (.ireturn, 1) := by decide +kernel
theorem dL_areEqual_24 : decode cL_areEqual 24 = .ok (.iconst 0, 1) := by decide +kernel
theorem dL_areEqual_25 : decode cL_areEqual 25 = .ok (.ireturn, 1) := by decide +kernel
set_option maxRecDepth 20000 in
theorem ggL_meet_X6_meet : GoodIn wsL_meet wsX6_meet := goodIn_ca (goodIn_r _ [6, 7, 8, 9, 5, 10, 11, 12, 13, 14, 15, 16, 17, 18, 19, 20, 21, 22, 23, 24, 25, 26, 27, 28, 29, 30, 31, 32, 33, 34] (by decide +kernel) (by decide +kernel)) (goodIn_sub (fun _ h => List.mem_cons_of_mem _ (List.mem_append_right _ h)) (by decide +kernel))
set_option maxRecDepth 20000 in
theorem gL_meet_X6_meet : GoodIn wsL_meet (wsV RL 154 RX6 yX6_meet wsX6_meet) := goodIn_app (goodIn_of _ (by decide +kernel)) ggL_meet_X6_meet
theorem dL_meet_0 : decode cL_meet 0 = .ok (.aload_n 3, 1) := by decide +kernel
theorem dL_meet_1 : decode cL_meet 1 = .ok (.iconst 0, 1) := by decide +kernel
theorem dL_meet_2 : decode cL_meet 2 = .ok (.aload_n 0, 1) := by decide +kernel
theorem dL_meet_3 : decode cL_meet 3 = .ok (.iload_n 1, 1) := by decide +kernel
theorem dL_meet_4 : decode cL_meet 4 = .ok (.iload_n 2, 1) := by decide +kernel
theorem dL_meet_5 : decode cL_meet 5 = .ok (.invokevirtual 154, 3) := by decide +kernel
theorem dL_meet_8 : decode cL_meet 8 = .ok (.ifCond .eq 7, 3) := by decide +kernel
theorem dL_meet_11 : decode cL_meet 11 = .ok (.lconst 1, 1) := by decide +kernel
theorem dL_meet_12 : decode cL_meet 12 = .ok (.goto 4, 3) := by decide +kernel
theorem dL_meet_15 : decode cL_meet 15 = .ok (.lconst 0, 1) := by decide +kernel
theorem dL_meet_16 : decode cL_meet 16 = .ok (.lastore, 1) := by decide +kernel
theorem dL_meet_17 : decode cL_meet 17 = .ok (.goto 7, 3) := by decide +kernel
theorem dL_meet_20 : decode cL_meet 20 = .ok (.astore 4, 2) := by decide +kernel
theorem dL_meet_22 : decode cL_meet 22 = .ok (.iconst 1, 1) := by decide +kernel
theorem dL_meet_23 : decode cL_meet 23 = .ok (.ireturn, 1) := by decide +kernel
theorem dL_meet_24 : decode cL_meet 24 = .ok (.iconst 0, 1) := by decide +kernel
theorem dL_meet_25 : decode cL_meet 25 = .ok (.ireturn, 1) := by decide +kernel
set_option maxRecDepth 20000 in
theorem ggL_isWithin_X6_isWithin : GoodIn wsL_isWithin wsX6_isWithin := goodIn_ca (goodIn_r _ [6, 7, 8, 9, 5, 10, 11, 12, 13, 14, 15, 16, 17, 18, 19, 20, 21, 22, 23, 24, 25, 26, 27, 28, 29, 30, 31, 32, 33, 34, 35, 36, 37, 38, 39, 40, 41, 42, 43, 44, 45, 46, 47, 48, 49, 50, 51, 52, 53] (by decide +kernel) (by decide +kernel)) (goodIn_sub (fun _ h => List.mem_cons_of_mem _ (List.mem_append_right _ h)) (by decide +kernel))
set_option maxRecDepth 20000 in
theorem gL_isWithin_X6_isWithin : GoodIn wsL_isWithin (wsV RL 157 RX6 yX6_isWithin wsX6_isWithin) := goodIn_app (goodIn_of _ (by decide +kernel)) ggL_isWithin_X6_isWithin
theorem dL_isWithin_0 : decode cL_isWithin 0 = .ok (.aload_n 3, 1) := by decide +kernel
theorem dL_isWithin_1 : decode cL_isWithin 1 = .ok (.iconst 0, 1) := by decide +kernel
theorem dL_isWithin_2 : decode cL_isWithin 2 = .ok (.aload_n 0, 1) := by decide +kernel
theorem dL_isWithin_3 : decode cL_isWithin 3 = .ok (.iload_n 1, 1) := by decide +kernel
theorem dL_isWithin_4 : decode cL_isWithin 4 = .ok (.iload_n 2, 1) := by decide +kernel
theorem dL_isWithin_5 : decode cL_isWithin 5 = .ok (.invokevirtual 157, 3) := by decide +kernel
theorem dL_isWithin_8 : decode cL_isWithin 8 = .ok (.ifCond .eq 7, 3) := by decide +kernel
theorem dL_isWithin_11 : decode cL_isWithin 11 = .ok (.lconst 1, 1) := by decide +kernel
theorem dL_isWithin_12 : decode cL_isWithin 12 = .ok (.goto 4, 3) := by decide +kernel
theorem dL_isWithin_15 : decode cL_isWithin 15 = .ok (.lconst 0, 1) := by decide +kernel
theorem dL_isWithin_16 : decode cL_isWithin 16 = .ok (.lastore, 1) := by decide +kernel
theorem dL_isWithin_17 : decode cL_isWithin 17 = .ok (.goto 7, 3) := by decide +kernel
theorem dL_isWithin_20 : decode cL_isWithin 20 = .ok (.astore 4, 2) := by decide +kernel
theorem dL_isWithin_22 : decode cL_isWithin 22 = .ok (.iconst 1, 1) := by decide +kernel
theorem dL_isWithin_23 : decode cL_isWithin 23 = .ok (.ireturn, 1) := by decide +kernel
theorem dL_isWithin_24 : decode cL_isWithin 24 = .ok (.iconst 0, 1) := by decide +kernel
theorem dL_isWithin_25 : decode cL_isWithin 25 = .ok (.ireturn, 1) := by decide +kernel
set_option maxRecDepth 20000 in
theorem ggL_unionCount_X6_unionCount : GoodIn wsL_unionCount wsX6_unionCount := goodIn_ca (goodIn_r _ [6, 7, 8, 9, 5, 10, 11, 12, 13, 14, 15, 16, 17, 18, 19, 20, 21, 22, 23, 24, 25, 26, 27, 28, 29, 30, 31, 32, 33, 34] (by decide +kernel) (by decide +kernel)) (goodIn_sub (fun _ h => List.mem_cons_of_mem _ (List.mem_append_right _ h)) (by decide +kernel))
set_option maxRecDepth 20000 in
theorem gL_unionCount_X6_unionCount : GoodIn wsL_unionCount (wsV RL 160 RX6 yX6_unionCount wsX6_unionCount) := goodIn_app (goodIn_of _ (by decide +kernel)) ggL_unionCount_X6_unionCount
theorem dL_unionCount_0 : decode cL_unionCount 0 = .ok (.aload_n 3, 1) := by decide +kernel
theorem dL_unionCount_1 : decode cL_unionCount 1 = .ok (.iconst 0, 1) := by decide +kernel
theorem dL_unionCount_2 : decode cL_unionCount 2 = .ok (.aload_n 0, 1) := by decide +kernel
theorem dL_unionCount_3 : decode cL_unionCount 3 = .ok (.iload_n 1, 1) := by decide +kernel
theorem dL_unionCount_4 : decode cL_unionCount 4 = .ok (.iload_n 2, 1) := by decide +kernel
theorem dL_unionCount_5 : decode cL_unionCount 5 = .ok (.invokevirtual 160, 3) := by decide +kernel
theorem dL_unionCount_8 : decode cL_unionCount 8 = .ok (.i2l, 1) := by decide +kernel
theorem dL_unionCount_9 : decode cL_unionCount 9 = .ok (.lastore, 1) := by decide +kernel
theorem dL_unionCount_10 : decode cL_unionCount 10 = .ok (.goto 7, 3) := by decide +kernel
theorem dL_unionCount_13 : decode cL_unionCount 13 = .ok (.astore 4, 2) := by decide +kernel
theorem dL_unionCount_15 : decode cL_unionCount 15 = .ok (.iconst 1, 1) := by decide +kernel
theorem dL_unionCount_16 : decode cL_unionCount 16 = .ok (.ireturn, 1) := by decide +kernel
theorem dL_unionCount_17 : decode cL_unionCount 17 = .ok (.iconst 0, 1) := by decide +kernel
theorem dL_unionCount_18 : decode cL_unionCount 18 = .ok (.ireturn, 1) := by decide +kernel
set_option maxRecDepth 20000 in
theorem ggL_distance_X6_distance : GoodIn wsL_distance wsX6_distance := goodIn_ca (goodIn_r _ [6, 7, 8, 9, 5, 10, 11, 12, 13, 14, 15, 16, 17, 18, 19, 20, 21, 22, 23, 24, 25, 26, 27, 28, 29, 30, 31, 32, 33, 34, 35, 36, 37, 38] (by decide +kernel) (by decide +kernel)) (goodIn_sub (fun _ h => List.mem_cons_of_mem _ (List.mem_append_right _ h)) (by decide +kernel))
set_option maxRecDepth 20000 in
theorem gL_distance_X6_distance : GoodIn wsL_distance (wsV RL 163 RX6 yX6_distance wsX6_distance) := goodIn_app (goodIn_of _ (by decide +kernel)) ggL_distance_X6_distance
theorem dL_distance_0 : decode cL_distance 0 = .ok (.aload_n 3, 1) := by decide +kernel
theorem dL_distance_1 : decode cL_distance 1 = .ok (.iconst 0, 1) := by decide +kernel
theorem dL_distance_2 : decode cL_distance 2 = .ok (.aload_n 0, 1) := by decide +kernel
theorem dL_distance_3 : decode cL_distance 3 = .ok (.iload_n 1, 1) := by decide +kernel
theorem dL_distance_4 : decode cL_distance 4 = .ok (.iload_n 2, 1) := by decide +kernel
theorem dL_distance_5 : decode cL_distance 5 = .ok (.invokevirtual 163, 3) := by decide +kernel
theorem dL_distance_8 : decode cL_distance 8 = .ok (.i2l, 1) := by decide +kernel
theorem dL_distance_9 : decode cL_distance 9 = .ok (.lastore, 1) := by decide +kernel
theorem dL_distance_10 : decode cL_distance 10 = .ok (.goto 7, 3) := by decide +kernel
theorem dL_distance_13 : decode cL_distance 13 = .ok (.astore 4, 2) := by decide +kernel
theorem dL_distance_15 : decode cL_distance 15 = .ok (.iconst 1, 1) := by decide +kernel
theorem dL_distance_16 : decode cL_distance 16 = .ok (.ireturn, 1) := by decide +kernel
theorem dL_distance_17 : decode cL_distance 17 = .ok (.iconst 0, 1) := by decide +kernel
theorem dL_distance_18 : decode cL_distance 18 = .ok (.ireturn, 1) := by decide +kernel
set_option maxRecDepth 20000 in
theorem ggL_firstCommon_X6_firstCommon : GoodIn wsL_firstCommon wsX6_firstCommon := goodIn_ca (goodIn_r _ [6, 7, 8, 9, 5, 10, 11, 12, 13, 14, 15, 16, 17, 18, 19, 20, 21, 22, 23, 24, 25, 26, 27, 28, 29, 30, 31, 32, 33, 34, 35, 36] (by decide +kernel) (by decide +kernel)) (goodIn_sub (fun _ h => List.mem_cons_of_mem _ (List.mem_append_right _ h)) (by decide +kernel))
set_option maxRecDepth 20000 in
theorem gL_firstCommon_X6_firstCommon : GoodIn wsL_firstCommon (wsV RL 166 RX6 yX6_firstCommon wsX6_firstCommon) := goodIn_app (goodIn_of _ (by decide +kernel)) ggL_firstCommon_X6_firstCommon
theorem dL_firstCommon_0 : decode cL_firstCommon 0 = .ok (.aload_n 3, 1) := by decide +kernel
theorem dL_firstCommon_1 : decode cL_firstCommon 1 = .ok (.iconst 0, 1) := by decide +kernel
theorem dL_firstCommon_2 : decode cL_firstCommon 2 = .ok (.aload_n 0, 1) := by decide +kernel
theorem dL_firstCommon_3 : decode cL_firstCommon 3 = .ok (.iload_n 1, 1) := by decide +kernel
theorem dL_firstCommon_4 : decode cL_firstCommon 4 = .ok (.iload_n 2, 1) := by decide +kernel
theorem dL_firstCommon_5 : decode cL_firstCommon 5 = .ok (.invokevirtual 166, 3) := by decide +kernel
theorem dL_firstCommon_8 : decode cL_firstCommon 8 = .ok (.i2l, 1) := by decide +kernel
theorem dL_firstCommon_9 : decode cL_firstCommon 9 = .ok (.lastore, 1) := by decide +kernel
theorem dL_firstCommon_10 : decode cL_firstCommon 10 = .ok (.goto 7, 3) := by decide +kernel
theorem dL_firstCommon_13 : decode cL_firstCommon 13 = .ok (.astore 4, 2) := by decide +kernel
theorem dL_firstCommon_15 : decode cL_firstCommon 15 = .ok (.iconst 1, 1) := by decide +kernel
theorem dL_firstCommon_16 : decode cL_firstCommon 16 = .ok (.ireturn, 1) := by decide +kernel
theorem dL_firstCommon_17 : decode cL_firstCommon 17 = .ok (.iconst 0, 1) := by decide +kernel
theorem dL_firstCommon_18 : decode cL_firstCommon 18 = .ok (.ireturn, 1) := by decide +kernel
set_option maxRecDepth 20000 in
theorem ggL_write_X6_write : GoodIn wsL_write wsX6_write := goodIn_ca (goodIn_r _ [6, 7, 8, 9, 10, 5, 11, 12, 13, 14, 15, 16, 17, 18, 19, 20, 21, 22, 23, 24, 25, 26, 27, 28, 29, 30, 31, 32, 33, 34, 35, 36, 37, 38, 39, 40, 41, 42, 43, 44, 45, 46, 47, 48, 49, 50, 51, 52, 53, 54, 55, 56, 57, 58, 59, 60, 61, 62, 63, 64, 65, 66, 67, 68, 69, 70, 71, 72, 73, 74, 75, 76, 77, 78, 79, 80, 81] (by decide +kernel) (by decide +kernel)) (goodIn_sub (fun _ h => List.mem_cons_of_mem _ (List.mem_append_right _ h)) (by decide +kernel))
set_option maxRecDepth 20000 in
theorem gL_write_X6_write : GoodIn wsL_write (wsV RL 169 RX6 yX6_write wsX6_write) := goodIn_app (goodIn_of _ (by decide +kernel)) ggL_write_X6_write
theorem dL_write_0 : decode cL_write 0 = .ok (.aload_n 2, 1) := by decide +kernel
theorem dL_write_1 : decode cL_write 1 = .ok (.iconst 0, 1) := by decide +kernel
theorem dL_write_2 : decode cL_write 2 = .ok (.aload_n 0, 1) := by decide +kernel
theorem dL_write_3 : decode cL_write 3 = .ok (.iload_n 1, 1) := by decide +kernel
theorem dL_write_4 : decode cL_write 4 = .ok (.invokevirtual 169, 3) := by decide +kernel
theorem dL_write_7 : decode cL_write 7 = .ok (.i2l, 1) := by decide +kernel
theorem dL_write_8 : decode cL_write 8 = .ok (.lastore, 1) := by decide +kernel
theorem dL_write_9 : decode cL_write 9 = .ok (.goto 6, 3) := by decide +kernel
theorem dL_write_12 : decode cL_write 12 = .ok (.astore_n 3, 1) := by decide +kernel
theorem dL_write_13 : decode cL_write 13 = .ok (.iconst 1, 1) := by decide +kernel
theorem dL_write_14 : decode cL_write 14 = .ok (.ireturn, 1) := by decide +kernel
theorem dL_write_15 : decode cL_write 15 = .ok (.iconst 0, 1) := by decide +kernel
theorem dL_write_16 : decode cL_write 16 = .ok (.ireturn, 1) := by decide +kernel
set_option maxRecDepth 20000 in
theorem ggL_writtenAt_X6_writtenAt : GoodIn wsL_writtenAt wsX6_writtenAt := goodIn_ca (goodIn_r _ [6, 7, 8, 9, 10, 11, 12, 13, 14, 15, 5, 16, 17, 18, 19, 20, 21, 22, 23, 24, 25, 26, 27, 28, 29, 30, 31, 32] (by decide +kernel) (by decide +kernel)) (goodIn_sub (fun _ h => List.mem_cons_of_mem _ (List.mem_append_right _ h)) (by decide +kernel))
set_option maxRecDepth 20000 in
theorem gL_writtenAt_X6_writtenAt : GoodIn wsL_writtenAt (wsV RL 172 RX6 yX6_writtenAt wsX6_writtenAt) := goodIn_app (goodIn_of _ (by decide +kernel)) ggL_writtenAt_X6_writtenAt
theorem dL_writtenAt_0 : decode cL_writtenAt 0 = .ok (.aload_n 2, 1) := by decide +kernel
theorem dL_writtenAt_1 : decode cL_writtenAt 1 = .ok (.iconst 0, 1) := by decide +kernel
theorem dL_writtenAt_2 : decode cL_writtenAt 2 = .ok (.aload_n 0, 1) := by decide +kernel
theorem dL_writtenAt_3 : decode cL_writtenAt 3 = .ok (.iload_n 1, 1) := by decide +kernel
theorem dL_writtenAt_4 : decode cL_writtenAt 4 = .ok (.invokevirtual 172, 3) := by decide +kernel
theorem dL_writtenAt_7 : decode cL_writtenAt 7 = .ok (.i2l, 1) := by decide +kernel
theorem dL_writtenAt_8 : decode cL_writtenAt 8 = .ok (.lastore, 1) := by decide +kernel
theorem dL_writtenAt_9 : decode cL_writtenAt 9 = .ok (.goto 6, 3) := by decide +kernel
theorem dL_writtenAt_12 : decode cL_writtenAt 12 = .ok (.astore_n 3, 1) := by decide +kernel
theorem dL_writtenAt_13 : decode cL_writtenAt 13 = .ok (.iconst 1, 1) := by decide +kernel
theorem dL_writtenAt_14 : decode cL_writtenAt 14 = .ok (.ireturn, 1) := by decide +kernel
theorem dL_writtenAt_15 : decode cL_writtenAt 15 = .ok (.iconst 0, 1) := by decide +kernel
theorem dL_writtenAt_16 : decode cL_writtenAt 16 = .ok (.ireturn, 1) := by decide +kernel
set_option maxRecDepth 20000 in
theorem ggL_share_X6_share : GoodIn wsL_share wsX6_share := goodIn_ca (goodIn_r _ [6, 7, 8, 9, 5, 10, 11, 12, 13, 14, 15, 16, 17, 18, 19, 20, 21, 22, 23, 24, 25, 26, 27, 28, 29, 30, 31, 32, 33, 34, 35, 36, 37, 38, 39, 40, 41, 42, 43, 44, 45, 46, 47, 48] (by decide +kernel) (by decide +kernel)) (goodIn_sub (fun _ h => List.mem_cons_of_mem _ (List.mem_append_right _ h)) (by decide +kernel))
set_option maxRecDepth 20000 in
theorem gL_share_X6_share : GoodIn wsL_share (wsV RL 175 RX6 yX6_share wsX6_share) := goodIn_app (goodIn_of _ (by decide +kernel)) ggL_share_X6_share
theorem dL_share_0 : decode cL_share 0 = .ok (.aload_n 3, 1) := by decide +kernel
theorem dL_share_1 : decode cL_share 1 = .ok (.iconst 0, 1) := by decide +kernel
theorem dL_share_2 : decode cL_share 2 = .ok (.aload_n 0, 1) := by decide +kernel
theorem dL_share_3 : decode cL_share 3 = .ok (.iload_n 1, 1) := by decide +kernel
theorem dL_share_4 : decode cL_share 4 = .ok (.iload_n 2, 1) := by decide +kernel
theorem dL_share_5 : decode cL_share 5 = .ok (.invokevirtual 175, 3) := by decide +kernel
theorem dL_share_8 : decode cL_share 8 = .ok (.f2d, 1) := by decide +kernel
theorem dL_share_9 : decode cL_share 9 = .ok (.dastore, 1) := by decide +kernel
theorem dL_share_10 : decode cL_share 10 = .ok (.goto 7, 3) := by decide +kernel
theorem dL_share_13 : decode cL_share 13 = .ok (.astore 4, 2) := by decide +kernel
theorem dL_share_15 : decode cL_share 15 = .ok (.iconst 1, 1) := by decide +kernel
theorem dL_share_16 : decode cL_share 16 = .ok (.ireturn, 1) := by decide +kernel
theorem dL_share_17 : decode cL_share 17 = .ok (.iconst 0, 1) := by decide +kernel
theorem dL_share_18 : decode cL_share 18 = .ok (.ireturn, 1) := by decide +kernel
set_option maxRecDepth 20000 in
theorem ggL_law_X6_init : GoodIn wsL_law wsX6_init := goodIn_r _ [11, 12, 13, 14, 15, 16, 17, 18, 19, 20, 21, 22, 23, 24, 25, 26, 27, 28, 29, 30, 31, 32, 33, 34, 35, 36, 37, 6, 38, 39, 40, 41, 42, 43, 44, 45, 46, 47, 48, 49, 50, 51, 52, 53, 54, 55, 56, 57, 58, 59, 60, 61, 62, 63, 64, 65, 66, 67, 68, 69, 70, 71, 72, 73, 74, 75, 76, 77, 78, 79, 80, 81, 82, 83, 84, 85, 86, 87, 88, 89, 90, 91, 92, 93, 94, 95, 96, 1330, 1331, 1332, 1333, 1334, 1335, 1336, 1358, 1359, 1360, 1361, 1362, 1363, 1364, 1365, 1366, 1367, 1368, 1369, 1370, 1371, 1372, 1373, 1374, 1375, 1376, 1377] (by decide +kernel) (by decide +kernel)
set_option maxRecDepth 20000 in
theorem gL_law_X6_init : GoodIn wsL_law (wsX6_init) := ggL_law_X6_init
set_option maxRecDepth 20000 in
theorem ggL_law_X7_init : GoodIn wsL_law wsX7_init := goodIn_r _ [99, 100, 13, 14, 101, 102, 74, 103, 104, 105, 106, 107, 108, 109, 110, 111, 112, 1337, 1338, 1339, 1340, 1341, 1342, 1343, 1344, 1345, 1346, 1347, 1348, 1349, 1350, 1351, 1352, 1353, 1354, 1355, 1356, 1357] (by decide +kernel) (by decide +kernel)
set_option maxRecDepth 20000 in
theorem gL_law_X7_init : GoodIn wsL_law (wsX7_init) := ggL_law_X7_init
set_option maxRecDepth 20000 in
theorem ggL_law_L_append : GoodIn wsL_law wsL_append := goodIn_ca (goodIn_r _ [116, 117, 118, 119, 120, 2, 121, 122, 123, 23, 124, 125, 22, 126, 127, 128, 129, 130, 63, 131, 132, 133, 134, 62, 1330, 1331, 1332, 1333, 1334, 1335, 1336, 1359, 1360] (by decide +kernel) (by decide +kernel)) (goodIn_sub (fun _ h => List.mem_append_left _ (List.mem_append_left _ (List.mem_append_right _ h))) (by decide +kernel))
set_option maxRecDepth 20000 in
theorem gL_law_L_append : GoodIn wsL_law (va_wsS RL 183 yL_append wsL_append) := goodIn_app (goodIn_of _ (by decide +kernel)) ggL_law_L_append
set_option maxRecDepth 20000 in
theorem ggL_law_X7_append : GoodIn wsL_law wsX7_append := goodIn_r _ [138, 139, 140, 141, 142, 5, 143, 144, 145, 146, 147, 148, 149, 150, 151, 103, 1337, 1338, 1339, 1340, 1341, 1342, 1343, 1344, 1345, 1346, 1347, 1348, 1349, 1350, 1351, 1352, 1353, 1354, 1355, 1356, 1357] (by decide +kernel) (by decide +kernel)
set_option maxRecDepth 20000 in
theorem gL_law_X7_append : GoodIn wsL_law (wsV RL 188 RX7 yX7_append wsX7_append) := goodIn_app (goodIn_of _ (by decide +kernel)) ggL_law_X7_append
set_option maxRecDepth 20000 in
theorem ggL_law_X7_thrown : GoodIn wsL_law wsX7_thrown := goodIn_r _ [155, 139, 1337, 1338, 1339, 1340, 1341, 1342, 1343, 1344, 1345, 1346, 1347, 1348, 1349, 1350, 1351, 1352, 1353, 1354, 1355, 1356, 1357] (by decide +kernel) (by decide +kernel)
set_option maxRecDepth 20000 in
theorem gL_law_X7_thrown : GoodIn wsL_law (wsV RL 189 RX7 yX7_thrown wsX7_thrown) := goodIn_app (goodIn_of _ (by decide +kernel)) ggL_law_X7_thrown
set_option maxRecDepth 20000 in
theorem ggL_law_X6_clearTape : GoodIn wsL_law wsX6_clearTape := goodIn_r _ [159, 23, 127, 128, 129, 22, 130, 63, 160, 161, 162, 163, 1330, 1331, 1332, 1333, 1334, 1335, 1336, 1359, 1360] (by decide +kernel) (by decide +kernel)
set_option maxRecDepth 20000 in
theorem gL_law_X6_clearTape : GoodIn wsL_law (wsV RL 192 RX6 yX6_clearTape wsX6_clearTape) := goodIn_app (goodIn_of _ (by decide +kernel)) ggL_law_X6_clearTape
set_option maxRecDepth 20000 in
theorem ggL_law_X7_clearTape : GoodIn wsL_law wsX7_clearTape := goodIn_r _ [167, 139, 140, 1337, 1338, 1339, 1340, 1341, 1342, 1343, 1344, 1345, 1346, 1347, 1348, 1349, 1350, 1351, 1352, 1353, 1354, 1355, 1356, 1357] (by decide +kernel) (by decide +kernel)
set_option maxRecDepth 20000 in
theorem gL_law_X7_clearTape : GoodIn wsL_law (wsV RL 195 RX7 yX7_clearTape wsX7_clearTape) := goodIn_app (goodIn_of _ (by decide +kernel)) ggL_law_X7_clearTape
set_option maxRecDepth 20000 in
theorem ggL_law_L_run : GoodIn wsL_law wsL_run := goodIn_ca (goodIn_r _ [170, 171, 172, 173, 174, 2, 175, 176, 177, 27, 23, 32, 33, 178, 179, 180, 26, 181, 76, 77, 71, 73, 182, 183, 184, 70, 185, 86, 87, 88, 186, 128, 129, 22, 130, 63, 187, 188, 189, 190, 62, 191, 192, 193, 194, 195, 196, 197, 198, 199, 200, 201, 202, 203, 204, 205, 51, 48, 52, 206, 207, 208, 209, 83, 84, 85, 210, 211, 212, 213, 214, 215, 216, 217, 218, 219, 220, 221, 222, 223, 224, 225, 226, 227, 228, 229, 230, 231, 232, 233, 234, 235, 236, 237, 238, 239, 240, 241, 47, 49, 242, 243, 244, 245, 246, 247, 248, 249, 250, 251, 252, 253, 254, 255, 256, 257, 258, 259, 260, 261, 262, 263, 264, 265, 266, 267, 268, 269, 270, 271, 272, 273, 274, 275, 276, 277, 278, 279, 280, 281, 282, 283, 284, 285, 286, 287, 288, 289, 290, 291, 292, 293, 294, 295, 296, 297, 298, 299, 300, 301, 302, 303, 304, 305, 306, 307, 308, 309, 310, 311, 312, 313, 314, 315, 316, 317, 318, 319, 320, 321, 322, 323, 324, 325, 326, 327, 328, 329, 330, 331, 332, 75, 333, 334, 335, 336, 337, 338, 339, 340, 160, 161, 162, 163, 341, 342, 343, 344, 345, 346, 34, 347, 348, 349, 350, 351, 352, 353, 354, 355, 356, 357, 358, 359, 360, 361, 362, 363, 364, 16, 39, 40, 41, 18, 42, 38, 43, 44, 45, 46, 50, 53, 365, 366, 367, 368, 369, 370, 371, 372, 373, 374, 375, 376, 377, 378, 379, 380, 381, 382, 55, 56, 57, 383, 384, 385, 386, 387, 388, 389, 1330, 1331, 1332, 1333, 1334, 1335, 1336, 1361, 1362, 1363, 1364, 1365, 1368, 1369, 1370, 1371, 1372, 1373, 1359, 1360, 1374, 1375, 1376, 1377, 1358] (by decide +kernel) (by decide +kernel)) (goodIn_sub (fun _ h => List.mem_append_left _ (List.mem_append_right _ h)) (by decide +kernel))
set_option maxRecDepth 20000 in
theorem gL_law_L_run : GoodIn wsL_law (va_wsS RL 196 yL_run wsL_run) := goodIn_app (goodIn_of _ (by decide +kernel)) ggL_law_L_run
set_option maxRecDepth 20000 in
theorem ggL_law_X7_run : GoodIn wsL_law wsX7_run := goodIn_r _ [393, 139, 394, 109, 110, 140, 395, 396, 397, 398, 399, 5, 400, 401, 402, 403, 404, 405, 406, 407, 103, 408, 409, 410, 411, 412, 413, 414, 415, 416, 417, 418, 419, 420, 421, 422, 423, 424, 425, 104, 426, 427, 428, 429, 430, 431, 432, 433, 105, 434, 435, 436, 437, 106, 107, 438, 439, 440, 441, 442, 443, 444, 445, 446, 447, 448, 449, 450, 451, 452, 453, 108, 454, 455, 456, 457, 144, 145, 146, 147, 458, 459, 460, 461, 102, 462, 463, 464, 465, 466, 467, 468, 469, 470, 471, 472, 473, 1337, 1338, 1339, 1340, 1341, 1342, 1343, 1344, 1345, 1346, 1347, 1348, 1349, 1350, 1351, 1352, 1353, 1354, 1355, 1356, 1357] (by decide +kernel) (by decide +kernel)
set_option maxRecDepth 20000 in
theorem gL_law_X7_run : GoodIn wsL_law (wsV RL 199 RX7 yX7_run wsX7_run) := goodIn_app (goodIn_of _ (by decide +kernel)) ggL_law_X7_run
set_option maxRecDepth 20000 in
theorem ggL_law_X6_errorPosition : GoodIn wsL_law wsX6_errorPosition := goodIn_r _ [477, 32, 1330, 1331, 1332, 1333, 1334, 1335, 1336] (by decide +kernel) (by decide +kernel)
set_option maxRecDepth 20000 in
theorem gL_law_X6_errorPosition : GoodIn wsL_law (wsV RL 200 RX6 yX6_errorPosition wsX6_errorPosition) := goodIn_app (goodIn_of _ (by decide +kernel)) ggL_law_X6_errorPosition
set_option maxRecDepth 20000 in
theorem ggL_law_X7_errorPosition : GoodIn wsL_law wsX7_errorPosition := goodIn_r _ [481, 139, 109, 1337, 1338, 1339, 1340, 1341, 1342, 1343, 1344, 1345, 1346, 1347, 1348, 1349, 1350, 1351, 1352, 1353, 1354, 1355, 1356, 1357] (by decide +kernel) (by decide +kernel)
set_option maxRecDepth 20000 in
theorem gL_law_X7_errorPosition : GoodIn wsL_law (wsV RL 203 RX7 yX7_errorPosition wsX7_errorPosition) := goodIn_app (goodIn_of _ (by decide +kernel)) ggL_law_X7_errorPosition
set_option maxRecDepth 20000 in
theorem ggL_law_X6_stoppedAt : GoodIn wsL_law wsX6_stoppedAt := goodIn_r _ [485, 33, 1330, 1331, 1332, 1333, 1334, 1335, 1336] (by decide +kernel) (by decide +kernel)
set_option maxRecDepth 20000 in
theorem gL_law_X6_stoppedAt : GoodIn wsL_law (wsV RL 204 RX6 yX6_stoppedAt wsX6_stoppedAt) := goodIn_app (goodIn_of _ (by decide +kernel)) ggL_law_X6_stoppedAt
set_option maxRecDepth 20000 in
theorem ggL_law_X7_stoppedAt : GoodIn wsL_law wsX7_stoppedAt := goodIn_r _ [489, 139, 110, 1337, 1338, 1339, 1340, 1341, 1342, 1343, 1344, 1345, 1346, 1347, 1348, 1349, 1350, 1351, 1352, 1353, 1354, 1355, 1356, 1357] (by decide +kernel) (by decide +kernel)
set_option maxRecDepth 20000 in
theorem gL_law_X7_stoppedAt : GoodIn wsL_law (wsV RL 207 RX7 yX7_stoppedAt wsX7_stoppedAt) := goodIn_app (goodIn_of _ (by decide +kernel)) ggL_law_X7_stoppedAt
set_option maxRecDepth 20000 in
theorem ggL_law_L_add : GoodIn wsL_law wsL_add := goodIn_ca (goodIn_ca (goodIn_r _ [492, 171, 493, 494, 495, 496, 2, 497, 498, 499, 500, 501, 176, 177, 502, 503, 504, 505, 506, 507, 34, 361, 362, 363, 364, 16, 508, 509, 510, 18, 511, 512, 513, 514, 515, 38, 54, 55, 56, 57, 1330, 1331, 1332, 1333, 1334, 1335, 1336, 1358] (by decide +kernel) (by decide +kernel)) (goodIn_sub (fun _ h => List.mem_append_left _ (List.mem_append_right _ h)) (by decide +kernel))) (goodIn_sub (fun _ h => List.mem_append_right _ h) (by decide +kernel))
set_option maxRecDepth 20000 in
theorem gL_law_L_add : GoodIn wsL_law (va_wsS RL 208 yL_add wsL_add) := goodIn_app (goodIn_of _ (by decide +kernel)) ggL_law_L_add
set_option maxRecDepth 20000 in
theorem ggL_law_X7_add : GoodIn wsL_law wsX7_add := goodIn_r _ [519, 139, 102, 520, 521, 522, 5, 523, 524, 525, 526, 527, 412, 413, 414, 144, 145, 146, 147, 528, 529, 530, 531, 396, 1337, 1338, 1339, 1340, 1341, 1342, 1343, 1344, 1345, 1346, 1347, 1348, 1349, 1350, 1351, 1352, 1353, 1354, 1355, 1356, 1357] (by decide +kernel) (by decide +kernel)
set_option maxRecDepth 20000 in
theorem gL_law_X7_add : GoodIn wsL_law (wsV RL 211 RX7 yX7_add wsX7_add) := goodIn_app (goodIn_of _ (by decide +kernel)) ggL_law_X7_add
set_option maxRecDepth 20000 in
theorem ggL_law_L_remove : GoodIn wsL_law wsL_remove := goodIn_ca (goodIn_ca (goodIn_r _ [534, 171, 493, 535, 536, 537, 2, 538, 502, 503, 504, 505, 506, 507, 34, 361, 362, 363, 364, 176, 177, 16, 508, 509, 510, 18, 511, 512, 513, 514, 515, 38, 539, 540, 541, 542, 53, 1330, 1331, 1332, 1333, 1334, 1335, 1336, 1358] (by decide +kernel) (by decide +kernel)) (goodIn_sub (fun _ h => List.mem_append_right _ h) (by decide +kernel))) (goodIn_sub (fun _ h => List.mem_append_left _ (List.mem_append_right _ h)) (by decide +kernel))
set_option maxRecDepth 20000 in
theorem gL_law_L_remove : GoodIn wsL_law (va_wsS RL 212 yL_remove wsL_remove) := goodIn_app (goodIn_of _ (by decide +kernel)) ggL_law_L_remove
set_option maxRecDepth 20000 in
theorem ggL_law_X7_remove : GoodIn wsL_law wsX7_remove := goodIn_r _ [546, 139, 102, 524, 525, 526, 5, 527, 412, 413, 414, 144, 145, 146, 147, 528, 529, 530, 531, 396, 547, 548, 549, 550, 1337, 1338, 1339, 1340, 1341, 1342, 1343, 1344, 1345, 1346, 1347, 1348, 1349, 1350, 1351, 1352, 1353, 1354, 1355, 1356, 1357] (by decide +kernel) (by decide +kernel)
set_option maxRecDepth 20000 in
theorem gL_law_X7_remove : GoodIn wsL_law (wsV RL 214 RX7 yX7_remove wsX7_remove) := goodIn_app (goodIn_of _ (by decide +kernel)) ggL_law_X7_remove
set_option maxRecDepth 20000 in
theorem ggL_law_L_put : GoodIn wsL_law wsL_put := goodIn_ca (goodIn_ca (goodIn_r _ [553, 171, 493, 554, 555, 556, 2, 557, 498, 499, 500, 501, 176, 177, 502, 503, 504, 505, 506, 507, 34, 361, 362, 363, 364, 16, 508, 509, 510, 18, 511, 512, 513, 514, 515, 38, 558, 559, 560, 561, 562, 55, 56, 57, 563, 540, 541, 542, 53, 1330, 1331, 1332, 1333, 1334, 1335, 1336, 1358] (by decide +kernel) (by decide +kernel)) (goodIn_sub (fun _ h => List.mem_append_left _ (List.mem_append_right _ h)) (by decide +kernel))) (goodIn_sub (fun _ h => List.mem_append_right _ h) (by decide +kernel))
set_option maxRecDepth 20000 in
theorem gL_law_L_put : GoodIn wsL_law (va_wsS RL 215 yL_put wsL_put) := goodIn_app (goodIn_of _ (by decide +kernel)) ggL_law_L_put
set_option maxRecDepth 20000 in
theorem ggL_law_X7_put : GoodIn wsL_law wsX7_put := goodIn_r _ [567, 139, 102, 520, 521, 522, 5, 523, 524, 525, 526, 527, 412, 413, 414, 144, 145, 146, 147, 528, 529, 530, 531, 396, 1337, 1338, 1339, 1340, 1341, 1342, 1343, 1344, 1345, 1346, 1347, 1348, 1349, 1350, 1351, 1352, 1353, 1354, 1355, 1356, 1357] (by decide +kernel) (by decide +kernel)
set_option maxRecDepth 20000 in
theorem gL_law_X7_put : GoodIn wsL_law (wsV RL 218 RX7 yX7_put wsX7_put) := goodIn_app (goodIn_of _ (by decide +kernel)) ggL_law_X7_put
set_option maxRecDepth 20000 in
theorem ggL_law_L_flip : GoodIn wsL_law wsL_flip := goodIn_ca (goodIn_ca (goodIn_r _ [570, 171, 493, 571, 572, 573, 2, 574, 498, 499, 500, 501, 176, 177, 502, 503, 504, 505, 506, 507, 34, 361, 362, 363, 364, 16, 508, 509, 510, 18, 511, 512, 513, 514, 515, 38, 558, 559, 560, 561, 562, 55, 56, 57, 563, 540, 541, 542, 53, 1330, 1331, 1332, 1333, 1334, 1335, 1336, 1358] (by decide +kernel) (by decide +kernel)) (goodIn_sub (fun _ h => List.mem_append_left _ (List.mem_append_right _ h)) (by decide +kernel))) (goodIn_sub (fun _ h => List.mem_append_right _ h) (by decide +kernel))
set_option maxRecDepth 20000 in
theorem gL_law_L_flip : GoodIn wsL_law (va_wsS RL 219 yL_flip wsL_flip) := goodIn_app (goodIn_of _ (by decide +kernel)) ggL_law_L_flip
set_option maxRecDepth 20000 in
theorem ggL_law_X7_flip : GoodIn wsL_law wsX7_flip := goodIn_r _ [578, 139, 102, 520, 521, 522, 5, 523, 524, 525, 526, 527, 412, 413, 414, 144, 145, 146, 147, 528, 529, 530, 531, 396, 1337, 1338, 1339, 1340, 1341, 1342, 1343, 1344, 1345, 1346, 1347, 1348, 1349, 1350, 1351, 1352, 1353, 1354, 1355, 1356, 1357] (by decide +kernel) (by decide +kernel)
set_option maxRecDepth 20000 in
theorem gL_law_X7_flip : GoodIn wsL_law (wsV RL 221 RX7 yX7_flip wsX7_flip) := goodIn_app (goodIn_of _ (by decide +kernel)) ggL_law_X7_flip
set_option maxRecDepth 20000 in
theorem ggL_law_L_addRange : GoodIn wsL_law wsL_addRange := goodIn_ca (goodIn_ca (goodIn_r _ [581, 171, 493, 582, 583, 584, 2, 585, 586, 587, 588, 589, 176, 177, 590, 591, 592, 593, 506, 507, 34, 361, 362, 363, 364, 16, 39, 40, 41, 18, 42, 38, 43, 44, 45, 46, 47, 48, 49, 50, 51, 52, 53, 594, 595, 596, 597, 598, 599, 600, 601, 602, 603, 604, 605, 606, 607, 608, 1330, 1331, 1332, 1333, 1334, 1335, 1336, 1358] (by decide +kernel) (by decide +kernel)) (goodIn_sub (fun _ h => List.mem_append_left _ (List.mem_append_right _ h)) (by decide +kernel))) (goodIn_sub (fun _ h => List.mem_append_right _ h) (by decide +kernel))
set_option maxRecDepth 20000 in
theorem gL_law_L_addRange : GoodIn wsL_law (va_wsS RL 222 yL_addRange wsL_addRange) := goodIn_app (goodIn_of _ (by decide +kernel)) ggL_law_L_addRange
set_option maxRecDepth 20000 in
theorem ggL_law_X7_addRange : GoodIn wsL_law wsX7_addRange := goodIn_r _ [612, 139, 613, 614, 615, 5, 616, 524, 525, 526, 527, 412, 413, 414, 144, 145, 146, 147, 617, 618, 619, 620, 396, 621, 622, 623, 624, 625, 626, 627, 102, 470, 471, 472, 473, 1337, 1338, 1339, 1340, 1341, 1342, 1343, 1344, 1345, 1346, 1347, 1348, 1349, 1350, 1351, 1352, 1353, 1354, 1355, 1356, 1357] (by decide +kernel) (by decide +kernel)
set_option maxRecDepth 20000 in
theorem gL_law_X7_addRange : GoodIn wsL_law (wsV RL 225 RX7 yX7_addRange wsX7_addRange) := goodIn_app (goodIn_of _ (by decide +kernel)) ggL_law_X7_addRange
set_option maxRecDepth 20000 in
theorem ggL_law_L_removeRange : GoodIn wsL_law wsL_removeRange := goodIn_ca (goodIn_ca (goodIn_r _ [630, 171, 493, 631, 632, 633, 2, 634, 590, 591, 592, 593, 506, 507, 34, 361, 362, 363, 364, 176, 177, 16, 365, 366, 367, 18, 368, 38, 53, 43, 44, 45, 46, 47, 48, 49, 50, 51, 52, 594, 595, 596, 597, 598, 599, 600, 601, 602, 603, 604, 605, 606, 607, 608, 1330, 1331, 1332, 1333, 1334, 1335, 1336, 1358] (by decide +kernel) (by decide +kernel)) (goodIn_sub (fun _ h => List.mem_append_right _ h) (by decide +kernel))) (goodIn_sub (fun _ h => List.mem_append_left _ (List.mem_append_right _ h)) (by decide +kernel))
set_option maxRecDepth 20000 in
theorem gL_law_L_removeRange : GoodIn wsL_law (va_wsS RL 226 yL_removeRange wsL_removeRange) := goodIn_app (goodIn_of _ (by decide +kernel)) ggL_law_L_removeRange
set_option maxRecDepth 20000 in
theorem ggL_law_X7_removeRange : GoodIn wsL_law wsX7_removeRange := goodIn_r _ [638, 139, 524, 525, 526, 5, 527, 412, 413, 414, 144, 145, 146, 147, 617, 618, 619, 620, 396, 621, 622, 623, 624, 625, 626, 627, 102, 470, 471, 472, 473, 1337, 1338, 1339, 1340, 1341, 1342, 1343, 1344, 1345, 1346, 1347, 1348, 1349, 1350, 1351, 1352, 1353, 1354, 1355, 1356, 1357] (by decide +kernel) (by decide +kernel)
set_option maxRecDepth 20000 in
theorem gL_law_X7_removeRange : GoodIn wsL_law (wsV RL 228 RX7 yX7_removeRange wsX7_removeRange) := goodIn_app (goodIn_of _ (by decide +kernel)) ggL_law_X7_removeRange
set_option maxRecDepth 20000 in
theorem ggL_law_L_putRange : GoodIn wsL_law wsL_putRange := goodIn_ca (goodIn_ca (goodIn_r _ [641, 171, 493, 642, 643, 644, 2, 645, 586, 587, 588, 589, 176, 177, 590, 591, 592, 593, 506, 507, 34, 361, 362, 363, 364, 16, 646, 647, 648, 18, 649, 650, 40, 41, 42, 38, 43, 44, 45, 46, 47, 48, 49, 50, 51, 52, 53, 381, 366, 367, 368, 594, 595, 596, 597, 598, 599, 600, 601, 602, 603, 604, 605, 606, 607, 608, 1330, 1331, 1332, 1333, 1334, 1335, 1336, 1358] (by decide +kernel) (by decide +kernel)) (goodIn_sub (fun _ h => List.mem_append_left _ (List.mem_append_right _ h)) (by decide +kernel))) (goodIn_sub (fun _ h => List.mem_append_right _ h) (by decide +kernel))
set_option maxRecDepth 20000 in
theorem gL_law_L_putRange : GoodIn wsL_law (va_wsS RL 229 yL_putRange wsL_putRange) := goodIn_app (goodIn_of _ (by decide +kernel)) ggL_law_L_putRange
set_option maxRecDepth 20000 in
theorem ggL_law_X7_putRange : GoodIn wsL_law wsX7_putRange := goodIn_r _ [654, 139, 613, 614, 615, 5, 616, 524, 525, 526, 527, 412, 413, 414, 144, 145, 146, 147, 617, 618, 619, 620, 396, 621, 622, 623, 624, 625, 626, 627, 102, 470, 471, 472, 473, 1337, 1338, 1339, 1340, 1341, 1342, 1343, 1344, 1345, 1346, 1347, 1348, 1349, 1350, 1351, 1352, 1353, 1354, 1355, 1356, 1357] (by decide +kernel) (by decide +kernel)
set_option maxRecDepth 20000 in
theorem gL_law_X7_putRange : GoodIn wsL_law (wsV RL 232 RX7 yX7_putRange wsX7_putRange) := goodIn_app (goodIn_of _ (by decide +kernel)) ggL_law_X7_putRange
set_option maxRecDepth 20000 in
theorem ggL_law_L_flipRange : GoodIn wsL_law wsL_flipRange := goodIn_ca (goodIn_ca (goodIn_r _ [657, 171, 493, 658, 659, 660, 2, 661, 586, 587, 588, 589, 176, 177, 590, 591, 592, 593, 506, 507, 34, 361, 362, 363, 364, 16, 369, 370, 371, 18, 372, 38, 43, 44, 45, 46, 47, 48, 49, 50, 51, 52, 53, 594, 595, 596, 597, 598, 599, 600, 601, 602, 603, 604, 605, 606, 607, 608, 1330, 1331, 1332, 1333, 1334, 1335, 1336, 1358] (by decide +kernel) (by decide +kernel)) (goodIn_sub (fun _ h => List.mem_append_left _ (List.mem_append_right _ h)) (by decide +kernel))) (goodIn_sub (fun _ h => List.mem_append_right _ h) (by decide +kernel))
set_option maxRecDepth 20000 in
theorem gL_law_L_flipRange : GoodIn wsL_law (va_wsS RL 233 yL_flipRange wsL_flipRange) := goodIn_app (goodIn_of _ (by decide +kernel)) ggL_law_L_flipRange
set_option maxRecDepth 20000 in
theorem ggL_law_X7_flipRange : GoodIn wsL_law wsX7_flipRange := goodIn_r _ [665, 139, 102, 613, 614, 615, 5, 616, 524, 525, 526, 527, 412, 413, 414, 144, 145, 146, 147, 617, 618, 619, 620, 396, 621, 622, 623, 470, 471, 472, 473, 1337, 1338, 1339, 1340, 1341, 1342, 1343, 1344, 1345, 1346, 1347, 1348, 1349, 1350, 1351, 1352, 1353, 1354, 1355, 1356, 1357] (by decide +kernel) (by decide +kernel)
set_option maxRecDepth 20000 in
theorem gL_law_X7_flipRange : GoodIn wsL_law (wsV RL 235 RX7 yX7_flipRange wsX7_flipRange) := goodIn_app (goodIn_of _ (by decide +kernel)) ggL_law_X7_flipRange
set_option maxRecDepth 20000 in
theorem ggL_law_L_removeAll : GoodIn wsL_law wsL_removeAll := goodIn_ca (goodIn_r _ [668, 171, 669, 670, 671, 2, 672, 361, 362, 363, 364, 176, 177, 16, 594, 595, 596, 18, 597, 598, 599, 600, 601, 38, 43, 44, 45, 46, 47, 48, 49, 50, 51, 52, 53, 602, 603, 604, 605, 606, 607, 608, 673, 378, 379, 380, 381, 366, 367, 368, 1330, 1331, 1332, 1333, 1334, 1335, 1336, 1358] (by decide +kernel) (by decide +kernel)) (goodIn_sub (fun _ h => List.mem_append_left _ (List.mem_append_right _ h)) (by decide +kernel))
set_option maxRecDepth 20000 in
theorem gL_law_L_removeAll : GoodIn wsL_law (va_wsS RL 236 yL_removeAll wsL_removeAll) := goodIn_app (goodIn_of _ (by decide +kernel)) ggL_law_L_removeAll
set_option maxRecDepth 20000 in
theorem ggL_law_X7_removeAll : GoodIn wsL_law wsX7_removeAll := goodIn_r _ [677, 139, 524, 525, 526, 5, 527, 412, 413, 414, 144, 145, 146, 147, 470, 471, 472, 473, 102, 462, 463, 464, 465, 1337, 1338, 1339, 1340, 1341, 1342, 1343, 1344, 1345, 1346, 1347, 1348, 1349, 1350, 1351, 1352, 1353, 1354, 1355, 1356, 1357] (by decide +kernel) (by decide +kernel)
set_option maxRecDepth 20000 in
theorem gL_law_X7_removeAll : GoodIn wsL_law (wsV RL 239 RX7 yX7_removeAll wsX7_removeAll) := goodIn_app (goodIn_of _ (by decide +kernel)) ggL_law_X7_removeAll
set_option maxRecDepth 20000 in
theorem ggL_law_L_renew : GoodIn wsL_law wsL_renew := goodIn_ca (goodIn_r _ [680, 171, 681, 682, 683, 2, 684, 34, 361, 362, 363, 364, 176, 177, 16, 685, 686, 687, 594, 595, 596, 18, 597, 598, 599, 600, 601, 38, 43, 44, 45, 46, 47, 48, 49, 50, 51, 52, 53, 602, 603, 604, 605, 606, 607, 608, 673, 378, 379, 380, 381, 366, 367, 368, 1330, 1331, 1332, 1333, 1334, 1335, 1336, 1358] (by decide +kernel) (by decide +kernel)) (goodIn_sub (fun _ h => List.mem_append_left _ (List.mem_append_right _ h)) (by decide +kernel))
set_option maxRecDepth 20000 in
theorem gL_law_L_renew : GoodIn wsL_law (va_wsS RL 240 yL_renew wsL_renew) := goodIn_app (goodIn_of _ (by decide +kernel)) ggL_law_L_renew
set_option maxRecDepth 20000 in
theorem ggL_law_X7_renew : GoodIn wsL_law wsX7_renew := goodIn_r _ [691, 139, 396, 524, 525, 526, 5, 527, 412, 413, 414, 144, 145, 146, 147, 470, 471, 472, 473, 102, 462, 463, 464, 465, 1337, 1338, 1339, 1340, 1341, 1342, 1343, 1344, 1345, 1346, 1347, 1348, 1349, 1350, 1351, 1352, 1353, 1354, 1355, 1356, 1357] (by decide +kernel) (by decide +kernel)
set_option maxRecDepth 20000 in
theorem gL_law_X7_renew : GoodIn wsL_law (wsV RL 242 RX7 yX7_renew wsX7_renew) := goodIn_app (goodIn_of _ (by decide +kernel)) ggL_law_X7_renew
set_option maxRecDepth 20000 in
theorem ggL_law_L_intersect : GoodIn wsL_law wsL_intersect := goodIn_ca (goodIn_r _ [694, 171, 695, 696, 697, 2, 698, 699, 700, 701, 702, 361, 362, 363, 364, 176, 177, 16, 383, 384, 385, 18, 386, 38, 387, 388, 389, 53, 594, 595, 596, 597, 598, 599, 600, 601, 43, 44, 45, 46, 47, 48, 49, 50, 51, 52, 602, 603, 604, 605, 606, 607, 608, 1330, 1331, 1332, 1333, 1334, 1335, 1336, 1358] (by decide +kernel) (by decide +kernel)) (goodIn_sub (fun _ h => List.mem_append_left _ (List.mem_append_right _ h)) (by decide +kernel))
set_option maxRecDepth 20000 in
theorem gL_law_L_intersect : GoodIn wsL_law (va_wsS RL 243 yL_intersect wsL_intersect) := goodIn_app (goodIn_of _ (by decide +kernel)) ggL_law_L_intersect
set_option maxRecDepth 20000 in
theorem ggL_law_X7_intersect : GoodIn wsL_law wsX7_intersect := goodIn_r _ [706, 139, 707, 708, 709, 5, 710, 524, 525, 526, 527, 412, 413, 414, 144, 145, 146, 147, 466, 467, 468, 469, 102, 470, 471, 472, 473, 1337, 1338, 1339, 1340, 1341, 1342, 1343, 1344, 1345, 1346, 1347, 1348, 1349, 1350, 1351, 1352, 1353, 1354, 1355, 1356, 1357] (by decide +kernel) (by decide +kernel)
set_option maxRecDepth 20000 in
theorem gL_law_X7_intersect : GoodIn wsL_law (wsV RL 245 RX7 yX7_intersect wsX7_intersect) := goodIn_app (goodIn_of _ (by decide +kernel)) ggL_law_X7_intersect
set_option maxRecDepth 20000 in
theorem ggL_law_L_unite : GoodIn wsL_law wsL_unite := goodIn_ca (goodIn_r _ [713, 171, 714, 715, 716, 2, 717, 699, 700, 701, 702, 361, 362, 363, 364, 176, 177, 16, 383, 384, 385, 18, 386, 38, 387, 388, 389, 53, 594, 595, 596, 597, 598, 599, 600, 601, 43, 44, 45, 46, 47, 48, 49, 50, 51, 52, 602, 603, 604, 605, 606, 607, 608, 1330, 1331, 1332, 1333, 1334, 1335, 1336, 1358] (by decide +kernel) (by decide +kernel)) (goodIn_sub (fun _ h => List.mem_append_left _ (List.mem_append_right _ h)) (by decide +kernel))
set_option maxRecDepth 20000 in
theorem gL_law_L_unite : GoodIn wsL_law (va_wsS RL 246 yL_unite wsL_unite) := goodIn_app (goodIn_of _ (by decide +kernel)) ggL_law_L_unite
set_option maxRecDepth 20000 in
theorem ggL_law_X7_unite : GoodIn wsL_law wsX7_unite := goodIn_r _ [721, 139, 707, 708, 709, 5, 710, 524, 525, 526, 527, 412, 413, 414, 144, 145, 146, 147, 466, 467, 468, 469, 102, 470, 471, 472, 473, 1337, 1338, 1339, 1340, 1341, 1342, 1343, 1344, 1345, 1346, 1347, 1348, 1349, 1350, 1351, 1352, 1353, 1354, 1355, 1356, 1357] (by decide +kernel) (by decide +kernel)
set_option maxRecDepth 20000 in
theorem gL_law_X7_unite : GoodIn wsL_law (wsV RL 248 RX7 yX7_unite wsX7_unite) := goodIn_app (goodIn_of _ (by decide +kernel)) ggL_law_X7_unite
set_option maxRecDepth 20000 in
theorem ggL_law_L_differ : GoodIn wsL_law wsL_differ := goodIn_ca (goodIn_r _ [724, 171, 725, 726, 727, 2, 728, 699, 700, 701, 702, 361, 362, 363, 364, 176, 177, 16, 383, 384, 385, 18, 386, 38, 387, 388, 389, 53, 594, 595, 596, 597, 598, 599, 600, 601, 43, 44, 45, 46, 47, 48, 49, 50, 51, 52, 602, 603, 604, 605, 606, 607, 608, 1330, 1331, 1332, 1333, 1334, 1335, 1336, 1358] (by decide +kernel) (by decide +kernel)) (goodIn_sub (fun _ h => List.mem_append_left _ (List.mem_append_right _ h)) (by decide +kernel))
set_option maxRecDepth 20000 in
theorem gL_law_L_differ : GoodIn wsL_law (va_wsS RL 249 yL_differ wsL_differ) := goodIn_app (goodIn_of _ (by decide +kernel)) ggL_law_L_differ
set_option maxRecDepth 20000 in
theorem ggL_law_X7_differ : GoodIn wsL_law wsX7_differ := goodIn_r _ [732, 139, 707, 708, 709, 5, 710, 524, 525, 526, 527, 412, 413, 414, 144, 145, 146, 147, 466, 467, 468, 469, 102, 470, 471, 472, 473, 1337, 1338, 1339, 1340, 1341, 1342, 1343, 1344, 1345, 1346, 1347, 1348, 1349, 1350, 1351, 1352, 1353, 1354, 1355, 1356, 1357] (by decide +kernel) (by decide +kernel)
set_option maxRecDepth 20000 in
theorem gL_law_X7_differ : GoodIn wsL_law (wsV RL 251 RX7 yX7_differ wsX7_differ) := goodIn_app (goodIn_of _ (by decide +kernel)) ggL_law_X7_differ
set_option maxRecDepth 20000 in
theorem ggL_law_L_subtract : GoodIn wsL_law wsL_subtract := goodIn_ca (goodIn_r _ [735, 171, 736, 737, 738, 2, 739, 699, 700, 701, 702, 361, 362, 363, 364, 176, 177, 16, 383, 384, 385, 18, 386, 38, 387, 388, 389, 53, 594, 595, 596, 597, 598, 599, 600, 601, 43, 44, 45, 46, 47, 48, 49, 50, 51, 52, 602, 603, 604, 605, 606, 607, 608, 1330, 1331, 1332, 1333, 1334, 1335, 1336, 1358] (by decide +kernel) (by decide +kernel)) (goodIn_sub (fun _ h => List.mem_append_left _ (List.mem_append_right _ h)) (by decide +kernel))
set_option maxRecDepth 20000 in
theorem gL_law_L_subtract : GoodIn wsL_law (va_wsS RL 252 yL_subtract wsL_subtract) := goodIn_app (goodIn_of _ (by decide +kernel)) ggL_law_L_subtract
set_option maxRecDepth 20000 in
theorem ggL_law_X7_subtract : GoodIn wsL_law wsX7_subtract := goodIn_r _ [743, 139, 707, 708, 709, 5, 710, 524, 525, 526, 527, 412, 413, 414, 144, 145, 146, 147, 466, 467, 468, 469, 102, 470, 471, 472, 473, 1337, 1338, 1339, 1340, 1341, 1342, 1343, 1344, 1345, 1346, 1347, 1348, 1349, 1350, 1351, 1352, 1353, 1354, 1355, 1356, 1357] (by decide +kernel) (by decide +kernel)
set_option maxRecDepth 20000 in
theorem gL_law_X7_subtract : GoodIn wsL_law (wsV RL 254 RX7 yX7_subtract wsX7_subtract) := goodIn_app (goodIn_of _ (by decide +kernel)) ggL_law_X7_subtract
set_option maxRecDepth 20000 in
theorem ggL_law_L_copy : GoodIn wsL_law wsL_copy := goodIn_ca (goodIn_r _ [746, 171, 747, 748, 749, 2, 750, 699, 700, 701, 702, 361, 362, 363, 364, 176, 177, 16, 383, 384, 385, 18, 386, 38, 387, 388, 389, 53, 594, 595, 596, 597, 598, 599, 600, 601, 43, 44, 45, 46, 47, 48, 49, 50, 51, 52, 602, 603, 604, 605, 606, 607, 608, 1330, 1331, 1332, 1333, 1334, 1335, 1336, 1358] (by decide +kernel) (by decide +kernel)) (goodIn_sub (fun _ h => List.mem_append_left _ (List.mem_append_right _ h)) (by decide +kernel))
set_option maxRecDepth 20000 in
theorem gL_law_L_copy : GoodIn wsL_law (va_wsS RL 255 yL_copy wsL_copy) := goodIn_app (goodIn_of _ (by decide +kernel)) ggL_law_L_copy
set_option maxRecDepth 20000 in
theorem ggL_law_X7_copy : GoodIn wsL_law wsX7_copy := goodIn_r _ [754, 139, 707, 708, 709, 5, 710, 524, 525, 526, 527, 412, 413, 414, 144, 145, 146, 147, 466, 467, 468, 469, 102, 470, 471, 472, 473, 1337, 1338, 1339, 1340, 1341, 1342, 1343, 1344, 1345, 1346, 1347, 1348, 1349, 1350, 1351, 1352, 1353, 1354, 1355, 1356, 1357] (by decide +kernel) (by decide +kernel)
set_option maxRecDepth 20000 in
theorem gL_law_X7_copy : GoodIn wsL_law (wsV RL 257 RX7 yX7_copy wsX7_copy) := goodIn_app (goodIn_of _ (by decide +kernel)) ggL_law_X7_copy
set_option maxRecDepth 20000 in
theorem ggL_law_L_takePart : GoodIn wsL_law wsL_takePart := goodIn_ca (goodIn_ca (goodIn_r _ [757, 171, 493, 758, 759, 760, 2, 761, 361, 362, 363, 364, 176, 177, 16, 590, 591, 592, 593, 506, 507, 34, 762, 763, 764, 18, 765, 50, 51, 48, 52, 38, 766, 767, 768, 769, 512, 513, 514, 515, 43, 44, 45, 46, 47, 49, 53, 594, 595, 596, 597, 598, 599, 600, 601, 602, 603, 604, 605, 606, 607, 608, 1330, 1331, 1332, 1333, 1334, 1335, 1336, 1358] (by decide +kernel) (by decide +kernel)) (goodIn_sub (fun _ h => List.mem_append_left _ (List.mem_append_right _ h)) (by decide +kernel))) (goodIn_sub (fun _ h => List.mem_append_right _ h) (by decide +kernel))
set_option maxRecDepth 20000 in
theorem gL_law_L_takePart : GoodIn wsL_law (va_wsS RL 258 yL_takePart wsL_takePart) := goodIn_app (goodIn_of _ (by decide +kernel)) ggL_law_L_takePart
set_option maxRecDepth 20000 in
theorem ggL_law_X7_takePart : GoodIn wsL_law wsX7_takePart := goodIn_r _ [773, 139, 111, 102, 707, 708, 709, 5, 710, 524, 525, 526, 527, 412, 413, 414, 144, 145, 146, 147, 617, 618, 619, 620, 396, 621, 622, 623, 774, 775, 776, 777, 470, 471, 472, 473, 1337, 1338, 1339, 1340, 1341, 1342, 1343, 1344, 1345, 1346, 1347, 1348, 1349, 1350, 1351, 1352, 1353, 1354, 1355, 1356, 1357] (by decide +kernel) (by decide +kernel)
set_option maxRecDepth 20000 in
theorem gL_law_X7_takePart : GoodIn wsL_law (wsV RL 261 RX7 yX7_takePart wsX7_takePart) := goodIn_app (goodIn_of _ (by decide +kernel)) ggL_law_X7_takePart
set_option maxRecDepth 20000 in
theorem ggL_law_L_shift : GoodIn wsL_law wsL_shift := goodIn_ca (goodIn_r _ [780, 171, 781, 782, 783, 2, 784, 361, 362, 363, 364, 176, 177, 16, 685, 686, 687, 785, 786, 787, 18, 788, 38, 766, 767, 768, 769, 512, 513, 514, 515, 762, 763, 764, 765, 50, 51, 48, 52, 43, 44, 45, 46, 47, 49, 53, 594, 595, 596, 597, 598, 599, 600, 601, 602, 603, 604, 605, 606, 607, 608, 1330, 1331, 1332, 1333, 1334, 1335, 1336, 1358] (by decide +kernel) (by decide +kernel)) (goodIn_sub (fun _ h => List.mem_append_left _ (List.mem_append_right _ h)) (by decide +kernel))
set_option maxRecDepth 20000 in
theorem gL_law_L_shift : GoodIn wsL_law (va_wsS RL 262 yL_shift wsL_shift) := goodIn_app (goodIn_of _ (by decide +kernel)) ggL_law_L_shift
set_option maxRecDepth 20000 in
theorem ggL_law_X7_shift : GoodIn wsL_law wsX7_shift := goodIn_r _ [792, 139, 111, 102, 524, 525, 526, 5, 527, 412, 413, 414, 144, 145, 146, 147, 774, 775, 776, 777, 470, 471, 472, 473, 1337, 1338, 1339, 1340, 1341, 1342, 1343, 1344, 1345, 1346, 1347, 1348, 1349, 1350, 1351, 1352, 1353, 1354, 1355, 1356, 1357] (by decide +kernel) (by decide +kernel)
set_option maxRecDepth 20000 in
theorem gL_law_X7_shift : GoodIn wsL_law (wsV RL 264 RX7 yX7_shift wsX7_shift) := goodIn_app (goodIn_of _ (by decide +kernel)) ggL_law_X7_shift
set_option maxRecDepth 20000 in
theorem ggL_law_L_sieve : GoodIn wsL_law wsL_sieve := goodIn_ca (goodIn_r _ [795, 171, 796, 797, 798, 2, 799, 361, 362, 363, 364, 176, 177, 16, 685, 686, 687, 800, 801, 802, 18, 803, 804, 378, 379, 380, 381, 366, 367, 368, 38, 53, 43, 44, 45, 46, 47, 48, 49, 50, 51, 52, 650, 40, 41, 42, 805, 509, 510, 511, 512, 513, 514, 515, 806, 807, 808, 809, 563, 540, 541, 542, 594, 595, 596, 597, 598, 599, 600, 601, 602, 603, 604, 605, 606, 607, 608, 1330, 1331, 1332, 1333, 1334, 1335, 1336, 1358] (by decide +kernel) (by decide +kernel)) (goodIn_sub (fun _ h => List.mem_append_left _ (List.mem_append_right _ h)) (by decide +kernel))
set_option maxRecDepth 20000 in
theorem gL_law_L_sieve : GoodIn wsL_law (va_wsS RL 265 yL_sieve wsL_sieve) := goodIn_app (goodIn_of _ (by decide +kernel)) ggL_law_L_sieve
set_option maxRecDepth 20000 in
theorem ggL_law_X7_sieve : GoodIn wsL_law wsX7_sieve := goodIn_r _ [813, 139, 102, 524, 525, 526, 5, 527, 412, 413, 414, 144, 145, 146, 147, 814, 815, 816, 470, 471, 472, 473, 1337, 1338, 1339, 1340, 1341, 1342, 1343, 1344, 1345, 1346, 1347, 1348, 1349, 1350, 1351, 1352, 1353, 1354, 1355, 1356, 1357] (by decide +kernel) (by decide +kernel)
set_option maxRecDepth 20000 in
theorem gL_law_X7_sieve : GoodIn wsL_law (wsV RL 267 RX7 yX7_sieve wsX7_sieve) := goodIn_app (goodIn_of _ (by decide +kernel)) ggL_law_X7_sieve
set_option maxRecDepth 20000 in
theorem ggL_law_L_loadWords : GoodIn wsL_law wsL_loadWords := goodIn_ca (goodIn_r _ [819, 171, 820, 821, 822, 2, 823, 361, 362, 363, 364, 176, 177, 16, 824, 825, 826, 18, 827, 38, 804, 378, 379, 380, 381, 366, 367, 368, 53, 43, 44, 45, 46, 47, 48, 49, 50, 51, 52, 828, 829, 830, 831, 832, 833, 834, 835, 836, 837, 604, 838, 839, 840, 841, 842, 843, 1330, 1331, 1332, 1333, 1334, 1335, 1336, 1358] (by decide +kernel) (by decide +kernel)) (goodIn_sub (fun _ h => List.mem_append_left _ (List.mem_append_right _ h)) (by decide +kernel))
set_option maxRecDepth 20000 in
theorem gL_law_L_loadWords : GoodIn wsL_law (va_wsS RL 270 yL_loadWords wsL_loadWords) := goodIn_app (goodIn_of _ (by decide +kernel)) ggL_law_L_loadWords
set_option maxRecDepth 20000 in
theorem ggL_law_X7_loadWords : GoodIn wsL_law wsX7_loadWords := goodIn_r _ [847, 139, 524, 525, 526, 5, 527, 412, 413, 414, 144, 145, 146, 147, 462, 463, 464, 465, 102, 848, 849, 850, 851, 852, 853, 854, 855, 1337, 1338, 1339, 1340, 1341, 1342, 1343, 1344, 1345, 1346, 1347, 1348, 1349, 1350, 1351, 1352, 1353, 1354, 1355, 1356, 1357] (by decide +kernel) (by decide +kernel)
set_option maxRecDepth 20000 in
theorem gL_law_X7_loadWords : GoodIn wsL_law (wsV RL 273 RX7 yX7_loadWords wsX7_loadWords) := goodIn_app (goodIn_of _ (by decide +kernel)) ggL_law_X7_loadWords
set_option maxRecDepth 20000 in
theorem ggL_law_L_loadTape : GoodIn wsL_law wsL_loadTape := goodIn_ca (goodIn_ca (goodIn_r _ [858, 171, 117, 859, 860, 861, 2, 862, 122, 123, 23, 361, 362, 363, 364, 176, 177, 16, 127, 128, 129, 22, 130, 63, 863, 864, 865, 18, 866, 38, 804, 378, 379, 380, 381, 366, 367, 368, 53, 43, 44, 45, 46, 47, 48, 49, 50, 51, 52, 867, 188, 189, 190, 62, 160, 161, 162, 163, 828, 829, 830, 831, 832, 833, 834, 835, 836, 837, 604, 838, 839, 840, 841, 842, 843, 1330, 1331, 1332, 1333, 1334, 1335, 1336, 1359, 1360, 1358] (by decide +kernel) (by decide +kernel)) (goodIn_sub (fun _ h => List.mem_append_left _ (List.mem_append_left _ (List.mem_append_right _ h))) (by decide +kernel))) (goodIn_sub (fun _ h => List.mem_append_left _ (List.mem_append_right _ h)) (by decide +kernel))
set_option maxRecDepth 20000 in
theorem gL_law_L_loadTape : GoodIn wsL_law (va_wsS RL 274 yL_loadTape wsL_loadTape) := goodIn_app (goodIn_of _ (by decide +kernel)) ggL_law_L_loadTape
set_option maxRecDepth 20000 in
theorem ggL_law_X7_loadTape : GoodIn wsL_law wsX7_loadTape := goodIn_r _ [871, 139, 140, 102, 103, 524, 525, 526, 5, 527, 412, 413, 414, 144, 145, 146, 147, 462, 463, 464, 465, 852, 853, 854, 855, 1337, 1338, 1339, 1340, 1341, 1342, 1343, 1344, 1345, 1346, 1347, 1348, 1349, 1350, 1351, 1352, 1353, 1354, 1355, 1356, 1357] (by decide +kernel) (by decide +kernel)
set_option maxRecDepth 20000 in
theorem gL_law_X7_loadTape : GoodIn wsL_law (wsV RL 276 RX7 yX7_loadTape wsX7_loadTape) := goodIn_app (goodIn_of _ (by decide +kernel)) ggL_law_X7_loadTape
set_option maxRecDepth 20000 in
theorem ggL_law_L_wordCount : GoodIn wsL_law wsL_wordCount := goodIn_ca (goodIn_r _ [874, 171, 875, 876, 877, 2, 878, 361, 362, 363, 364, 176, 177, 16, 879, 880, 881, 18, 882, 883, 829, 830, 831, 832, 833, 834, 835, 50, 51, 48, 52, 38, 43, 44, 45, 46, 47, 49, 53, 836, 837, 604, 838, 839, 840, 841, 842, 843, 1330, 1331, 1332, 1333, 1334, 1335, 1336, 1358] (by decide +kernel) (by decide +kernel)) (goodIn_sub (fun _ h => List.mem_append_left _ (List.mem_append_right _ h)) (by decide +kernel))
set_option maxRecDepth 20000 in
theorem gL_law_L_wordCount : GoodIn wsL_law (va_wsS RL 277 yL_wordCount wsL_wordCount) := goodIn_app (goodIn_of _ (by decide +kernel)) ggL_law_L_wordCount
set_option maxRecDepth 20000 in
theorem ggL_law_X7_wordCount : GoodIn wsL_law wsX7_wordCount := goodIn_r _ [887, 139, 524, 525, 526, 5, 527, 412, 413, 414, 144, 145, 146, 147, 852, 853, 854, 855, 102, 1337, 1338, 1339, 1340, 1341, 1342, 1343, 1344, 1345, 1346, 1347, 1348, 1349, 1350, 1351, 1352, 1353, 1354, 1355, 1356, 1357] (by decide +kernel) (by decide +kernel)
set_option maxRecDepth 20000 in
theorem gL_law_X7_wordCount : GoodIn wsL_law (wsV RL 279 RX7 yX7_wordCount wsX7_wordCount) := goodIn_app (goodIn_of _ (by decide +kernel)) ggL_law_X7_wordCount
set_option maxRecDepth 20000 in
theorem ggL_law_L_wordAt : GoodIn wsL_law wsL_wordAt := goodIn_ca (goodIn_ca (goodIn_r _ [890, 171, 493, 891, 892, 893, 2, 894, 361, 362, 363, 364, 176, 177, 16, 879, 880, 881, 18, 882, 883, 829, 830, 831, 832, 833, 834, 835, 50, 51, 48, 52, 38, 43, 44, 45, 46, 47, 49, 53, 836, 837, 604, 838, 839, 840, 841, 842, 843, 895, 896, 897, 506, 507, 898, 513, 514, 515, 1330, 1331, 1332, 1333, 1334, 1335, 1336, 1358] (by decide +kernel) (by decide +kernel)) (goodIn_sub (fun _ h => List.mem_append_left _ (List.mem_append_right _ h)) (by decide +kernel))) (goodIn_sub (fun _ h => List.mem_append_right _ h) (by decide +kernel))
set_option maxRecDepth 20000 in
theorem gL_law_L_wordAt : GoodIn wsL_law (va_wsS RL 280 yL_wordAt wsL_wordAt) := goodIn_app (goodIn_of _ (by decide +kernel)) ggL_law_L_wordAt
set_option maxRecDepth 20000 in
theorem ggL_law_X7_wordAt : GoodIn wsL_law wsX7_wordAt := goodIn_r _ [902, 139, 524, 525, 526, 5, 527, 412, 413, 414, 144, 145, 146, 147, 852, 853, 854, 855, 102, 903, 904, 905, 906, 907, 1337, 1338, 1339, 1340, 1341, 1342, 1343, 1344, 1345, 1346, 1347, 1348, 1349, 1350, 1351, 1352, 1353, 1354, 1355, 1356, 1357] (by decide +kernel) (by decide +kernel)
set_option maxRecDepth 20000 in
theorem gL_law_X7_wordAt : GoodIn wsL_law (wsV RL 282 RX7 yX7_wordAt wsX7_wordAt) := goodIn_app (goodIn_of _ (by decide +kernel)) ggL_law_X7_wordAt
set_option maxRecDepth 20000 in
theorem ggL_law_L_byteCount : GoodIn wsL_law wsL_byteCount := goodIn_ca (goodIn_r _ [910, 171, 911, 912, 913, 2, 914, 361, 362, 363, 364, 176, 177, 16, 915, 916, 917, 18, 918, 883, 829, 830, 831, 832, 833, 834, 835, 50, 51, 48, 52, 38, 43, 44, 45, 46, 47, 49, 53, 836, 837, 604, 838, 839, 840, 841, 842, 843, 1330, 1331, 1332, 1333, 1334, 1335, 1336, 1358] (by decide +kernel) (by decide +kernel)) (goodIn_sub (fun _ h => List.mem_append_left _ (List.mem_append_right _ h)) (by decide +kernel))
set_option maxRecDepth 20000 in
theorem gL_law_L_byteCount : GoodIn wsL_law (va_wsS RL 283 yL_byteCount wsL_byteCount) := goodIn_app (goodIn_of _ (by decide +kernel)) ggL_law_L_byteCount
set_option maxRecDepth 20000 in
theorem ggL_law_X7_byteCount : GoodIn wsL_law wsX7_byteCount := goodIn_r _ [922, 139, 524, 525, 526, 5, 527, 412, 413, 414, 144, 145, 146, 147, 852, 853, 854, 855, 102, 1337, 1338, 1339, 1340, 1341, 1342, 1343, 1344, 1345, 1346, 1347, 1348, 1349, 1350, 1351, 1352, 1353, 1354, 1355, 1356, 1357] (by decide +kernel) (by decide +kernel)
set_option maxRecDepth 20000 in
theorem gL_law_X7_byteCount : GoodIn wsL_law (wsV RL 285 RX7 yX7_byteCount wsX7_byteCount) := goodIn_app (goodIn_of _ (by decide +kernel)) ggL_law_X7_byteCount
set_option maxRecDepth 20000 in
theorem ggL_law_L_byteAt : GoodIn wsL_law wsL_byteAt := goodIn_ca (goodIn_ca (goodIn_r _ [925, 171, 493, 926, 927, 928, 2, 929, 930, 361, 362, 363, 364, 176, 177, 16, 915, 916, 917, 18, 918, 883, 829, 830, 831, 832, 833, 834, 835, 50, 51, 48, 52, 38, 43, 44, 45, 46, 47, 49, 53, 836, 837, 604, 838, 839, 840, 841, 842, 843, 895, 896, 897, 506, 507, 931, 767, 768, 769, 512, 513, 514, 515, 1330, 1331, 1332, 1333, 1334, 1335, 1336, 1358] (by decide +kernel) (by decide +kernel)) (goodIn_sub (fun _ h => List.mem_append_left _ (List.mem_append_right _ h)) (by decide +kernel))) (goodIn_sub (fun _ h => List.mem_append_right _ h) (by decide +kernel))
set_option maxRecDepth 20000 in
theorem gL_law_L_byteAt : GoodIn wsL_law (va_wsS RL 286 yL_byteAt wsL_byteAt) := goodIn_app (goodIn_of _ (by decide +kernel)) ggL_law_L_byteAt
set_option maxRecDepth 20000 in
theorem ggL_law_X7_byteAt : GoodIn wsL_law wsX7_byteAt := goodIn_r _ [935, 139, 524, 525, 526, 5, 527, 412, 413, 414, 144, 145, 146, 147, 852, 853, 854, 855, 102, 903, 904, 905, 906, 907, 1337, 1338, 1339, 1340, 1341, 1342, 1343, 1344, 1345, 1346, 1347, 1348, 1349, 1350, 1351, 1352, 1353, 1354, 1355, 1356, 1357] (by decide +kernel) (by decide +kernel)
set_option maxRecDepth 20000 in
theorem gL_law_X7_byteAt : GoodIn wsL_law (wsV RL 288 RX7 yX7_byteAt wsX7_byteAt) := goodIn_app (goodIn_of _ (by decide +kernel)) ggL_law_X7_byteAt
set_option maxRecDepth 20000 in
theorem ggL_law_L_fingerprint : GoodIn wsL_law wsL_fingerprint := goodIn_ca (goodIn_r _ [938, 171, 939, 940, 941, 2, 942, 361, 362, 363, 364, 176, 177, 16, 943, 944, 945, 18, 946, 947, 38, 1330, 1331, 1332, 1333, 1334, 1335, 1336, 1358] (by decide +kernel) (by decide +kernel)) (goodIn_sub (fun _ h => List.mem_append_left _ (List.mem_append_right _ h)) (by decide +kernel))
set_option maxRecDepth 20000 in
theorem gL_law_L_fingerprint : GoodIn wsL_law (va_wsS RL 289 yL_fingerprint wsL_fingerprint) := goodIn_app (goodIn_of _ (by decide +kernel)) ggL_law_L_fingerprint
set_option maxRecDepth 20000 in
theorem ggL_law_X7_fingerprint : GoodIn wsL_law wsX7_fingerprint := goodIn_r _ [951, 139, 952, 524, 525, 526, 5, 527, 412, 413, 414, 144, 145, 146, 147, 903, 904, 905, 906, 907, 102, 1337, 1338, 1339, 1340, 1341, 1342, 1343, 1344, 1345, 1346, 1347, 1348, 1349, 1350, 1351, 1352, 1353, 1354, 1355, 1356, 1357] (by decide +kernel) (by decide +kernel)
set_option maxRecDepth 20000 in
theorem gL_law_X7_fingerprint : GoodIn wsL_law (wsV RL 291 RX7 yX7_fingerprint wsX7_fingerprint) := goodIn_app (goodIn_of _ (by decide +kernel)) ggL_law_X7_fingerprint
set_option maxRecDepth 20000 in
theorem ggL_law_L_has : GoodIn wsL_law wsL_has := goodIn_ca (goodIn_ca (goodIn_r _ [955, 171, 493, 956, 957, 958, 2, 959, 502, 503, 504, 505, 506, 507, 34, 361, 362, 363, 364, 176, 177, 16, 508, 509, 510, 18, 511, 512, 513, 514, 515, 38, 1330, 1331, 1332, 1333, 1334, 1335, 1336, 1358] (by decide +kernel) (by decide +kernel)) (goodIn_sub (fun _ h => List.mem_append_right _ h) (by decide +kernel))) (goodIn_sub (fun _ h => List.mem_append_left _ (List.mem_append_right _ h)) (by decide +kernel))
set_option maxRecDepth 20000 in
theorem gL_law_L_has : GoodIn wsL_law (va_wsS RL 292 yL_has wsL_has) := goodIn_app (goodIn_of _ (by decide +kernel)) ggL_law_L_has
set_option maxRecDepth 20000 in
theorem ggL_law_X7_has : GoodIn wsL_law wsX7_has := goodIn_r _ [963, 139, 524, 525, 526, 5, 527, 412, 413, 414, 144, 145, 146, 147, 528, 529, 530, 531, 396, 547, 548, 549, 550, 102, 1337, 1338, 1339, 1340, 1341, 1342, 1343, 1344, 1345, 1346, 1347, 1348, 1349, 1350, 1351, 1352, 1353, 1354, 1355, 1356, 1357] (by decide +kernel) (by decide +kernel)
set_option maxRecDepth 20000 in
theorem gL_law_X7_has : GoodIn wsL_law (wsV RL 294 RX7 yX7_has wsX7_has) := goodIn_app (goodIn_of _ (by decide +kernel)) ggL_law_X7_has
set_option maxRecDepth 20000 in
theorem ggL_law_L_count : GoodIn wsL_law wsL_count := goodIn_ca (goodIn_r _ [966, 171, 967, 968, 969, 2, 970, 361, 362, 363, 364, 176, 177, 16, 594, 595, 596, 18, 597, 598, 599, 600, 601, 38, 43, 44, 45, 46, 47, 48, 49, 50, 51, 52, 53, 602, 603, 604, 605, 606, 607, 608, 1330, 1331, 1332, 1333, 1334, 1335, 1336, 1358] (by decide +kernel) (by decide +kernel)) (goodIn_sub (fun _ h => List.mem_append_left _ (List.mem_append_right _ h)) (by decide +kernel))
set_option maxRecDepth 20000 in
theorem gL_law_L_count : GoodIn wsL_law (va_wsS RL 295 yL_count wsL_count) := goodIn_app (goodIn_of _ (by decide +kernel)) ggL_law_L_count
set_option maxRecDepth 20000 in
theorem ggL_law_X7_count : GoodIn wsL_law wsX7_count := goodIn_r _ [974, 139, 524, 525, 526, 5, 527, 412, 413, 414, 144, 145, 146, 147, 470, 471, 472, 473, 102, 1337, 1338, 1339, 1340, 1341, 1342, 1343, 1344, 1345, 1346, 1347, 1348, 1349, 1350, 1351, 1352, 1353, 1354, 1355, 1356, 1357] (by decide +kernel) (by decide +kernel)
set_option maxRecDepth 20000 in
theorem gL_law_X7_count : GoodIn wsL_law (wsV RL 297 RX7 yX7_count wsX7_count) := goodIn_app (goodIn_of _ (by decide +kernel)) ggL_law_X7_count
set_option maxRecDepth 20000 in
theorem ggL_law_L_countIn : GoodIn wsL_law wsL_countIn := goodIn_ca (goodIn_ca (goodIn_r _ [977, 171, 493, 978, 979, 980, 2, 981, 590, 591, 592, 593, 506, 507, 34, 361, 362, 363, 364, 176, 177, 16, 982, 599, 600, 18, 601, 38, 43, 44, 45, 46, 47, 48, 49, 50, 51, 52, 53, 602, 603, 604, 605, 606, 607, 608, 1330, 1331, 1332, 1333, 1334, 1335, 1336, 1358] (by decide +kernel) (by decide +kernel)) (goodIn_sub (fun _ h => List.mem_append_right _ h) (by decide +kernel))) (goodIn_sub (fun _ h => List.mem_append_left _ (List.mem_append_right _ h)) (by decide +kernel))
set_option maxRecDepth 20000 in
theorem gL_law_L_countIn : GoodIn wsL_law (va_wsS RL 298 yL_countIn wsL_countIn) := goodIn_app (goodIn_of _ (by decide +kernel)) ggL_law_L_countIn
set_option maxRecDepth 20000 in
theorem ggL_law_X7_countIn : GoodIn wsL_law wsX7_countIn := goodIn_r _ [986, 139, 524, 525, 526, 5, 527, 412, 413, 414, 144, 145, 146, 147, 617, 618, 619, 620, 396, 621, 622, 623, 987, 988, 989, 990, 102, 1337, 1338, 1339, 1340, 1341, 1342, 1343, 1344, 1345, 1346, 1347, 1348, 1349, 1350, 1351, 1352, 1353, 1354, 1355, 1356, 1357] (by decide +kernel) (by decide +kernel)
set_option maxRecDepth 20000 in
theorem gL_law_X7_countIn : GoodIn wsL_law (wsV RL 300 RX7 yX7_countIn wsX7_countIn) := goodIn_app (goodIn_of _ (by decide +kernel)) ggL_law_X7_countIn
set_option maxRecDepth 20000 in
theorem ggL_law_L_length : GoodIn wsL_law wsL_length := goodIn_ca (goodIn_r _ [993, 171, 994, 995, 996, 2, 997, 361, 362, 363, 364, 176, 177, 16, 828, 829, 830, 18, 831, 832, 833, 834, 835, 50, 51, 48, 52, 38, 43, 44, 45, 46, 47, 49, 53, 836, 837, 604, 838, 839, 840, 841, 842, 843, 1330, 1331, 1332, 1333, 1334, 1335, 1336, 1358] (by decide +kernel) (by decide +kernel)) (goodIn_sub (fun _ h => List.mem_append_left _ (List.mem_append_right _ h)) (by decide +kernel))
set_option maxRecDepth 20000 in
theorem gL_law_L_length : GoodIn wsL_law (va_wsS RL 301 yL_length wsL_length) := goodIn_app (goodIn_of _ (by decide +kernel)) ggL_law_L_length
set_option maxRecDepth 20000 in
theorem ggL_law_X7_length : GoodIn wsL_law wsX7_length := goodIn_r _ [1001, 139, 524, 525, 526, 5, 527, 412, 413, 414, 144, 145, 146, 147, 852, 853, 854, 855, 102, 1337, 1338, 1339, 1340, 1341, 1342, 1343, 1344, 1345, 1346, 1347, 1348, 1349, 1350, 1351, 1352, 1353, 1354, 1355, 1356, 1357] (by decide +kernel) (by decide +kernel)
set_option maxRecDepth 20000 in
theorem gL_law_X7_length : GoodIn wsL_law (wsV RL 303 RX7 yX7_length wsX7_length) := goodIn_app (goodIn_of _ (by decide +kernel)) ggL_law_X7_length
set_option maxRecDepth 20000 in
theorem ggL_law_L_isEmpty : GoodIn wsL_law wsL_isEmpty := goodIn_ca (goodIn_r _ [1004, 171, 1005, 1006, 1007, 2, 1008, 361, 362, 363, 364, 176, 177, 16, 594, 595, 596, 18, 597, 598, 599, 600, 601, 38, 43, 44, 45, 46, 47, 48, 49, 50, 51, 52, 53, 602, 603, 604, 605, 606, 607, 608, 1330, 1331, 1332, 1333, 1334, 1335, 1336, 1358] (by decide +kernel) (by decide +kernel)) (goodIn_sub (fun _ h => List.mem_append_left _ (List.mem_append_right _ h)) (by decide +kernel))
set_option maxRecDepth 20000 in
theorem gL_law_L_isEmpty : GoodIn wsL_law (va_wsS RL 304 yL_isEmpty wsL_isEmpty) := goodIn_app (goodIn_of _ (by decide +kernel)) ggL_law_L_isEmpty
set_option maxRecDepth 20000 in
theorem ggL_law_X7_isEmpty : GoodIn wsL_law wsX7_isEmpty := goodIn_r _ [1012, 139, 524, 525, 526, 5, 527, 412, 413, 414, 144, 145, 146, 147, 852, 853, 854, 855, 102, 1337, 1338, 1339, 1340, 1341, 1342, 1343, 1344, 1345, 1346, 1347, 1348, 1349, 1350, 1351, 1352, 1353, 1354, 1355, 1356, 1357] (by decide +kernel) (by decide +kernel)
set_option maxRecDepth 20000 in
theorem gL_law_X7_isEmpty : GoodIn wsL_law (wsV RL 306 RX7 yX7_isEmpty wsX7_isEmpty) := goodIn_app (goodIn_of _ (by decide +kernel)) ggL_law_X7_isEmpty
set_option maxRecDepth 20000 in
theorem ggL_law_L_isRoomy : GoodIn wsL_law wsL_isRoomy := goodIn_ca (goodIn_r _ [1015, 171, 1016, 1017, 1018, 2, 1019, 361, 362, 363, 364, 176, 177, 16, 828, 829, 830, 18, 831, 832, 833, 834, 835, 50, 51, 48, 52, 38, 43, 44, 45, 46, 47, 49, 53, 836, 837, 604, 838, 839, 840, 841, 842, 843, 1330, 1331, 1332, 1333, 1334, 1335, 1336, 1358] (by decide +kernel) (by decide +kernel)) (goodIn_sub (fun _ h => List.mem_append_left _ (List.mem_append_right _ h)) (by decide +kernel))
set_option maxRecDepth 20000 in
theorem gL_law_L_isRoomy : GoodIn wsL_law (va_wsS RL 307 yL_isRoomy wsL_isRoomy) := goodIn_app (goodIn_of _ (by decide +kernel)) ggL_law_L_isRoomy
set_option maxRecDepth 20000 in
theorem ggL_law_X7_isRoomy : GoodIn wsL_law wsX7_isRoomy := goodIn_r _ [1023, 139, 524, 525, 526, 5, 527, 412, 413, 414, 144, 145, 146, 147, 1337, 1338, 1339, 1340, 1341, 1342, 1343, 1344, 1345, 1346, 1347, 1348, 1349, 1350, 1351, 1352, 1353, 1354, 1355, 1356, 1357] (by decide +kernel) (by decide +kernel)
set_option maxRecDepth 20000 in
theorem gL_law_X7_isRoomy : GoodIn wsL_law (wsV RL 309 RX7 yX7_isRoomy wsX7_isRoomy) := goodIn_app (goodIn_of _ (by decide +kernel)) ggL_law_X7_isRoomy
set_option maxRecDepth 20000 in
theorem ggL_law_L_next : GoodIn wsL_law wsL_next := goodIn_ca (goodIn_ca (goodIn_r _ [1026, 171, 493, 1027, 1028, 1029, 2, 1030, 502, 503, 504, 505, 506, 507, 34, 361, 362, 363, 364, 176, 177, 16, 1031, 1032, 1033, 18, 1034, 38, 43, 44, 45, 46, 47, 48, 49, 50, 51, 52, 53, 1035, 1036, 604, 1037, 1038, 1039, 841, 1040, 843, 1330, 1331, 1332, 1333, 1334, 1335, 1336, 1358] (by decide +kernel) (by decide +kernel)) (goodIn_sub (fun _ h => List.mem_append_right _ h) (by decide +kernel))) (goodIn_sub (fun _ h => List.mem_append_left _ (List.mem_append_right _ h)) (by decide +kernel))
set_option maxRecDepth 20000 in
theorem gL_law_L_next : GoodIn wsL_law (va_wsS RL 310 yL_next wsL_next) := goodIn_app (goodIn_of _ (by decide +kernel)) ggL_law_L_next
set_option maxRecDepth 20000 in
theorem ggL_law_X7_next : GoodIn wsL_law wsX7_next := goodIn_r _ [1044, 139, 102, 524, 525, 526, 5, 527, 412, 413, 414, 144, 145, 146, 147, 528, 529, 530, 531, 396, 1337, 1338, 1339, 1340, 1341, 1342, 1343, 1344, 1345, 1346, 1347, 1348, 1349, 1350, 1351, 1352, 1353, 1354, 1355, 1356, 1357] (by decide +kernel) (by decide +kernel)
set_option maxRecDepth 20000 in
theorem gL_law_X7_next : GoodIn wsL_law (wsV RL 312 RX7 yX7_next wsX7_next) := goodIn_app (goodIn_of _ (by decide +kernel)) ggL_law_X7_next
set_option maxRecDepth 20000 in
theorem ggL_law_L_nextMissing : GoodIn wsL_law wsL_nextMissing := goodIn_ca (goodIn_ca (goodIn_r _ [1047, 171, 493, 1048, 1049, 1050, 2, 1051, 502, 503, 504, 505, 506, 507, 34, 361, 362, 363, 364, 176, 177, 16, 1052, 1053, 1054, 18, 1055, 38, 53, 46, 47, 48, 49, 43, 44, 45, 50, 51, 52, 1035, 1036, 604, 1037, 1038, 1039, 841, 1040, 843, 1330, 1331, 1332, 1333, 1334, 1335, 1336, 1358] (by decide +kernel) (by decide +kernel)) (goodIn_sub (fun _ h => List.mem_append_right _ h) (by decide +kernel))) (goodIn_sub (fun _ h => List.mem_append_left _ (List.mem_append_right _ h)) (by decide +kernel))
set_option maxRecDepth 20000 in
theorem gL_law_L_nextMissing : GoodIn wsL_law (va_wsS RL 313 yL_nextMissing wsL_nextMissing) := goodIn_app (goodIn_of _ (by decide +kernel)) ggL_law_L_nextMissing
set_option maxRecDepth 20000 in
theorem ggL_law_X7_nextMissing : GoodIn wsL_law wsX7_nextMissing := goodIn_r _ [1059, 139, 524, 525, 526, 5, 527, 412, 413, 414, 144, 145, 146, 147, 528, 529, 530, 531, 396, 547, 548, 549, 550, 102, 1337, 1338, 1339, 1340, 1341, 1342, 1343, 1344, 1345, 1346, 1347, 1348, 1349, 1350, 1351, 1352, 1353, 1354, 1355, 1356, 1357] (by decide +kernel) (by decide +kernel)
set_option maxRecDepth 20000 in
theorem gL_law_X7_nextMissing : GoodIn wsL_law (wsV RL 315 RX7 yX7_nextMissing wsX7_nextMissing) := goodIn_app (goodIn_of _ (by decide +kernel)) ggL_law_X7_nextMissing
set_option maxRecDepth 20000 in
theorem ggL_law_L_previous : GoodIn wsL_law wsL_previous := goodIn_ca (goodIn_ca (goodIn_r _ [1062, 171, 493, 1063, 1064, 1065, 2, 1066, 502, 503, 504, 505, 506, 507, 34, 361, 362, 363, 364, 176, 177, 16, 1067, 833, 834, 18, 835, 50, 51, 48, 52, 38, 43, 44, 45, 46, 47, 49, 53, 836, 837, 604, 838, 839, 840, 841, 842, 843, 1330, 1331, 1332, 1333, 1334, 1335, 1336, 1358] (by decide +kernel) (by decide +kernel)) (goodIn_sub (fun _ h => List.mem_append_right _ h) (by decide +kernel))) (goodIn_sub (fun _ h => List.mem_append_left _ (List.mem_append_right _ h)) (by decide +kernel))
set_option maxRecDepth 20000 in
theorem gL_law_L_previous : GoodIn wsL_law (va_wsS RL 316 yL_previous wsL_previous) := goodIn_app (goodIn_of _ (by decide +kernel)) ggL_law_L_previous
set_option maxRecDepth 20000 in
theorem ggL_law_X7_previous : GoodIn wsL_law wsX7_previous := goodIn_r _ [1071, 139, 102, 524, 525, 526, 5, 527, 412, 413, 414, 144, 145, 146, 147, 528, 529, 530, 531, 396, 1337, 1338, 1339, 1340, 1341, 1342, 1343, 1344, 1345, 1346, 1347, 1348, 1349, 1350, 1351, 1352, 1353, 1354, 1355, 1356, 1357] (by decide +kernel) (by decide +kernel)
set_option maxRecDepth 20000 in
theorem gL_law_X7_previous : GoodIn wsL_law (wsV RL 318 RX7 yX7_previous wsX7_previous) := goodIn_app (goodIn_of _ (by decide +kernel)) ggL_law_X7_previous
set_option maxRecDepth 20000 in
theorem ggL_law_L_previousMissing : GoodIn wsL_law wsL_previousMissing := goodIn_ca (goodIn_ca (goodIn_r _ [1074, 171, 493, 1075, 1076, 1077, 2, 1078, 502, 503, 504, 505, 506, 507, 34, 361, 362, 363, 364, 176, 177, 16, 1079, 1080, 1081, 18, 1082, 38, 53, 43, 44, 45, 46, 47, 48, 49, 50, 51, 52, 836, 837, 604, 838, 839, 840, 841, 842, 843, 1330, 1331, 1332, 1333, 1334, 1335, 1336, 1358] (by decide +kernel) (by decide +kernel)) (goodIn_sub (fun _ h => List.mem_append_right _ h) (by decide +kernel))) (goodIn_sub (fun _ h => List.mem_append_left _ (List.mem_append_right _ h)) (by decide +kernel))
set_option maxRecDepth 20000 in
theorem gL_law_L_previousMissing : GoodIn wsL_law (va_wsS RL 319 yL_previousMissing wsL_previousMissing) := goodIn_app (goodIn_of _ (by decide +kernel)) ggL_law_L_previousMissing
set_option maxRecDepth 20000 in
theorem ggL_law_X7_previousMissing : GoodIn wsL_law wsX7_previousMissing := goodIn_r _ [1086, 139, 524, 525, 526, 5, 527, 412, 413, 414, 144, 145, 146, 147, 528, 529, 530, 531, 396, 547, 548, 549, 550, 102, 1337, 1338, 1339, 1340, 1341, 1342, 1343, 1344, 1345, 1346, 1347, 1348, 1349, 1350, 1351, 1352, 1353, 1354, 1355, 1356, 1357] (by decide +kernel) (by decide +kernel)
set_option maxRecDepth 20000 in
theorem gL_law_X7_previousMissing : GoodIn wsL_law (wsV RL 321 RX7 yX7_previousMissing wsX7_previousMissing) := goodIn_app (goodIn_of _ (by decide +kernel)) ggL_law_X7_previousMissing
set_option maxRecDepth 20000 in
theorem ggL_law_L_memberAt : GoodIn wsL_law wsL_memberAt := goodIn_ca (goodIn_r _ [1089, 171, 1090, 1091, 1092, 2, 1093, 361, 362, 363, 364, 176, 177, 16, 1094, 1095, 1096, 18, 1097, 883, 829, 830, 831, 832, 833, 834, 835, 50, 51, 48, 52, 38, 43, 44, 45, 46, 47, 49, 53, 836, 837, 604, 838, 839, 840, 841, 842, 843, 805, 509, 510, 511, 512, 513, 514, 515, 1330, 1331, 1332, 1333, 1334, 1335, 1336, 1358] (by decide +kernel) (by decide +kernel)) (goodIn_sub (fun _ h => List.mem_append_left _ (List.mem_append_right _ h)) (by decide +kernel))
set_option maxRecDepth 20000 in
theorem gL_law_L_memberAt : GoodIn wsL_law (va_wsS RL 322 yL_memberAt wsL_memberAt) := goodIn_app (goodIn_of _ (by decide +kernel)) ggL_law_L_memberAt
set_option maxRecDepth 20000 in
theorem ggL_law_X7_memberAt : GoodIn wsL_law wsX7_memberAt := goodIn_r _ [1101, 139, 102, 524, 525, 526, 5, 527, 412, 413, 414, 144, 145, 146, 147, 1337, 1338, 1339, 1340, 1341, 1342, 1343, 1344, 1345, 1346, 1347, 1348, 1349, 1350, 1351, 1352, 1353, 1354, 1355, 1356, 1357] (by decide +kernel) (by decide +kernel)
set_option maxRecDepth 20000 in
theorem gL_law_X7_memberAt : GoodIn wsL_law (wsV RL 324 RX7 yX7_memberAt wsX7_memberAt) := goodIn_app (goodIn_of _ (by decide +kernel)) ggL_law_X7_memberAt
set_option maxRecDepth 20000 in
theorem ggL_law_L_sum : GoodIn wsL_law wsL_sum := goodIn_ca (goodIn_r _ [1104, 171, 1105, 1106, 1107, 2, 1108, 361, 362, 363, 364, 176, 177, 16, 1109, 1110, 1111, 18, 1112, 883, 829, 830, 831, 832, 833, 834, 835, 50, 51, 48, 52, 38, 43, 44, 45, 46, 47, 49, 53, 836, 837, 604, 838, 839, 840, 841, 842, 843, 805, 509, 510, 511, 512, 513, 514, 515, 1330, 1331, 1332, 1333, 1334, 1335, 1336, 1358] (by decide +kernel) (by decide +kernel)) (goodIn_sub (fun _ h => List.mem_append_left _ (List.mem_append_right _ h)) (by decide +kernel))
set_option maxRecDepth 20000 in
theorem gL_law_L_sum : GoodIn wsL_law (va_wsS RL 325 yL_sum wsL_sum) := goodIn_app (goodIn_of _ (by decide +kernel)) ggL_law_L_sum
set_option maxRecDepth 20000 in
theorem ggL_law_X7_sum : GoodIn wsL_law wsX7_sum := goodIn_r _ [1116, 139, 102, 524, 525, 526, 5, 527, 412, 413, 414, 144, 145, 146, 147, 1337, 1338, 1339, 1340, 1341, 1342, 1343, 1344, 1345, 1346, 1347, 1348, 1349, 1350, 1351, 1352, 1353, 1354, 1355, 1356, 1357] (by decide +kernel) (by decide +kernel)
set_option maxRecDepth 20000 in
theorem gL_law_X7_sum : GoodIn wsL_law (wsV RL 327 RX7 yX7_sum wsX7_sum) := goodIn_app (goodIn_of _ (by decide +kernel)) ggL_law_X7_sum
set_option maxRecDepth 20000 in
theorem ggL_law_L_runs : GoodIn wsL_law wsL_runs := goodIn_ca (goodIn_r _ [1119, 171, 1120, 1121, 1122, 2, 1123, 361, 362, 363, 364, 176, 177, 16, 1124, 1125, 1126, 18, 1127, 883, 829, 830, 831, 832, 833, 834, 835, 50, 51, 48, 52, 38, 43, 44, 45, 46, 47, 49, 53, 836, 837, 604, 838, 839, 840, 841, 842, 843, 805, 509, 510, 511, 512, 513, 514, 515, 1330, 1331, 1332, 1333, 1334, 1335, 1336, 1358] (by decide +kernel) (by decide +kernel)) (goodIn_sub (fun _ h => List.mem_append_left _ (List.mem_append_right _ h)) (by decide +kernel))
set_option maxRecDepth 20000 in
theorem gL_law_L_runs : GoodIn wsL_law (va_wsS RL 328 yL_runs wsL_runs) := goodIn_app (goodIn_of _ (by decide +kernel)) ggL_law_L_runs
set_option maxRecDepth 20000 in
theorem ggL_law_X7_runs : GoodIn wsL_law wsX7_runs := goodIn_r _ [1131, 139, 524, 525, 526, 5, 527, 412, 413, 414, 144, 145, 146, 147, 1132, 1133, 1134, 1135, 102, 1337, 1338, 1339, 1340, 1341, 1342, 1343, 1344, 1345, 1346, 1347, 1348, 1349, 1350, 1351, 1352, 1353, 1354, 1355, 1356, 1357] (by decide +kernel) (by decide +kernel)
set_option maxRecDepth 20000 in
theorem gL_law_X7_runs : GoodIn wsL_law (wsV RL 330 RX7 yX7_runs wsX7_runs) := goodIn_app (goodIn_of _ (by decide +kernel)) ggL_law_X7_runs
set_option maxRecDepth 20000 in
theorem ggL_law_L_longestRun : GoodIn wsL_law wsL_longestRun := goodIn_ca (goodIn_r _ [1138, 171, 1139, 1140, 1141, 2, 1142, 361, 362, 363, 364, 176, 177, 16, 1143, 1144, 1145, 18, 1146, 883, 829, 830, 831, 832, 833, 834, 835, 50, 51, 48, 52, 38, 43, 44, 45, 46, 47, 49, 53, 836, 837, 604, 838, 839, 840, 841, 842, 843, 805, 509, 510, 511, 512, 513, 514, 515, 1330, 1331, 1332, 1333, 1334, 1335, 1336, 1358] (by decide +kernel) (by decide +kernel)) (goodIn_sub (fun _ h => List.mem_append_left _ (List.mem_append_right _ h)) (by decide +kernel))
set_option maxRecDepth 20000 in
theorem gL_law_L_longestRun : GoodIn wsL_law (va_wsS RL 331 yL_longestRun wsL_longestRun) := goodIn_app (goodIn_of _ (by decide +kernel)) ggL_law_L_longestRun
set_option maxRecDepth 20000 in
theorem ggL_law_X7_longestRun : GoodIn wsL_law wsX7_longestRun := goodIn_r _ [1150, 139, 524, 525, 526, 5, 527, 412, 413, 414, 144, 145, 146, 147, 1132, 1133, 1134, 1135, 102, 547, 548, 549, 550, 1337, 1338, 1339, 1340, 1341, 1342, 1343, 1344, 1345, 1346, 1347, 1348, 1349, 1350, 1351, 1352, 1353, 1354, 1355, 1356, 1357] (by decide +kernel) (by decide +kernel)
set_option maxRecDepth 20000 in
theorem gL_law_X7_longestRun : GoodIn wsL_law (wsV RL 333 RX7 yX7_longestRun wsX7_longestRun) := goodIn_app (goodIn_of _ (by decide +kernel)) ggL_law_X7_longestRun
set_option maxRecDepth 20000 in
theorem ggL_law_L_areEqual : GoodIn wsL_law wsL_areEqual := goodIn_ca (goodIn_r _ [1153, 171, 1154, 1155, 1156, 2, 1157, 361, 362, 363, 364, 176, 177, 16, 1158, 1159, 1160, 18, 1161, 38, 602, 603, 604, 605, 606, 607, 608, 1162, 1163, 1164, 1165, 1330, 1331, 1332, 1333, 1334, 1335, 1336, 1358] (by decide +kernel) (by decide +kernel)) (goodIn_sub (fun _ h => List.mem_append_left _ (List.mem_append_right _ h)) (by decide +kernel))
set_option maxRecDepth 20000 in
theorem gL_law_L_areEqual : GoodIn wsL_law (va_wsS RL 334 yL_areEqual wsL_areEqual) := goodIn_app (goodIn_of _ (by decide +kernel)) ggL_law_L_areEqual
set_option maxRecDepth 20000 in
theorem ggL_law_X7_areEqual : GoodIn wsL_law wsX7_areEqual := goodIn_r _ [1169, 139, 707, 708, 709, 5, 710, 524, 525, 526, 527, 412, 413, 414, 144, 145, 146, 147, 1170, 1171, 1172, 1173, 102, 1337, 1338, 1339, 1340, 1341, 1342, 1343, 1344, 1345, 1346, 1347, 1348, 1349, 1350, 1351, 1352, 1353, 1354, 1355, 1356, 1357] (by decide +kernel) (by decide +kernel)
set_option maxRecDepth 20000 in
theorem gL_law_X7_areEqual : GoodIn wsL_law (wsV RL 336 RX7 yX7_areEqual wsX7_areEqual) := goodIn_app (goodIn_of _ (by decide +kernel)) ggL_law_X7_areEqual
set_option maxRecDepth 20000 in
theorem ggL_law_L_meet : GoodIn wsL_law wsL_meet := goodIn_ca (goodIn_r _ [1176, 171, 1177, 1178, 1179, 2, 1180, 361, 362, 363, 364, 176, 177, 16, 1162, 1163, 1164, 18, 1165, 38, 602, 603, 604, 605, 606, 607, 608, 1330, 1331, 1332, 1333, 1334, 1335, 1336, 1358] (by decide +kernel) (by decide +kernel)) (goodIn_sub (fun _ h => List.mem_append_left _ (List.mem_append_right _ h)) (by decide +kernel))
set_option maxRecDepth 20000 in
theorem gL_law_L_meet : GoodIn wsL_law (va_wsS RL 337 yL_meet wsL_meet) := goodIn_app (goodIn_of _ (by decide +kernel)) ggL_law_L_meet
set_option maxRecDepth 20000 in
theorem ggL_law_X7_meet : GoodIn wsL_law wsX7_meet := goodIn_r _ [1184, 139, 707, 708, 709, 5, 710, 524, 525, 526, 527, 412, 413, 414, 144, 145, 146, 147, 1170, 1171, 1172, 1173, 102, 1337, 1338, 1339, 1340, 1341, 1342, 1343, 1344, 1345, 1346, 1347, 1348, 1349, 1350, 1351, 1352, 1353, 1354, 1355, 1356, 1357] (by decide +kernel) (by decide +kernel)
set_option maxRecDepth 20000 in
theorem gL_law_X7_meet : GoodIn wsL_law (wsV RL 339 RX7 yX7_meet wsX7_meet) := goodIn_app (goodIn_of _ (by decide +kernel)) ggL_law_X7_meet
set_option maxRecDepth 20000 in
theorem ggL_law_L_isWithin : GoodIn wsL_law wsL_isWithin := goodIn_ca (goodIn_r _ [1187, 171, 1188, 1189, 1190, 2, 1191, 361, 362, 363, 364, 176, 177, 16, 1162, 1163, 1164, 18, 1165, 38, 602, 603, 604, 605, 606, 607, 608, 594, 595, 596, 597, 598, 599, 600, 601, 43, 44, 45, 46, 47, 48, 49, 50, 51, 52, 53, 1330, 1331, 1332, 1333, 1334, 1335, 1336, 1358] (by decide +kernel) (by decide +kernel)) (goodIn_sub (fun _ h => List.mem_append_left _ (List.mem_append_right _ h)) (by decide +kernel))
set_option maxRecDepth 20000 in
theorem gL_law_L_isWithin : GoodIn wsL_law (va_wsS RL 340 yL_isWithin wsL_isWithin) := goodIn_app (goodIn_of _ (by decide +kernel)) ggL_law_L_isWithin
set_option maxRecDepth 20000 in
theorem ggL_law_X7_isWithin : GoodIn wsL_law wsX7_isWithin := goodIn_r _ [1195, 139, 707, 708, 709, 5, 710, 524, 525, 526, 527, 412, 413, 414, 144, 145, 146, 147, 1170, 1171, 1172, 1173, 102, 1337, 1338, 1339, 1340, 1341, 1342, 1343, 1344, 1345, 1346, 1347, 1348, 1349, 1350, 1351, 1352, 1353, 1354, 1355, 1356, 1357] (by decide +kernel) (by decide +kernel)
set_option maxRecDepth 20000 in
theorem gL_law_X7_isWithin : GoodIn wsL_law (wsV RL 342 RX7 yX7_isWithin wsX7_isWithin) := goodIn_app (goodIn_of _ (by decide +kernel)) ggL_law_X7_isWithin
set_option maxRecDepth 20000 in
theorem ggL_law_L_unionCount : GoodIn wsL_law wsL_unionCount := goodIn_ca (goodIn_r _ [1198, 171, 1199, 1200, 1201, 2, 1202, 361, 362, 363, 364, 176, 177, 16, 1158, 1159, 1160, 18, 1161, 38, 602, 603, 604, 605, 606, 607, 608, 1330, 1331, 1332, 1333, 1334, 1335, 1336, 1358] (by decide +kernel) (by decide +kernel)) (goodIn_sub (fun _ h => List.mem_append_left _ (List.mem_append_right _ h)) (by decide +kernel))
set_option maxRecDepth 20000 in
theorem gL_law_L_unionCount : GoodIn wsL_law (va_wsS RL 343 yL_unionCount wsL_unionCount) := goodIn_app (goodIn_of _ (by decide +kernel)) ggL_law_L_unionCount
set_option maxRecDepth 20000 in
theorem ggL_law_X7_unionCount : GoodIn wsL_law wsX7_unionCount := goodIn_r _ [1206, 139, 707, 708, 709, 5, 710, 524, 525, 526, 527, 412, 413, 414, 144, 145, 146, 147, 1170, 1171, 1172, 1173, 102, 1337, 1338, 1339, 1340, 1341, 1342, 1343, 1344, 1345, 1346, 1347, 1348, 1349, 1350, 1351, 1352, 1353, 1354, 1355, 1356, 1357] (by decide +kernel) (by decide +kernel)
set_option maxRecDepth 20000 in
theorem gL_law_X7_unionCount : GoodIn wsL_law (wsV RL 345 RX7 yX7_unionCount wsX7_unionCount) := goodIn_app (goodIn_of _ (by decide +kernel)) ggL_law_X7_unionCount
set_option maxRecDepth 20000 in
theorem ggL_law_L_distance : GoodIn wsL_law wsL_distance := goodIn_ca (goodIn_r _ [1209, 171, 1210, 1211, 1212, 2, 1213, 361, 362, 363, 364, 176, 177, 16, 1158, 1159, 1160, 18, 1161, 38, 602, 603, 604, 605, 606, 607, 608, 1162, 1163, 1164, 1165, 1330, 1331, 1332, 1333, 1334, 1335, 1336, 1358] (by decide +kernel) (by decide +kernel)) (goodIn_sub (fun _ h => List.mem_append_left _ (List.mem_append_right _ h)) (by decide +kernel))
set_option maxRecDepth 20000 in
theorem gL_law_L_distance : GoodIn wsL_law (va_wsS RL 346 yL_distance wsL_distance) := goodIn_app (goodIn_of _ (by decide +kernel)) ggL_law_L_distance
set_option maxRecDepth 20000 in
theorem ggL_law_X7_distance : GoodIn wsL_law wsX7_distance := goodIn_r _ [1217, 139, 707, 708, 709, 5, 710, 524, 525, 526, 527, 412, 413, 414, 144, 145, 146, 147, 1170, 1171, 1172, 1173, 102, 1337, 1338, 1339, 1340, 1341, 1342, 1343, 1344, 1345, 1346, 1347, 1348, 1349, 1350, 1351, 1352, 1353, 1354, 1355, 1356, 1357] (by decide +kernel) (by decide +kernel)
set_option maxRecDepth 20000 in
theorem gL_law_X7_distance : GoodIn wsL_law (wsV RL 348 RX7 yX7_distance wsX7_distance) := goodIn_app (goodIn_of _ (by decide +kernel)) ggL_law_X7_distance
set_option maxRecDepth 20000 in
theorem ggL_law_L_firstCommon : GoodIn wsL_law wsL_firstCommon := goodIn_ca (goodIn_r _ [1220, 171, 1221, 1222, 1223, 2, 1224, 361, 362, 363, 364, 176, 177, 16, 1225, 1226, 1227, 18, 1228, 38, 1035, 1036, 604, 1037, 1038, 1039, 841, 1040, 843, 1330, 1331, 1332, 1333, 1334, 1335, 1336, 1358] (by decide +kernel) (by decide +kernel)) (goodIn_sub (fun _ h => List.mem_append_left _ (List.mem_append_right _ h)) (by decide +kernel))
set_option maxRecDepth 20000 in
theorem gL_law_L_firstCommon : GoodIn wsL_law (va_wsS RL 349 yL_firstCommon wsL_firstCommon) := goodIn_app (goodIn_of _ (by decide +kernel)) ggL_law_L_firstCommon
set_option maxRecDepth 20000 in
theorem ggL_law_X7_firstCommon : GoodIn wsL_law wsX7_firstCommon := goodIn_r _ [1232, 139, 102, 707, 708, 709, 5, 710, 524, 525, 526, 527, 412, 413, 414, 144, 145, 146, 147, 1337, 1338, 1339, 1340, 1341, 1342, 1343, 1344, 1345, 1346, 1347, 1348, 1349, 1350, 1351, 1352, 1353, 1354, 1355, 1356, 1357] (by decide +kernel) (by decide +kernel)
set_option maxRecDepth 20000 in
theorem gL_law_X7_firstCommon : GoodIn wsL_law (wsV RL 351 RX7 yX7_firstCommon wsX7_firstCommon) := goodIn_app (goodIn_of _ (by decide +kernel)) ggL_law_X7_firstCommon
set_option maxRecDepth 20000 in
theorem ggL_law_L_write : GoodIn wsL_law wsL_write := goodIn_ca (goodIn_r _ [1235, 171, 1236, 1237, 1238, 2, 1239, 31, 361, 362, 363, 364, 176, 177, 16, 1240, 1241, 1242, 30, 1243, 96, 1244, 1245, 1246, 1247, 95, 1248, 829, 830, 18, 831, 832, 833, 834, 835, 50, 51, 48, 52, 38, 43, 44, 45, 46, 47, 49, 53, 836, 837, 604, 838, 839, 840, 841, 842, 843, 1249, 509, 510, 511, 512, 513, 514, 515, 1250, 1251, 1252, 1253, 1254, 1255, 1256, 1257, 1330, 1331, 1332, 1333, 1334, 1335, 1336, 1366, 1367, 1358] (by decide +kernel) (by decide +kernel)) (goodIn_sub (fun _ h => List.mem_append_left _ (List.mem_append_right _ h)) (by decide +kernel))
set_option maxRecDepth 20000 in
theorem gL_law_L_write : GoodIn wsL_law (va_wsS RL 352 yL_write wsL_write) := goodIn_app (goodIn_of _ (by decide +kernel)) ggL_law_L_write
set_option maxRecDepth 20000 in
theorem ggL_law_X7_write : GoodIn wsL_law wsX7_write := goodIn_r _ [1261, 139, 1262, 102, 524, 525, 526, 5, 527, 412, 413, 414, 144, 145, 146, 147, 1263, 1264, 1265, 1266, 112, 1267, 1268, 1269, 1270, 1337, 1338, 1339, 1340, 1341, 1342, 1343, 1344, 1345, 1346, 1347, 1348, 1349, 1350, 1351, 1352, 1353, 1354, 1355, 1356, 1357] (by decide +kernel) (by decide +kernel)
set_option maxRecDepth 20000 in
theorem gL_law_X7_write : GoodIn wsL_law (wsV RL 354 RX7 yX7_write wsX7_write) := goodIn_app (goodIn_of _ (by decide +kernel)) ggL_law_X7_write
set_option maxRecDepth 20000 in
theorem ggL_law_L_writtenAt : GoodIn wsL_law wsL_writtenAt := goodIn_ca (goodIn_r _ [1273, 493, 1274, 1275, 1276, 2, 1277, 31, 1254, 1255, 1256, 30, 1257, 96, 895, 896, 897, 506, 507, 1278, 1279, 1280, 1281, 95, 1330, 1331, 1332, 1333, 1334, 1335, 1336, 1366, 1367] (by decide +kernel) (by decide +kernel)) (goodIn_sub (fun _ h => List.mem_append_right _ h) (by decide +kernel))
set_option maxRecDepth 20000 in
theorem gL_law_L_writtenAt : GoodIn wsL_law (va_wsS RL 355 yL_writtenAt wsL_writtenAt) := goodIn_app (goodIn_of _ (by decide +kernel)) ggL_law_L_writtenAt
set_option maxRecDepth 20000 in
theorem ggL_law_X7_writtenAt : GoodIn wsL_law wsX7_writtenAt := goodIn_r _ [1285, 139, 1262, 112, 412, 413, 5, 414, 144, 145, 146, 147, 1337, 1338, 1339, 1340, 1341, 1342, 1343, 1344, 1345, 1346, 1347, 1348, 1349, 1350, 1351, 1352, 1353, 1354, 1355, 1356, 1357] (by decide +kernel) (by decide +kernel)
set_option maxRecDepth 20000 in
theorem gL_law_X7_writtenAt : GoodIn wsL_law (wsV RL 357 RX7 yX7_writtenAt wsX7_writtenAt) := goodIn_app (goodIn_of _ (by decide +kernel)) ggL_law_X7_writtenAt
set_option maxRecDepth 20000 in
theorem ggL_law_X6_refusals : GoodIn wsL_law wsX6_refusals := goodIn_r _ [1289, 34, 1330, 1331, 1332, 1333, 1334, 1335, 1336] (by decide +kernel) (by decide +kernel)
set_option maxRecDepth 20000 in
theorem gL_law_X6_refusals : GoodIn wsL_law (wsV RL 358 RX6 yX6_refusals wsX6_refusals) := goodIn_app (goodIn_of _ (by decide +kernel)) ggL_law_X6_refusals
set_option maxRecDepth 20000 in
theorem ggL_law_X7_refusals : GoodIn wsL_law wsX7_refusals := goodIn_r _ [1293, 139, 396, 1337, 1338, 1339, 1340, 1341, 1342, 1343, 1344, 1345, 1346, 1347, 1348, 1349, 1350, 1351, 1352, 1353, 1354, 1355, 1356, 1357] (by decide +kernel) (by decide +kernel)
set_option maxRecDepth 20000 in
theorem gL_law_X7_refusals : GoodIn wsL_law (wsV RL 361 RX7 yX7_refusals wsX7_refusals) := goodIn_app (goodIn_of _ (by decide +kernel)) ggL_law_X7_refusals
set_option maxRecDepth 20000 in
theorem ggL_law_X6_meanCount : GoodIn wsL_law wsX6_meanCount := goodIn_r _ [1297, 16, 1298, 594, 595, 596, 18, 597, 598, 599, 600, 601, 38, 43, 44, 45, 46, 47, 48, 49, 50, 51, 52, 53, 602, 603, 604, 605, 606, 607, 608, 1330, 1331, 1332, 1333, 1334, 1335, 1336, 1358] (by decide +kernel) (by decide +kernel)
set_option maxRecDepth 20000 in
theorem gL_law_X6_meanCount : GoodIn wsL_law (wsV RL 362 RX6 yX6_meanCount wsX6_meanCount) := goodIn_app (goodIn_of _ (by decide +kernel)) ggL_law_X6_meanCount
set_option maxRecDepth 20000 in
theorem ggL_law_X7_meanCount : GoodIn wsL_law wsX7_meanCount := goodIn_r _ [1302, 139, 1303, 470, 471, 472, 5, 473, 102, 1337, 1338, 1339, 1340, 1341, 1342, 1343, 1344, 1345, 1346, 1347, 1348, 1349, 1350, 1351, 1352, 1353, 1354, 1355, 1356, 1357] (by decide +kernel) (by decide +kernel)
set_option maxRecDepth 20000 in
theorem gL_law_X7_meanCount : GoodIn wsL_law (wsV RL 366 RX7 yX7_meanCount wsX7_meanCount) := goodIn_app (goodIn_of _ (by decide +kernel)) ggL_law_X7_meanCount
set_option maxRecDepth 20000 in
theorem ggL_law_L_share : GoodIn wsL_law wsL_share := goodIn_ca (goodIn_r _ [1306, 171, 1307, 1308, 1309, 2, 1310, 361, 362, 363, 364, 176, 177, 16, 685, 686, 687, 982, 599, 600, 18, 601, 38, 43, 44, 45, 46, 47, 48, 49, 50, 51, 52, 53, 602, 603, 604, 605, 606, 607, 608, 1330, 1331, 1332, 1333, 1334, 1335, 1336, 1358] (by decide +kernel) (by decide +kernel)) (goodIn_sub (fun _ h => List.mem_append_left _ (List.mem_append_right _ h)) (by decide +kernel))
set_option maxRecDepth 20000 in
theorem gL_law_L_share : GoodIn wsL_law (va_wsS RL 367 yL_share wsL_share) := goodIn_app (goodIn_of _ (by decide +kernel)) ggL_law_L_share
set_option maxRecDepth 20000 in
theorem ggL_law_X7_share : GoodIn wsL_law wsX7_share := goodIn_r _ [1314, 139, 524, 525, 526, 5, 527, 412, 413, 414, 144, 145, 146, 147, 987, 988, 989, 990, 102, 1337, 1338, 1339, 1340, 1341, 1342, 1343, 1344, 1345, 1346, 1347, 1348, 1349, 1350, 1351, 1352, 1353, 1354, 1355, 1356, 1357] (by decide +kernel) (by decide +kernel)
set_option maxRecDepth 20000 in
theorem gL_law_X7_share : GoodIn wsL_law (wsV RL 370 RX7 yX7_share wsX7_share) := goodIn_app (goodIn_of _ (by decide +kernel)) ggL_law_X7_share
set_option maxRecDepth 20000 in
theorem ggL_law_X6_errors : GoodIn wsL_law wsX6_errors := goodIn_r _ [1318, 16, 1319, 1320, 1321, 18, 1322, 38, 53, 1323, 595, 596, 597, 598, 599, 600, 601, 43, 44, 45, 46, 47, 48, 49, 50, 51, 52, 602, 603, 604, 605, 606, 607, 608, 1324, 1163, 1164, 1165, 1325, 1159, 1160, 1161, 1330, 1331, 1332, 1333, 1334, 1335, 1336, 1358] (by decide +kernel) (by decide +kernel)
set_option maxRecDepth 20000 in
theorem gL_law_X6_errors : GoodIn wsL_law (wsV RL 371 RX6 yX6_errors wsX6_errors) := goodIn_app (goodIn_of _ (by decide +kernel)) ggL_law_X6_errors
set_option maxRecDepth 20000 in
theorem ggL_law_X7_errors : GoodIn wsL_law wsX7_errors := goodIn_r _ [1329, 139, 1170, 1171, 1172, 5, 1173, 102, 470, 471, 472, 473, 1337, 1338, 1339, 1340, 1341, 1342, 1343, 1344, 1345, 1346, 1347, 1348, 1349, 1350, 1351, 1352, 1353, 1354, 1355, 1356, 1357] (by decide +kernel) (by decide +kernel)
set_option maxRecDepth 20000 in
theorem gL_law_X7_errors : GoodIn wsL_law (wsV RL 374 RX7 yX7_errors wsX7_errors) := goodIn_app (goodIn_of _ (by decide +kernel)) ggL_law_X7_errors
