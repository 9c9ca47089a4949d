set_option maxRecDepth 20000 in
theorem ggL_init_X6_init : GoodIn wsL_init wsX6_init := goodIn_r _ [12, 13, 2, 3, 14, 15, 16, 17, 18, 19, 20, 21, 22, 23, 24, 25, 26, 27, 28, 29, 30, 31, 32, 33, 34, 35, 36, 37, 38, 39, 40, 41, 42, 43, 44, 45, 46, 47, 48, 49, 50, 51, 52, 53, 54, 55, 56, 57, 58, 59, 60, 61, 62, 63, 64, 65, 66, 67, 68, 69, 70, 71, 72, 73, 74, 75, 76, 77, 78, 79, 80, 81, 82, 83, 84, 85, 86, 87, 88, 89, 90, 91, 92, 93, 94, 95, 96, 97, 98, 99, 100, 101, 102, 103, 107, 108, 109, 110, 111, 112, 113, 114, 115, 116, 117, 118, 119, 120, 121, 122, 123, 124, 125, 126] (by decide +kernel) (by decide +kernel)
set_option maxRecDepth 20000 in
theorem gL_init_X6_init : GoodIn wsL_init (wsX6_init) := ggL_init_X6_init
set_option maxRecDepth 20000 in
theorem ggL_word_L_next : GoodIn wsL_word wsL_next := goodIn_r _ [7, 8, 9, 10, 11, 12] (by decide +kernel) (by decide +kernel)
set_option maxRecDepth 20000 in
theorem gL_word_L_next : GoodIn wsL_word (wsV RL 26 RL yL_next wsL_next) := goodIn_app (goodIn_of _ (by decide +kernel)) ggL_word_L_next
set_option maxRecDepth 20000 in
theorem ggL_number_L_next : GoodIn wsL_number wsL_next := goodIn_r _ [12, 13, 14, 15, 16, 17] (by decide +kernel) (by decide +kernel)
set_option maxRecDepth 20000 in
theorem gL_number_L_next : GoodIn wsL_number (wsV RL 26 RL yL_next wsL_next) := goodIn_app (goodIn_of _ (by decide +kernel)) ggL_number_L_next
set_option maxRecDepth 20000 in
theorem ggL_makes_L_next : GoodIn wsL_makes wsL_next := goodIn_r _ [13, 14, 15, 213, 214, 215] (by decide +kernel) (by decide +kernel)
set_option maxRecDepth 20000 in
theorem gL_makes_L_next : GoodIn wsL_makes (wsV RL 26 RL yL_next wsL_next) := goodIn_app (goodIn_of _ (by decide +kernel)) ggL_makes_L_next
set_option maxRecDepth 20000 in
theorem ggL_makes_L_number : GoodIn wsL_makes wsL_number := goodIn_r _ [19, 1, 2, 3, 4, 5, 6, 7, 9, 10, 11, 12, 13, 14, 15, 213, 214, 215] (by decide +kernel) (by decide +kernel)
set_option maxRecDepth 20000 in
theorem gL_makes_L_number : GoodIn wsL_makes (wsV RL 41 RL yL_number wsL_number) := goodIn_app (goodIn_of _ (by decide +kernel)) ggL_makes_L_number
set_option maxRecDepth 20000 in
theorem ggL_makes_X6_addRange : GoodIn wsL_makes wsX6_addRange := goodIn_ca (goodIn_ca (goodIn_r _ [24, 25, 26, 27, 23, 28, 29, 30, 31, 32, 33, 34, 35, 36, 37, 38, 39, 40, 41, 42, 43, 44, 45, 46, 47, 48, 49, 50, 51, 52, 6, 3, 7, 53, 2, 4, 54, 55, 56, 57, 58, 59, 60, 61, 62, 63, 64, 65, 66, 67, 68, 69, 216, 217, 218, 219, 220, 221, 222, 223] (by decide +kernel) (by decide +kernel)) (goodIn_sub (fun _ h => List.mem_cons_of_mem _ (List.mem_append_left _ (List.mem_append_right _ h))) (by decide +kernel))) (goodIn_sub (fun _ h => List.mem_cons_of_mem _ (List.mem_append_right _ h)) (by decide +kernel))
set_option maxRecDepth 20000 in
theorem gL_makes_X6_addRange : GoodIn wsL_makes (wsV RL 45 RX6 yX6_addRange wsX6_addRange) := goodIn_app (goodIn_of _ (by decide +kernel)) ggL_makes_X6_addRange
set_option maxRecDepth 20000 in
theorem ggL_makes_X6_flipRange : GoodIn wsL_makes wsX6_flipRange := goodIn_ca (goodIn_ca (goodIn_r _ [73, 25, 26, 27, 23, 28, 29, 30, 31, 32, 33, 34, 35, 36, 37, 38, 39, 40, 41, 42, 74, 75, 76, 46, 77, 48, 49, 50, 51, 52, 6, 3, 7, 53, 2, 4, 54, 55, 56, 57, 58, 59, 60, 61, 62, 63, 64, 65, 66, 67, 68, 69, 216, 217, 218, 219, 220, 221, 222, 223] (by decide +kernel) (by decide +kernel)) (goodIn_sub (fun _ h => List.mem_cons_of_mem _ (List.mem_append_left _ (List.mem_append_right _ h))) (by decide +kernel))) (goodIn_sub (fun _ h => List.mem_cons_of_mem _ (List.mem_append_right _ h)) (by decide +kernel))
set_option maxRecDepth 20000 in
theorem gL_makes_X6_flipRange : GoodIn wsL_makes (wsV RL 49 RX6 yX6_flipRange wsX6_flipRange) := goodIn_app (goodIn_of _ (by decide +kernel)) ggL_makes_X6_flipRange
set_option maxRecDepth 20000 in
theorem ggL_makes_X6_removeRange : GoodIn wsL_makes wsX6_removeRange := goodIn_ca (goodIn_ca (goodIn_r _ [81, 31, 32, 33, 23, 34, 35, 36, 37, 38, 39, 40, 41, 29, 30, 42, 82, 83, 84, 46, 85, 48, 54, 49, 50, 51, 52, 6, 3, 7, 53, 2, 4, 55, 56, 57, 58, 59, 60, 61, 62, 63, 64, 65, 66, 67, 68, 69, 216, 217, 218, 219, 220, 221, 222, 223] (by decide +kernel) (by decide +kernel)) (goodIn_sub (fun _ h => List.mem_cons_of_mem _ (List.mem_append_right _ h)) (by decide +kernel))) (goodIn_sub (fun _ h => List.mem_cons_of_mem _ (List.mem_append_left _ (List.mem_append_right _ h))) (by decide +kernel))
set_option maxRecDepth 20000 in
theorem gL_makes_X6_removeRange : GoodIn wsL_makes (wsV RL 52 RX6 yX6_removeRange wsX6_removeRange) := goodIn_app (goodIn_of _ (by decide +kernel)) ggL_makes_X6_removeRange
set_option maxRecDepth 20000 in
theorem ggL_makes_L_word : GoodIn wsL_makes wsL_word := goodIn_r _ [89, 90, 91, 9, 10, 11, 12, 13, 14, 15, 213, 214, 215] (by decide +kernel) (by decide +kernel)
set_option maxRecDepth 20000 in
theorem gL_makes_L_word : GoodIn wsL_makes (wsV RL 55 RL yL_word wsL_word) := goodIn_app (goodIn_of _ (by decide +kernel)) ggL_makes_L_word
set_option maxRecDepth 20000 in
theorem ggL_makes_X6_loadWords : GoodIn wsL_makes wsX6_loadWords := goodIn_ca (goodIn_r _ [95, 38, 39, 40, 23, 41, 29, 30, 42, 96, 97, 98, 46, 99, 48, 100, 101, 102, 103, 104, 83, 84, 85, 54, 49, 50, 51, 52, 6, 3, 7, 53, 2, 4, 105, 106, 107, 108, 109, 110, 111, 112, 113, 114, 65, 115, 116, 117, 118, 119, 120, 216, 217, 218, 219, 220, 221, 222, 223] (by decide +kernel) (by decide +kernel)) (goodIn_sub (fun _ h => List.mem_cons_of_mem _ (List.mem_append_left _ (List.mem_append_right _ h))) (by decide +kernel))
set_option maxRecDepth 20000 in
theorem gL_makes_X6_loadWords : GoodIn wsL_makes (wsV RL 59 RX6 yX6_loadWords wsX6_loadWords) := goodIn_app (goodIn_of _ (by decide +kernel)) ggL_makes_X6_loadWords
set_option maxRecDepth 20000 in
theorem ggL_makes_X6_sieve : GoodIn wsL_makes wsX6_sieve := goodIn_ca (goodIn_r _ [124, 38, 39, 40, 23, 41, 29, 30, 42, 125, 126, 127, 128, 129, 130, 46, 131, 100, 101, 102, 103, 104, 83, 84, 85, 48, 54, 49, 50, 51, 52, 6, 3, 7, 53, 2, 4, 132, 44, 45, 47, 133, 134, 135, 136, 137, 138, 139, 140, 141, 142, 143, 144, 145, 146, 147, 148, 55, 56, 57, 58, 59, 60, 61, 62, 63, 64, 65, 66, 67, 68, 69, 216, 217, 218, 219, 220, 221, 222, 223] (by decide +kernel) (by decide +kernel)) (goodIn_sub (fun _ h => List.mem_cons_of_mem _ (List.mem_append_left _ (List.mem_append_right _ h))) (by decide +kernel))
set_option maxRecDepth 20000 in
theorem gL_makes_X6_sieve : GoodIn wsL_makes (wsV RL 63 RX6 yX6_sieve wsX6_sieve) := goodIn_app (goodIn_of _ (by decide +kernel)) ggL_makes_X6_sieve
set_option maxRecDepth 20000 in
theorem ggL_makes_X6_shift : GoodIn wsL_makes wsX6_shift := goodIn_ca (goodIn_r _ [152, 38, 39, 40, 23, 41, 29, 30, 42, 125, 126, 127, 153, 154, 155, 46, 156, 48, 157, 158, 159, 160, 137, 138, 139, 140, 161, 162, 163, 164, 53, 2, 3, 4, 49, 50, 51, 52, 6, 7, 54, 55, 56, 57, 58, 59, 60, 61, 62, 63, 64, 65, 66, 67, 68, 69, 216, 217, 218, 219, 220, 221, 222, 223] (by decide +kernel) (by decide +kernel)) (goodIn_sub (fun _ h => List.mem_cons_of_mem _ (List.mem_append_left _ (List.mem_append_right _ h))) (by decide +kernel))
set_option maxRecDepth 20000 in
theorem gL_makes_X6_shift : GoodIn wsL_makes (wsV RL 66 RX6 yX6_shift wsX6_shift) := goodIn_app (goodIn_of _ (by decide +kernel)) ggL_makes_X6_shift
set_option maxRecDepth 20000 in
theorem ggL_makes_X6_takePart : GoodIn wsL_makes wsX6_takePart := goodIn_ca (goodIn_ca (goodIn_r _ [168, 38, 39, 40, 23, 41, 29, 30, 42, 31, 32, 33, 34, 35, 36, 37, 161, 162, 163, 46, 164, 53, 2, 3, 4, 48, 157, 158, 159, 160, 137, 138, 139, 140, 49, 50, 51, 52, 6, 7, 54, 55, 56, 57, 58, 59, 60, 61, 62, 63, 64, 65, 66, 67, 68, 69, 216, 217, 218, 219, 220, 221, 222, 223] (by decide +kernel) (by decide +kernel)) (goodIn_sub (fun _ h => List.mem_cons_of_mem _ (List.mem_append_left _ (List.mem_append_right _ h))) (by decide +kernel))) (goodIn_sub (fun _ h => List.mem_cons_of_mem _ (List.mem_append_right _ h)) (by decide +kernel))
set_option maxRecDepth 20000 in
theorem gL_makes_X6_takePart : GoodIn wsL_makes (wsV RL 69 RX6 yX6_takePart wsX6_takePart) := goodIn_app (goodIn_of _ (by decide +kernel)) ggL_makes_X6_takePart
set_option maxRecDepth 20000 in
theorem ggL_makes_X6_putRange : GoodIn wsL_makes wsX6_putRange := goodIn_ca (goodIn_ca (goodIn_r _ [172, 25, 26, 27, 23, 28, 29, 30, 31, 32, 33, 34, 35, 36, 37, 38, 39, 40, 41, 42, 173, 174, 175, 46, 176, 132, 44, 45, 47, 48, 49, 50, 51, 52, 6, 3, 7, 53, 2, 4, 54, 104, 83, 84, 85, 55, 56, 57, 58, 59, 60, 61, 62, 63, 64, 65, 66, 67, 68, 69, 216, 217, 218, 219, 220, 221, 222, 223] (by decide +kernel) (by decide +kernel)) (goodIn_sub (fun _ h => List.mem_cons_of_mem _ (List.mem_append_left _ (List.mem_append_right _ h))) (by decide +kernel))) (goodIn_sub (fun _ h => List.mem_cons_of_mem _ (List.mem_append_right _ h)) (by decide +kernel))
set_option maxRecDepth 20000 in
theorem gL_makes_X6_putRange : GoodIn wsL_makes (wsV RL 73 RX6 yX6_putRange wsX6_putRange) := goodIn_app (goodIn_of _ (by decide +kernel)) ggL_makes_X6_putRange
set_option maxRecDepth 20000 in
theorem ggL_makes_X6_differ : GoodIn wsL_makes wsX6_differ := goodIn_ca (goodIn_r _ [180, 181, 182, 183, 23, 184, 38, 39, 40, 41, 29, 30, 42, 185, 186, 187, 46, 188, 48, 189, 190, 191, 54, 55, 56, 57, 58, 59, 60, 61, 62, 49, 50, 51, 52, 6, 3, 7, 53, 2, 4, 63, 64, 65, 66, 67, 68, 69, 216, 217, 218, 219, 220, 221, 222, 223] (by decide +kernel) (by decide +kernel)) (goodIn_sub (fun _ h => List.mem_cons_of_mem _ (List.mem_append_left _ (List.mem_append_right _ h))) (by decide +kernel))
set_option maxRecDepth 20000 in
theorem gL_makes_X6_differ : GoodIn wsL_makes (wsV RL 77 RX6 yX6_differ wsX6_differ) := goodIn_app (goodIn_of _ (by decide +kernel)) ggL_makes_X6_differ
set_option maxRecDepth 20000 in
theorem ggL_makes_X6_flip : GoodIn wsL_makes wsX6_flip := goodIn_ca (goodIn_ca (goodIn_r _ [195, 196, 197, 198, 23, 199, 29, 30, 200, 201, 202, 203, 35, 36, 37, 38, 39, 40, 41, 42, 204, 134, 135, 46, 136, 137, 138, 139, 140, 48, 205, 206, 207, 208, 209, 210, 211, 212, 145, 146, 147, 148, 54, 216, 217, 218, 219, 220, 221, 222, 223] (by decide +kernel) (by decide +kernel)) (goodIn_sub (fun _ h => List.mem_cons_of_mem _ (List.mem_append_left _ (List.mem_append_right _ h))) (by decide +kernel))) (goodIn_sub (fun _ h => List.mem_cons_of_mem _ (List.mem_append_right _ h)) (by decide +kernel))
set_option maxRecDepth 20000 in
theorem gL_makes_X6_flip : GoodIn wsL_makes (wsV RL 80 RX6 yX6_flip wsX6_flip) := goodIn_app (goodIn_of _ (by decide +kernel)) ggL_makes_X6_flip
set_option maxRecDepth 20000 in
theorem ggL_areRead_X6_has : GoodIn wsL_areRead wsX6_has := goodIn_ca (goodIn_ca (goodIn_r _ [7, 8, 9, 10, 6, 11, 12, 13, 14, 15, 16, 17, 18, 19, 20, 21, 22, 23, 24, 25, 26, 27, 28, 29, 30, 31, 107, 108, 109, 110, 111, 112, 113, 114] (by decide +kernel) (by decide +kernel)) (goodIn_sub (fun _ h => List.mem_cons_of_mem _ (List.mem_append_left _ (List.mem_append_right _ h))) (by decide +kernel))) (goodIn_sub (fun _ h => List.mem_cons_of_mem _ (List.mem_append_right _ h)) (by decide +kernel))
set_option maxRecDepth 20000 in
theorem gL_areRead_X6_has : GoodIn wsL_areRead (wsV RL 84 RX6 yX6_has wsX6_has) := goodIn_app (goodIn_of _ (by decide +kernel)) ggL_areRead_X6_has
set_option maxRecDepth 20000 in
theorem ggL_areRead_X6_count : GoodIn wsL_areRead wsX6_count := goodIn_ca (goodIn_r _ [35, 15, 16, 17, 6, 18, 19, 20, 21, 36, 37, 38, 25, 39, 40, 41, 42, 43, 31, 44, 45, 46, 47, 48, 49, 50, 51, 52, 53, 54, 55, 56, 57, 58, 59, 60, 61, 107, 108, 109, 110, 111, 112, 113, 114] (by decide +kernel) (by decide +kernel)) (goodIn_sub (fun _ h => List.mem_cons_of_mem _ (List.mem_append_right _ h)) (by decide +kernel))
set_option maxRecDepth 20000 in
theorem gL_areRead_X6_count : GoodIn wsL_areRead (wsV RL 86 RX6 yX6_count wsX6_count) := goodIn_app (goodIn_of _ (by decide +kernel)) ggL_areRead_X6_count
set_option maxRecDepth 20000 in
theorem ggL_areRead_X6_sum : GoodIn wsL_areRead wsX6_sum := goodIn_ca (goodIn_r _ [65, 15, 16, 17, 6, 18, 19, 20, 21, 66, 67, 68, 25, 69, 70, 71, 72, 73, 74, 75, 76, 77, 51, 52, 49, 53, 31, 44, 45, 46, 47, 48, 50, 54, 78, 79, 57, 80, 81, 82, 83, 84, 85, 86, 23, 24, 26, 27, 28, 29, 30, 107, 108, 109, 110, 111, 112, 113, 114] (by decide +kernel) (by decide +kernel)) (goodIn_sub (fun _ h => List.mem_cons_of_mem _ (List.mem_append_right _ h)) (by decide +kernel))
set_option maxRecDepth 20000 in
theorem gL_areRead_X6_sum : GoodIn wsL_areRead (wsV RL 89 RX6 yX6_sum wsX6_sum) := goodIn_app (goodIn_of _ (by decide +kernel)) ggL_areRead_X6_sum
set_option maxRecDepth 20000 in
theorem ggL_areRead_X6_runs : GoodIn wsL_areRead wsX6_runs := goodIn_ca (goodIn_r _ [90, 15, 16, 17, 6, 18, 19, 20, 21, 91, 92, 93, 25, 94, 70, 71, 72, 73, 74, 75, 76, 77, 51, 52, 49, 53, 31, 44, 45, 46, 47, 48, 50, 54, 78, 79, 57, 80, 81, 82, 83, 84, 85, 86, 23, 24, 26, 27, 28, 29, 30, 107, 108, 109, 110, 111, 112, 113, 114] (by decide +kernel) (by decide +kernel)) (goodIn_sub (fun _ h => List.mem_cons_of_mem _ (List.mem_append_right _ h)) (by decide +kernel))
set_option maxRecDepth 20000 in
theorem gL_areRead_X6_runs : GoodIn wsL_areRead (wsV RL 93 RX6 yX6_runs wsX6_runs) := goodIn_app (goodIn_of _ (by decide +kernel)) ggL_areRead_X6_runs
set_option maxRecDepth 20000 in
theorem ggL_areRead_X6_isEmpty : GoodIn wsL_areRead wsX6_isEmpty := goodIn_ca (goodIn_r _ [98, 15, 16, 17, 6, 18, 19, 20, 21, 36, 37, 38, 25, 39, 40, 41, 42, 43, 31, 44, 45, 46, 47, 48, 49, 50, 51, 52, 53, 54, 55, 56, 57, 58, 59, 60, 61, 107, 108, 109, 110, 111, 112, 113, 114] (by decide +kernel) (by decide +kernel)) (goodIn_sub (fun _ h => List.mem_cons_of_mem _ (List.mem_append_right _ h)) (by decide +kernel))
set_option maxRecDepth 20000 in
theorem gL_areRead_X6_isEmpty : GoodIn wsL_areRead (wsV RL 96 RX6 yX6_isEmpty wsX6_isEmpty) := goodIn_app (goodIn_of _ (by decide +kernel)) ggL_areRead_X6_isEmpty
set_option maxRecDepth 20000 in
theorem ggL_areRead_X6_isRoomy : GoodIn wsL_areRead wsX6_isRoomy := goodIn_ca (goodIn_r _ [102, 15, 16, 17, 6, 18, 19, 20, 21, 103, 71, 72, 25, 73, 74, 75, 76, 77, 51, 52, 49, 53, 31, 44, 45, 46, 47, 48, 50, 54, 78, 79, 57, 80, 81, 82, 83, 84, 85, 107, 108, 109, 110, 111, 112, 113, 114] (by decide +kernel) (by decide +kernel)) (goodIn_sub (fun _ h => List.mem_cons_of_mem _ (List.mem_append_right _ h)) (by decide +kernel))
set_option maxRecDepth 20000 in
theorem gL_areRead_X6_isRoomy : GoodIn wsL_areRead (wsV RL 100 RX6 yX6_isRoomy wsX6_isRoomy) := goodIn_app (goodIn_of _ (by decide +kernel)) ggL_areRead_X6_isRoomy
set_option maxRecDepth 20000 in
theorem ggL_isMade_X6_has : GoodIn wsL_isMade wsX6_has := goodIn_ca (goodIn_ca (goodIn_r _ [7, 8, 9, 10, 6, 11, 12, 13, 14, 15, 16, 17, 18, 19, 20, 21, 22, 23, 24, 25, 26, 27, 28, 29, 30, 31, 35, 36, 37, 38, 39, 40, 41, 42] (by decide +kernel) (by decide +kernel)) (goodIn_sub (fun _ h => List.mem_cons_of_mem _ (List.mem_append_left _ (List.mem_append_right _ h))) (by decide +kernel))) (goodIn_sub (fun _ h => List.mem_cons_of_mem _ (List.mem_append_right _ h)) (by decide +kernel))
set_option maxRecDepth 20000 in
theorem gL_isMade_X6_has : GoodIn wsL_isMade (wsV RL 84 RX6 yX6_has wsX6_has) := goodIn_app (goodIn_of _ (by decide +kernel)) ggL_isMade_X6_has
set_option maxRecDepth 20000 in
theorem ggL_copies_X6_copy : GoodIn wsL_copies wsX6_copy := goodIn_ca (goodIn_r _ [6, 7, 8, 9, 5, 10, 11, 12, 13, 14, 15, 16, 17, 18, 19, 20, 21, 22, 23, 24, 25, 26, 27, 28, 29, 30, 31, 32, 33, 34, 35, 36, 37, 38, 39, 40, 41, 42, 43, 44, 45, 46, 47, 48, 49, 50, 51, 52, 75, 76, 77, 78, 79, 80, 81, 82] (by decide +kernel) (by decide +kernel)) (goodIn_sub (fun _ h => List.mem_cons_of_mem _ (List.mem_append_left _ (List.mem_append_right _ h))) (by decide +kernel))
set_option maxRecDepth 20000 in
theorem gL_copies_X6_copy : GoodIn wsL_copies (wsV RL 103 RX6 yX6_copy wsX6_copy) := goodIn_app (goodIn_of _ (by decide +kernel)) ggL_copies_X6_copy
set_option maxRecDepth 20000 in
theorem ggL_copies_X6_flipRange : GoodIn wsL_copies wsX6_flipRange := goodIn_ca (goodIn_ca (goodIn_r _ [56, 57, 58, 59, 5, 60, 15, 16, 61, 62, 63, 64, 65, 66, 67, 11, 12, 13, 14, 17, 68, 69, 70, 21, 71, 23, 36, 37, 38, 39, 40, 41, 42, 43, 44, 45, 27, 28, 29, 30, 31, 32, 33, 34, 35, 46, 47, 48, 49, 50, 51, 52, 75, 76, 77, 78, 79, 80, 81, 82] (by decide +kernel) (by decide +kernel)) (goodIn_sub (fun _ h => List.mem_cons_of_mem _ (List.mem_append_left _ (List.mem_append_right _ h))) (by decide +kernel))) (goodIn_sub (fun _ h => List.mem_cons_of_mem _ (List.mem_append_right _ h)) (by decide +kernel))
set_option maxRecDepth 20000 in
theorem gL_copies_X6_flipRange : GoodIn wsL_copies (wsV RL 49 RX6 yX6_flipRange wsX6_flipRange) := goodIn_app (goodIn_of _ (by decide +kernel)) ggL_copies_X6_flipRange
set_option maxRecDepth 20000 in
theorem ggL_areMissing_L_copies : GoodIn wsL_areMissing wsL_copies := goodIn_ca (goodIn_ca (goodIn_r _ [6, 1, 7, 8, 9, 10, 11, 12, 13, 14, 15, 16, 17, 18, 19, 20, 21, 22, 23, 24, 25, 26, 27, 28, 29, 30, 31, 32, 33, 34, 35, 36, 37, 38, 39, 40, 41, 42, 43, 44, 45, 46, 47, 48, 49, 50, 51, 52, 53, 54, 55, 56, 57, 58, 59, 60, 61, 62, 63, 64, 65, 66, 67, 68, 69, 70, 71, 72, 73, 74, 75, 76, 131, 132, 133, 134, 135, 136, 137, 138, 139, 140, 141] (by decide +kernel) (by decide +kernel)) (goodIn_sub (fun _ h => List.mem_cons_of_mem _ (List.mem_append_left _ (List.mem_append_right _ h))) (by decide +kernel))) (goodIn_sub (fun _ h => List.mem_cons_of_mem _ (List.mem_append_right _ h)) (by decide +kernel))
set_option maxRecDepth 20000 in
theorem gL_areMissing_L_copies : GoodIn wsL_areMissing (wsV RL 106 RL yL_copies wsL_copies) := goodIn_app (goodIn_of _ (by decide +kernel)) ggL_areMissing_L_copies
set_option maxRecDepth 20000 in
theorem ggL_areMissing_X6_unite : GoodIn wsL_areMissing wsX6_unite := goodIn_ca (goodIn_r _ [80, 12, 13, 14, 10, 15, 16, 17, 18, 19, 20, 21, 22, 23, 24, 25, 26, 27, 28, 29, 30, 31, 32, 33, 34, 35, 36, 37, 38, 39, 40, 41, 42, 43, 44, 45, 46, 47, 48, 49, 50, 51, 52, 53, 54, 55, 56, 57, 134, 135, 136, 137, 138, 139, 140, 141] (by decide +kernel) (by decide +kernel)) (goodIn_sub (fun _ h => List.mem_cons_of_mem _ (List.mem_append_left _ (List.mem_append_right _ h))) (by decide +kernel))
set_option maxRecDepth 20000 in
theorem gL_areMissing_X6_unite : GoodIn wsL_areMissing (wsV RL 110 RX6 yX6_unite wsX6_unite) := goodIn_app (goodIn_of _ (by decide +kernel)) ggL_areMissing_X6_unite
set_option maxRecDepth 20000 in
theorem ggL_areMissing_X6_intersect : GoodIn wsL_areMissing wsX6_intersect := goodIn_ca (goodIn_r _ [84, 12, 13, 14, 10, 15, 16, 17, 18, 19, 20, 21, 22, 23, 24, 25, 26, 27, 28, 29, 30, 31, 32, 33, 34, 35, 36, 37, 38, 39, 40, 41, 42, 43, 44, 45, 46, 47, 48, 49, 50, 51, 52, 53, 54, 55, 56, 57, 134, 135, 136, 137, 138, 139, 140, 141] (by decide +kernel) (by decide +kernel)) (goodIn_sub (fun _ h => List.mem_cons_of_mem _ (List.mem_append_left _ (List.mem_append_right _ h))) (by decide +kernel))
set_option maxRecDepth 20000 in
theorem gL_areMissing_X6_intersect : GoodIn wsL_areMissing (wsV RL 113 RX6 yX6_intersect wsX6_intersect) := goodIn_app (goodIn_of _ (by decide +kernel)) ggL_areMissing_X6_intersect
set_option maxRecDepth 20000 in
theorem ggL_areMissing_X6_count : GoodIn wsL_areMissing wsX6_count := goodIn_ca (goodIn_r _ [88, 16, 17, 18, 10, 19, 20, 21, 22, 33, 34, 35, 26, 36, 37, 38, 39, 40, 28, 41, 42, 43, 44, 45, 46, 47, 48, 49, 50, 32, 51, 52, 53, 54, 55, 56, 57, 134, 135, 136, 137, 138, 139, 140, 141] (by decide +kernel) (by decide +kernel)) (goodIn_sub (fun _ h => List.mem_cons_of_mem _ (List.mem_append_left _ (List.mem_append_right _ h))) (by decide +kernel))
set_option maxRecDepth 20000 in
theorem gL_areMissing_X6_count : GoodIn wsL_areMissing (wsV RL 86 RX6 yX6_count wsX6_count) := goodIn_app (goodIn_of _ (by decide +kernel)) ggL_areMissing_X6_count
set_option maxRecDepth 20000 in
theorem ggL_areMissing_L_isMade : GoodIn wsL_areMissing wsL_isMade := goodIn_ca (goodIn_ca (goodIn_r _ [92, 93, 1, 94, 95, 96, 10, 97, 98, 99, 100, 101, 70, 71, 72, 16, 17, 18, 19, 20, 21, 22, 102, 103, 104, 26, 105, 106, 107, 108, 109, 28, 131, 132, 133, 134, 135, 136, 137, 138, 139, 140, 141] (by decide +kernel) (by decide +kernel)) (goodIn_sub (fun _ h => List.mem_cons_of_mem _ (List.mem_append_right _ h)) (by decide +kernel))) (goodIn_sub (fun _ h => List.mem_cons_of_mem _ (List.mem_append_left _ (List.mem_append_right _ h))) (by decide +kernel))
set_option maxRecDepth 20000 in
theorem gL_areMissing_L_isMade : GoodIn wsL_areMissing (wsV RL 116 RL yL_isMade wsL_isMade) := goodIn_app (goodIn_of _ (by decide +kernel)) ggL_areMissing_L_isMade
set_option maxRecDepth 20000 in
theorem ggL_areMissing_X6_flipRange : GoodIn wsL_areMissing wsX6_flipRange := goodIn_ca (goodIn_ca (goodIn_r _ [61, 62, 63, 64, 10, 65, 20, 21, 66, 67, 68, 69, 70, 71, 72, 16, 17, 18, 19, 22, 73, 74, 75, 26, 76, 28, 41, 42, 43, 44, 45, 46, 47, 48, 49, 50, 32, 33, 34, 35, 36, 37, 38, 39, 40, 51, 52, 53, 54, 55, 56, 57, 134, 135, 136, 137, 138, 139, 140, 141] (by decide +kernel) (by decide +kernel)) (goodIn_sub (fun _ h => List.mem_cons_of_mem _ (List.mem_append_left _ (List.mem_append_right _ h))) (by decide +kernel))) (goodIn_sub (fun _ h => List.mem_cons_of_mem _ (List.mem_append_right _ h)) (by decide +kernel))
set_option maxRecDepth 20000 in
theorem gL_areMissing_X6_flipRange : GoodIn wsL_areMissing (wsV RL 49 RX6 yX6_flipRange wsX6_flipRange) := goodIn_app (goodIn_of _ (by decide +kernel)) ggL_areMissing_X6_flipRange
set_option maxRecDepth 20000 in
theorem ggL_areMissing_X6_areEqual : GoodIn wsL_areMissing wsX6_areEqual := goodIn_ca (goodIn_r _ [113, 16, 17, 18, 10, 19, 20, 21, 22, 114, 115, 116, 26, 117, 28, 51, 52, 53, 54, 55, 56, 57, 118, 119, 120, 121, 134, 135, 136, 137, 138, 139, 140, 141] (by decide +kernel) (by decide +kernel)) (goodIn_sub (fun _ h => List.mem_cons_of_mem _ (List.mem_append_left _ (List.mem_append_right _ h))) (by decide +kernel))
set_option maxRecDepth 20000 in
theorem gL_areMissing_X6_areEqual : GoodIn wsL_areMissing (wsV RL 119 RX6 yX6_areEqual wsX6_areEqual) := goodIn_app (goodIn_of _ (by decide +kernel)) ggL_areMissing_X6_areEqual
set_option maxRecDepth 20000 in
theorem ggL_areMissing_X6_fingerprint : GoodIn wsL_areMissing wsX6_fingerprint := goodIn_ca (goodIn_r _ [125, 16, 17, 18, 10, 19, 20, 21, 22, 126, 127, 128, 26, 129, 130, 28, 134, 135, 136, 137, 138, 139, 140, 141] (by decide +kernel) (by decide +kernel)) (goodIn_sub (fun _ h => List.mem_cons_of_mem _ (List.mem_append_left _ (List.mem_append_right _ h))) (by decide +kernel))
set_option maxRecDepth 20000 in
theorem gL_areMissing_X6_fingerprint : GoodIn wsL_areMissing (wsV RL 122 RX6 yX6_fingerprint wsX6_fingerprint) := goodIn_app (goodIn_of _ (by decide +kernel)) ggL_areMissing_X6_fingerprint
set_option maxRecDepth 20000 in
theorem ggL_areDistributed_L_copies : GoodIn wsL_areDistributed wsL_copies := goodIn_ca (goodIn_ca (goodIn_r _ [6, 1, 7, 8, 9, 10, 11, 12, 13, 14, 15, 16, 17, 18, 19, 20, 21, 22, 23, 24, 25, 26, 27, 28, 29, 30, 31, 32, 33, 34, 35, 36, 37, 38, 39, 40, 41, 42, 43, 44, 45, 46, 47, 48, 49, 50, 51, 52, 53, 54, 55, 56, 57, 58, 59, 60, 61, 62, 63, 64, 65, 66, 67, 68, 69, 70, 71, 72, 73, 74, 75, 76, 97, 98, 99, 100, 101, 102, 103, 104, 105, 106, 107] (by decide +kernel) (by decide +kernel)) (goodIn_sub (fun _ h => List.mem_cons_of_mem _ (List.mem_append_left _ (List.mem_append_right _ h))) (by decide +kernel))) (goodIn_sub (fun _ h => List.mem_cons_of_mem _ (List.mem_append_right _ h)) (by decide +kernel))
set_option maxRecDepth 20000 in
theorem gL_areDistributed_L_copies : GoodIn wsL_areDistributed (wsV RL 106 RL yL_copies wsL_copies) := goodIn_app (goodIn_of _ (by decide +kernel)) ggL_areDistributed_L_copies
set_option maxRecDepth 20000 in
theorem ggL_areDistributed_X6_intersect : GoodIn wsL_areDistributed wsX6_intersect := goodIn_ca (goodIn_r _ [80, 12, 13, 14, 10, 15, 16, 17, 18, 19, 20, 21, 22, 23, 24, 25, 26, 27, 28, 29, 30, 31, 32, 33, 34, 35, 36, 37, 38, 39, 40, 41, 42, 43, 44, 45, 46, 47, 48, 49, 50, 51, 52, 53, 54, 55, 56, 57, 100, 101, 102, 103, 104, 105, 106, 107] (by decide +kernel) (by decide +kernel)) (goodIn_sub (fun _ h => List.mem_cons_of_mem _ (List.mem_append_left _ (List.mem_append_right _ h))) (by decide +kernel))
set_option maxRecDepth 20000 in
theorem gL_areDistributed_X6_intersect : GoodIn wsL_areDistributed (wsV RL 113 RX6 yX6_intersect wsX6_intersect) := goodIn_app (goodIn_of _ (by decide +kernel)) ggL_areDistributed_X6_intersect
set_option maxRecDepth 20000 in
theorem ggL_areDistributed_X6_unite : GoodIn wsL_areDistributed wsX6_unite := goodIn_ca (goodIn_r _ [84, 12, 13, 14, 10, 15, 16, 17, 18, 19, 20, 21, 22, 23, 24, 25, 26, 27, 28, 29, 30, 31, 32, 33, 34, 35, 36, 37, 38, 39, 40, 41, 42, 43, 44, 45, 46, 47, 48, 49, 50, 51, 52, 53, 54, 55, 56, 57, 100, 101, 102, 103, 104, 105, 106, 107] (by decide +kernel) (by decide +kernel)) (goodIn_sub (fun _ h => List.mem_cons_of_mem _ (List.mem_append_left _ (List.mem_append_right _ h))) (by decide +kernel))
set_option maxRecDepth 20000 in
theorem gL_areDistributed_X6_unite : GoodIn wsL_areDistributed (wsV RL 110 RX6 yX6_unite wsX6_unite) := goodIn_app (goodIn_of _ (by decide +kernel)) ggL_areDistributed_X6_unite
set_option maxRecDepth 20000 in
theorem ggL_areDistributed_X6_areEqual : GoodIn wsL_areDistributed wsX6_areEqual := goodIn_ca (goodIn_r _ [88, 16, 17, 18, 10, 19, 20, 21, 22, 89, 90, 91, 26, 92, 28, 51, 52, 53, 54, 55, 56, 57, 93, 94, 95, 96, 100, 101, 102, 103, 104, 105, 106, 107] (by decide +kernel) (by decide +kernel)) (goodIn_sub (fun _ h => List.mem_cons_of_mem _ (List.mem_append_left _ (List.mem_append_right _ h))) (by decide +kernel))
set_option maxRecDepth 20000 in
theorem gL_areDistributed_X6_areEqual : GoodIn wsL_areDistributed (wsV RL 119 RX6 yX6_areEqual wsX6_areEqual) := goodIn_app (goodIn_of _ (by decide +kernel)) ggL_areDistributed_X6_areEqual
set_option maxRecDepth 20000 in
theorem ggL_areCounted_L_copies : GoodIn wsL_areCounted wsL_copies := goodIn_ca (goodIn_ca (goodIn_r _ [6, 1, 7, 8, 9, 10, 11, 12, 13, 14, 15, 16, 17, 18, 19, 20, 21, 22, 23, 24, 25, 26, 27, 28, 29, 30, 31, 32, 33, 34, 35, 36, 37, 38, 39, 40, 41, 42, 43, 44, 45, 46, 47, 48, 49, 50, 51, 52, 53, 54, 55, 56, 57, 58, 59, 60, 61, 62, 63, 64, 65, 66, 67, 68, 69, 70, 71, 72, 73, 74, 75, 76, 177, 178, 179, 180, 181, 182, 183, 184, 185, 186, 187] (by decide +kernel) (by decide +kernel)) (goodIn_sub (fun _ h => List.mem_cons_of_mem _ (List.mem_append_left _ (List.mem_append_right _ h))) (by decide +kernel))) (goodIn_sub (fun _ h => List.mem_cons_of_mem _ (List.mem_append_right _ h)) (by decide +kernel))
set_option maxRecDepth 20000 in
theorem gL_areCounted_L_copies : GoodIn wsL_areCounted (wsV RL 106 RL yL_copies wsL_copies) := goodIn_app (goodIn_of _ (by decide +kernel)) ggL_areCounted_L_copies
set_option maxRecDepth 20000 in
theorem ggL_areCounted_X6_intersect : GoodIn wsL_areCounted wsX6_intersect := goodIn_ca (goodIn_r _ [80, 12, 13, 14, 10, 15, 16, 17, 18, 19, 20, 21, 22, 23, 24, 25, 26, 27, 28, 29, 30, 31, 32, 33, 34, 35, 36, 37, 38, 39, 40, 41, 42, 43, 44, 45, 46, 47, 48, 49, 50, 51, 52, 53, 54, 55, 56, 57, 180, 181, 182, 183, 184, 185, 186, 187] (by decide +kernel) (by decide +kernel)) (goodIn_sub (fun _ h => List.mem_cons_of_mem _ (List.mem_append_left _ (List.mem_append_right _ h))) (by decide +kernel))
set_option maxRecDepth 20000 in
theorem gL_areCounted_X6_intersect : GoodIn wsL_areCounted (wsV RL 113 RX6 yX6_intersect wsX6_intersect) := goodIn_app (goodIn_of _ (by decide +kernel)) ggL_areCounted_X6_intersect
set_option maxRecDepth 20000 in
theorem ggL_areCounted_X6_next : GoodIn wsL_areCounted wsX6_next := goodIn_ca (goodIn_ca (goodIn_r _ [84, 85, 86, 87, 10, 88, 70, 71, 72, 16, 17, 18, 19, 20, 21, 22, 89, 90, 91, 26, 92, 28, 41, 42, 43, 44, 45, 46, 47, 48, 49, 50, 32, 93, 94, 53, 95, 96, 97, 98, 99, 100, 180, 181, 182, 183, 184, 185, 186, 187] (by decide +kernel) (by decide +kernel)) (goodIn_sub (fun _ h => List.mem_cons_of_mem _ (List.mem_append_right _ h)) (by decide +kernel))) (goodIn_sub (fun _ h => List.mem_cons_of_mem _ (List.mem_append_left _ (List.mem_append_right _ h))) (by decide +kernel))
set_option maxRecDepth 20000 in
theorem gL_areCounted_X6_next : GoodIn wsL_areCounted (wsV RL 125 RX6 yX6_next wsX6_next) := goodIn_app (goodIn_of _ (by decide +kernel)) ggL_areCounted_X6_next
set_option maxRecDepth 20000 in
theorem ggL_areCounted_X6_count : GoodIn wsL_areCounted wsX6_count := goodIn_ca (goodIn_r _ [104, 16, 17, 18, 10, 19, 20, 21, 22, 33, 34, 35, 26, 36, 37, 38, 39, 40, 28, 41, 42, 43, 44, 45, 46, 47, 48, 49, 50, 32, 51, 52, 53, 54, 55, 56, 57, 180, 181, 182, 183, 184, 185, 186, 187] (by decide +kernel) (by decide +kernel)) (goodIn_sub (fun _ h => List.mem_cons_of_mem _ (List.mem_append_left _ (List.mem_append_right _ h))) (by decide +kernel))
set_option maxRecDepth 20000 in
theorem gL_areCounted_X6_count : GoodIn wsL_areCounted (wsV RL 86 RX6 yX6_count wsX6_count) := goodIn_app (goodIn_of _ (by decide +kernel)) ggL_areCounted_X6_count
set_option maxRecDepth 20000 in
theorem ggL_areCounted_X6_unionCount : GoodIn wsL_areCounted wsX6_unionCount := goodIn_ca (goodIn_r _ [108, 16, 17, 18, 10, 19, 20, 21, 22, 109, 110, 111, 26, 112, 28, 51, 52, 53, 54, 55, 56, 57, 180, 181, 182, 183, 184, 185, 186, 187] (by decide +kernel) (by decide +kernel)) (goodIn_sub (fun _ h => List.mem_cons_of_mem _ (List.mem_append_left _ (List.mem_append_right _ h))) (by decide +kernel))
set_option maxRecDepth 20000 in
theorem gL_areCounted_X6_unionCount : GoodIn wsL_areCounted (wsV RL 127 RX6 yX6_unionCount wsX6_unionCount) := goodIn_app (goodIn_of _ (by decide +kernel)) ggL_areCounted_X6_unionCount
set_option maxRecDepth 20000 in
theorem ggL_areCounted_X6_distance : GoodIn wsL_areCounted wsX6_distance := goodIn_ca (goodIn_r _ [116, 16, 17, 18, 10, 19, 20, 21, 22, 109, 110, 111, 26, 112, 28, 51, 52, 53, 54, 55, 56, 57, 117, 118, 119, 120, 180, 181, 182, 183, 184, 185, 186, 187] (by decide +kernel) (by decide +kernel)) (goodIn_sub (fun _ h => List.mem_cons_of_mem _ (List.mem_append_left _ (List.mem_append_right _ h))) (by decide +kernel))
set_option maxRecDepth 20000 in
theorem gL_areCounted_X6_distance : GoodIn wsL_areCounted (wsV RL 130 RX6 yX6_distance wsX6_distance) := goodIn_app (goodIn_of _ (by decide +kernel)) ggL_areCounted_X6_distance
set_option maxRecDepth 20000 in
theorem ggL_areCounted_X6_meet : GoodIn wsL_areCounted wsX6_meet := goodIn_ca (goodIn_r _ [124, 16, 17, 18, 10, 19, 20, 21, 22, 117, 118, 119, 26, 120, 28, 51, 52, 53, 54, 55, 56, 57, 180, 181, 182, 183, 184, 185, 186, 187] (by decide +kernel) (by decide +kernel)) (goodIn_sub (fun _ h => List.mem_cons_of_mem _ (List.mem_append_left _ (List.mem_append_right _ h))) (by decide +kernel))
set_option maxRecDepth 20000 in
theorem gL_areCounted_X6_meet : GoodIn wsL_areCounted (wsV RL 133 RX6 yX6_meet wsX6_meet) := goodIn_app (goodIn_of _ (by decide +kernel)) ggL_areCounted_X6_meet
set_option maxRecDepth 20000 in
theorem ggL_areCounted_X6_firstCommon : GoodIn wsL_areCounted wsX6_firstCommon := goodIn_ca (goodIn_r _ [128, 16, 17, 18, 10, 19, 20, 21, 22, 129, 130, 131, 26, 132, 28, 93, 94, 53, 95, 96, 97, 98, 99, 100, 180, 181, 182, 183, 184, 185, 186, 187] (by decide +kernel) (by decide +kernel)) (goodIn_sub (fun _ h => List.mem_cons_of_mem _ (List.mem_append_left _ (List.mem_append_right _ h))) (by decide +kernel))
set_option maxRecDepth 20000 in
theorem gL_areCounted_X6_firstCommon : GoodIn wsL_areCounted (wsV RL 136 RX6 yX6_firstCommon wsX6_firstCommon) := goodIn_app (goodIn_of _ (by decide +kernel)) ggL_areCounted_X6_firstCommon
set_option maxRecDepth 20000 in
theorem ggL_areCounted_X6_isWithin : GoodIn wsL_areCounted wsX6_isWithin := goodIn_ca (goodIn_r _ [136, 16, 17, 18, 10, 19, 20, 21, 22, 117, 118, 119, 26, 120, 28, 51, 52, 53, 54, 55, 56, 57, 33, 34, 35, 36, 37, 38, 39, 40, 41, 42, 43, 44, 45, 46, 47, 48, 49, 50, 32, 180, 181, 182, 183, 184, 185, 186, 187] (by decide +kernel) (by decide +kernel)) (goodIn_sub (fun _ h => List.mem_cons_of_mem _ (List.mem_append_left _ (List.mem_append_right _ h))) (by decide +kernel))
set_option maxRecDepth 20000 in
theorem gL_areCounted_X6_isWithin : GoodIn wsL_areCounted (wsV RL 139 RX6 yX6_isWithin wsX6_isWithin) := goodIn_app (goodIn_of _ (by decide +kernel)) ggL_areCounted_X6_isWithin
set_option maxRecDepth 20000 in
theorem ggL_areCounted_X6_subtract : GoodIn wsL_areCounted wsX6_subtract := goodIn_ca (goodIn_r _ [140, 12, 13, 14, 10, 15, 16, 17, 18, 19, 20, 21, 22, 23, 24, 25, 26, 27, 28, 29, 30, 31, 32, 33, 34, 35, 36, 37, 38, 39, 40, 41, 42, 43, 44, 45, 46, 47, 48, 49, 50, 51, 52, 53, 54, 55, 56, 57, 180, 181, 182, 183, 184, 185, 186, 187] (by decide +kernel) (by decide +kernel)) (goodIn_sub (fun _ h => List.mem_cons_of_mem _ (List.mem_append_left _ (List.mem_append_right _ h))) (by decide +kernel))
set_option maxRecDepth 20000 in
theorem gL_areCounted_X6_subtract : GoodIn wsL_areCounted (wsV RL 142 RX6 yX6_subtract wsX6_subtract) := goodIn_app (goodIn_of _ (by decide +kernel)) ggL_areCounted_X6_subtract
set_option maxRecDepth 20000 in
theorem ggL_areCounted_L_isMade : GoodIn wsL_areCounted wsL_isMade := goodIn_ca (goodIn_ca (goodIn_r _ [144, 145, 1, 146, 147, 148, 10, 149, 85, 86, 87, 88, 70, 71, 72, 16, 17, 18, 19, 20, 21, 22, 150, 151, 152, 26, 153, 154, 155, 156, 157, 28, 177, 178, 179, 180, 181, 182, 183, 184, 185, 186, 187] (by decide +kernel) (by decide +kernel)) (goodIn_sub (fun _ h => List.mem_cons_of_mem _ (List.mem_append_right _ h)) (by decide +kernel))) (goodIn_sub (fun _ h => List.mem_cons_of_mem _ (List.mem_append_left _ (List.mem_append_right _ h))) (by decide +kernel))
set_option maxRecDepth 20000 in
theorem gL_areCounted_L_isMade : GoodIn wsL_areCounted (wsV RL 116 RL yL_isMade wsL_isMade) := goodIn_app (goodIn_of _ (by decide +kernel)) ggL_areCounted_L_isMade
set_option maxRecDepth 20000 in
theorem ggL_areCounted_X6_differ : GoodIn wsL_areCounted wsX6_differ := goodIn_ca (goodIn_r _ [161, 12, 13, 14, 10, 15, 16, 17, 18, 19, 20, 21, 22, 23, 24, 25, 26, 27, 28, 29, 30, 31, 32, 33, 34, 35, 36, 37, 38, 39, 40, 41, 42, 43, 44, 45, 46, 47, 48, 49, 50, 51, 52, 53, 54, 55, 56, 57, 180, 181, 182, 183, 184, 185, 186, 187] (by decide +kernel) (by decide +kernel)) (goodIn_sub (fun _ h => List.mem_cons_of_mem _ (List.mem_append_left _ (List.mem_append_right _ h))) (by decide +kernel))
set_option maxRecDepth 20000 in
theorem gL_areCounted_X6_differ : GoodIn wsL_areCounted (wsV RL 77 RX6 yX6_differ wsX6_differ) := goodIn_app (goodIn_of _ (by decide +kernel)) ggL_areCounted_X6_differ
set_option maxRecDepth 20000 in
theorem ggL_areCounted_X6_areEqual : GoodIn wsL_areCounted wsX6_areEqual := goodIn_ca (goodIn_r _ [165, 16, 17, 18, 10, 19, 20, 21, 22, 109, 110, 111, 26, 112, 28, 51, 52, 53, 54, 55, 56, 57, 117, 118, 119, 120, 180, 181, 182, 183, 184, 185, 186, 187] (by decide +kernel) (by decide +kernel)) (goodIn_sub (fun _ h => List.mem_cons_of_mem _ (List.mem_append_left _ (List.mem_append_right _ h))) (by decide +kernel))
set_option maxRecDepth 20000 in
theorem gL_areCounted_X6_areEqual : GoodIn wsL_areCounted (wsV RL 119 RX6 yX6_areEqual wsX6_areEqual) := goodIn_app (goodIn_of _ (by decide +kernel)) ggL_areCounted_X6_areEqual
set_option maxRecDepth 20000 in
theorem ggL_areCounted_X6_errors : GoodIn wsL_areCounted wsX6_errors := goodIn_r _ [169, 22, 170, 171, 172, 26, 173, 28, 32, 174, 34, 35, 36, 37, 38, 39, 40, 41, 42, 43, 44, 45, 46, 47, 48, 49, 50, 51, 52, 53, 54, 55, 56, 57, 175, 118, 119, 120, 176, 110, 111, 112, 180, 181, 182, 183, 184, 185, 186, 187] (by decide +kernel) (by decide +kernel)
set_option maxRecDepth 20000 in
theorem gL_areCounted_X6_errors : GoodIn wsL_areCounted (wsV RL 145 RX6 yX6_errors wsX6_errors) := goodIn_app (goodIn_of _ (by decide +kernel)) ggL_areCounted_X6_errors
set_option maxRecDepth 20000 in
theorem ggL_isBuilt_L_next : GoodIn wsL_isBuilt wsL_next := goodIn_r _ [7, 8, 9, 244, 245, 246] (by decide +kernel) (by decide +kernel)
set_option maxRecDepth 20000 in
theorem gL_isBuilt_L_next : GoodIn wsL_isBuilt (wsV RL 26 RL yL_next wsL_next) := goodIn_app (goodIn_of _ (by decide +kernel)) ggL_isBuilt_L_next
set_option maxRecDepth 20000 in
theorem ggL_isBuilt_X6_renew : GoodIn wsL_isBuilt wsX6_renew := goodIn_ca (goodIn_r _ [14, 15, 16, 17, 18, 13, 19, 20, 21, 22, 23, 24, 25, 26, 27, 28, 29, 30, 31, 32, 33, 34, 35, 36, 37, 38, 39, 40, 41, 42, 43, 44, 45, 46, 47, 48, 49, 50, 51, 52, 53, 54, 55, 56, 57, 58, 59, 60, 61, 247, 248, 249, 250, 251, 252, 253, 254] (by decide +kernel) (by decide +kernel)) (goodIn_sub (fun _ h => List.mem_cons_of_mem _ (List.mem_append_left _ (List.mem_append_right _ h))) (by decide +kernel))
set_option maxRecDepth 20000 in
theorem gL_isBuilt_X6_renew : GoodIn wsL_isBuilt (wsV RL 148 RX6 yX6_renew wsX6_renew) := goodIn_app (goodIn_of _ (by decide +kernel)) ggL_isBuilt_X6_renew
set_option maxRecDepth 20000 in
theorem ggL_isBuilt_X6_wordCount : GoodIn wsL_isBuilt wsX6_wordCount := goodIn_ca (goodIn_r _ [65, 16, 17, 18, 13, 19, 20, 21, 22, 66, 67, 68, 29, 69, 70, 71, 72, 73, 74, 75, 76, 77, 43, 44, 41, 45, 35, 36, 37, 38, 39, 40, 42, 46, 78, 79, 49, 80, 81, 82, 83, 84, 85, 247, 248, 249, 250, 251, 252, 253, 254] (by decide +kernel) (by decide +kernel)) (goodIn_sub (fun _ h => List.mem_cons_of_mem _ (List.mem_append_left _ (List.mem_append_right _ h))) (by decide +kernel))
set_option maxRecDepth 20000 in
theorem gL_isBuilt_X6_wordCount : GoodIn wsL_isBuilt (wsV RL 151 RX6 yX6_wordCount wsX6_wordCount) := goodIn_app (goodIn_of _ (by decide +kernel)) ggL_isBuilt_X6_wordCount
set_option maxRecDepth 20000 in
theorem ggL_isBuilt_X6_wordAt : GoodIn wsL_isBuilt wsX6_wordAt := goodIn_ca (goodIn_ca (goodIn_r _ [89, 16, 17, 18, 13, 19, 20, 21, 22, 66, 67, 68, 29, 69, 70, 71, 72, 73, 74, 75, 76, 77, 43, 44, 41, 45, 35, 36, 37, 38, 39, 40, 42, 46, 78, 79, 49, 80, 81, 82, 83, 84, 85, 90, 91, 92, 93, 94, 95, 96, 97, 98, 247, 248, 249, 250, 251, 252, 253, 254] (by decide +kernel) (by decide +kernel)) (goodIn_sub (fun _ h => List.mem_cons_of_mem _ (List.mem_append_left _ (List.mem_append_right _ h))) (by decide +kernel))) (goodIn_sub (fun _ h => List.mem_cons_of_mem _ (List.mem_append_right _ h)) (by decide +kernel))
set_option maxRecDepth 20000 in
theorem gL_isBuilt_X6_wordAt : GoodIn wsL_isBuilt (wsV RL 154 RX6 yX6_wordAt wsX6_wordAt) := goodIn_app (goodIn_of _ (by decide +kernel)) ggL_isBuilt_X6_wordAt
set_option maxRecDepth 20000 in
theorem ggL_isBuilt_X6_byteCount : GoodIn wsL_isBuilt wsX6_byteCount := goodIn_ca (goodIn_r _ [102, 16, 17, 18, 13, 19, 20, 21, 22, 103, 104, 105, 29, 106, 70, 71, 72, 73, 74, 75, 76, 77, 43, 44, 41, 45, 35, 36, 37, 38, 39, 40, 42, 46, 78, 79, 49, 80, 81, 82, 83, 84, 85, 247, 248, 249, 250, 251, 252, 253, 254] (by decide +kernel) (by decide +kernel)) (goodIn_sub (fun _ h => List.mem_cons_of_mem _ (List.mem_append_left _ (List.mem_append_right _ h))) (by decide +kernel))
set_option maxRecDepth 20000 in
theorem gL_isBuilt_X6_byteCount : GoodIn wsL_isBuilt (wsV RL 158 RX6 yX6_byteCount wsX6_byteCount) := goodIn_app (goodIn_of _ (by decide +kernel)) ggL_isBuilt_X6_byteCount
set_option maxRecDepth 20000 in
theorem ggL_isBuilt_X6_byteAt : GoodIn wsL_isBuilt wsX6_byteAt := goodIn_ca (goodIn_ca (goodIn_r _ [110, 111, 16, 17, 18, 13, 19, 20, 21, 22, 103, 104, 105, 29, 106, 70, 71, 72, 73, 74, 75, 76, 77, 43, 44, 41, 45, 35, 36, 37, 38, 39, 40, 42, 46, 78, 79, 49, 80, 81, 82, 83, 84, 85, 90, 91, 92, 93, 94, 112, 113, 114, 115, 116, 96, 97, 98, 247, 248, 249, 250, 251, 252, 253, 254] (by decide +kernel) (by decide +kernel)) (goodIn_sub (fun _ h => List.mem_cons_of_mem _ (List.mem_append_left _ (List.mem_append_right _ h))) (by decide +kernel))) (goodIn_sub (fun _ h => List.mem_cons_of_mem _ (List.mem_append_right _ h)) (by decide +kernel))
set_option maxRecDepth 20000 in
theorem gL_isBuilt_X6_byteAt : GoodIn wsL_isBuilt (wsV RL 161 RX6 yX6_byteAt wsX6_byteAt) := goodIn_app (goodIn_of _ (by decide +kernel)) ggL_isBuilt_X6_byteAt
set_option maxRecDepth 20000 in
theorem ggL_isBuilt_X6_loadWords : GoodIn wsL_isBuilt wsX6_loadWords := goodIn_ca (goodIn_r _ [120, 16, 17, 18, 13, 19, 20, 21, 22, 121, 122, 123, 29, 124, 35, 125, 55, 56, 57, 58, 59, 60, 61, 46, 36, 37, 38, 39, 40, 41, 42, 43, 44, 45, 126, 71, 72, 73, 74, 75, 76, 77, 78, 79, 49, 80, 81, 82, 83, 84, 85, 247, 248, 249, 250, 251, 252, 253, 254] (by decide +kernel) (by decide +kernel)) (goodIn_sub (fun _ h => List.mem_cons_of_mem _ (List.mem_append_left _ (List.mem_append_right _ h))) (by decide +kernel))
set_option maxRecDepth 20000 in
theorem gL_isBuilt_X6_loadWords : GoodIn wsL_isBuilt (wsV RL 59 RX6 yX6_loadWords wsX6_loadWords) := goodIn_app (goodIn_of _ (by decide +kernel)) ggL_isBuilt_X6_loadWords
set_option maxRecDepth 20000 in
theorem ggL_isBuilt_X6_shift : GoodIn wsL_isBuilt wsX6_shift := goodIn_ca (goodIn_r _ [130, 16, 17, 18, 13, 19, 20, 21, 22, 23, 24, 25, 131, 132, 133, 29, 134, 35, 135, 113, 114, 115, 116, 96, 97, 98, 136, 137, 138, 139, 43, 44, 41, 45, 36, 37, 38, 39, 40, 42, 46, 26, 27, 28, 30, 31, 32, 33, 34, 47, 48, 49, 50, 51, 52, 53, 247, 248, 249, 250, 251, 252, 253, 254] (by decide +kernel) (by decide +kernel)) (goodIn_sub (fun _ h => List.mem_cons_of_mem _ (List.mem_append_left _ (List.mem_append_right _ h))) (by decide +kernel))
set_option maxRecDepth 20000 in
theorem gL_isBuilt_X6_shift : GoodIn wsL_isBuilt (wsV RL 66 RX6 yX6_shift wsX6_shift) := goodIn_app (goodIn_of _ (by decide +kernel)) ggL_isBuilt_X6_shift
set_option maxRecDepth 20000 in
theorem ggL_isBuilt_J13_bitCount_95d88 : GoodIn wsL_isBuilt wsJ13_bitCount_95d88 := goodIn_r _ [50, 51, 52, 53] (by decide +kernel) (by decide +kernel)
set_option maxRecDepth 20000 in
theorem gL_isBuilt_J13_bitCount_95d88 : GoodIn wsL_isBuilt (va_wsS RL 166 yJ13_bitCount_95d88 wsJ13_bitCount_95d88) := goodIn_app (goodIn_of _ (by decide +kernel)) ggL_isBuilt_J13_bitCount_95d88
set_option maxRecDepth 20000 in
theorem ggL_isBuilt_X6_unite : GoodIn wsL_isBuilt wsX6_unite := goodIn_ca (goodIn_r _ [144, 145, 146, 147, 13, 148, 16, 17, 18, 19, 20, 21, 22, 149, 150, 151, 29, 152, 35, 153, 154, 155, 46, 26, 27, 28, 30, 31, 32, 33, 34, 36, 37, 38, 39, 40, 41, 42, 43, 44, 45, 47, 48, 49, 50, 51, 52, 53, 247, 248, 249, 250, 251, 252, 253, 254] (by decide +kernel) (by decide +kernel)) (goodIn_sub (fun _ h => List.mem_cons_of_mem _ (List.mem_append_left _ (List.mem_append_right _ h))) (by decide +kernel))
set_option maxRecDepth 20000 in
theorem gL_isBuilt_X6_unite : GoodIn wsL_isBuilt (wsV RL 110 RX6 yX6_unite wsX6_unite) := goodIn_app (goodIn_of _ (by decide +kernel)) ggL_isBuilt_X6_unite
set_option maxRecDepth 20000 in
theorem ggL_isBuilt_X6_areEqual : GoodIn wsL_isBuilt wsX6_areEqual := goodIn_ca (goodIn_r _ [159, 16, 17, 18, 13, 19, 20, 21, 22, 160, 161, 162, 29, 163, 35, 47, 48, 49, 50, 51, 52, 53, 164, 165, 166, 167, 247, 248, 249, 250, 251, 252, 253, 254] (by decide +kernel) (by decide +kernel)) (goodIn_sub (fun _ h => List.mem_cons_of_mem _ (List.mem_append_left _ (List.mem_append_right _ h))) (by decide +kernel))
set_option maxRecDepth 20000 in
theorem gL_isBuilt_X6_areEqual : GoodIn wsL_isBuilt (wsV RL 119 RX6 yX6_areEqual wsX6_areEqual) := goodIn_app (goodIn_of _ (by decide +kernel)) ggL_isBuilt_X6_areEqual
set_option maxRecDepth 20000 in
theorem ggL_isBuilt_X6_length : GoodIn wsL_isBuilt wsX6_length := goodIn_ca (goodIn_r _ [171, 16, 17, 18, 13, 19, 20, 21, 22, 126, 71, 72, 29, 73, 74, 75, 76, 77, 43, 44, 41, 45, 35, 36, 37, 38, 39, 40, 42, 46, 78, 79, 49, 80, 81, 82, 83, 84, 85, 247, 248, 249, 250, 251, 252, 253, 254] (by decide +kernel) (by decide +kernel)) (goodIn_sub (fun _ h => List.mem_cons_of_mem _ (List.mem_append_left _ (List.mem_append_right _ h))) (by decide +kernel))
set_option maxRecDepth 20000 in
theorem gL_isBuilt_X6_length : GoodIn wsL_isBuilt (wsV RL 172 RX6 yX6_length wsX6_length) := goodIn_app (goodIn_of _ (by decide +kernel)) ggL_isBuilt_X6_length
set_option maxRecDepth 20000 in
theorem ggL_isBuilt_X6_removeAll : GoodIn wsL_isBuilt wsX6_removeAll := goodIn_ca (goodIn_r _ [175, 16, 17, 18, 13, 19, 20, 21, 22, 26, 27, 28, 29, 30, 31, 32, 33, 34, 35, 36, 37, 38, 39, 40, 41, 42, 43, 44, 45, 46, 47, 48, 49, 50, 51, 52, 53, 54, 55, 56, 57, 58, 59, 60, 61, 247, 248, 249, 250, 251, 252, 253, 254] (by decide +kernel) (by decide +kernel)) (goodIn_sub (fun _ h => List.mem_cons_of_mem _ (List.mem_append_left _ (List.mem_append_right _ h))) (by decide +kernel))
set_option maxRecDepth 20000 in
theorem gL_isBuilt_X6_removeAll : GoodIn wsL_isBuilt (wsV RL 175 RX6 yX6_removeAll wsX6_removeAll) := goodIn_app (goodIn_of _ (by decide +kernel)) ggL_isBuilt_X6_removeAll
set_option maxRecDepth 20000 in
theorem ggL_isBuilt_X6_next : GoodIn wsL_isBuilt wsX6_next := goodIn_ca (goodIn_ca (goodIn_r _ [179, 180, 181, 182, 13, 183, 93, 94, 15, 16, 17, 18, 19, 20, 21, 22, 184, 185, 186, 29, 187, 35, 36, 37, 38, 39, 40, 41, 42, 43, 44, 45, 46, 188, 189, 49, 190, 191, 192, 83, 193, 85, 247, 248, 249, 250, 251, 252, 253, 254] (by decide +kernel) (by decide +kernel)) (goodIn_sub (fun _ h => List.mem_cons_of_mem _ (List.mem_append_right _ h)) (by decide +kernel))) (goodIn_sub (fun _ h => List.mem_cons_of_mem _ (List.mem_append_left _ (List.mem_append_right _ h))) (by decide +kernel))
set_option maxRecDepth 20000 in
theorem gL_isBuilt_X6_next : GoodIn wsL_isBuilt (wsV RL 125 RX6 yX6_next wsX6_next) := goodIn_app (goodIn_of _ (by decide +kernel)) ggL_isBuilt_X6_next
set_option maxRecDepth 20000 in
theorem ggL_isBuilt_X6_add : GoodIn wsL_isBuilt wsX6_add := goodIn_ca (goodIn_ca (goodIn_r _ [197, 198, 199, 200, 13, 201, 20, 21, 180, 181, 182, 183, 93, 94, 15, 16, 17, 18, 19, 22, 202, 203, 204, 29, 205, 116, 96, 97, 98, 35, 206, 207, 208, 209, 247, 248, 249, 250, 251, 252, 253, 254] (by decide +kernel) (by decide +kernel)) (goodIn_sub (fun _ h => List.mem_cons_of_mem _ (List.mem_append_left _ (List.mem_append_right _ h))) (by decide +kernel))) (goodIn_sub (fun _ h => List.mem_cons_of_mem _ (List.mem_append_right _ h)) (by decide +kernel))
set_option maxRecDepth 20000 in
theorem gL_isBuilt_X6_add : GoodIn wsL_isBuilt (wsV RL 178 RX6 yX6_add wsX6_add) := goodIn_app (goodIn_of _ (by decide +kernel)) ggL_isBuilt_X6_add
set_option maxRecDepth 20000 in
theorem ggL_isBuilt_X6_memberAt : GoodIn wsL_isBuilt wsX6_memberAt := goodIn_ca (goodIn_r _ [213, 16, 17, 18, 13, 19, 20, 21, 22, 214, 215, 216, 29, 217, 70, 71, 72, 73, 74, 75, 76, 77, 43, 44, 41, 45, 35, 36, 37, 38, 39, 40, 42, 46, 78, 79, 49, 80, 81, 82, 83, 84, 85, 218, 203, 204, 205, 116, 96, 97, 98, 247, 248, 249, 250, 251, 252, 253, 254] (by decide +kernel) (by decide +kernel)) (goodIn_sub (fun _ h => List.mem_cons_of_mem _ (List.mem_append_left _ (List.mem_append_right _ h))) (by decide +kernel))
set_option maxRecDepth 20000 in
theorem gL_isBuilt_X6_memberAt : GoodIn wsL_isBuilt (wsV RL 181 RX6 yX6_memberAt wsX6_memberAt) := goodIn_app (goodIn_of _ (by decide +kernel)) ggL_isBuilt_X6_memberAt
set_option maxRecDepth 20000 in
theorem ggL_isBuilt_X6_previous : GoodIn wsL_isBuilt wsX6_previous := goodIn_ca (goodIn_ca (goodIn_r _ [222, 180, 181, 182, 13, 183, 93, 94, 15, 16, 17, 18, 19, 20, 21, 22, 223, 75, 76, 29, 77, 43, 44, 41, 45, 35, 36, 37, 38, 39, 40, 42, 46, 78, 79, 49, 80, 81, 82, 83, 84, 85, 247, 248, 249, 250, 251, 252, 253, 254] (by decide +kernel) (by decide +kernel)) (goodIn_sub (fun _ h => List.mem_cons_of_mem _ (List.mem_append_right _ h)) (by decide +kernel))) (goodIn_sub (fun _ h => List.mem_cons_of_mem _ (List.mem_append_left _ (List.mem_append_right _ h))) (by decide +kernel))
set_option maxRecDepth 20000 in
theorem gL_isBuilt_X6_previous : GoodIn wsL_isBuilt (wsV RL 184 RX6 yX6_previous wsX6_previous) := goodIn_app (goodIn_of _ (by decide +kernel)) ggL_isBuilt_X6_previous
set_option maxRecDepth 20000 in
theorem ggL_isBuilt_X6_nextMissing : GoodIn wsL_isBuilt wsX6_nextMissing := goodIn_ca (goodIn_ca (goodIn_r _ [227, 180, 181, 182, 13, 183, 93, 94, 15, 16, 17, 18, 19, 20, 21, 22, 228, 229, 230, 29, 231, 35, 46, 39, 40, 41, 42, 36, 37, 38, 43, 44, 45, 188, 189, 49, 190, 191, 192, 83, 193, 85, 247, 248, 249, 250, 251, 252, 253, 254] (by decide +kernel) (by decide +kernel)) (goodIn_sub (fun _ h => List.mem_cons_of_mem _ (List.mem_append_right _ h)) (by decide +kernel))) (goodIn_sub (fun _ h => List.mem_cons_of_mem _ (List.mem_append_left _ (List.mem_append_right _ h))) (by decide +kernel))
set_option maxRecDepth 20000 in
theorem gL_isBuilt_X6_nextMissing : GoodIn wsL_isBuilt (wsV RL 187 RX6 yX6_nextMissing wsX6_nextMissing) := goodIn_app (goodIn_of _ (by decide +kernel)) ggL_isBuilt_X6_nextMissing
set_option maxRecDepth 20000 in
theorem ggL_isBuilt_X6_has : GoodIn wsL_isBuilt wsX6_has := goodIn_ca (goodIn_ca (goodIn_r _ [235, 180, 181, 182, 13, 183, 93, 94, 15, 16, 17, 18, 19, 20, 21, 22, 202, 203, 204, 29, 205, 116, 96, 97, 98, 35, 247, 248, 249, 250, 251, 252, 253, 254] (by decide +kernel) (by decide +kernel)) (goodIn_sub (fun _ h => List.mem_cons_of_mem _ (List.mem_append_right _ h)) (by decide +kernel))) (goodIn_sub (fun _ h => List.mem_cons_of_mem _ (List.mem_append_left _ (List.mem_append_right _ h))) (by decide +kernel))
set_option maxRecDepth 20000 in
theorem gL_isBuilt_X6_has : GoodIn wsL_isBuilt (wsV RL 84 RX6 yX6_has wsX6_has) := goodIn_app (goodIn_of _ (by decide +kernel)) ggL_isBuilt_X6_has
set_option maxRecDepth 20000 in
theorem ggL_isBuilt_X6_previousMissing : GoodIn wsL_isBuilt wsX6_previousMissing := goodIn_ca (goodIn_ca (goodIn_r _ [239, 180, 181, 182, 13, 183, 93, 94, 15, 16, 17, 18, 19, 20, 21, 22, 240, 241, 242, 29, 243, 35, 46, 36, 37, 38, 39, 40, 41, 42, 43, 44, 45, 78, 79, 49, 80, 81, 82, 83, 84, 85, 247, 248, 249, 250, 251, 252, 253, 254] (by decide +kernel) (by decide +kernel)) (goodIn_sub (fun _ h => List.mem_cons_of_mem _ (List.mem_append_right _ h)) (by decide +kernel))) (goodIn_sub (fun _ h => List.mem_cons_of_mem _ (List.mem_append_left _ (List.mem_append_right _ h))) (by decide +kernel))
set_option maxRecDepth 20000 in
theorem gL_isBuilt_X6_previousMissing : GoodIn wsL_isBuilt (wsV RL 190 RX6 yX6_previousMissing wsX6_previousMissing) := goodIn_app (goodIn_of _ (by decide +kernel)) ggL_isBuilt_X6_previousMissing
set_option maxRecDepth 20000 in
theorem ggL_isPart_L_number : GoodIn wsL_isPart wsL_number := goodIn_r _ [13, 1, 2, 3, 4, 5, 6, 7, 14, 15, 16, 12, 17, 18, 19, 161, 162, 163] (by decide +kernel) (by decide +kernel)
set_option maxRecDepth 20000 in
theorem gL_isPart_L_number : GoodIn wsL_isPart (wsV RL 41 RL yL_number wsL_number) := goodIn_app (goodIn_of _ (by decide +kernel)) ggL_isPart_L_number
set_option maxRecDepth 20000 in
theorem ggL_isPart_X6_takePart : GoodIn wsL_isPart wsX6_takePart := goodIn_ca (goodIn_ca (goodIn_r _ [24, 25, 26, 27, 23, 28, 29, 30, 31, 32, 33, 34, 35, 36, 37, 38, 39, 40, 41, 42, 43, 44, 2, 3, 4, 45, 46, 47, 48, 49, 50, 51, 52, 53, 54, 55, 56, 57, 6, 7, 58, 59, 60, 61, 62, 63, 64, 65, 66, 67, 68, 69, 70, 71, 72, 73, 164, 165, 166, 167, 168, 169, 170, 171] (by decide +kernel) (by decide +kernel)) (goodIn_sub (fun _ h => List.mem_cons_of_mem _ (List.mem_append_left _ (List.mem_append_right _ h))) (by decide +kernel))) (goodIn_sub (fun _ h => List.mem_cons_of_mem _ (List.mem_append_right _ h)) (by decide +kernel))
set_option maxRecDepth 20000 in
theorem gL_isPart_X6_takePart : GoodIn wsL_isPart (wsV RL 69 RX6 yX6_takePart wsX6_takePart) := goodIn_app (goodIn_of _ (by decide +kernel)) ggL_isPart_X6_takePart
set_option maxRecDepth 20000 in
theorem ggL_isPart_X6_countIn : GoodIn wsL_isPart wsX6_countIn := goodIn_ca (goodIn_ca (goodIn_r _ [77, 32, 33, 34, 23, 35, 36, 37, 38, 25, 26, 27, 28, 29, 30, 31, 78, 64, 65, 42, 66, 45, 54, 55, 56, 57, 6, 3, 7, 44, 2, 4, 58, 67, 68, 69, 70, 71, 72, 73, 164, 165, 166, 167, 168, 169, 170, 171] (by decide +kernel) (by decide +kernel)) (goodIn_sub (fun _ h => List.mem_cons_of_mem _ (List.mem_append_right _ h)) (by decide +kernel))) (goodIn_sub (fun _ h => List.mem_cons_of_mem _ (List.mem_append_left _ (List.mem_append_right _ h))) (by decide +kernel))
set_option maxRecDepth 20000 in
theorem gL_isPart_X6_countIn : GoodIn wsL_isPart (wsV RL 193 RX6 yX6_countIn wsX6_countIn) := goodIn_app (goodIn_of _ (by decide +kernel)) ggL_isPart_X6_countIn
set_option maxRecDepth 20000 in
theorem ggL_isPart_X6_length : GoodIn wsL_isPart wsX6_length := goodIn_ca (goodIn_r _ [82, 25, 26, 27, 23, 28, 29, 30, 31, 83, 84, 85, 42, 86, 87, 88, 89, 90, 44, 2, 3, 4, 45, 54, 55, 56, 57, 6, 7, 58, 91, 92, 69, 93, 94, 95, 96, 97, 98, 164, 165, 166, 167, 168, 169, 170, 171] (by decide +kernel) (by decide +kernel)) (goodIn_sub (fun _ h => List.mem_cons_of_mem _ (List.mem_append_left _ (List.mem_append_right _ h))) (by decide +kernel))
set_option maxRecDepth 20000 in
theorem gL_isPart_X6_length : GoodIn wsL_isPart (wsV RL 172 RX6 yX6_length wsX6_length) := goodIn_app (goodIn_of _ (by decide +kernel)) ggL_isPart_X6_length
set_option maxRecDepth 20000 in
theorem ggL_isPart_X6_shift : GoodIn wsL_isPart wsX6_shift := goodIn_ca (goodIn_r _ [102, 25, 26, 27, 23, 28, 29, 30, 31, 103, 104, 105, 106, 107, 108, 42, 109, 45, 46, 47, 48, 49, 50, 51, 52, 53, 39, 40, 41, 43, 44, 2, 3, 4, 54, 55, 56, 57, 6, 7, 58, 59, 60, 61, 62, 63, 64, 65, 66, 67, 68, 69, 70, 71, 72, 73, 164, 165, 166, 167, 168, 169, 170, 171] (by decide +kernel) (by decide +kernel)) (goodIn_sub (fun _ h => List.mem_cons_of_mem _ (List.mem_append_left _ (List.mem_append_right _ h))) (by decide +kernel))
set_option maxRecDepth 20000 in
theorem gL_isPart_X6_shift : GoodIn wsL_isPart (wsV RL 66 RX6 yX6_shift wsX6_shift) := goodIn_app (goodIn_of _ (by decide +kernel)) ggL_isPart_X6_shift
set_option maxRecDepth 20000 in
theorem ggL_isPart_X6_removeAll : GoodIn wsL_isPart wsX6_removeAll := goodIn_ca (goodIn_r _ [113, 25, 26, 27, 23, 28, 29, 30, 31, 59, 60, 61, 42, 62, 63, 64, 65, 66, 45, 54, 55, 56, 57, 6, 3, 7, 44, 2, 4, 58, 67, 68, 69, 70, 71, 72, 73, 114, 115, 116, 117, 118, 119, 120, 121, 164, 165, 166, 167, 168, 169, 170, 171] (by decide +kernel) (by decide +kernel)) (goodIn_sub (fun _ h => List.mem_cons_of_mem _ (List.mem_append_left _ (List.mem_append_right _ h))) (by decide +kernel))
set_option maxRecDepth 20000 in
theorem gL_isPart_X6_removeAll : GoodIn wsL_isPart (wsV RL 175 RX6 yX6_removeAll wsX6_removeAll) := goodIn_app (goodIn_of _ (by decide +kernel)) ggL_isPart_X6_removeAll
set_option maxRecDepth 20000 in
theorem ggL_isPart_X6_addRange : GoodIn wsL_isPart wsX6_addRange := goodIn_ca (goodIn_ca (goodIn_r _ [125, 126, 127, 128, 23, 129, 29, 30, 32, 33, 34, 35, 36, 37, 38, 25, 26, 27, 28, 31, 130, 131, 132, 42, 133, 45, 54, 55, 56, 57, 6, 3, 7, 44, 2, 4, 58, 59, 60, 61, 62, 63, 64, 65, 66, 67, 68, 69, 70, 71, 72, 73, 164, 165, 166, 167, 168, 169, 170, 171] (by decide +kernel) (by decide +kernel)) (goodIn_sub (fun _ h => List.mem_cons_of_mem _ (List.mem_append_left _ (List.mem_append_right _ h))) (by decide +kernel))) (goodIn_sub (fun _ h => List.mem_cons_of_mem _ (List.mem_append_right _ h)) (by decide +kernel))
set_option maxRecDepth 20000 in
theorem gL_isPart_X6_addRange : GoodIn wsL_isPart (wsV RL 45 RX6 yX6_addRange wsX6_addRange) := goodIn_app (goodIn_of _ (by decide +kernel)) ggL_isPart_X6_addRange
set_option maxRecDepth 20000 in
theorem ggL_isPart_X6_intersect : GoodIn wsL_isPart wsX6_intersect := goodIn_ca (goodIn_r _ [137, 138, 139, 140, 23, 141, 25, 26, 27, 28, 29, 30, 31, 142, 143, 144, 42, 145, 45, 146, 147, 148, 58, 59, 60, 61, 62, 63, 64, 65, 66, 54, 55, 56, 57, 6, 3, 7, 44, 2, 4, 67, 68, 69, 70, 71, 72, 73, 164, 165, 166, 167, 168, 169, 170, 171] (by decide +kernel) (by decide +kernel)) (goodIn_sub (fun _ h => List.mem_cons_of_mem _ (List.mem_append_left _ (List.mem_append_right _ h))) (by decide +kernel))
set_option maxRecDepth 20000 in
theorem gL_isPart_X6_intersect : GoodIn wsL_isPart (wsV RL 113 RX6 yX6_intersect wsX6_intersect) := goodIn_app (goodIn_of _ (by decide +kernel)) ggL_isPart_X6_intersect
set_option maxRecDepth 20000 in
theorem ggL_isPart_X6_areEqual : GoodIn wsL_isPart wsX6_areEqual := goodIn_ca (goodIn_r _ [152, 25, 26, 27, 23, 28, 29, 30, 31, 153, 154, 155, 42, 156, 45, 67, 68, 69, 70, 71, 72, 73, 157, 158, 159, 160, 164, 165, 166, 167, 168, 169, 170, 171] (by decide +kernel) (by decide +kernel)) (goodIn_sub (fun _ h => List.mem_cons_of_mem _ (List.mem_append_left _ (List.mem_append_right _ h))) (by decide +kernel))
set_option maxRecDepth 20000 in
theorem gL_isPart_X6_areEqual : GoodIn wsL_isPart (wsV RL 119 RX6 yX6_areEqual wsX6_areEqual) := goodIn_app (goodIn_of _ (by decide +kernel)) ggL_isPart_X6_areEqual
set_option maxRecDepth 20000 in
theorem ggL_says_J0_length_8abf5 : GoodIn wsL_says wsJ0_length_8abf5 := goodIn_r _ [6, 7, 8, 9, 10, 5, 11, 12, 13, 76, 77, 78, 79] (by decide +kernel) (by decide +kernel)
set_option maxRecDepth 20000 in
theorem gL_says_J0_length_8abf5 : GoodIn wsL_says (wsV RL 196 RJ0 yJ0_length_8abf5 wsJ0_length_8abf5) := goodIn_app (goodIn_of _ (by decide +kernel)) ggL_says_J0_length_8abf5
set_option maxRecDepth 20000 in
theorem ggL_says_J0_charAt_5068e : GoodIn wsL_says wsJ0_charAt_5068e := goodIn_r _ [17, 7, 18, 19, 20, 5, 21, 12, 13, 22, 23, 24, 25, 26, 27, 28, 29, 30, 31, 32, 33, 34, 35, 36, 37, 38, 39, 40, 41, 42, 43, 44, 45, 46, 47, 48, 49, 50, 76, 77, 78, 79] (by decide +kernel) (by decide +kernel)
set_option maxRecDepth 20000 in
theorem gL_says_J0_charAt_5068e : GoodIn wsL_says (wsV RL 200 RJ0 yJ0_charAt_5068e wsJ0_charAt_5068e) := goodIn_app (goodIn_of _ (by decide +kernel)) ggL_says_J0_charAt_5068e
set_option maxRecDepth 20000 in
theorem ggL_says_X6_append : GoodIn wsL_says wsX6_append := goodIn_ca (goodIn_r _ [55, 56, 57, 58, 59, 60, 61, 62, 63, 64, 65, 66, 67, 68, 69, 70, 71, 72, 80, 81, 82, 83, 84, 85, 86, 87, 88] (by decide +kernel) (by decide +kernel)) (goodIn_sub (fun _ h => List.mem_cons_of_mem _ (List.mem_append_right _ h)) (by decide +kernel))
set_option maxRecDepth 20000 in
theorem gL_says_X6_append : GoodIn wsL_says (wsV RL 204 RX6 yX6_append wsX6_append) := goodIn_app (goodIn_of _ (by decide +kernel)) ggL_says_X6_append
set_option maxRecDepth 20000 in
theorem ggL_isScript_L_number : GoodIn wsL_isScript wsL_number := goodIn_r _ [16, 1, 2, 3, 4, 5, 6, 7, 17, 18, 19, 15, 20, 21, 22, 639, 640, 641] (by decide +kernel) (by decide +kernel)
set_option maxRecDepth 20000 in
theorem gL_isScript_L_number : GoodIn wsL_isScript (wsV RL 41 RL yL_number wsL_number) := goodIn_app (goodIn_of _ (by decide +kernel)) ggL_isScript_L_number
set_option maxRecDepth 20000 in
theorem ggL_isScript_L_next : GoodIn wsL_isScript wsL_next := goodIn_r _ [20, 21, 22, 639, 640, 641] (by decide +kernel) (by decide +kernel)
set_option maxRecDepth 20000 in
theorem gL_isScript_L_next : GoodIn wsL_isScript (wsV RL 26 RL yL_next wsL_next) := goodIn_app (goodIn_of _ (by decide +kernel)) ggL_isScript_L_next
set_option maxRecDepth 20000 in
theorem ggL_isScript_J0_charAt_5068e : GoodIn wsL_isScript wsJ0_charAt_5068e := goodIn_r _ [27, 28, 29, 30, 31, 26, 32, 33, 34, 35, 36, 37, 38, 39, 40, 41, 42, 43, 44, 45, 46, 47, 48, 49, 50, 51, 52, 53, 54, 55, 56, 57, 58, 59, 60, 61, 62, 63, 642, 643, 644, 645] (by decide +kernel) (by decide +kernel)
set_option maxRecDepth 20000 in
theorem gL_isScript_J0_charAt_5068e : GoodIn wsL_isScript (wsV RL 200 RJ0 yJ0_charAt_5068e wsJ0_charAt_5068e) := goodIn_app (goodIn_of _ (by decide +kernel)) ggL_isScript_J0_charAt_5068e
set_option maxRecDepth 20000 in
theorem ggL_isScript_J4_init_da8c8 : GoodIn wsL_isScript wsJ4_init_da8c8 := goodIn_r _ [66, 67, 68, 69, 70, 71, 72, 73, 74, 75, 76, 77, 78, 79, 49, 80, 81, 82, 83, 84, 635, 636, 637, 638] (by decide +kernel) (by decide +kernel)
set_option maxRecDepth 20000 in
theorem gL_isScript_J4_init_da8c8 : GoodIn wsL_isScript (wsJ4_init_da8c8) := ggL_isScript_J4_init_da8c8
set_option maxRecDepth 20000 in
theorem ggL_isScript_J4_append_15ec4 : GoodIn wsL_isScript wsJ4_append_15ec4 := goodIn_r _ [88, 89, 90, 91, 92, 69, 93, 94, 95, 96, 97, 98, 99, 76, 100, 101, 102, 103, 104, 77, 105, 106, 107, 108, 109, 110, 111, 112, 113, 114, 115, 6, 3, 7, 116, 117, 118, 119, 120, 121, 122, 123, 124, 125, 126, 127, 128, 129, 75, 130, 2, 4, 131, 132, 133, 134, 135, 136, 137, 138, 139, 74, 140, 141, 49, 142, 61, 143, 144, 145, 54, 55, 56, 146, 147, 26, 148, 42, 149, 150, 45, 151, 152, 153, 154, 62, 63, 155, 156, 157, 158, 28, 159, 160, 161, 162, 33, 34, 163, 164, 165, 166, 167, 168, 169, 170, 171, 172, 173, 174, 175, 176, 177, 178, 78, 79, 80, 81, 82, 83, 84, 179, 180, 37, 181, 182, 183, 184, 185, 186, 187, 188, 189, 190, 191, 192, 193, 194, 195, 196, 197, 198, 199, 635, 636, 637, 638, 642, 643, 644, 645] (by decide +kernel) (by decide +kernel)
set_option maxRecDepth 20000 in
theorem gL_isScript_J4_append_15ec4 : GoodIn wsL_isScript (wsV RL 215 RJ4 yJ4_append_15ec4 wsJ4_append_15ec4) := goodIn_app (goodIn_of _ (by decide +kernel)) ggL_isScript_J4_append_15ec4
set_option maxRecDepth 20000 in
theorem ggL_isScript_J4_append_cf468 : GoodIn wsL_isScript wsJ4_append_cf468 := goodIn_r _ [203, 204, 205, 91, 206, 69, 207, 94, 76, 100, 101, 102, 103, 104, 77, 105, 106, 107, 108, 109, 110, 111, 112, 113, 114, 115, 6, 3, 7, 116, 117, 118, 119, 120, 121, 122, 123, 124, 125, 126, 127, 128, 129, 75, 130, 2, 4, 131, 132, 133, 134, 135, 136, 137, 138, 139, 74, 208, 209, 37, 210, 174, 175, 176, 177, 178, 78, 79, 49, 80, 81, 82, 83, 84, 179, 180, 181, 182, 183, 184, 185, 186, 187, 54, 55, 56, 188, 189, 26, 190, 42, 191, 192, 45, 193, 152, 153, 154, 61, 62, 63, 211, 212, 213, 51, 52, 53, 57, 40, 41, 43, 44, 46, 635, 636, 637, 638] (by decide +kernel) (by decide +kernel)
set_option maxRecDepth 20000 in
theorem gL_isScript_J4_append_cf468 : GoodIn wsL_isScript (wsV RL 218 RJ4 yJ4_append_cf468 wsJ4_append_cf468) := goodIn_app (goodIn_of _ (by decide +kernel)) ggL_isScript_J4_append_cf468
set_option maxRecDepth 20000 in
theorem ggL_isScript_J4_append_bf812 : GoodIn wsL_isScript wsJ4_append_bf812 := goodIn_r _ [217, 218, 219, 91, 220, 69, 221, 94, 76, 222, 223, 224, 225, 100, 101, 102, 103, 104, 77, 105, 106, 107, 108, 109, 110, 111, 112, 113, 114, 115, 6, 3, 7, 116, 117, 118, 119, 120, 121, 122, 123, 124, 125, 126, 127, 128, 129, 75, 130, 2, 4, 131, 132, 133, 134, 135, 136, 137, 138, 139, 74, 226, 227, 228, 229, 230, 231, 232, 49, 233, 61, 143, 144, 145, 54, 55, 56, 146, 147, 26, 148, 42, 149, 150, 45, 151, 234, 235, 236, 237, 238, 152, 153, 154, 62, 63, 635, 636, 637, 638] (by decide +kernel) (by decide +kernel)
set_option maxRecDepth 20000 in
theorem gL_isScript_J4_append_bf812 : GoodIn wsL_isScript (wsV RL 223 RJ4 yJ4_append_bf812 wsJ4_append_bf812) := goodIn_app (goodIn_of _ (by decide +kernel)) ggL_isScript_J4_append_bf812
set_option maxRecDepth 20000 in
theorem ggL_isScript_J4_toString_0e30d : GoodIn wsL_isScript wsJ4_toString_0e30d := goodIn_r _ [242, 243, 244, 26, 245, 246, 247, 248, 249, 250, 251, 72, 73, 34, 28, 33, 252, 253, 254, 255, 256, 69, 257, 76, 258, 259, 260, 261, 262, 10, 263, 264, 91, 265, 266, 94, 267, 136, 137, 138, 139, 74, 77, 268, 269, 122, 270, 124, 125, 126, 127, 128, 129, 271, 272, 273, 75, 130, 2, 3, 4, 131, 132, 133, 134, 274, 275, 276, 277, 9, 278, 279, 49, 280, 281, 282, 283, 185, 186, 187, 54, 55, 56, 188, 189, 190, 42, 191, 192, 45, 193, 58, 59, 60, 61, 62, 63, 81, 82, 83, 84, 284, 285, 286, 287, 642, 643, 644, 645, 635, 636, 637, 638] (by decide +kernel) (by decide +kernel)
set_option maxRecDepth 20000 in
theorem gL_isScript_J4_toString_0e30d : GoodIn wsL_isScript (wsV RL 232 RJ4 yJ4_toString_0e30d wsJ4_toString_0e30d) := goodIn_app (goodIn_of _ (by decide +kernel)) ggL_isScript_J4_toString_0e30d
set_option maxRecDepth 20000 in
theorem ggL_isScript_L_says : GoodIn wsL_isScript wsL_says := goodIn_ca (goodIn_r _ [291, 11, 292, 156, 157, 26, 158, 28, 159, 160, 161, 162, 33, 34, 23, 24, 25, 27, 29, 30, 31, 32, 35, 36, 37, 38, 39, 40, 41, 42, 43, 44, 45, 46, 47, 48, 49, 50, 51, 52, 53, 54, 55, 56, 57, 58, 59, 60, 61, 62, 63, 293, 294, 295, 296, 297, 298, 299, 300, 301, 302, 303, 304, 305, 306, 307, 308, 309, 310, 311, 312, 313, 314, 639, 640, 641, 642, 643, 644, 645, 646, 647, 648, 649, 650, 651, 652, 653, 654] (by decide +kernel) (by decide +kernel)) (goodIn_sub (fun _ h => List.mem_cons_of_mem _ (List.mem_append_left _ (List.mem_append_left _ (List.mem_append_right _ h)))) (by decide +kernel))
set_option maxRecDepth 20000 in
theorem gL_isScript_L_says : GoodIn wsL_isScript (wsV RL 236 RL yL_says wsL_says) := goodIn_app (goodIn_of _ (by decide +kernel)) ggL_isScript_L_says
set_option maxRecDepth 20000 in
theorem ggL_isScript_J0_length_8abf5 : GoodIn wsL_isScript wsJ0_length_8abf5 := goodIn_r _ [158, 28, 159, 160, 161, 26, 162, 33, 34, 642, 643, 644, 645] (by decide +kernel) (by decide +kernel)
set_option maxRecDepth 20000 in
theorem gL_isScript_J0_length_8abf5 : GoodIn wsL_isScript (wsV RL 196 RJ0 yJ0_length_8abf5 wsJ0_length_8abf5) := goodIn_app (goodIn_of _ (by decide +kernel)) ggL_isScript_J0_length_8abf5
set_option maxRecDepth 20000 in
theorem ggL_isScript_X6_run : GoodIn wsL_isScript wsX6_run := goodIn_ca (goodIn_r _ [318, 319, 320, 321, 300, 322, 323, 324, 325, 326, 327, 328, 329, 330, 331, 332, 333, 334, 335, 336, 337, 338, 339, 340, 341, 306, 307, 303, 308, 309, 342, 343, 344, 345, 314, 346, 347, 348, 349, 350, 351, 352, 353, 354, 355, 356, 357, 358, 359, 360, 2, 3, 4, 361, 362, 363, 364, 365, 366, 367, 368, 369, 370, 371, 372, 373, 26, 374, 375, 376, 377, 378, 28, 29, 30, 31, 32, 33, 34, 379, 156, 157, 158, 159, 160, 161, 162, 380, 381, 37, 382, 383, 6, 7, 384, 385, 386, 387, 388, 389, 390, 391, 392, 49, 393, 394, 395, 396, 397, 398, 399, 143, 144, 145, 54, 55, 56, 146, 147, 148, 42, 149, 150, 45, 151, 400, 401, 402, 58, 59, 60, 61, 62, 63, 403, 404, 405, 406, 407, 408, 409, 410, 411, 412, 413, 414, 415, 416, 417, 418, 419, 420, 421, 422, 423, 424, 425, 426, 427, 428, 429, 430, 431, 432, 433, 434, 435, 436, 437, 438, 439, 440, 441, 442, 443, 444, 445, 446, 447, 448, 449, 450, 451, 452, 453, 454, 455, 456, 457, 458, 459, 460, 461, 462, 463, 464, 465, 466, 467, 468, 469, 296, 470, 471, 472, 473, 474, 475, 476, 477, 478, 479, 480, 481, 482, 483, 484, 485, 486, 487, 488, 489, 490, 491, 492, 493, 494, 495, 496, 497, 498, 499, 500, 501, 502, 503, 504, 505, 506, 507, 508, 509, 510, 511, 512, 513, 514, 515, 516, 517, 518, 519, 520, 521, 522, 523, 524, 525, 526, 527, 528, 529, 530, 531, 532, 646, 647, 648, 649, 650, 651, 652, 655, 656, 657, 658, 659, 660, 661, 662, 663, 664, 665, 653, 654, 642, 643, 644, 645, 666, 667, 668, 669, 670] (by decide +kernel) (by decide +kernel)) (goodIn_sub (fun _ h => List.mem_cons_of_mem _ (List.mem_append_left _ (List.mem_append_right _ h))) (by decide +kernel))
set_option maxRecDepth 20000 in
theorem gL_isScript_X6_run : GoodIn wsL_isScript (wsV RL 240 RX6 yX6_run wsX6_run) := goodIn_app (goodIn_of _ (by decide +kernel)) ggL_isScript_X6_run
set_option maxRecDepth 20000 in
theorem ggL_isScript_X6_errorPosition : GoodIn wsL_isScript wsX6_errorPosition := goodIn_r _ [536, 322, 646, 647, 648, 649, 650, 651, 652] (by decide +kernel) (by decide +kernel)
set_option maxRecDepth 20000 in
theorem gL_isScript_X6_errorPosition : GoodIn wsL_isScript (wsV RL 243 RX6 yX6_errorPosition wsX6_errorPosition) := goodIn_app (goodIn_of _ (by decide +kernel)) ggL_isScript_X6_errorPosition
set_option maxRecDepth 20000 in
theorem ggL_isScript_X6_stoppedAt : GoodIn wsL_isScript wsX6_stoppedAt := goodIn_r _ [540, 323, 646, 647, 648, 649, 650, 651, 652] (by decide +kernel) (by decide +kernel)
set_option maxRecDepth 20000 in
theorem gL_isScript_X6_stoppedAt : GoodIn wsL_isScript (wsV RL 246 RX6 yX6_stoppedAt wsX6_stoppedAt) := goodIn_app (goodIn_of _ (by decide +kernel)) ggL_isScript_X6_stoppedAt
set_option maxRecDepth 20000 in
theorem ggL_isScript_L_copies : GoodIn wsL_isScript wsL_copies := goodIn_ca (goodIn_ca (goodIn_r _ [544, 11, 545, 546, 547, 296, 548, 549, 550, 551, 552, 488, 489, 490, 491, 319, 320, 492, 526, 527, 528, 496, 529, 498, 530, 531, 532, 504, 553, 554, 555, 556, 557, 558, 559, 560, 499, 500, 501, 502, 6, 3, 7, 503, 2, 4, 561, 562, 563, 564, 565, 566, 567, 568, 569, 570, 571, 572, 573, 574, 575, 576, 577, 578, 579, 580, 581, 473, 509, 510, 511, 512, 639, 640, 641, 646, 647, 648, 649, 650, 651, 652, 670] (by decide +kernel) (by decide +kernel)) (goodIn_sub (fun _ h => List.mem_cons_of_mem _ (List.mem_append_left _ (List.mem_append_right _ h))) (by decide +kernel))) (goodIn_sub (fun _ h => List.mem_cons_of_mem _ (List.mem_append_right _ h)) (by decide +kernel))
set_option maxRecDepth 20000 in
theorem gL_isScript_L_copies : GoodIn wsL_isScript (wsV RL 106 RL yL_copies wsL_copies) := goodIn_app (goodIn_of _ (by decide +kernel)) ggL_isScript_L_copies
set_option maxRecDepth 20000 in
theorem ggL_isScript_X6_intersect : GoodIn wsL_isScript wsX6_intersect := goodIn_ca (goodIn_r _ [585, 549, 550, 551, 296, 552, 488, 489, 490, 491, 319, 320, 492, 526, 527, 528, 496, 529, 498, 530, 531, 532, 504, 553, 554, 555, 556, 557, 558, 559, 560, 499, 500, 501, 502, 6, 3, 7, 503, 2, 4, 561, 562, 563, 564, 565, 566, 567, 646, 647, 648, 649, 650, 651, 652, 670] (by decide +kernel) (by decide +kernel)) (goodIn_sub (fun _ h => List.mem_cons_of_mem _ (List.mem_append_left _ (List.mem_append_right _ h))) (by decide +kernel))
set_option maxRecDepth 20000 in
theorem gL_isScript_X6_intersect : GoodIn wsL_isScript (wsV RL 113 RX6 yX6_intersect wsX6_intersect) := goodIn_app (goodIn_of _ (by decide +kernel)) ggL_isScript_X6_intersect
set_option maxRecDepth 20000 in
theorem ggL_isScript_X6_unite : GoodIn wsL_isScript wsX6_unite := goodIn_ca (goodIn_r _ [589, 549, 550, 551, 296, 552, 488, 489, 490, 491, 319, 320, 492, 526, 527, 528, 496, 529, 498, 530, 531, 532, 504, 553, 554, 555, 556, 557, 558, 559, 560, 499, 500, 501, 502, 6, 3, 7, 503, 2, 4, 561, 562, 563, 564, 565, 566, 567, 646, 647, 648, 649, 650, 651, 652, 670] (by decide +kernel) (by decide +kernel)) (goodIn_sub (fun _ h => List.mem_cons_of_mem _ (List.mem_append_left _ (List.mem_append_right _ h))) (by decide +kernel))
set_option maxRecDepth 20000 in
theorem gL_isScript_X6_unite : GoodIn wsL_isScript (wsV RL 110 RX6 yX6_unite wsX6_unite) := goodIn_app (goodIn_of _ (by decide +kernel)) ggL_isScript_X6_unite
set_option maxRecDepth 20000 in
theorem ggL_isScript_X6_differ : GoodIn wsL_isScript wsX6_differ := goodIn_ca (goodIn_r _ [593, 549, 550, 551, 296, 552, 488, 489, 490, 491, 319, 320, 492, 526, 527, 528, 496, 529, 498, 530, 531, 532, 504, 553, 554, 555, 556, 557, 558, 559, 560, 499, 500, 501, 502, 6, 3, 7, 503, 2, 4, 561, 562, 563, 564, 565, 566, 567, 646, 647, 648, 649, 650, 651, 652, 670] (by decide +kernel) (by decide +kernel)) (goodIn_sub (fun _ h => List.mem_cons_of_mem _ (List.mem_append_left _ (List.mem_append_right _ h))) (by decide +kernel))
set_option maxRecDepth 20000 in
theorem gL_isScript_X6_differ : GoodIn wsL_isScript (wsV RL 77 RX6 yX6_differ wsX6_differ) := goodIn_app (goodIn_of _ (by decide +kernel)) ggL_isScript_X6_differ
set_option maxRecDepth 20000 in
theorem ggL_isScript_X6_subtract : GoodIn wsL_isScript wsX6_subtract := goodIn_ca (goodIn_r _ [597, 549, 550, 551, 296, 552, 488, 489, 490, 491, 319, 320, 492, 526, 527, 528, 496, 529, 498, 530, 531, 532, 504, 553, 554, 555, 556, 557, 558, 559, 560, 499, 500, 501, 502, 6, 3, 7, 503, 2, 4, 561, 562, 563, 564, 565, 566, 567, 646, 647, 648, 649, 650, 651, 652, 670] (by decide +kernel) (by decide +kernel)) (goodIn_sub (fun _ h => List.mem_cons_of_mem _ (List.mem_append_left _ (List.mem_append_right _ h))) (by decide +kernel))
set_option maxRecDepth 20000 in
theorem gL_isScript_X6_subtract : GoodIn wsL_isScript (wsV RL 142 RX6 yX6_subtract wsX6_subtract) := goodIn_app (goodIn_of _ (by decide +kernel)) ggL_isScript_X6_subtract
set_option maxRecDepth 20000 in
theorem ggL_isScript_X6_flipRange : GoodIn wsL_isScript wsX6_flipRange := goodIn_ca (goodIn_ca (goodIn_r _ [571, 572, 573, 574, 296, 575, 319, 320, 576, 577, 578, 579, 580, 581, 473, 488, 489, 490, 491, 492, 509, 510, 511, 496, 512, 498, 499, 500, 501, 502, 6, 3, 7, 503, 2, 4, 504, 553, 554, 555, 556, 557, 558, 559, 560, 561, 562, 563, 564, 565, 566, 567, 646, 647, 648, 649, 650, 651, 652, 670] (by decide +kernel) (by decide +kernel)) (goodIn_sub (fun _ h => List.mem_cons_of_mem _ (List.mem_append_left _ (List.mem_append_right _ h))) (by decide +kernel))) (goodIn_sub (fun _ h => List.mem_cons_of_mem _ (List.mem_append_right _ h)) (by decide +kernel))
set_option maxRecDepth 20000 in
theorem gL_isScript_X6_flipRange : GoodIn wsL_isScript (wsV RL 49 RX6 yX6_flipRange wsX6_flipRange) := goodIn_app (goodIn_of _ (by decide +kernel)) ggL_isScript_X6_flipRange
set_option maxRecDepth 20000 in
theorem ggL_isScript_X6_add : GoodIn wsL_isScript wsX6_add := goodIn_ca (goodIn_ca (goodIn_r _ [601, 602, 603, 604, 296, 605, 319, 320, 606, 607, 608, 609, 580, 581, 473, 488, 489, 490, 491, 492, 610, 611, 612, 496, 613, 614, 615, 616, 617, 498, 618, 523, 524, 525, 646, 647, 648, 649, 650, 651, 652, 670] (by decide +kernel) (by decide +kernel)) (goodIn_sub (fun _ h => List.mem_cons_of_mem _ (List.mem_append_left _ (List.mem_append_right _ h))) (by decide +kernel))) (goodIn_sub (fun _ h => List.mem_cons_of_mem _ (List.mem_append_right _ h)) (by decide +kernel))
set_option maxRecDepth 20000 in
theorem gL_isScript_X6_add : GoodIn wsL_isScript (wsV RL 178 RX6 yX6_add wsX6_add) := goodIn_app (goodIn_of _ (by decide +kernel)) ggL_isScript_X6_add
set_option maxRecDepth 20000 in
theorem ggL_isScript_X6_count : GoodIn wsL_isScript wsX6_count := goodIn_ca (goodIn_r _ [622, 488, 489, 490, 296, 491, 319, 320, 492, 553, 554, 555, 496, 556, 557, 558, 559, 560, 498, 499, 500, 501, 502, 6, 3, 7, 503, 2, 4, 504, 561, 562, 563, 564, 565, 566, 567, 646, 647, 648, 649, 650, 651, 652, 670] (by decide +kernel) (by decide +kernel)) (goodIn_sub (fun _ h => List.mem_cons_of_mem _ (List.mem_append_left _ (List.mem_append_right _ h))) (by decide +kernel))
set_option maxRecDepth 20000 in
theorem gL_isScript_X6_count : GoodIn wsL_isScript (wsV RL 86 RX6 yX6_count wsX6_count) := goodIn_app (goodIn_of _ (by decide +kernel)) ggL_isScript_X6_count
set_option maxRecDepth 20000 in
theorem ggL_isScript_X6_areEqual : GoodIn wsL_isScript wsX6_areEqual := goodIn_ca (goodIn_r _ [626, 488, 489, 490, 296, 491, 319, 320, 492, 627, 628, 629, 496, 630, 498, 561, 562, 563, 564, 565, 566, 567, 631, 632, 633, 634, 646, 647, 648, 649, 650, 651, 652, 670] (by decide +kernel) (by decide +kernel)) (goodIn_sub (fun _ h => List.mem_cons_of_mem _ (List.mem_append_left _ (List.mem_append_right _ h))) (by decide +kernel))
set_option maxRecDepth 20000 in
theorem gL_isScript_X6_areEqual : GoodIn wsL_isScript (wsV RL 119 RX6 yX6_areEqual wsX6_areEqual) := goodIn_app (goodIn_of _ (by decide +kernel)) ggL_isScript_X6_areEqual
set_option maxRecDepth 20000 in
theorem ggL_isApart_L_copies : GoodIn wsL_isApart wsL_copies := goodIn_ca (goodIn_ca (goodIn_r _ [9, 3, 10, 11, 12, 13, 14, 15, 16, 17, 18, 19, 20, 21, 22, 23, 24, 25, 26, 27, 28, 29, 30, 31, 32, 33, 34, 35, 36, 37, 38, 39, 40, 41, 42, 43, 44, 45, 46, 47, 48, 49, 50, 51, 52, 53, 54, 55, 56, 57, 58, 59, 60, 61, 62, 63, 64, 65, 66, 67, 68, 69, 70, 71, 72, 73, 74, 75, 76, 77, 78, 79, 166, 167, 168, 169, 170, 171, 172, 173, 174, 175, 176] (by decide +kernel) (by decide +kernel)) (goodIn_sub (fun _ h => List.mem_cons_of_mem _ (List.mem_append_left _ (List.mem_append_right _ h))) (by decide +kernel))) (goodIn_sub (fun _ h => List.mem_cons_of_mem _ (List.mem_append_right _ h)) (by decide +kernel))
set_option maxRecDepth 20000 in
theorem gL_isApart_L_copies : GoodIn wsL_isApart (wsV RL 106 RL yL_copies wsL_copies) := goodIn_app (goodIn_of _ (by decide +kernel)) ggL_isApart_L_copies
set_option maxRecDepth 20000 in
theorem ggL_isApart_L_next : GoodIn wsL_isApart wsL_next := goodIn_r _ [83, 84, 85, 166, 167, 168] (by decide +kernel) (by decide +kernel)
set_option maxRecDepth 20000 in
theorem gL_isApart_L_next : GoodIn wsL_isApart (wsV RL 26 RL yL_next wsL_next) := goodIn_app (goodIn_of _ (by decide +kernel)) ggL_isApart_L_next
set_option maxRecDepth 20000 in
theorem ggL_isApart_X6_flip : GoodIn wsL_isApart wsX6_flip := goodIn_ca (goodIn_ca (goodIn_r _ [89, 90, 91, 92, 13, 93, 23, 24, 94, 95, 96, 97, 73, 74, 75, 19, 20, 21, 22, 25, 98, 99, 100, 29, 101, 102, 103, 104, 105, 31, 106, 107, 108, 109, 110, 111, 112, 113, 114, 115, 116, 117, 35, 169, 170, 171, 172, 173, 174, 175, 176] (by decide +kernel) (by decide +kernel)) (goodIn_sub (fun _ h => List.mem_cons_of_mem _ (List.mem_append_left _ (List.mem_append_right _ h))) (by decide +kernel))) (goodIn_sub (fun _ h => List.mem_cons_of_mem _ (List.mem_append_right _ h)) (by decide +kernel))
set_option maxRecDepth 20000 in
theorem gL_isApart_X6_flip : GoodIn wsL_isApart (wsV RL 80 RX6 yX6_flip wsX6_flip) := goodIn_app (goodIn_of _ (by decide +kernel)) ggL_isApart_X6_flip
set_option maxRecDepth 20000 in
theorem ggL_isApart_X6_areEqual : GoodIn wsL_isApart wsX6_areEqual := goodIn_ca (goodIn_r _ [121, 19, 20, 21, 13, 22, 23, 24, 25, 122, 123, 124, 29, 125, 31, 54, 55, 56, 57, 58, 59, 60, 126, 127, 128, 129, 169, 170, 171, 172, 173, 174, 175, 176] (by decide +kernel) (by decide +kernel)) (goodIn_sub (fun _ h => List.mem_cons_of_mem _ (List.mem_append_left _ (List.mem_append_right _ h))) (by decide +kernel))
set_option maxRecDepth 20000 in
theorem gL_isApart_X6_areEqual : GoodIn wsL_isApart (wsV RL 119 RX6 yX6_areEqual wsX6_areEqual) := goodIn_app (goodIn_of _ (by decide +kernel)) ggL_isApart_X6_areEqual
set_option maxRecDepth 20000 in
theorem ggL_isApart_X6_distance : GoodIn wsL_isApart wsX6_distance := goodIn_ca (goodIn_r _ [133, 19, 20, 21, 13, 22, 23, 24, 25, 122, 123, 124, 29, 125, 31, 54, 55, 56, 57, 58, 59, 60, 126, 127, 128, 129, 169, 170, 171, 172, 173, 174, 175, 176] (by decide +kernel) (by decide +kernel)) (goodIn_sub (fun _ h => List.mem_cons_of_mem _ (List.mem_append_left _ (List.mem_append_right _ h))) (by decide +kernel))
set_option maxRecDepth 20000 in
theorem gL_isApart_X6_distance : GoodIn wsL_isApart (wsV RL 130 RX6 yX6_distance wsX6_distance) := goodIn_app (goodIn_of _ (by decide +kernel)) ggL_isApart_X6_distance
set_option maxRecDepth 20000 in
theorem ggL_isApart_X6_has : GoodIn wsL_isApart wsX6_has := goodIn_ca (goodIn_ca (goodIn_r _ [137, 94, 95, 96, 13, 97, 73, 74, 75, 19, 20, 21, 22, 23, 24, 25, 98, 99, 100, 29, 101, 102, 103, 104, 105, 31, 169, 170, 171, 172, 173, 174, 175, 176] (by decide +kernel) (by decide +kernel)) (goodIn_sub (fun _ h => List.mem_cons_of_mem _ (List.mem_append_right _ h)) (by decide +kernel))) (goodIn_sub (fun _ h => List.mem_cons_of_mem _ (List.mem_append_left _ (List.mem_append_right _ h))) (by decide +kernel))
set_option maxRecDepth 20000 in
theorem gL_isApart_X6_has : GoodIn wsL_isApart (wsV RL 84 RX6 yX6_has wsX6_has) := goodIn_app (goodIn_of _ (by decide +kernel)) ggL_isApart_X6_has
set_option maxRecDepth 20000 in
theorem ggL_isApart_X6_refusals : GoodIn wsL_isApart wsX6_refusals := goodIn_r _ [141, 75, 169, 170, 171, 172, 173, 174, 175] (by decide +kernel) (by decide +kernel)
set_option maxRecDepth 20000 in
theorem gL_isApart_X6_refusals : GoodIn wsL_isApart (wsV RL 249 RX6 yX6_refusals wsX6_refusals) := goodIn_app (goodIn_of _ (by decide +kernel)) ggL_isApart_X6_refusals
set_option maxRecDepth 20000 in
theorem ggL_isApart_X6_flipRange : GoodIn wsL_isApart wsX6_flipRange := goodIn_ca (goodIn_ca (goodIn_r _ [64, 65, 66, 67, 13, 68, 23, 24, 69, 70, 71, 72, 73, 74, 75, 19, 20, 21, 22, 25, 76, 77, 78, 29, 79, 31, 44, 45, 46, 47, 48, 49, 50, 51, 52, 53, 35, 36, 37, 38, 39, 40, 41, 42, 43, 54, 55, 56, 57, 58, 59, 60, 169, 170, 171, 172, 173, 174, 175, 176] (by decide +kernel) (by decide +kernel)) (goodIn_sub (fun _ h => List.mem_cons_of_mem _ (List.mem_append_left _ (List.mem_append_right _ h))) (by decide +kernel))) (goodIn_sub (fun _ h => List.mem_cons_of_mem _ (List.mem_append_right _ h)) (by decide +kernel))
set_option maxRecDepth 20000 in
theorem gL_isApart_X6_flipRange : GoodIn wsL_isApart (wsV RL 49 RX6 yX6_flipRange wsX6_flipRange) := goodIn_app (goodIn_of _ (by decide +kernel)) ggL_isApart_X6_flipRange
set_option maxRecDepth 20000 in
theorem ggL_isApart_X6_add : GoodIn wsL_isApart wsX6_add := goodIn_ca (goodIn_ca (goodIn_r _ [145, 90, 91, 92, 13, 93, 23, 24, 94, 95, 96, 97, 73, 74, 75, 19, 20, 21, 22, 25, 98, 99, 100, 29, 101, 102, 103, 104, 105, 31, 146, 111, 112, 113, 169, 170, 171, 172, 173, 174, 175, 176] (by decide +kernel) (by decide +kernel)) (goodIn_sub (fun _ h => List.mem_cons_of_mem _ (List.mem_append_left _ (List.mem_append_right _ h))) (by decide +kernel))) (goodIn_sub (fun _ h => List.mem_cons_of_mem _ (List.mem_append_right _ h)) (by decide +kernel))
set_option maxRecDepth 20000 in
theorem gL_isApart_X6_add : GoodIn wsL_isApart (wsV RL 178 RX6 yX6_add wsX6_add) := goodIn_app (goodIn_of _ (by decide +kernel)) ggL_isApart_X6_add
set_option maxRecDepth 20000 in
theorem ggL_isApart_X6_renew : GoodIn wsL_isApart wsX6_renew := goodIn_ca (goodIn_r _ [150, 75, 19, 20, 21, 13, 22, 23, 24, 25, 151, 152, 153, 36, 37, 38, 29, 39, 40, 41, 42, 43, 31, 44, 45, 46, 47, 48, 49, 50, 51, 52, 53, 35, 54, 55, 56, 57, 58, 59, 60, 154, 155, 156, 157, 158, 159, 160, 161, 169, 170, 171, 172, 173, 174, 175, 176] (by decide +kernel) (by decide +kernel)) (goodIn_sub (fun _ h => List.mem_cons_of_mem _ (List.mem_append_left _ (List.mem_append_right _ h))) (by decide +kernel))
set_option maxRecDepth 20000 in
theorem gL_isApart_X6_renew : GoodIn wsL_isApart (wsV RL 148 RX6 yX6_renew wsX6_renew) := goodIn_app (goodIn_of _ (by decide +kernel)) ggL_isApart_X6_renew
set_option maxRecDepth 20000 in
theorem ggL_isApart_L_isMade : GoodIn wsL_isApart wsL_isMade := goodIn_ca (goodIn_ca (goodIn_r _ [165, 4, 3, 134, 135, 136, 13, 137, 94, 95, 96, 97, 73, 74, 75, 19, 20, 21, 22, 23, 24, 25, 98, 99, 100, 29, 101, 102, 103, 104, 105, 31, 166, 167, 168, 169, 170, 171, 172, 173, 174, 175, 176] (by decide +kernel) (by decide +kernel)) (goodIn_sub (fun _ h => List.mem_cons_of_mem _ (List.mem_append_right _ h)) (by decide +kernel))) (goodIn_sub (fun _ h => List.mem_cons_of_mem _ (List.mem_append_left _ (List.mem_append_right _ h))) (by decide +kernel))
set_option maxRecDepth 20000 in
theorem gL_isApart_L_isMade : GoodIn wsL_isApart (wsV RL 116 RL yL_isMade wsL_isMade) := goodIn_app (goodIn_of _ (by decide +kernel)) ggL_isApart_L_isMade
