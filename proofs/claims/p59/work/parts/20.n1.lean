theorem dX0_init_0 : decode cX0_init 0 = .ok (.aload_n 0, 1) := by decide +kernel
theorem dX0_init_1 : decode cX0_init 1 = .ok (.invokespecial 3, 3) := by decide +kernel
theorem dX0_init_4 : decode cX0_init 4 = .ok (.aload_n 0, 1) := by decide +kernel
theorem dX0_init_5 : decode cX0_init 5 = .ok (.bipush 16, 2) := by decide +kernel
theorem dX0_init_7 : decode cX0_init 7 = .ok (.newarray .long, 2) := by decide +kernel
theorem dX0_init_9 : decode cX0_init 9 = .ok (.putfield 9, 3) := by decide +kernel
theorem dX0_init_12 : decode cX0_init 12 = .ok (.return_, 1) := by decide +kernel
theorem dX0_bitsIn_0 : decode cX0_bitsIn 0 = .ok (.iload_n 1, 1) := by decide +kernel
theorem dX0_bitsIn_1 : decode cX0_bitsIn 1 = .ok (.bipush 64, 2) := by decide +kernel
theorem dX0_bitsIn_3 : decode cX0_bitsIn 3 = .ok (.iload_n 0, 1) := by decide +kernel
theorem dX0_bitsIn_4 : decode cX0_bitsIn 4 = .ok (.imul, 1) := by decide +kernel
theorem dX0_bitsIn_5 : decode cX0_bitsIn 5 = .ok (.isub, 1) := by decide +kernel
theorem dX0_bitsIn_6 : decode cX0_bitsIn 6 = .ok (.iconst 0, 1) := by decide +kernel
theorem dX0_bitsIn_7 : decode cX0_bitsIn 7 = .ok (.invokestatic 15, 3) := by decide +kernel
theorem dX0_bitsIn_10 : decode cX0_bitsIn 10 = .ok (.istore_n 3, 1) := by decide +kernel
theorem dX0_bitsIn_11 : decode cX0_bitsIn 11 = .ok (.iload_n 2, 1) := by decide +kernel
theorem dX0_bitsIn_12 : decode cX0_bitsIn 12 = .ok (.bipush 64, 2) := by decide +kernel
theorem dX0_bitsIn_14 : decode cX0_bitsIn 14 = .ok (.iload_n 0, 1) := by decide +kernel
theorem dX0_bitsIn_15 : decode cX0_bitsIn 15 = .ok (.imul, 1) := by decide +kernel
theorem dX0_bitsIn_16 : decode cX0_bitsIn 16 = .ok (.isub, 1) := by decide +kernel
theorem dX0_bitsIn_17 : decode cX0_bitsIn 17 = .ok (.bipush 64, 2) := by decide +kernel
theorem dX0_bitsIn_19 : decode cX0_bitsIn 19 = .ok (.invokestatic 21, 3) := by decide +kernel
theorem dX0_bitsIn_22 : decode cX0_bitsIn 22 = .ok (.istore 4, 2) := by decide +kernel
theorem dX0_bitsIn_24 : decode cX0_bitsIn 24 = .ok (.iload_n 3, 1) := by decide +kernel
theorem dX0_bitsIn_25 : decode cX0_bitsIn 25 = .ok (.iload 4, 2) := by decide +kernel
theorem dX0_bitsIn_27 : decode cX0_bitsIn 27 = .ok (.if_icmp .ge 19, 3) := by decide +kernel
theorem dX0_bitsIn_30 : decode cX0_bitsIn 30 = .ok (.ldc2_w 24, 3) := by decide +kernel
theorem dX0_bitsIn_33 : decode cX0_bitsIn 33 = .ok (.bipush 64, 2) := by decide +kernel
theorem dX0_bitsIn_35 : decode cX0_bitsIn 35 = .ok (.iload 4, 2) := by decide +kernel
theorem dX0_bitsIn_37 : decode cX0_bitsIn 37 = .ok (.iload_n 3, 1) := by decide +kernel
theorem dX0_bitsIn_38 : decode cX0_bitsIn 38 = .ok (.isub, 1) := by decide +kernel
theorem dX0_bitsIn_39 : decode cX0_bitsIn 39 = .ok (.isub, 1) := by decide +kernel
theorem dX0_bitsIn_40 : decode cX0_bitsIn 40 = .ok (.lushr, 1) := by decide +kernel
theorem dX0_bitsIn_41 : decode cX0_bitsIn 41 = .ok (.iload_n 3, 1) := by decide +kernel
theorem dX0_bitsIn_42 : decode cX0_bitsIn 42 = .ok (.lshl, 1) := by decide +kernel
theorem dX0_bitsIn_43 : decode cX0_bitsIn 43 = .ok (.goto 4, 3) := by decide +kernel
theorem dX0_bitsIn_46 : decode cX0_bitsIn 46 = .ok (.lconst 0, 1) := by decide +kernel
theorem dX0_bitsIn_47 : decode cX0_bitsIn 47 = .ok (.lreturn, 1) := by decide +kernel
theorem dX0_word_0 : decode cX0_word 0 = .ok (.iload_n 1, 1) := by decide +kernel
theorem dX0_word_1 : decode cX0_word 1 = .ok (.ifCond .lt 18, 3) := by decide +kernel
theorem dX0_word_4 : decode cX0_word 4 = .ok (.iload_n 1, 1) := by decide +kernel
theorem dX0_word_5 : decode cX0_word 5 = .ok (.bipush 16, 2) := by decide +kernel
theorem dX0_word_7 : decode cX0_word 7 = .ok (.if_icmp .ge 12, 3) := by decide +kernel
theorem dX0_word_10 : decode cX0_word 10 = .ok (.aload_n 0, 1) := by decide +kernel
theorem dX0_word_11 : decode cX0_word 11 = .ok (.getfield 9, 3) := by decide +kernel
theorem dX0_word_14 : decode cX0_word 14 = .ok (.iload_n 1, 1) := by decide +kernel
theorem dX0_word_15 : decode cX0_word 15 = .ok (.laload, 1) := by decide +kernel
theorem dX0_word_16 : decode cX0_word 16 = .ok (.goto 4, 3) := by decide +kernel
theorem dX0_word_19 : decode cX0_word 19 = .ok (.lconst 0, 1) := by decide +kernel
theorem dX0_word_20 : decode cX0_word 20 = .ok (.lreturn, 1) := by decide +kernel
set_option maxRecDepth 20000 in
theorem ggX0_wordFrom_X0_word : GoodIn wsX0_wordFrom wsX0_word := goodIn_r _ [5, 6, 7] (by decide +kernel) (by decide +kernel)
set_option maxRecDepth 20000 in
theorem gX0_wordFrom_X0_word : GoodIn wsX0_wordFrom (wsV RX0 26 RX0 yX0_word wsX0_word) := goodIn_app (goodIn_of _ (by decide +kernel)) ggX0_wordFrom_X0_word
theorem dX0_wordFrom_0 : decode cX0_wordFrom 0 = .ok (.iload_n 1, 1) := by decide +kernel
theorem dX0_wordFrom_1 : decode cX0_wordFrom 1 = .ok (.bipush 6, 2) := by decide +kernel
theorem dX0_wordFrom_3 : decode cX0_wordFrom 3 = .ok (.ishr, 1) := by decide +kernel
theorem dX0_wordFrom_4 : decode cX0_wordFrom 4 = .ok (.istore_n 2, 1) := by decide +kernel
theorem dX0_wordFrom_5 : decode cX0_wordFrom 5 = .ok (.iload_n 1, 1) := by decide +kernel
theorem dX0_wordFrom_6 : decode cX0_wordFrom 6 = .ok (.bipush 63, 2) := by decide +kernel
theorem dX0_wordFrom_8 : decode cX0_wordFrom 8 = .ok (.iand, 1) := by decide +kernel
theorem dX0_wordFrom_9 : decode cX0_wordFrom 9 = .ok (.istore_n 3, 1) := by decide +kernel
theorem dX0_wordFrom_10 : decode cX0_wordFrom 10 = .ok (.iload_n 3, 1) := by decide +kernel
theorem dX0_wordFrom_11 : decode cX0_wordFrom 11 = .ok (.ifCond .ne 9, 3) := by decide +kernel
theorem dX0_wordFrom_14 : decode cX0_wordFrom 14 = .ok (.aload_n 0, 1) := by decide +kernel
theorem dX0_wordFrom_15 : decode cX0_wordFrom 15 = .ok (.iload_n 2, 1) := by decide +kernel
theorem dX0_wordFrom_16 : decode cX0_wordFrom 16 = .ok (.invokevirtual 26, 3) := by decide +kernel
theorem dX0_wordFrom_19 : decode cX0_wordFrom 19 = .ok (.lreturn, 1) := by decide +kernel
theorem dX0_wordFrom_20 : decode cX0_wordFrom 20 = .ok (.aload_n 0, 1) := by decide +kernel
theorem dX0_wordFrom_21 : decode cX0_wordFrom 21 = .ok (.iload_n 2, 1) := by decide +kernel
theorem dX0_wordFrom_22 : decode cX0_wordFrom 22 = .ok (.invokevirtual 26, 3) := by decide +kernel
theorem dX0_wordFrom_25 : decode cX0_wordFrom 25 = .ok (.iload_n 3, 1) := by decide +kernel
theorem dX0_wordFrom_26 : decode cX0_wordFrom 26 = .ok (.lushr, 1) := by decide +kernel
theorem dX0_wordFrom_27 : decode cX0_wordFrom 27 = .ok (.aload_n 0, 1) := by decide +kernel
theorem dX0_wordFrom_28 : decode cX0_wordFrom 28 = .ok (.iload_n 2, 1) := by decide +kernel
theorem dX0_wordFrom_29 : decode cX0_wordFrom 29 = .ok (.iconst 1, 1) := by decide +kernel
theorem dX0_wordFrom_30 : decode cX0_wordFrom 30 = .ok (.iadd, 1) := by decide +kernel
theorem dX0_wordFrom_31 : decode cX0_wordFrom 31 = .ok (.invokevirtual 26, 3) := by decide +kernel
theorem dX0_wordFrom_34 : decode cX0_wordFrom 34 = .ok (.bipush 64, 2) := by decide +kernel
theorem dX0_wordFrom_36 : decode cX0_wordFrom 36 = .ok (.iload_n 3, 1) := by decide +kernel
theorem dX0_wordFrom_37 : decode cX0_wordFrom 37 = .ok (.isub, 1) := by decide +kernel
theorem dX0_wordFrom_38 : decode cX0_wordFrom 38 = .ok (.lshl, 1) := by decide +kernel
theorem dX0_wordFrom_39 : decode cX0_wordFrom 39 = .ok (.lor, 1) := by decide +kernel
theorem dX0_wordFrom_40 : decode cX0_wordFrom 40 = .ok (.lreturn, 1) := by decide +kernel
set_option maxRecDepth 20000 in
theorem ggX0_holds_X0_word : GoodIn wsX0_holds wsX0_word := goodIn_r _ [5, 6, 7] (by decide +kernel) (by decide +kernel)
set_option maxRecDepth 20000 in
theorem gX0_holds_X0_word : GoodIn wsX0_holds (wsV RX0 26 RX0 yX0_word wsX0_word) := goodIn_app (goodIn_of _ (by decide +kernel)) ggX0_holds_X0_word
theorem dX0_holds_0 : decode cX0_holds 0 = .ok (.aload_n 0, 1) := by decide +kernel
theorem dX0_holds_1 : decode cX0_holds 1 = .ok (.iload_n 1, 1) := by decide +kernel
theorem dX0_holds_2 : decode cX0_holds 2 = .ok (.bipush 6, 2) := by decide +kernel
theorem dX0_holds_4 : decode cX0_holds 4 = .ok (.ishr, 1) := by decide +kernel
theorem dX0_holds_5 : decode cX0_holds 5 = .ok (.invokevirtual 26, 3) := by decide +kernel
theorem dX0_holds_8 : decode cX0_holds 8 = .ok (.iload_n 1, 1) := by decide +kernel
theorem dX0_holds_9 : decode cX0_holds 9 = .ok (.bipush 63, 2) := by decide +kernel
theorem dX0_holds_11 : decode cX0_holds 11 = .ok (.iand, 1) := by decide +kernel
theorem dX0_holds_12 : decode cX0_holds 12 = .ok (.lushr, 1) := by decide +kernel
theorem dX0_holds_13 : decode cX0_holds 13 = .ok (.lconst 1, 1) := by decide +kernel
theorem dX0_holds_14 : decode cX0_holds 14 = .ok (.land, 1) := by decide +kernel
theorem dX0_holds_15 : decode cX0_holds 15 = .ok (.lconst 0, 1) := by decide +kernel
theorem dX0_holds_16 : decode cX0_holds 16 = .ok (.lcmp, 1) := by decide +kernel
theorem dX0_holds_17 : decode cX0_holds 17 = .ok (.ifCond .eq 7, 3) := by decide +kernel
theorem dX0_holds_20 : decode cX0_holds 20 = .ok (.iconst 1, 1) := by decide +kernel
theorem dX0_holds_21 : decode cX0_holds 21 = .ok (.goto 4, 3) := by decide +kernel
theorem dX0_holds_24 : decode cX0_holds 24 = .ok (.iconst 0, 1) := by decide +kernel
theorem dX0_holds_25 : decode cX0_holds 25 = .ok (.ireturn, 1) := by decide +kernel
theorem dX0_includeOne_0 : decode cX0_includeOne 0 = .ok (.iload_n 1, 1) := by decide +kernel
theorem dX0_includeOne_1 : decode cX0_includeOne 1 = .ok (.ifCond .lt 28, 3) := by decide +kernel
theorem dX0_includeOne_4 : decode cX0_includeOne 4 = .ok (.iload_n 1, 1) := by decide +kernel
theorem dX0_includeOne_5 : decode cX0_includeOne 5 = .ok (.sipush 1024, 3) := by decide +kernel
theorem dX0_includeOne_8 : decode cX0_includeOne 8 = .ok (.if_icmp .ge 21, 3) := by decide +kernel
theorem dX0_includeOne_11 : decode cX0_includeOne 11 = .ok (.aload_n 0, 1) := by decide +kernel
theorem dX0_includeOne_12 : decode cX0_includeOne 12 = .ok (.getfield 9, 3) := by decide +kernel
theorem dX0_includeOne_15 : decode cX0_includeOne 15 = .ok (.iload_n 1, 1) := by decide +kernel
theorem dX0_includeOne_16 : decode cX0_includeOne 16 = .ok (.bipush 6, 2) := by decide +kernel
theorem dX0_includeOne_18 : decode cX0_includeOne 18 = .ok (.ishr, 1) := by decide +kernel
theorem dX0_includeOne_19 : decode cX0_includeOne 19 = .ok (.dup2, 1) := by decide +kernel
theorem dX0_includeOne_20 : decode cX0_includeOne 20 = .ok (.laload, 1) := by decide +kernel
theorem dX0_includeOne_21 : decode cX0_includeOne 21 = .ok (.lconst 1, 1) := by decide +kernel
theorem dX0_includeOne_22 : decode cX0_includeOne 22 = .ok (.iload_n 1, 1) := by decide +kernel
theorem dX0_includeOne_23 : decode cX0_includeOne 23 = .ok (.bipush 63, 2) := by decide +kernel
theorem dX0_includeOne_25 : decode cX0_includeOne 25 = .ok (.iand, 1) := by decide +kernel
theorem dX0_includeOne_26 : decode cX0_includeOne 26 = .ok (.lshl, 1) := by decide +kernel
theorem dX0_includeOne_27 : decode cX0_includeOne 27 = .ok (.lor, 1) := by decide +kernel
theorem dX0_includeOne_28 : decode cX0_includeOne 28 = .ok (.lastore, 1) := by decide +kernel
theorem dX0_includeOne_29 : decode cX0_includeOne 29 = .ok (.return_, 1) := by decide +kernel
theorem dX0_excludeOne_0 : decode cX0_excludeOne 0 = .ok (.iload_n 1, 1) := by decide +kernel
theorem dX0_excludeOne_1 : decode cX0_excludeOne 1 = .ok (.ifCond .lt 32, 3) := by decide +kernel
theorem dX0_excludeOne_4 : decode cX0_excludeOne 4 = .ok (.iload_n 1, 1) := by decide +kernel
theorem dX0_excludeOne_5 : decode cX0_excludeOne 5 = .ok (.sipush 1024, 3) := by decide +kernel
theorem dX0_excludeOne_8 : decode cX0_excludeOne 8 = .ok (.if_icmp .ge 25, 3) := by decide +kernel
theorem dX0_excludeOne_11 : decode cX0_excludeOne 11 = .ok (.aload_n 0, 1) := by decide +kernel
theorem dX0_excludeOne_12 : decode cX0_excludeOne 12 = .ok (.getfield 9, 3) := by decide +kernel
theorem dX0_excludeOne_15 : decode cX0_excludeOne 15 = .ok (.iload_n 1, 1) := by decide +kernel
theorem dX0_excludeOne_16 : decode cX0_excludeOne 16 = .ok (.bipush 6, 2) := by decide +kernel
theorem dX0_excludeOne_18 : decode cX0_excludeOne 18 = .ok (.ishr, 1) := by decide +kernel
theorem dX0_excludeOne_19 : decode cX0_excludeOne 19 = .ok (.dup2, 1) := by decide +kernel
theorem dX0_excludeOne_20 : decode cX0_excludeOne 20 = .ok (.laload, 1) := by decide +kernel
theorem dX0_excludeOne_21 : decode cX0_excludeOne 21 = .ok (.lconst 1, 1) := by decide +kernel
theorem dX0_excludeOne_22 : decode cX0_excludeOne 22 = .ok (.iload_n 1, 1) := by decide +kernel
theorem dX0_excludeOne_23 : decode cX0_excludeOne 23 = .ok (.bipush 63, 2) := by decide +kernel
theorem dX0_excludeOne_25 : decode cX0_excludeOne 25 = .ok (.iand, 1) := by decide +kernel
theorem dX0_excludeOne_26 : decode cX0_excludeOne 26 = .ok (.lshl, 1) := by decide +kernel
theorem dX0_excludeOne_27 : decode cX0_excludeOne 27 = .ok (.ldc2_w 24, 3) := by decide +kernel
theorem dX0_excludeOne_30 : decode cX0_excludeOne 30 = .ok (.lxor, 1) := by decide +kernel
theorem dX0_excludeOne_31 : decode cX0_excludeOne 31 = .ok (.land, 1) := by decide +kernel
theorem dX0_excludeOne_32 : decode cX0_excludeOne 32 = .ok (.lastore, 1) := by decide +kernel
theorem dX0_excludeOne_33 : decode cX0_excludeOne 33 = .ok (.return_, 1) := by decide +kernel
set_option maxRecDepth 20000 in
theorem ggX0_decideOne_X0_includeOne : GoodIn wsX0_decideOne wsX0_includeOne := goodIn_r _ [5, 6, 12] (by decide +kernel) (by decide +kernel)
set_option maxRecDepth 20000 in
theorem gX0_decideOne_X0_includeOne : GoodIn wsX0_decideOne (wsV RX0 30 RX0 yX0_includeOne wsX0_includeOne) := goodIn_app (goodIn_of _ (by decide +kernel)) ggX0_decideOne_X0_includeOne
set_option maxRecDepth 20000 in
theorem ggX0_decideOne_X0_excludeOne : GoodIn wsX0_decideOne wsX0_excludeOne := goodIn_r _ [10, 6, 11, 12] (by decide +kernel) (by decide +kernel)
set_option maxRecDepth 20000 in
theorem gX0_decideOne_X0_excludeOne : GoodIn wsX0_decideOne (wsV RX0 34 RX0 yX0_excludeOne wsX0_excludeOne) := goodIn_app (goodIn_of _ (by decide +kernel)) ggX0_decideOne_X0_excludeOne
theorem dX0_decideOne_0 : decode cX0_decideOne 0 = .ok (.iload_n 2, 1) := by decide +kernel
theorem dX0_decideOne_1 : decode cX0_decideOne 1 = .ok (.ifCond .eq 11, 3) := by decide +kernel
theorem dX0_decideOne_4 : decode cX0_decideOne 4 = .ok (.aload_n 0, 1) := by decide +kernel
theorem dX0_decideOne_5 : decode cX0_decideOne 5 = .ok (.iload_n 1, 1) := by decide +kernel
theorem dX0_decideOne_6 : decode cX0_decideOne 6 = .ok (.invokevirtual 30, 3) := by decide +kernel
theorem dX0_decideOne_9 : decode cX0_decideOne 9 = .ok (.goto 8, 3) := by decide +kernel
theorem dX0_decideOne_12 : decode cX0_decideOne 12 = .ok (.aload_n 0, 1) := by decide +kernel
theorem dX0_decideOne_13 : decode cX0_decideOne 13 = .ok (.iload_n 1, 1) := by decide +kernel
theorem dX0_decideOne_14 : decode cX0_decideOne 14 = .ok (.invokevirtual 34, 3) := by decide +kernel
theorem dX0_decideOne_17 : decode cX0_decideOne 17 = .ok (.return_, 1) := by decide +kernel
set_option maxRecDepth 20000 in
theorem ggX0_include_X0_bitsIn : GoodIn wsX0_include wsX0_bitsIn := goodIn_r _ [5, 6, 7, 8, 9, 10, 11, 12, 13] (by decide +kernel) (by decide +kernel)
set_option maxRecDepth 20000 in
theorem gX0_include_X0_bitsIn : GoodIn wsX0_include (va_wsS RX0 37 yX0_bitsIn wsX0_bitsIn) := goodIn_app (goodIn_of _ (by decide +kernel)) ggX0_include_X0_bitsIn
theorem dX0_include_0 : decode cX0_include 0 = .ok (.iconst 0, 1) := by decide +kernel
theorem dX0_include_1 : decode cX0_include 1 = .ok (.istore_n 3, 1) := by decide +kernel
theorem dX0_include_2 : decode cX0_include 2 = .ok (.iload_n 3, 1) := by decide +kernel
theorem dX0_include_3 : decode cX0_include 3 = .ok (.bipush 16, 2) := by decide +kernel
theorem dX0_include_5 : decode cX0_include 5 = .ok (.if_icmp .ge 24, 3) := by decide +kernel
theorem dX0_include_8 : decode cX0_include 8 = .ok (.aload_n 0, 1) := by decide +kernel
theorem dX0_include_9 : decode cX0_include 9 = .ok (.getfield 9, 3) := by decide +kernel
theorem dX0_include_12 : decode cX0_include 12 = .ok (.iload_n 3, 1) := by decide +kernel
theorem dX0_include_13 : decode cX0_include 13 = .ok (.dup2, 1) := by decide +kernel
theorem dX0_include_14 : decode cX0_include 14 = .ok (.laload, 1) := by decide +kernel
theorem dX0_include_15 : decode cX0_include 15 = .ok (.iload_n 3, 1) := by decide +kernel
theorem dX0_include_16 : decode cX0_include 16 = .ok (.iload_n 1, 1) := by decide +kernel
theorem dX0_include_17 : decode cX0_include 17 = .ok (.iload_n 2, 1) := by decide +kernel
theorem dX0_include_18 : decode cX0_include 18 = .ok (.invokestatic 37, 3) := by decide +kernel
theorem dX0_include_21 : decode cX0_include 21 = .ok (.lor, 1) := by decide +kernel
theorem dX0_include_22 : decode cX0_include 22 = .ok (.lastore, 1) := by decide +kernel
theorem dX0_include_23 : decode cX0_include 23 = .ok (.iinc 3 1, 3) := by decide +kernel
theorem dX0_include_26 : decode cX0_include 26 = .ok (.goto (-24), 3) := by decide +kernel
theorem dX0_include_29 : decode cX0_include 29 = .ok (.return_, 1) := by decide +kernel
set_option maxRecDepth 20000 in
theorem ggX0_exclude_X0_bitsIn : GoodIn wsX0_exclude wsX0_bitsIn := goodIn_r _ [6, 7, 8, 9, 10, 11, 12, 13, 2] (by decide +kernel) (by decide +kernel)
set_option maxRecDepth 20000 in
theorem gX0_exclude_X0_bitsIn : GoodIn wsX0_exclude (va_wsS RX0 37 yX0_bitsIn wsX0_bitsIn) := goodIn_app (goodIn_of _ (by decide +kernel)) ggX0_exclude_X0_bitsIn
theorem dX0_exclude_0 : decode cX0_exclude 0 = .ok (.iconst 0, 1) := by decide +kernel
theorem dX0_exclude_1 : decode cX0_exclude 1 = .ok (.istore_n 3, 1) := by decide +kernel
theorem dX0_exclude_2 : decode cX0_exclude 2 = .ok (.iload_n 3, 1) := by decide +kernel
theorem dX0_exclude_3 : decode cX0_exclude 3 = .ok (.bipush 16, 2) := by decide +kernel
theorem dX0_exclude_5 : decode cX0_exclude 5 = .ok (.if_icmp .ge 28, 3) := by decide +kernel
theorem dX0_exclude_8 : decode cX0_exclude 8 = .ok (.aload_n 0, 1) := by decide +kernel
theorem dX0_exclude_9 : decode cX0_exclude 9 = .ok (.getfield 9, 3) := by decide +kernel
theorem dX0_exclude_12 : decode cX0_exclude 12 = .ok (.iload_n 3, 1) := by decide +kernel
theorem dX0_exclude_13 : decode cX0_exclude 13 = .ok (.dup2, 1) := by decide +kernel
theorem dX0_exclude_14 : decode cX0_exclude 14 = .ok (.laload, 1) := by decide +kernel
theorem dX0_exclude_15 : decode cX0_exclude 15 = .ok (.iload_n 3, 1) := by decide +kernel
theorem dX0_exclude_16 : decode cX0_exclude 16 = .ok (.iload_n 1, 1) := by decide +kernel
theorem dX0_exclude_17 : decode cX0_exclude 17 = .ok (.iload_n 2, 1) := by decide +kernel
theorem dX0_exclude_18 : decode cX0_exclude 18 = .ok (.invokestatic 37, 3) := by decide +kernel
theorem dX0_exclude_21 : decode cX0_exclude 21 = .ok (.ldc2_w 24, 3) := by decide +kernel
theorem dX0_exclude_24 : decode cX0_exclude 24 = .ok (.lxor, 1) := by decide +kernel
theorem dX0_exclude_25 : decode cX0_exclude 25 = .ok (.land, 1) := by decide +kernel
theorem dX0_exclude_26 : decode cX0_exclude 26 = .ok (.lastore, 1) := by decide +kernel
theorem dX0_exclude_27 : decode cX0_exclude 27 = .ok (.iinc 3 1, 3) := by decide +kernel
theorem dX0_exclude_30 : decode cX0_exclude 30 = .ok (.goto (-28), 3) := by decide +kernel
theorem dX0_exclude_33 : decode cX0_exclude 33 = .ok (.return_, 1) := by decide +kernel
set_option maxRecDepth 20000 in
theorem ggX0_toggle_X0_bitsIn : GoodIn wsX0_toggle wsX0_bitsIn := goodIn_r _ [5, 6, 7, 8, 9, 10, 11, 12, 13] (by decide +kernel) (by decide +kernel)
set_option maxRecDepth 20000 in
theorem gX0_toggle_X0_bitsIn : GoodIn wsX0_toggle (va_wsS RX0 37 yX0_bitsIn wsX0_bitsIn) := goodIn_app (goodIn_of _ (by decide +kernel)) ggX0_toggle_X0_bitsIn
theorem dX0_toggle_0 : decode cX0_toggle 0 = .ok (.iconst 0, 1) := by decide +kernel
theorem dX0_toggle_1 : decode cX0_toggle 1 = .ok (.istore_n 3, 1) := by decide +kernel
theorem dX0_toggle_2 : decode cX0_toggle 2 = .ok (.iload_n 3, 1) := by decide +kernel
theorem dX0_toggle_3 : decode cX0_toggle 3 = .ok (.bipush 16, 2) := by decide +kernel
theorem dX0_toggle_5 : decode cX0_toggle 5 = .ok (.if_icmp .ge 24, 3) := by decide +kernel
theorem dX0_toggle_8 : decode cX0_toggle 8 = .ok (.aload_n 0, 1) := by decide +kernel
theorem dX0_toggle_9 : decode cX0_toggle 9 = .ok (.getfield 9, 3) := by decide +kernel
theorem dX0_toggle_12 : decode cX0_toggle 12 = .ok (.iload_n 3, 1) := by decide +kernel
theorem dX0_toggle_13 : decode cX0_toggle 13 = .ok (.dup2, 1) := by decide +kernel
theorem dX0_toggle_14 : decode cX0_toggle 14 = .ok (.laload, 1) := by decide +kernel
theorem dX0_toggle_15 : decode cX0_toggle 15 = .ok (.iload_n 3, 1) := by decide +kernel
theorem dX0_toggle_16 : decode cX0_toggle 16 = .ok (.iload_n 1, 1) := by decide +kernel
theorem dX0_toggle_17 : decode cX0_toggle 17 = .ok (.iload_n 2, 1) := by decide +kernel
theorem dX0_toggle_18 : decode cX0_toggle 18 = .ok (.invokestatic 37, 3) := by decide +kernel
theorem dX0_toggle_21 : decode cX0_toggle 21 = .ok (.lxor, 1) := by decide +kernel
theorem dX0_toggle_22 : decode cX0_toggle 22 = .ok (.lastore, 1) := by decide +kernel
theorem dX0_toggle_23 : decode cX0_toggle 23 = .ok (.iinc 3 1, 3) := by decide +kernel
theorem dX0_toggle_26 : decode cX0_toggle 26 = .ok (.goto (-24), 3) := by decide +kernel
theorem dX0_toggle_29 : decode cX0_toggle 29 = .ok (.return_, 1) := by decide +kernel
set_option maxRecDepth 20000 in
theorem ggX0_decide_X0_include : GoodIn wsX0_decide wsX0_include := goodIn_r _ [5, 6, 7, 8, 4, 9, 10, 11, 12, 13, 14, 15, 16, 17, 22] (by decide +kernel) (by decide +kernel)
set_option maxRecDepth 20000 in
theorem gX0_decide_X0_include : GoodIn wsX0_decide (wsV RX0 41 RX0 yX0_include wsX0_include) := goodIn_app (goodIn_of _ (by decide +kernel)) ggX0_decide_X0_include
set_option maxRecDepth 20000 in
theorem ggX0_decide_X0_exclude : GoodIn wsX0_decide wsX0_exclude := goodIn_r _ [21, 6, 17, 7, 8, 4, 9, 10, 11, 12, 13, 14, 15, 16, 22] (by decide +kernel) (by decide +kernel)
set_option maxRecDepth 20000 in
theorem gX0_decide_X0_exclude : GoodIn wsX0_decide (wsV RX0 45 RX0 yX0_exclude wsX0_exclude) := goodIn_app (goodIn_of _ (by decide +kernel)) ggX0_decide_X0_exclude
theorem dX0_decide_0 : decode cX0_decide 0 = .ok (.iload_n 3, 1) := by decide +kernel
theorem dX0_decide_1 : decode cX0_decide 1 = .ok (.ifCond .eq 12, 3) := by decide +kernel
theorem dX0_decide_4 : decode cX0_decide 4 = .ok (.aload_n 0, 1) := by decide +kernel
theorem dX0_decide_5 : decode cX0_decide 5 = .ok (.iload_n 1, 1) := by decide +kernel
theorem dX0_decide_6 : decode cX0_decide 6 = .ok (.iload_n 2, 1) := by decide +kernel
theorem dX0_decide_7 : decode cX0_decide 7 = .ok (.invokevirtual 41, 3) := by decide +kernel
theorem dX0_decide_10 : decode cX0_decide 10 = .ok (.goto 9, 3) := by decide +kernel
theorem dX0_decide_13 : decode cX0_decide 13 = .ok (.aload_n 0, 1) := by decide +kernel
theorem dX0_decide_14 : decode cX0_decide 14 = .ok (.iload_n 1, 1) := by decide +kernel
theorem dX0_decide_15 : decode cX0_decide 15 = .ok (.iload_n 2, 1) := by decide +kernel
theorem dX0_decide_16 : decode cX0_decide 16 = .ok (.invokevirtual 45, 3) := by decide +kernel
theorem dX0_decide_19 : decode cX0_decide 19 = .ok (.return_, 1) := by decide +kernel
set_option maxRecDepth 20000 in
theorem ggX0_clear_X0_exclude : GoodIn wsX0_clear wsX0_exclude := goodIn_r _ [5, 6, 7, 8, 9, 4, 10, 11, 12, 13, 14, 15, 16, 17, 18] (by decide +kernel) (by decide +kernel)
set_option maxRecDepth 20000 in
theorem gX0_clear_X0_exclude : GoodIn wsX0_clear (wsV RX0 45 RX0 yX0_exclude wsX0_exclude) := goodIn_app (goodIn_of _ (by decide +kernel)) ggX0_clear_X0_exclude
theorem dX0_clear_0 : decode cX0_clear 0 = .ok (.aload_n 0, 1) := by decide +kernel
theorem dX0_clear_1 : decode cX0_clear 1 = .ok (.iconst 0, 1) := by decide +kernel
theorem dX0_clear_2 : decode cX0_clear 2 = .ok (.sipush 1024, 3) := by decide +kernel
theorem dX0_clear_5 : decode cX0_clear 5 = .ok (.invokevirtual 45, 3) := by decide +kernel
theorem dX0_clear_8 : decode cX0_clear 8 = .ok (.return_, 1) := by decide +kernel
set_option maxRecDepth 20000 in
theorem ggX0_combineWith_X0_combined : GoodIn wsX0_combineWith wsX0_combined := goodIn_r _ [5, 6] (by decide +kernel) (by decide +kernel)
set_option maxRecDepth 20000 in
theorem gX0_combineWith_X0_combined : GoodIn wsX0_combineWith (va_wsS RX0 48 yX0_combined wsX0_combined) := goodIn_app (goodIn_of _ (by decide +kernel)) ggX0_combineWith_X0_combined
theorem dX0_combineWith_0 : decode cX0_combineWith 0 = .ok (.iconst 0, 1) := by decide +kernel
theorem dX0_combineWith_1 : decode cX0_combineWith 1 = .ok (.istore_n 3, 1) := by decide +kernel
theorem dX0_combineWith_2 : decode cX0_combineWith 2 = .ok (.iload_n 3, 1) := by decide +kernel
theorem dX0_combineWith_3 : decode cX0_combineWith 3 = .ok (.bipush 16, 2) := by decide +kernel
theorem dX0_combineWith_5 : decode cX0_combineWith 5 = .ok (.if_icmp .ge 31, 3) := by decide +kernel
theorem dX0_combineWith_8 : decode cX0_combineWith 8 = .ok (.aload_n 0, 1) := by decide +kernel
theorem dX0_combineWith_9 : decode cX0_combineWith 9 = .ok (.getfield 9, 3) := by decide +kernel
theorem dX0_combineWith_12 : decode cX0_combineWith 12 = .ok (.iload_n 3, 1) := by decide +kernel
theorem dX0_combineWith_13 : decode cX0_combineWith 13 = .ok (.aload_n 0, 1) := by decide +kernel
theorem dX0_combineWith_14 : decode cX0_combineWith 14 = .ok (.getfield 9, 3) := by decide +kernel
theorem dX0_combineWith_17 : decode cX0_combineWith 17 = .ok (.iload_n 3, 1) := by decide +kernel
theorem dX0_combineWith_18 : decode cX0_combineWith 18 = .ok (.laload, 1) := by decide +kernel
theorem dX0_combineWith_19 : decode cX0_combineWith 19 = .ok (.aload_n 1, 1) := by decide +kernel
theorem dX0_combineWith_20 : decode cX0_combineWith 20 = .ok (.getfield 9, 3) := by decide +kernel
theorem dX0_combineWith_23 : decode cX0_combineWith 23 = .ok (.iload_n 3, 1) := by decide +kernel
theorem dX0_combineWith_24 : decode cX0_combineWith 24 = .ok (.laload, 1) := by decide +kernel
theorem dX0_combineWith_25 : decode cX0_combineWith 25 = .ok (.iload_n 2, 1) := by decide +kernel
theorem dX0_combineWith_26 : decode cX0_combineWith 26 = .ok (.invokestatic 48, 3) := by decide +kernel
theorem dX0_combineWith_29 : decode cX0_combineWith 29 = .ok (.lastore, 1) := by decide +kernel
theorem dX0_combineWith_30 : decode cX0_combineWith 30 = .ok (.iinc 3 1, 3) := by decide +kernel
theorem dX0_combineWith_33 : decode cX0_combineWith 33 = .ok (.goto (-31), 3) := by decide +kernel
theorem dX0_combineWith_36 : decode cX0_combineWith 36 = .ok (.return_, 1) := by decide +kernel
theorem dX0_combined_0 : decode cX0_combined 0 = .ok (.iload 4, 2) := by decide +kernel
theorem dX0_combined_2 : decode cX0_combined 2 = .ok (.lookupswitch 62 #[(33, 54), (38, 42), (124, 46), (126, 50)], 42) := by decide +kernel
theorem dX0_combined_44 : decode cX0_combined 44 = .ok (.lload_n 0, 1) := by decide +kernel
theorem dX0_combined_45 : decode cX0_combined 45 = .ok (.lload_n 2, 1) := by decide +kernel
theorem dX0_combined_46 : decode cX0_combined 46 = .ok (.land, 1) := by decide +kernel
theorem dX0_combined_47 : decode cX0_combined 47 = .ok (.lreturn, 1) := by decide +kernel
theorem dX0_combined_48 : decode cX0_combined 48 = .ok (.lload_n 0, 1) := by decide +kernel
theorem dX0_combined_49 : decode cX0_combined 49 = .ok (.lload_n 2, 1) := by decide +kernel
theorem dX0_combined_50 : decode cX0_combined 50 = .ok (.lor, 1) := by decide +kernel
theorem dX0_combined_51 : decode cX0_combined 51 = .ok (.lreturn, 1) := by decide +kernel
theorem dX0_combined_52 : decode cX0_combined 52 = .ok (.lload_n 0, 1) := by decide +kernel
theorem dX0_combined_53 : decode cX0_combined 53 = .ok (.lload_n 2, 1) := by decide +kernel
theorem dX0_combined_54 : decode cX0_combined 54 = .ok (.lxor, 1) := by decide +kernel
theorem dX0_combined_55 : decode cX0_combined 55 = .ok (.lreturn, 1) := by decide +kernel
theorem dX0_combined_56 : decode cX0_combined 56 = .ok (.lload_n 0, 1) := by decide +kernel
theorem dX0_combined_57 : decode cX0_combined 57 = .ok (.lload_n 2, 1) := by decide +kernel
theorem dX0_combined_58 : decode cX0_combined 58 = .ok (.ldc2_w 24, 3) := by decide +kernel
theorem dX0_combined_61 : decode cX0_combined 61 = .ok (.lxor, 1) := by decide +kernel
theorem dX0_combined_62 : decode cX0_combined 62 = .ok (.land, 1) := by decide +kernel
theorem dX0_combined_63 : decode cX0_combined 63 = .ok (.lreturn, 1) := by decide +kernel
theorem dX0_combined_64 : decode cX0_combined 64 = .ok (.lload_n 2, 1) := by decide +kernel
theorem dX0_combined_65 : decode cX0_combined 65 = .ok (.lreturn, 1) := by decide +kernel
set_option maxRecDepth 20000 in
theorem ggX0_becomePart_X0_wordFrom : GoodIn wsX0_becomePart wsX0_wordFrom := goodIn_r _ [10, 11, 12, 13, 9, 14, 5, 22] (by decide +kernel) (by decide +kernel)
set_option maxRecDepth 20000 in
theorem gX0_becomePart_X0_wordFrom : GoodIn wsX0_becomePart (wsV RX0 52 RX0 yX0_wordFrom wsX0_wordFrom) := goodIn_app (goodIn_of _ (by decide +kernel)) ggX0_becomePart_X0_wordFrom
set_option maxRecDepth 20000 in
theorem ggX0_becomePart_X0_bitsIn : GoodIn wsX0_becomePart wsX0_bitsIn := goodIn_r _ [17, 18, 19, 3, 20, 1, 2, 4, 21] (by decide +kernel) (by decide +kernel)
set_option maxRecDepth 20000 in
theorem gX0_becomePart_X0_bitsIn : GoodIn wsX0_becomePart (va_wsS RX0 37 yX0_bitsIn wsX0_bitsIn) := goodIn_app (goodIn_of _ (by decide +kernel)) ggX0_becomePart_X0_bitsIn
theorem dX0_becomePart_0 : decode cX0_becomePart 0 = .ok (.iload_n 2, 1) := by decide +kernel
theorem dX0_becomePart_1 : decode cX0_becomePart 1 = .ok (.sipush 1024, 3) := by decide +kernel
theorem dX0_becomePart_4 : decode cX0_becomePart 4 = .ok (.invokestatic 21, 3) := by decide +kernel
theorem dX0_becomePart_7 : decode cX0_becomePart 7 = .ok (.istore 4, 2) := by decide +kernel
theorem dX0_becomePart_9 : decode cX0_becomePart 9 = .ok (.iconst 0, 1) := by decide +kernel
theorem dX0_becomePart_10 : decode cX0_becomePart 10 = .ok (.istore 5, 2) := by decide +kernel
theorem dX0_becomePart_12 : decode cX0_becomePart 12 = .ok (.iload 5, 2) := by decide +kernel
theorem dX0_becomePart_14 : decode cX0_becomePart 14 = .ok (.bipush 16, 2) := by decide +kernel
theorem dX0_becomePart_16 : decode cX0_becomePart 16 = .ok (.if_icmp .ge 38, 3) := by decide +kernel
theorem dX0_becomePart_19 : decode cX0_becomePart 19 = .ok (.aload_n 0, 1) := by decide +kernel
theorem dX0_becomePart_20 : decode cX0_becomePart 20 = .ok (.getfield 9, 3) := by decide +kernel
theorem dX0_becomePart_23 : decode cX0_becomePart 23 = .ok (.iload 5, 2) := by decide +kernel
theorem dX0_becomePart_25 : decode cX0_becomePart 25 = .ok (.aload_n 1, 1) := by decide +kernel
theorem dX0_becomePart_26 : decode cX0_becomePart 26 = .ok (.bipush 64, 2) := by decide +kernel
theorem dX0_becomePart_28 : decode cX0_becomePart 28 = .ok (.iload 5, 2) := by decide +kernel
theorem dX0_becomePart_30 : decode cX0_becomePart 30 = .ok (.imul, 1) := by decide +kernel
theorem dX0_becomePart_31 : decode cX0_becomePart 31 = .ok (.iload 4, 2) := by decide +kernel
theorem dX0_becomePart_33 : decode cX0_becomePart 33 = .ok (.iadd, 1) := by decide +kernel
theorem dX0_becomePart_34 : decode cX0_becomePart 34 = .ok (.invokevirtual 52, 3) := by decide +kernel
theorem dX0_becomePart_37 : decode cX0_becomePart 37 = .ok (.iload 5, 2) := by decide +kernel
theorem dX0_becomePart_39 : decode cX0_becomePart 39 = .ok (.iconst 0, 1) := by decide +kernel
theorem dX0_becomePart_40 : decode cX0_becomePart 40 = .ok (.iload_n 3, 1) := by decide +kernel
theorem dX0_becomePart_41 : decode cX0_becomePart 41 = .ok (.iload_n 2, 1) := by decide +kernel
theorem dX0_becomePart_42 : decode cX0_becomePart 42 = .ok (.isub, 1) := by decide +kernel
theorem dX0_becomePart_43 : decode cX0_becomePart 43 = .ok (.invokestatic 37, 3) := by decide +kernel
theorem dX0_becomePart_46 : decode cX0_becomePart 46 = .ok (.land, 1) := by decide +kernel
theorem dX0_becomePart_47 : decode cX0_becomePart 47 = .ok (.lastore, 1) := by decide +kernel
theorem dX0_becomePart_48 : decode cX0_becomePart 48 = .ok (.iinc 5 1, 3) := by decide +kernel
theorem dX0_becomePart_51 : decode cX0_becomePart 51 = .ok (.goto (-39), 3) := by decide +kernel
theorem dX0_becomePart_54 : decode cX0_becomePart 54 = .ok (.return_, 1) := by decide +kernel
set_option maxRecDepth 20000 in
theorem ggX0_moveUp_X0_wordFrom : GoodIn wsX0_moveUp wsX0_wordFrom := goodIn_r _ [6, 7, 8, 9, 5, 10, 1, 11] (by decide +kernel) (by decide +kernel)
set_option maxRecDepth 20000 in
theorem gX0_moveUp_X0_wordFrom : GoodIn wsX0_moveUp (wsV RX0 52 RX0 yX0_wordFrom wsX0_wordFrom) := goodIn_app (goodIn_of _ (by decide +kernel)) ggX0_moveUp_X0_wordFrom
theorem dX0_moveUp_0 : decode cX0_moveUp 0 = .ok (.bipush 15, 2) := by decide +kernel
theorem dX0_moveUp_2 : decode cX0_moveUp 2 = .ok (.istore_n 2, 1) := by decide +kernel
theorem dX0_moveUp_3 : decode cX0_moveUp 3 = .ok (.iload_n 2, 1) := by decide +kernel
theorem dX0_moveUp_4 : decode cX0_moveUp 4 = .ok (.ifCond .lt 25, 3) := by decide +kernel
theorem dX0_moveUp_7 : decode cX0_moveUp 7 = .ok (.aload_n 0, 1) := by decide +kernel
theorem dX0_moveUp_8 : decode cX0_moveUp 8 = .ok (.getfield 9, 3) := by decide +kernel
theorem dX0_moveUp_11 : decode cX0_moveUp 11 = .ok (.iload_n 2, 1) := by decide +kernel
theorem dX0_moveUp_12 : decode cX0_moveUp 12 = .ok (.aload_n 0, 1) := by decide +kernel
theorem dX0_moveUp_13 : decode cX0_moveUp 13 = .ok (.bipush 64, 2) := by decide +kernel
theorem dX0_moveUp_15 : decode cX0_moveUp 15 = .ok (.iload_n 2, 1) := by decide +kernel
theorem dX0_moveUp_16 : decode cX0_moveUp 16 = .ok (.imul, 1) := by decide +kernel
theorem dX0_moveUp_17 : decode cX0_moveUp 17 = .ok (.iload_n 1, 1) := by decide +kernel
theorem dX0_moveUp_18 : decode cX0_moveUp 18 = .ok (.isub, 1) := by decide +kernel
theorem dX0_moveUp_19 : decode cX0_moveUp 19 = .ok (.invokevirtual 52, 3) := by decide +kernel
theorem dX0_moveUp_22 : decode cX0_moveUp 22 = .ok (.lastore, 1) := by decide +kernel
theorem dX0_moveUp_23 : decode cX0_moveUp 23 = .ok (.iinc 2 (-1), 3) := by decide +kernel
theorem dX0_moveUp_26 : decode cX0_moveUp 26 = .ok (.goto (-23), 3) := by decide +kernel
theorem dX0_moveUp_29 : decode cX0_moveUp 29 = .ok (.return_, 1) := by decide +kernel
set_option maxRecDepth 20000 in
theorem ggX0_becomePrimes_X0_clear : GoodIn wsX0_becomePrimes wsX0_clear := goodIn_r _ [5, 6, 7, 8, 4, 9, 10, 11, 12, 13, 14, 15, 16, 17, 18, 19, 20, 21, 42] (by decide +kernel) (by decide +kernel)
set_option maxRecDepth 20000 in
theorem gX0_becomePrimes_X0_clear : GoodIn wsX0_becomePrimes (wsV RX0 55 RX0 yX0_clear wsX0_clear) := goodIn_app (goodIn_of _ (by decide +kernel)) ggX0_becomePrimes_X0_clear
set_option maxRecDepth 20000 in
theorem ggX0_becomePrimes_X0_include : GoodIn wsX0_becomePrimes wsX0_include := goodIn_r _ [25, 10, 12, 13, 4, 14, 15, 16, 17, 18, 19, 20, 21, 11, 42] (by decide +kernel) (by decide +kernel)
set_option maxRecDepth 20000 in
theorem gX0_becomePrimes_X0_include : GoodIn wsX0_becomePrimes (wsV RX0 41 RX0 yX0_include wsX0_include) := goodIn_app (goodIn_of _ (by decide +kernel)) ggX0_becomePrimes_X0_include
set_option maxRecDepth 20000 in
theorem ggX0_becomePrimes_X0_holds : GoodIn wsX0_becomePrimes wsX0_holds := goodIn_r _ [29, 30, 31, 32, 4, 33, 10, 42] (by decide +kernel) (by decide +kernel)
set_option maxRecDepth 20000 in
theorem gX0_becomePrimes_X0_holds : GoodIn wsX0_becomePrimes (wsV RX0 58 RX0 yX0_holds wsX0_holds) := goodIn_app (goodIn_of _ (by decide +kernel)) ggX0_becomePrimes_X0_holds
set_option maxRecDepth 20000 in
theorem ggX0_becomePrimes_X0_excludeMultiples : GoodIn wsX0_becomePrimes wsX0_excludeMultiples := goodIn_r _ [37, 38, 39, 40, 4, 41, 10, 11, 42] (by decide +kernel) (by decide +kernel)
set_option maxRecDepth 20000 in
theorem gX0_becomePrimes_X0_excludeMultiples : GoodIn wsX0_becomePrimes (wsV RX0 62 RX0 yX0_excludeMultiples wsX0_excludeMultiples) := goodIn_app (goodIn_of _ (by decide +kernel)) ggX0_becomePrimes_X0_excludeMultiples
theorem dX0_becomePrimes_0 : decode cX0_becomePrimes 0 = .ok (.aload_n 0, 1) := by decide +kernel
theorem dX0_becomePrimes_1 : decode cX0_becomePrimes 1 = .ok (.invokevirtual 55, 3) := by decide +kernel
theorem dX0_becomePrimes_4 : decode cX0_becomePrimes 4 = .ok (.aload_n 0, 1) := by decide +kernel
theorem dX0_becomePrimes_5 : decode cX0_becomePrimes 5 = .ok (.iconst 2, 1) := by decide +kernel
theorem dX0_becomePrimes_6 : decode cX0_becomePrimes 6 = .ok (.iload_n 1, 1) := by decide +kernel
theorem dX0_becomePrimes_7 : decode cX0_becomePrimes 7 = .ok (.invokevirtual 41, 3) := by decide +kernel
theorem dX0_becomePrimes_10 : decode cX0_becomePrimes 10 = .ok (.iconst 2, 1) := by decide +kernel
theorem dX0_becomePrimes_11 : decode cX0_becomePrimes 11 = .ok (.istore_n 2, 1) := by decide +kernel
theorem dX0_becomePrimes_12 : decode cX0_becomePrimes 12 = .ok (.iload_n 2, 1) := by decide +kernel
theorem dX0_becomePrimes_13 : decode cX0_becomePrimes 13 = .ok (.sipush 1024, 3) := by decide +kernel
theorem dX0_becomePrimes_16 : decode cX0_becomePrimes 16 = .ok (.if_icmp .ge 30, 3) := by decide +kernel
theorem dX0_becomePrimes_19 : decode cX0_becomePrimes 19 = .ok (.iload_n 2, 1) := by decide +kernel
theorem dX0_becomePrimes_20 : decode cX0_becomePrimes 20 = .ok (.iload_n 2, 1) := by decide +kernel
theorem dX0_becomePrimes_21 : decode cX0_becomePrimes 21 = .ok (.imul, 1) := by decide +kernel
theorem dX0_becomePrimes_22 : decode cX0_becomePrimes 22 = .ok (.iload_n 1, 1) := by decide +kernel
theorem dX0_becomePrimes_23 : decode cX0_becomePrimes 23 = .ok (.if_icmp .ge 23, 3) := by decide +kernel
theorem dX0_becomePrimes_26 : decode cX0_becomePrimes 26 = .ok (.aload_n 0, 1) := by decide +kernel
theorem dX0_becomePrimes_27 : decode cX0_becomePrimes 27 = .ok (.iload_n 2, 1) := by decide +kernel
theorem dX0_becomePrimes_28 : decode cX0_becomePrimes 28 = .ok (.invokevirtual 58, 3) := by decide +kernel
theorem dX0_becomePrimes_31 : decode cX0_becomePrimes 31 = .ok (.ifCond .eq 9, 3) := by decide +kernel
theorem dX0_becomePrimes_34 : decode cX0_becomePrimes 34 = .ok (.aload_n 0, 1) := by decide +kernel
theorem dX0_becomePrimes_35 : decode cX0_becomePrimes 35 = .ok (.iload_n 2, 1) := by decide +kernel
theorem dX0_becomePrimes_36 : decode cX0_becomePrimes 36 = .ok (.iload_n 1, 1) := by decide +kernel
theorem dX0_becomePrimes_37 : decode cX0_becomePrimes 37 = .ok (.invokevirtual 62, 3) := by decide +kernel
theorem dX0_becomePrimes_40 : decode cX0_becomePrimes 40 = .ok (.iinc 2 1, 3) := by decide +kernel
theorem dX0_becomePrimes_43 : decode cX0_becomePrimes 43 = .ok (.goto (-31), 3) := by decide +kernel
theorem dX0_becomePrimes_46 : decode cX0_becomePrimes 46 = .ok (.return_, 1) := by decide +kernel
set_option maxRecDepth 20000 in
theorem ggX0_excludeMultiples_X0_excludeOne : GoodIn wsX0_excludeMultiples wsX0_excludeOne := goodIn_r _ [5, 6, 7, 8] (by decide +kernel) (by decide +kernel)
set_option maxRecDepth 20000 in
theorem gX0_excludeMultiples_X0_excludeOne : GoodIn wsX0_excludeMultiples (wsV RX0 34 RX0 yX0_excludeOne wsX0_excludeOne) := goodIn_app (goodIn_of _ (by decide +kernel)) ggX0_excludeMultiples_X0_excludeOne
theorem dX0_excludeMultiples_0 : decode cX0_excludeMultiples 0 = .ok (.iload_n 1, 1) := by decide +kernel
theorem dX0_excludeMultiples_1 : decode cX0_excludeMultiples 1 = .ok (.istore_n 3, 1) := by decide +kernel
theorem dX0_excludeMultiples_2 : decode cX0_excludeMultiples 2 = .ok (.iload_n 3, 1) := by decide +kernel
theorem dX0_excludeMultiples_3 : decode cX0_excludeMultiples 3 = .ok (.sipush 1024, 3) := by decide +kernel
theorem dX0_excludeMultiples_6 : decode cX0_excludeMultiples 6 = .ok (.if_icmp .ge 23, 3) := by decide +kernel
theorem dX0_excludeMultiples_9 : decode cX0_excludeMultiples 9 = .ok (.iload_n 3, 1) := by decide +kernel
theorem dX0_excludeMultiples_10 : decode cX0_excludeMultiples 10 = .ok (.iload_n 1, 1) := by decide +kernel
theorem dX0_excludeMultiples_11 : decode cX0_excludeMultiples 11 = .ok (.imul, 1) := by decide +kernel
theorem dX0_excludeMultiples_12 : decode cX0_excludeMultiples 12 = .ok (.iload_n 2, 1) := by decide +kernel
theorem dX0_excludeMultiples_13 : decode cX0_excludeMultiples 13 = .ok (.if_icmp .ge 16, 3) := by decide +kernel
theorem dX0_excludeMultiples_16 : decode cX0_excludeMultiples 16 = .ok (.aload_n 0, 1) := by decide +kernel
theorem dX0_excludeMultiples_17 : decode cX0_excludeMultiples 17 = .ok (.iload_n 3, 1) := by decide +kernel
theorem dX0_excludeMultiples_18 : decode cX0_excludeMultiples 18 = .ok (.iload_n 1, 1) := by decide +kernel
theorem dX0_excludeMultiples_19 : decode cX0_excludeMultiples 19 = .ok (.imul, 1) := by decide +kernel
theorem dX0_excludeMultiples_20 : decode cX0_excludeMultiples 20 = .ok (.invokevirtual 34, 3) := by decide +kernel
theorem dX0_excludeMultiples_23 : decode cX0_excludeMultiples 23 = .ok (.iinc 3 1, 3) := by decide +kernel
theorem dX0_excludeMultiples_26 : decode cX0_excludeMultiples 26 = .ok (.goto (-24), 3) := by decide +kernel
theorem dX0_excludeMultiples_29 : decode cX0_excludeMultiples 29 = .ok (.return_, 1) := by decide +kernel
set_option maxRecDepth 20000 in
theorem ggX0_becomeWords_X0_clear : GoodIn wsX0_becomeWords wsX0_clear := goodIn_r _ [6, 7, 8, 9, 5, 10, 1, 11, 12, 13, 14, 15, 16, 17, 18, 19, 20, 21, 22] (by decide +kernel) (by decide +kernel)
set_option maxRecDepth 20000 in
theorem gX0_becomeWords_X0_clear : GoodIn wsX0_becomeWords (wsV RX0 55 RX0 yX0_clear wsX0_clear) := goodIn_app (goodIn_of _ (by decide +kernel)) ggX0_becomeWords_X0_clear
theorem dX0_becomeWords_0 : decode cX0_becomeWords 0 = .ok (.aload_n 0, 1) := by decide +kernel
theorem dX0_becomeWords_1 : decode cX0_becomeWords 1 = .ok (.invokevirtual 55, 3) := by decide +kernel
theorem dX0_becomeWords_4 : decode cX0_becomeWords 4 = .ok (.aload_n 0, 1) := by decide +kernel
theorem dX0_becomeWords_5 : decode cX0_becomeWords 5 = .ok (.getfield 9, 3) := by decide +kernel
theorem dX0_becomeWords_8 : decode cX0_becomeWords 8 = .ok (.iconst 0, 1) := by decide +kernel
theorem dX0_becomeWords_9 : decode cX0_becomeWords 9 = .ok (.lload_n 1, 1) := by decide +kernel
theorem dX0_becomeWords_10 : decode cX0_becomeWords 10 = .ok (.lastore, 1) := by decide +kernel
theorem dX0_becomeWords_11 : decode cX0_becomeWords 11 = .ok (.aload_n 0, 1) := by decide +kernel
theorem dX0_becomeWords_12 : decode cX0_becomeWords 12 = .ok (.getfield 9, 3) := by decide +kernel
theorem dX0_becomeWords_15 : decode cX0_becomeWords 15 = .ok (.iconst 1, 1) := by decide +kernel
theorem dX0_becomeWords_16 : decode cX0_becomeWords 16 = .ok (.lload_n 3, 1) := by decide +kernel
theorem dX0_becomeWords_17 : decode cX0_becomeWords 17 = .ok (.lastore, 1) := by decide +kernel
theorem dX0_becomeWords_18 : decode cX0_becomeWords 18 = .ok (.aload_n 0, 1) := by decide +kernel
theorem dX0_becomeWords_19 : decode cX0_becomeWords 19 = .ok (.getfield 9, 3) := by decide +kernel
theorem dX0_becomeWords_22 : decode cX0_becomeWords 22 = .ok (.iconst 2, 1) := by decide +kernel
theorem dX0_becomeWords_23 : decode cX0_becomeWords 23 = .ok (.lload 5, 2) := by decide +kernel
theorem dX0_becomeWords_25 : decode cX0_becomeWords 25 = .ok (.lastore, 1) := by decide +kernel
theorem dX0_becomeWords_26 : decode cX0_becomeWords 26 = .ok (.return_, 1) := by decide +kernel
set_option maxRecDepth 20000 in
theorem ggX0_sizeIn_X0_bitsIn : GoodIn wsX0_sizeIn wsX0_bitsIn := goodIn_r _ [5, 6, 7, 8, 9, 10, 11, 12, 13] (by decide +kernel) (by decide +kernel)
set_option maxRecDepth 20000 in
theorem gX0_sizeIn_X0_bitsIn : GoodIn wsX0_sizeIn (va_wsS RX0 37 yX0_bitsIn wsX0_bitsIn) := goodIn_app (goodIn_of _ (by decide +kernel)) ggX0_sizeIn_X0_bitsIn
set_option maxRecDepth 20000 in
theorem ggX0_sizeIn_J13_bitCount_95d88 : GoodIn wsX0_sizeIn wsJ13_bitCount_95d88 := goodIn_r _ [17, 18, 19, 20] (by decide +kernel) (by decide +kernel)
set_option maxRecDepth 20000 in
theorem gX0_sizeIn_J13_bitCount_95d88 : GoodIn wsX0_sizeIn (va_wsS RX0 71 yJ13_bitCount_95d88 wsJ13_bitCount_95d88) := goodIn_app (goodIn_of _ (by decide +kernel)) ggX0_sizeIn_J13_bitCount_95d88
theorem dX0_sizeIn_0 : decode cX0_sizeIn 0 = .ok (.iconst 0, 1) := by decide +kernel
theorem dX0_sizeIn_1 : decode cX0_sizeIn 1 = .ok (.istore_n 3, 1) := by decide +kernel
theorem dX0_sizeIn_2 : decode cX0_sizeIn 2 = .ok (.iconst 0, 1) := by decide +kernel
theorem dX0_sizeIn_3 : decode cX0_sizeIn 3 = .ok (.istore 4, 2) := by decide +kernel
theorem dX0_sizeIn_5 : decode cX0_sizeIn 5 = .ok (.iload 4, 2) := by decide +kernel
theorem dX0_sizeIn_7 : decode cX0_sizeIn 7 = .ok (.bipush 16, 2) := by decide +kernel
theorem dX0_sizeIn_9 : decode cX0_sizeIn 9 = .ok (.if_icmp .ge 30, 3) := by decide +kernel
theorem dX0_sizeIn_12 : decode cX0_sizeIn 12 = .ok (.iload_n 3, 1) := by decide +kernel
theorem dX0_sizeIn_13 : decode cX0_sizeIn 13 = .ok (.aload_n 0, 1) := by decide +kernel
theorem dX0_sizeIn_14 : decode cX0_sizeIn 14 = .ok (.getfield 9, 3) := by decide +kernel
theorem dX0_sizeIn_17 : decode cX0_sizeIn 17 = .ok (.iload 4, 2) := by decide +kernel
theorem dX0_sizeIn_19 : decode cX0_sizeIn 19 = .ok (.laload, 1) := by decide +kernel
theorem dX0_sizeIn_20 : decode cX0_sizeIn 20 = .ok (.iload 4, 2) := by decide +kernel
theorem dX0_sizeIn_22 : decode cX0_sizeIn 22 = .ok (.iload_n 1, 1) := by decide +kernel
theorem dX0_sizeIn_23 : decode cX0_sizeIn 23 = .ok (.iload_n 2, 1) := by decide +kernel
theorem dX0_sizeIn_24 : decode cX0_sizeIn 24 = .ok (.invokestatic 37, 3) := by decide +kernel
theorem dX0_sizeIn_27 : decode cX0_sizeIn 27 = .ok (.land, 1) := by decide +kernel
theorem dX0_sizeIn_28 : decode cX0_sizeIn 28 = .ok (.invokestatic 71, 3) := by decide +kernel
theorem dX0_sizeIn_31 : decode cX0_sizeIn 31 = .ok (.iadd, 1) := by decide +kernel
theorem dX0_sizeIn_32 : decode cX0_sizeIn 32 = .ok (.istore_n 3, 1) := by decide +kernel
theorem dX0_sizeIn_33 : decode cX0_sizeIn 33 = .ok (.iinc 4 1, 3) := by decide +kernel
theorem dX0_sizeIn_36 : decode cX0_sizeIn 36 = .ok (.goto (-31), 3) := by decide +kernel
theorem dX0_sizeIn_39 : decode cX0_sizeIn 39 = .ok (.iload_n 3, 1) := by decide +kernel
theorem dX0_sizeIn_40 : decode cX0_sizeIn 40 = .ok (.ireturn, 1) := by decide +kernel
set_option maxRecDepth 20000 in
theorem ggX0_size_X0_sizeIn : GoodIn wsX0_size wsX0_sizeIn := goodIn_r _ [5, 6, 7, 8, 4, 9, 10, 11, 12, 13, 14, 15, 16, 17, 18, 19, 20, 21, 22, 23, 24, 25] (by decide +kernel) (by decide +kernel)
set_option maxRecDepth 20000 in
theorem gX0_size_X0_sizeIn : GoodIn wsX0_size (wsV RX0 77 RX0 yX0_sizeIn wsX0_sizeIn) := goodIn_app (goodIn_of _ (by decide +kernel)) ggX0_size_X0_sizeIn
theorem dX0_size_0 : decode cX0_size 0 = .ok (.aload_n 0, 1) := by decide +kernel
theorem dX0_size_1 : decode cX0_size 1 = .ok (.iconst 0, 1) := by decide +kernel
theorem dX0_size_2 : decode cX0_size 2 = .ok (.sipush 1024, 3) := by decide +kernel
theorem dX0_size_5 : decode cX0_size 5 = .ok (.invokevirtual 77, 3) := by decide +kernel
theorem dX0_size_8 : decode cX0_size 8 = .ok (.ireturn, 1) := by decide +kernel
set_option maxRecDepth 20000 in
theorem ggX0_end_X0_lastUpTo : GoodIn wsX0_end wsX0_lastUpTo := goodIn_r _ [5, 6, 7, 8, 9, 10, 11, 12, 4, 13, 14, 15, 16, 17, 18, 19, 20, 21, 22, 23, 24, 25, 26, 27] (by decide +kernel) (by decide +kernel)
set_option maxRecDepth 20000 in
theorem gX0_end_X0_lastUpTo : GoodIn wsX0_end (wsV RX0 80 RX0 yX0_lastUpTo wsX0_lastUpTo) := goodIn_app (goodIn_of _ (by decide +kernel)) ggX0_end_X0_lastUpTo
theorem dX0_end_0 : decode cX0_end 0 = .ok (.aload_n 0, 1) := by decide +kernel
theorem dX0_end_1 : decode cX0_end 1 = .ok (.sipush 1023, 3) := by decide +kernel
theorem dX0_end_4 : decode cX0_end 4 = .ok (.invokevirtual 80, 3) := by decide +kernel
theorem dX0_end_7 : decode cX0_end 7 = .ok (.iconst 1, 1) := by decide +kernel
theorem dX0_end_8 : decode cX0_end 8 = .ok (.iadd, 1) := by decide +kernel
theorem dX0_end_9 : decode cX0_end 9 = .ok (.ireturn, 1) := by decide +kernel
set_option maxRecDepth 20000 in
theorem ggX0_usedWords_X0_end : GoodIn wsX0_usedWords wsX0_end := goodIn_r _ [5, 6, 7, 8, 4, 9, 10, 11, 12, 13, 14, 15, 16, 17, 18, 19, 20, 21, 22, 23, 24, 25, 26, 27, 28, 29, 30, 31] (by decide +kernel) (by decide +kernel)
set_option maxRecDepth 20000 in
theorem gX0_usedWords_X0_end : GoodIn wsX0_usedWords (wsV RX0 84 RX0 yX0_end wsX0_end) := goodIn_app (goodIn_of _ (by decide +kernel)) ggX0_usedWords_X0_end
theorem dX0_usedWords_0 : decode cX0_usedWords 0 = .ok (.aload_n 0, 1) := by decide +kernel
theorem dX0_usedWords_1 : decode cX0_usedWords 1 = .ok (.invokevirtual 84, 3) := by decide +kernel
theorem dX0_usedWords_4 : decode cX0_usedWords 4 = .ok (.bipush 63, 2) := by decide +kernel
theorem dX0_usedWords_6 : decode cX0_usedWords 6 = .ok (.iadd, 1) := by decide +kernel
theorem dX0_usedWords_7 : decode cX0_usedWords 7 = .ok (.bipush 64, 2) := by decide +kernel
theorem dX0_usedWords_9 : decode cX0_usedWords 9 = .ok (.idiv, 1) := by decide +kernel
theorem dX0_usedWords_10 : decode cX0_usedWords 10 = .ok (.ireturn, 1) := by decide +kernel
set_option maxRecDepth 20000 in
theorem ggX0_usedBytes_X0_end : GoodIn wsX0_usedBytes wsX0_end := goodIn_r _ [5, 6, 7, 8, 4, 9, 10, 11, 12, 13, 14, 15, 16, 17, 18, 19, 20, 21, 22, 23, 24, 25, 26, 27, 28, 29, 30, 31] (by decide +kernel) (by decide +kernel)
set_option maxRecDepth 20000 in
theorem gX0_usedBytes_X0_end : GoodIn wsX0_usedBytes (wsV RX0 84 RX0 yX0_end wsX0_end) := goodIn_app (goodIn_of _ (by decide +kernel)) ggX0_usedBytes_X0_end
theorem dX0_usedBytes_0 : decode cX0_usedBytes 0 = .ok (.aload_n 0, 1) := by decide +kernel
theorem dX0_usedBytes_1 : decode cX0_usedBytes 1 = .ok (.invokevirtual 84, 3) := by decide +kernel
theorem dX0_usedBytes_4 : decode cX0_usedBytes 4 = .ok (.bipush 7, 2) := by decide +kernel
theorem dX0_usedBytes_6 : decode cX0_usedBytes 6 = .ok (.iadd, 1) := by decide +kernel
theorem dX0_usedBytes_7 : decode cX0_usedBytes 7 = .ok (.bipush 8, 2) := by decide +kernel
theorem dX0_usedBytes_9 : decode cX0_usedBytes 9 = .ok (.idiv, 1) := by decide +kernel
theorem dX0_usedBytes_10 : decode cX0_usedBytes 10 = .ok (.ireturn, 1) := by decide +kernel
theorem dX0_digest_0 : decode cX0_digest 0 = .ok (.ldc2_w 88, 3) := by decide +kernel
theorem dX0_digest_3 : decode cX0_digest 3 = .ok (.lstore_n 1, 1) := by decide +kernel
theorem dX0_digest_4 : decode cX0_digest 4 = .ok (.bipush 15, 2) := by decide +kernel
theorem dX0_digest_6 : decode cX0_digest 6 = .ok (.istore_n 3, 1) := by decide +kernel
theorem dX0_digest_7 : decode cX0_digest 7 = .ok (.iload_n 3, 1) := by decide +kernel
theorem dX0_digest_8 : decode cX0_digest 8 = .ok (.ifCond .lt 23, 3) := by decide +kernel
theorem dX0_digest_11 : decode cX0_digest 11 = .ok (.lload_n 1, 1) := by decide +kernel
theorem dX0_digest_12 : decode cX0_digest 12 = .ok (.aload_n 0, 1) := by decide +kernel
theorem dX0_digest_13 : decode cX0_digest 13 = .ok (.getfield 9, 3) := by decide +kernel
theorem dX0_digest_16 : decode cX0_digest 16 = .ok (.iload_n 3, 1) := by decide +kernel
theorem dX0_digest_17 : decode cX0_digest 17 = .ok (.laload, 1) := by decide +kernel
theorem dX0_digest_18 : decode cX0_digest 18 = .ok (.iload_n 3, 1) := by decide +kernel
theorem dX0_digest_19 : decode cX0_digest 19 = .ok (.iconst 1, 1) := by decide +kernel
theorem dX0_digest_20 : decode cX0_digest 20 = .ok (.iadd, 1) := by decide +kernel
theorem dX0_digest_21 : decode cX0_digest 21 = .ok (.i2l, 1) := by decide +kernel
theorem dX0_digest_22 : decode cX0_digest 22 = .ok (.lmul, 1) := by decide +kernel
theorem dX0_digest_23 : decode cX0_digest 23 = .ok (.lxor, 1) := by decide +kernel
theorem dX0_digest_24 : decode cX0_digest 24 = .ok (.lstore_n 1, 1) := by decide +kernel
theorem dX0_digest_25 : decode cX0_digest 25 = .ok (.iinc 3 (-1), 3) := by decide +kernel
theorem dX0_digest_28 : decode cX0_digest 28 = .ok (.goto (-21), 3) := by decide +kernel
theorem dX0_digest_31 : decode cX0_digest 31 = .ok (.lload_n 1, 1) := by decide +kernel
theorem dX0_digest_32 : decode cX0_digest 32 = .ok (.lload_n 1, 1) := by decide +kernel
theorem dX0_digest_33 : decode cX0_digest 33 = .ok (.bipush 32, 2) := by decide +kernel
theorem dX0_digest_35 : decode cX0_digest 35 = .ok (.lshr, 1) := by decide +kernel
theorem dX0_digest_36 : decode cX0_digest 36 = .ok (.lxor, 1) := by decide +kernel
theorem dX0_digest_37 : decode cX0_digest 37 = .ok (.l2i, 1) := by decide +kernel
theorem dX0_digest_38 : decode cX0_digest 38 = .ok (.ireturn, 1) := by decide +kernel
set_option maxRecDepth 20000 in
theorem ggX0_firstFrom_X0_bitsIn : GoodIn wsX0_firstFrom wsX0_bitsIn := goodIn_r _ [5, 6, 7, 8, 9, 10, 11, 12, 13] (by decide +kernel) (by decide +kernel)
set_option maxRecDepth 20000 in
theorem gX0_firstFrom_X0_bitsIn : GoodIn wsX0_firstFrom (va_wsS RX0 37 yX0_bitsIn wsX0_bitsIn) := goodIn_app (goodIn_of _ (by decide +kernel)) ggX0_firstFrom_X0_bitsIn
set_option maxRecDepth 20000 in
theorem ggX0_firstFrom_J13_numberOfTrailingZeros_95d88 : GoodIn wsX0_firstFrom wsJ13_numberOfTrailingZeros_95d88 := goodIn_r _ [17, 18, 19, 20, 21, 22] (by decide +kernel) (by decide +kernel)
set_option maxRecDepth 20000 in
theorem gX0_firstFrom_J13_numberOfTrailingZeros_95d88 : GoodIn wsX0_firstFrom (va_wsS RX0 90 yJ13_numberOfTrailingZeros_95d88 wsJ13_numberOfTrailingZeros_95d88) := goodIn_app (goodIn_of _ (by decide +kernel)) ggX0_firstFrom_J13_numberOfTrailingZeros_95d88
theorem dX0_firstFrom_0 : decode cX0_firstFrom 0 = .ok (.iconst 0, 1) := by decide +kernel
theorem dX0_firstFrom_1 : decode cX0_firstFrom 1 = .ok (.istore_n 2, 1) := by decide +kernel
theorem dX0_firstFrom_2 : decode cX0_firstFrom 2 = .ok (.iload_n 2, 1) := by decide +kernel
theorem dX0_firstFrom_3 : decode cX0_firstFrom 3 = .ok (.bipush 16, 2) := by decide +kernel
theorem dX0_firstFrom_5 : decode cX0_firstFrom 5 = .ok (.if_icmp .ge 41, 3) := by decide +kernel
theorem dX0_firstFrom_8 : decode cX0_firstFrom 8 = .ok (.aload_n 0, 1) := by decide +kernel
theorem dX0_firstFrom_9 : decode cX0_firstFrom 9 = .ok (.getfield 9, 3) := by decide +kernel
theorem dX0_firstFrom_12 : decode cX0_firstFrom 12 = .ok (.iload_n 2, 1) := by decide +kernel
theorem dX0_firstFrom_13 : decode cX0_firstFrom 13 = .ok (.laload, 1) := by decide +kernel
theorem dX0_firstFrom_14 : decode cX0_firstFrom 14 = .ok (.iload_n 2, 1) := by decide +kernel
theorem dX0_firstFrom_15 : decode cX0_firstFrom 15 = .ok (.iload_n 1, 1) := by decide +kernel
theorem dX0_firstFrom_16 : decode cX0_firstFrom 16 = .ok (.sipush 1024, 3) := by decide +kernel
theorem dX0_firstFrom_19 : decode cX0_firstFrom 19 = .ok (.invokestatic 37, 3) := by decide +kernel
theorem dX0_firstFrom_22 : decode cX0_firstFrom 22 = .ok (.land, 1) := by decide +kernel
theorem dX0_firstFrom_23 : decode cX0_firstFrom 23 = .ok (.lstore_n 3, 1) := by decide +kernel
theorem dX0_firstFrom_24 : decode cX0_firstFrom 24 = .ok (.lload_n 3, 1) := by decide +kernel
theorem dX0_firstFrom_25 : decode cX0_firstFrom 25 = .ok (.lconst 0, 1) := by decide +kernel
theorem dX0_firstFrom_26 : decode cX0_firstFrom 26 = .ok (.lcmp, 1) := by decide +kernel
theorem dX0_firstFrom_27 : decode cX0_firstFrom 27 = .ok (.ifCond .eq 13, 3) := by decide +kernel
theorem dX0_firstFrom_30 : decode cX0_firstFrom 30 = .ok (.bipush 64, 2) := by decide +kernel
theorem dX0_firstFrom_32 : decode cX0_firstFrom 32 = .ok (.iload_n 2, 1) := by decide +kernel
theorem dX0_firstFrom_33 : decode cX0_firstFrom 33 = .ok (.imul, 1) := by decide +kernel
theorem dX0_firstFrom_34 : decode cX0_firstFrom 34 = .ok (.lload_n 3, 1) := by decide +kernel
theorem dX0_firstFrom_35 : decode cX0_firstFrom 35 = .ok (.invokestatic 90, 3) := by decide +kernel
theorem dX0_firstFrom_38 : decode cX0_firstFrom 38 = .ok (.iadd, 1) := by decide +kernel
theorem dX0_firstFrom_39 : decode cX0_firstFrom 39 = .ok (.ireturn, 1) := by decide +kernel
theorem dX0_firstFrom_40 : decode cX0_firstFrom 40 = .ok (.iinc 2 1, 3) := by decide +kernel
theorem dX0_firstFrom_43 : decode cX0_firstFrom 43 = .ok (.goto (-41), 3) := by decide +kernel
theorem dX0_firstFrom_46 : decode cX0_firstFrom 46 = .ok (.iconst (-1), 1) := by decide +kernel
theorem dX0_firstFrom_47 : decode cX0_firstFrom 47 = .ok (.ireturn, 1) := by decide +kernel
set_option maxRecDepth 20000 in
theorem ggX0_firstGapFrom_X0_bitsIn : GoodIn wsX0_firstGapFrom wsX0_bitsIn := goodIn_r _ [10, 3, 4, 5, 6, 11, 12, 13, 2] (by decide +kernel) (by decide +kernel)
set_option maxRecDepth 20000 in
theorem gX0_firstGapFrom_X0_bitsIn : GoodIn wsX0_firstGapFrom (va_wsS RX0 37 yX0_bitsIn wsX0_bitsIn) := goodIn_app (goodIn_of _ (by decide +kernel)) ggX0_firstGapFrom_X0_bitsIn
set_option maxRecDepth 20000 in
theorem ggX0_firstGapFrom_J13_numberOfTrailingZeros_95d88 : GoodIn wsX0_firstGapFrom wsJ13_numberOfTrailingZeros_95d88 := goodIn_r _ [17, 18, 19, 20, 21, 22] (by decide +kernel) (by decide +kernel)
set_option maxRecDepth 20000 in
theorem gX0_firstGapFrom_J13_numberOfTrailingZeros_95d88 : GoodIn wsX0_firstGapFrom (va_wsS RX0 90 yJ13_numberOfTrailingZeros_95d88 wsJ13_numberOfTrailingZeros_95d88) := goodIn_app (goodIn_of _ (by decide +kernel)) ggX0_firstGapFrom_J13_numberOfTrailingZeros_95d88
theorem dX0_firstGapFrom_0 : decode cX0_firstGapFrom 0 = .ok (.iconst 0, 1) := by decide +kernel
theorem dX0_firstGapFrom_1 : decode cX0_firstGapFrom 1 = .ok (.istore_n 2, 1) := by decide +kernel
theorem dX0_firstGapFrom_2 : decode cX0_firstGapFrom 2 = .ok (.iload_n 2, 1) := by decide +kernel
theorem dX0_firstGapFrom_3 : decode cX0_firstGapFrom 3 = .ok (.bipush 16, 2) := by decide +kernel
theorem dX0_firstGapFrom_5 : decode cX0_firstGapFrom 5 = .ok (.if_icmp .ge 45, 3) := by decide +kernel
theorem dX0_firstGapFrom_8 : decode cX0_firstGapFrom 8 = .ok (.aload_n 0, 1) := by decide +kernel
theorem dX0_firstGapFrom_9 : decode cX0_firstGapFrom 9 = .ok (.getfield 9, 3) := by decide +kernel
theorem dX0_firstGapFrom_12 : decode cX0_firstGapFrom 12 = .ok (.iload_n 2, 1) := by decide +kernel
theorem dX0_firstGapFrom_13 : decode cX0_firstGapFrom 13 = .ok (.laload, 1) := by decide +kernel
theorem dX0_firstGapFrom_14 : decode cX0_firstGapFrom 14 = .ok (.ldc2_w 24, 3) := by decide +kernel
theorem dX0_firstGapFrom_17 : decode cX0_firstGapFrom 17 = .ok (.lxor, 1) := by decide +kernel
theorem dX0_firstGapFrom_18 : decode cX0_firstGapFrom 18 = .ok (.iload_n 2, 1) := by decide +kernel
theorem dX0_firstGapFrom_19 : decode cX0_firstGapFrom 19 = .ok (.iload_n 1, 1) := by decide +kernel
theorem dX0_firstGapFrom_20 : decode cX0_firstGapFrom 20 = .ok (.sipush 1024, 3) := by decide +kernel
theorem dX0_firstGapFrom_23 : decode cX0_firstGapFrom 23 = .ok (.invokestatic 37, 3) := by decide +kernel
theorem dX0_firstGapFrom_26 : decode cX0_firstGapFrom 26 = .ok (.land, 1) := by decide +kernel
theorem dX0_firstGapFrom_27 : decode cX0_firstGapFrom 27 = .ok (.lstore_n 3, 1) := by decide +kernel
theorem dX0_firstGapFrom_28 : decode cX0_firstGapFrom 28 = .ok (.lload_n 3, 1) := by decide +kernel
theorem dX0_firstGapFrom_29 : decode cX0_firstGapFrom 29 = .ok (.lconst 0, 1) := by decide +kernel
theorem dX0_firstGapFrom_30 : decode cX0_firstGapFrom 30 = .ok (.lcmp, 1) := by decide +kernel
theorem dX0_firstGapFrom_31 : decode cX0_firstGapFrom 31 = .ok (.ifCond .eq 13, 3) := by decide +kernel
theorem dX0_firstGapFrom_34 : decode cX0_firstGapFrom 34 = .ok (.bipush 64, 2) := by decide +kernel
theorem dX0_firstGapFrom_36 : decode cX0_firstGapFrom 36 = .ok (.iload_n 2, 1) := by decide +kernel
theorem dX0_firstGapFrom_37 : decode cX0_firstGapFrom 37 = .ok (.imul, 1) := by decide +kernel
theorem dX0_firstGapFrom_38 : decode cX0_firstGapFrom 38 = .ok (.lload_n 3, 1) := by decide +kernel
theorem dX0_firstGapFrom_39 : decode cX0_firstGapFrom 39 = .ok (.invokestatic 90, 3) := by decide +kernel
theorem dX0_firstGapFrom_42 : decode cX0_firstGapFrom 42 = .ok (.iadd, 1) := by decide +kernel
theorem dX0_firstGapFrom_43 : decode cX0_firstGapFrom 43 = .ok (.ireturn, 1) := by decide +kernel
theorem dX0_firstGapFrom_44 : decode cX0_firstGapFrom 44 = .ok (.iinc 2 1, 3) := by decide +kernel
theorem dX0_firstGapFrom_47 : decode cX0_firstGapFrom 47 = .ok (.goto (-45), 3) := by decide +kernel
theorem dX0_firstGapFrom_50 : decode cX0_firstGapFrom 50 = .ok (.iload_n 1, 1) := by decide +kernel
theorem dX0_firstGapFrom_51 : decode cX0_firstGapFrom 51 = .ok (.sipush 1024, 3) := by decide +kernel
theorem dX0_firstGapFrom_54 : decode cX0_firstGapFrom 54 = .ok (.invokestatic 15, 3) := by decide +kernel
theorem dX0_firstGapFrom_57 : decode cX0_firstGapFrom 57 = .ok (.ireturn, 1) := by decide +kernel
set_option maxRecDepth 20000 in
theorem ggX0_lastUpTo_X0_bitsIn : GoodIn wsX0_lastUpTo wsX0_bitsIn := goodIn_r _ [9, 10, 11, 3, 12, 1, 2, 4, 13] (by decide +kernel) (by decide +kernel)
set_option maxRecDepth 20000 in
theorem gX0_lastUpTo_X0_bitsIn : GoodIn wsX0_lastUpTo (va_wsS RX0 37 yX0_bitsIn wsX0_bitsIn) := goodIn_app (goodIn_of _ (by decide +kernel)) ggX0_lastUpTo_X0_bitsIn
set_option maxRecDepth 20000 in
theorem ggX0_lastUpTo_J13_numberOfLeadingZeros_95d88 : GoodIn wsX0_lastUpTo wsJ13_numberOfLeadingZeros_95d88 := goodIn_r _ [17, 18, 19, 20, 21, 22] (by decide +kernel) (by decide +kernel)
set_option maxRecDepth 20000 in
theorem gX0_lastUpTo_J13_numberOfLeadingZeros_95d88 : GoodIn wsX0_lastUpTo (va_wsS RX0 93 yJ13_numberOfLeadingZeros_95d88 wsJ13_numberOfLeadingZeros_95d88) := goodIn_app (goodIn_of _ (by decide +kernel)) ggX0_lastUpTo_J13_numberOfLeadingZeros_95d88
theorem dX0_lastUpTo_0 : decode cX0_lastUpTo 0 = .ok (.iload_n 1, 1) := by decide +kernel
theorem dX0_lastUpTo_1 : decode cX0_lastUpTo 1 = .ok (.sipush 1023, 3) := by decide +kernel
theorem dX0_lastUpTo_4 : decode cX0_lastUpTo 4 = .ok (.invokestatic 21, 3) := by decide +kernel
theorem dX0_lastUpTo_7 : decode cX0_lastUpTo 7 = .ok (.iconst 1, 1) := by decide +kernel
theorem dX0_lastUpTo_8 : decode cX0_lastUpTo 8 = .ok (.iadd, 1) := by decide +kernel
theorem dX0_lastUpTo_9 : decode cX0_lastUpTo 9 = .ok (.istore_n 2, 1) := by decide +kernel
theorem dX0_lastUpTo_10 : decode cX0_lastUpTo 10 = .ok (.bipush 15, 2) := by decide +kernel
theorem dX0_lastUpTo_12 : decode cX0_lastUpTo 12 = .ok (.istore_n 3, 1) := by decide +kernel
theorem dX0_lastUpTo_13 : decode cX0_lastUpTo 13 = .ok (.iload_n 3, 1) := by decide +kernel
theorem dX0_lastUpTo_14 : decode cX0_lastUpTo 14 = .ok (.ifCond .lt 45, 3) := by decide +kernel
theorem dX0_lastUpTo_17 : decode cX0_lastUpTo 17 = .ok (.aload_n 0, 1) := by decide +kernel
theorem dX0_lastUpTo_18 : decode cX0_lastUpTo 18 = .ok (.getfield 9, 3) := by decide +kernel
theorem dX0_lastUpTo_21 : decode cX0_lastUpTo 21 = .ok (.iload_n 3, 1) := by decide +kernel
theorem dX0_lastUpTo_22 : decode cX0_lastUpTo 22 = .ok (.laload, 1) := by decide +kernel
theorem dX0_lastUpTo_23 : decode cX0_lastUpTo 23 = .ok (.iload_n 3, 1) := by decide +kernel
theorem dX0_lastUpTo_24 : decode cX0_lastUpTo 24 = .ok (.iconst 0, 1) := by decide +kernel
theorem dX0_lastUpTo_25 : decode cX0_lastUpTo 25 = .ok (.iload_n 2, 1) := by decide +kernel
theorem dX0_lastUpTo_26 : decode cX0_lastUpTo 26 = .ok (.invokestatic 37, 3) := by decide +kernel
theorem dX0_lastUpTo_29 : decode cX0_lastUpTo 29 = .ok (.land, 1) := by decide +kernel
theorem dX0_lastUpTo_30 : decode cX0_lastUpTo 30 = .ok (.lstore 4, 2) := by decide +kernel
theorem dX0_lastUpTo_32 : decode cX0_lastUpTo 32 = .ok (.lload 4, 2) := by decide +kernel
theorem dX0_lastUpTo_34 : decode cX0_lastUpTo 34 = .ok (.lconst 0, 1) := by decide +kernel
theorem dX0_lastUpTo_35 : decode cX0_lastUpTo 35 = .ok (.lcmp, 1) := by decide +kernel
theorem dX0_lastUpTo_36 : decode cX0_lastUpTo 36 = .ok (.ifCond .eq 17, 3) := by decide +kernel
theorem dX0_lastUpTo_39 : decode cX0_lastUpTo 39 = .ok (.bipush 64, 2) := by decide +kernel
theorem dX0_lastUpTo_41 : decode cX0_lastUpTo 41 = .ok (.iload_n 3, 1) := by decide +kernel
theorem dX0_lastUpTo_42 : decode cX0_lastUpTo 42 = .ok (.imul, 1) := by decide +kernel
theorem dX0_lastUpTo_43 : decode cX0_lastUpTo 43 = .ok (.bipush 63, 2) := by decide +kernel
theorem dX0_lastUpTo_45 : decode cX0_lastUpTo 45 = .ok (.iadd, 1) := by decide +kernel
theorem dX0_lastUpTo_46 : decode cX0_lastUpTo 46 = .ok (.lload 4, 2) := by decide +kernel
theorem dX0_lastUpTo_48 : decode cX0_lastUpTo 48 = .ok (.invokestatic 93, 3) := by decide +kernel
theorem dX0_lastUpTo_51 : decode cX0_lastUpTo 51 = .ok (.isub, 1) := by decide +kernel
theorem dX0_lastUpTo_52 : decode cX0_lastUpTo 52 = .ok (.ireturn, 1) := by decide +kernel
theorem dX0_lastUpTo_53 : decode cX0_lastUpTo 53 = .ok (.iinc 3 (-1), 3) := by decide +kernel
theorem dX0_lastUpTo_56 : decode cX0_lastUpTo 56 = .ok (.goto (-43), 3) := by decide +kernel
theorem dX0_lastUpTo_59 : decode cX0_lastUpTo 59 = .ok (.iconst (-1), 1) := by decide +kernel
theorem dX0_lastUpTo_60 : decode cX0_lastUpTo 60 = .ok (.ireturn, 1) := by decide +kernel
set_option maxRecDepth 20000 in
theorem ggX0_lastGapUpTo_X0_bitsIn : GoodIn wsX0_lastGapUpTo wsX0_bitsIn := goodIn_r _ [6, 7, 8, 9, 10, 11, 12, 13, 2] (by decide +kernel) (by decide +kernel)
set_option maxRecDepth 20000 in
theorem gX0_lastGapUpTo_X0_bitsIn : GoodIn wsX0_lastGapUpTo (va_wsS RX0 37 yX0_bitsIn wsX0_bitsIn) := goodIn_app (goodIn_of _ (by decide +kernel)) ggX0_lastGapUpTo_X0_bitsIn
set_option maxRecDepth 20000 in
theorem ggX0_lastGapUpTo_J13_numberOfLeadingZeros_95d88 : GoodIn wsX0_lastGapUpTo wsJ13_numberOfLeadingZeros_95d88 := goodIn_r _ [17, 18, 19, 20, 21, 22] (by decide +kernel) (by decide +kernel)
set_option maxRecDepth 20000 in
theorem gX0_lastGapUpTo_J13_numberOfLeadingZeros_95d88 : GoodIn wsX0_lastGapUpTo (va_wsS RX0 93 yJ13_numberOfLeadingZeros_95d88 wsJ13_numberOfLeadingZeros_95d88) := goodIn_app (goodIn_of _ (by decide +kernel)) ggX0_lastGapUpTo_J13_numberOfLeadingZeros_95d88
theorem dX0_lastGapUpTo_0 : decode cX0_lastGapUpTo 0 = .ok (.iload_n 1, 1) := by decide +kernel
theorem dX0_lastGapUpTo_1 : decode cX0_lastGapUpTo 1 = .ok (.sipush 1023, 3) := by decide +kernel
theorem dX0_lastGapUpTo_4 : decode cX0_lastGapUpTo 4 = .ok (.if_icmp .le 5, 3) := by decide +kernel
theorem dX0_lastGapUpTo_7 : decode cX0_lastGapUpTo 7 = .ok (.iload_n 1, 1) := by decide +kernel
theorem dX0_lastGapUpTo_8 : decode cX0_lastGapUpTo 8 = .ok (.ireturn, 1) := by decide +kernel
theorem dX0_lastGapUpTo_9 : decode cX0_lastGapUpTo 9 = .ok (.bipush 15, 2) := by decide +kernel
theorem dX0_lastGapUpTo_11 : decode cX0_lastGapUpTo 11 = .ok (.istore_n 2, 1) := by decide +kernel
theorem dX0_lastGapUpTo_12 : decode cX0_lastGapUpTo 12 = .ok (.iload_n 2, 1) := by decide +kernel
theorem dX0_lastGapUpTo_13 : decode cX0_lastGapUpTo 13 = .ok (.ifCond .lt 48, 3) := by decide +kernel
theorem dX0_lastGapUpTo_16 : decode cX0_lastGapUpTo 16 = .ok (.aload_n 0, 1) := by decide +kernel
theorem dX0_lastGapUpTo_17 : decode cX0_lastGapUpTo 17 = .ok (.getfield 9, 3) := by decide +kernel
theorem dX0_lastGapUpTo_20 : decode cX0_lastGapUpTo 20 = .ok (.iload_n 2, 1) := by decide +kernel
theorem dX0_lastGapUpTo_21 : decode cX0_lastGapUpTo 21 = .ok (.laload, 1) := by decide +kernel
theorem dX0_lastGapUpTo_22 : decode cX0_lastGapUpTo 22 = .ok (.ldc2_w 24, 3) := by decide +kernel
theorem dX0_lastGapUpTo_25 : decode cX0_lastGapUpTo 25 = .ok (.lxor, 1) := by decide +kernel
theorem dX0_lastGapUpTo_26 : decode cX0_lastGapUpTo 26 = .ok (.iload_n 2, 1) := by decide +kernel
theorem dX0_lastGapUpTo_27 : decode cX0_lastGapUpTo 27 = .ok (.iconst 0, 1) := by decide +kernel
theorem dX0_lastGapUpTo_28 : decode cX0_lastGapUpTo 28 = .ok (.iload_n 1, 1) := by decide +kernel
theorem dX0_lastGapUpTo_29 : decode cX0_lastGapUpTo 29 = .ok (.iconst 1, 1) := by decide +kernel
theorem dX0_lastGapUpTo_30 : decode cX0_lastGapUpTo 30 = .ok (.iadd, 1) := by decide +kernel
theorem dX0_lastGapUpTo_31 : decode cX0_lastGapUpTo 31 = .ok (.invokestatic 37, 3) := by decide +kernel
theorem dX0_lastGapUpTo_34 : decode cX0_lastGapUpTo 34 = .ok (.land, 1) := by decide +kernel
theorem dX0_lastGapUpTo_35 : decode cX0_lastGapUpTo 35 = .ok (.lstore_n 3, 1) := by decide +kernel
theorem dX0_lastGapUpTo_36 : decode cX0_lastGapUpTo 36 = .ok (.lload_n 3, 1) := by decide +kernel
theorem dX0_lastGapUpTo_37 : decode cX0_lastGapUpTo 37 = .ok (.lconst 0, 1) := by decide +kernel
theorem dX0_lastGapUpTo_38 : decode cX0_lastGapUpTo 38 = .ok (.lcmp, 1) := by decide +kernel
theorem dX0_lastGapUpTo_39 : decode cX0_lastGapUpTo 39 = .ok (.ifCond .eq 16, 3) := by decide +kernel
theorem dX0_lastGapUpTo_42 : decode cX0_lastGapUpTo 42 = .ok (.bipush 64, 2) := by decide +kernel
theorem dX0_lastGapUpTo_44 : decode cX0_lastGapUpTo 44 = .ok (.iload_n 2, 1) := by decide +kernel
theorem dX0_lastGapUpTo_45 : decode cX0_lastGapUpTo 45 = .ok (.imul, 1) := by decide +kernel
theorem dX0_lastGapUpTo_46 : decode cX0_lastGapUpTo 46 = .ok (.bipush 63, 2) := by decide +kernel
theorem dX0_lastGapUpTo_48 : decode cX0_lastGapUpTo 48 = .ok (.iadd, 1) := by decide +kernel
theorem dX0_lastGapUpTo_49 : decode cX0_lastGapUpTo 49 = .ok (.lload_n 3, 1) := by decide +kernel
theorem dX0_lastGapUpTo_50 : decode cX0_lastGapUpTo 50 = .ok (.invokestatic 93, 3) := by decide +kernel
theorem dX0_lastGapUpTo_53 : decode cX0_lastGapUpTo 53 = .ok (.isub, 1) := by decide +kernel
theorem dX0_lastGapUpTo_54 : decode cX0_lastGapUpTo 54 = .ok (.ireturn, 1) := by decide +kernel
theorem dX0_lastGapUpTo_55 : decode cX0_lastGapUpTo 55 = .ok (.iinc 2 (-1), 3) := by decide +kernel
theorem dX0_lastGapUpTo_58 : decode cX0_lastGapUpTo 58 = .ok (.goto (-46), 3) := by decide +kernel
theorem dX0_lastGapUpTo_61 : decode cX0_lastGapUpTo 61 = .ok (.iconst (-1), 1) := by decide +kernel
theorem dX0_lastGapUpTo_62 : decode cX0_lastGapUpTo 62 = .ok (.ireturn, 1) := by decide +kernel
set_option maxRecDepth 20000 in
theorem ggX0_memberInPlace_X0_end : GoodIn wsX0_memberInPlace wsX0_end := goodIn_r _ [5, 6, 7, 8, 4, 9, 10, 11, 12, 13, 14, 15, 16, 17, 18, 19, 20, 21, 22, 23, 24, 25, 26, 27, 28, 29, 30, 39] (by decide +kernel) (by decide +kernel)
set_option maxRecDepth 20000 in
theorem gX0_memberInPlace_X0_end : GoodIn wsX0_memberInPlace (wsV RX0 84 RX0 yX0_end wsX0_end) := goodIn_app (goodIn_of _ (by decide +kernel)) ggX0_memberInPlace_X0_end
set_option maxRecDepth 20000 in
theorem ggX0_memberInPlace_X0_holds : GoodIn wsX0_memberInPlace wsX0_holds := goodIn_r _ [34, 35, 36, 37, 4, 38, 14, 39] (by decide +kernel) (by decide +kernel)
set_option maxRecDepth 20000 in
theorem gX0_memberInPlace_X0_holds : GoodIn wsX0_memberInPlace (wsV RX0 58 RX0 yX0_holds wsX0_holds) := goodIn_app (goodIn_of _ (by decide +kernel)) ggX0_memberInPlace_X0_holds
theorem dX0_memberInPlace_0 : decode cX0_memberInPlace 0 = .ok (.iconst 0, 1) := by decide +kernel
theorem dX0_memberInPlace_1 : decode cX0_memberInPlace 1 = .ok (.istore_n 2, 1) := by decide +kernel
theorem dX0_memberInPlace_2 : decode cX0_memberInPlace 2 = .ok (.aload_n 0, 1) := by decide +kernel
theorem dX0_memberInPlace_3 : decode cX0_memberInPlace 3 = .ok (.invokevirtual 84, 3) := by decide +kernel
theorem dX0_memberInPlace_6 : decode cX0_memberInPlace 6 = .ok (.istore_n 3, 1) := by decide +kernel
theorem dX0_memberInPlace_7 : decode cX0_memberInPlace 7 = .ok (.iconst 0, 1) := by decide +kernel
theorem dX0_memberInPlace_8 : decode cX0_memberInPlace 8 = .ok (.istore 4, 2) := by decide +kernel
theorem dX0_memberInPlace_10 : decode cX0_memberInPlace 10 = .ok (.iload 4, 2) := by decide +kernel
theorem dX0_memberInPlace_12 : decode cX0_memberInPlace 12 = .ok (.iload_n 3, 1) := by decide +kernel
theorem dX0_memberInPlace_13 : decode cX0_memberInPlace 13 = .ok (.if_icmp .ge 29, 3) := by decide +kernel
theorem dX0_memberInPlace_16 : decode cX0_memberInPlace 16 = .ok (.aload_n 0, 1) := by decide +kernel
theorem dX0_memberInPlace_17 : decode cX0_memberInPlace 17 = .ok (.iload 4, 2) := by decide +kernel
theorem dX0_memberInPlace_19 : decode cX0_memberInPlace 19 = .ok (.invokevirtual 58, 3) := by decide +kernel
theorem dX0_memberInPlace_22 : decode cX0_memberInPlace 22 = .ok (.ifCond .eq 14, 3) := by decide +kernel
theorem dX0_memberInPlace_25 : decode cX0_memberInPlace 25 = .ok (.iload_n 2, 1) := by decide +kernel
theorem dX0_memberInPlace_26 : decode cX0_memberInPlace 26 = .ok (.iload_n 1, 1) := by decide +kernel
theorem dX0_memberInPlace_27 : decode cX0_memberInPlace 27 = .ok (.if_icmp .ne 6, 3) := by decide +kernel
theorem dX0_memberInPlace_30 : decode cX0_memberInPlace 30 = .ok (.iload 4, 2) := by decide +kernel
theorem dX0_memberInPlace_32 : decode cX0_memberInPlace 32 = .ok (.ireturn, 1) := by decide +kernel
theorem dX0_memberInPlace_33 : decode cX0_memberInPlace 33 = .ok (.iinc 2 1, 3) := by decide +kernel
theorem dX0_memberInPlace_36 : decode cX0_memberInPlace 36 = .ok (.iinc 4 1, 3) := by decide +kernel
theorem dX0_memberInPlace_39 : decode cX0_memberInPlace 39 = .ok (.goto (-29), 3) := by decide +kernel
theorem dX0_memberInPlace_42 : decode cX0_memberInPlace 42 = .ok (.iconst (-1), 1) := by decide +kernel
theorem dX0_memberInPlace_43 : decode cX0_memberInPlace 43 = .ok (.ireturn, 1) := by decide +kernel
set_option maxRecDepth 20000 in
theorem ggX0_total_X0_end : GoodIn wsX0_total wsX0_end := goodIn_r _ [5, 6, 7, 8, 4, 9, 10, 11, 12, 13, 14, 15, 16, 17, 18, 19, 20, 21, 22, 23, 24, 25, 26, 27, 28, 29, 30, 39] (by decide +kernel) (by decide +kernel)
set_option maxRecDepth 20000 in
theorem gX0_total_X0_end : GoodIn wsX0_total (wsV RX0 84 RX0 yX0_end wsX0_end) := goodIn_app (goodIn_of _ (by decide +kernel)) ggX0_total_X0_end
set_option maxRecDepth 20000 in
theorem ggX0_total_X0_holds : GoodIn wsX0_total wsX0_holds := goodIn_r _ [34, 35, 36, 37, 4, 38, 14, 39] (by decide +kernel) (by decide +kernel)
set_option maxRecDepth 20000 in
theorem gX0_total_X0_holds : GoodIn wsX0_total (wsV RX0 58 RX0 yX0_holds wsX0_holds) := goodIn_app (goodIn_of _ (by decide +kernel)) ggX0_total_X0_holds
theorem dX0_total_0 : decode cX0_total 0 = .ok (.lconst 0, 1) := by decide +kernel
theorem dX0_total_1 : decode cX0_total 1 = .ok (.lstore_n 1, 1) := by decide +kernel
theorem dX0_total_2 : decode cX0_total 2 = .ok (.aload_n 0, 1) := by decide +kernel
theorem dX0_total_3 : decode cX0_total 3 = .ok (.invokevirtual 84, 3) := by decide +kernel
theorem dX0_total_6 : decode cX0_total 6 = .ok (.istore_n 3, 1) := by decide +kernel
theorem dX0_total_7 : decode cX0_total 7 = .ok (.iconst 0, 1) := by decide +kernel
theorem dX0_total_8 : decode cX0_total 8 = .ok (.istore 4, 2) := by decide +kernel
theorem dX0_total_10 : decode cX0_total 10 = .ok (.iload 4, 2) := by decide +kernel
theorem dX0_total_12 : decode cX0_total 12 = .ok (.iload_n 3, 1) := by decide +kernel
theorem dX0_total_13 : decode cX0_total 13 = .ok (.if_icmp .ge 24, 3) := by decide +kernel
theorem dX0_total_16 : decode cX0_total 16 = .ok (.aload_n 0, 1) := by decide +kernel
theorem dX0_total_17 : decode cX0_total 17 = .ok (.iload 4, 2) := by decide +kernel
theorem dX0_total_19 : decode cX0_total 19 = .ok (.invokevirtual 58, 3) := by decide +kernel
theorem dX0_total_22 : decode cX0_total 22 = .ok (.ifCond .eq 9, 3) := by decide +kernel
theorem dX0_total_25 : decode cX0_total 25 = .ok (.lload_n 1, 1) := by decide +kernel
theorem dX0_total_26 : decode cX0_total 26 = .ok (.iload 4, 2) := by decide +kernel
theorem dX0_total_28 : decode cX0_total 28 = .ok (.i2l, 1) := by decide +kernel
theorem dX0_total_29 : decode cX0_total 29 = .ok (.ladd, 1) := by decide +kernel
theorem dX0_total_30 : decode cX0_total 30 = .ok (.lstore_n 1, 1) := by decide +kernel
theorem dX0_total_31 : decode cX0_total 31 = .ok (.iinc 4 1, 3) := by decide +kernel
theorem dX0_total_34 : decode cX0_total 34 = .ok (.goto (-24), 3) := by decide +kernel
theorem dX0_total_37 : decode cX0_total 37 = .ok (.lload_n 1, 1) := by decide +kernel
theorem dX0_total_38 : decode cX0_total 38 = .ok (.lreturn, 1) := by decide +kernel
set_option maxRecDepth 20000 in
theorem ggX0_rows_X0_end : GoodIn wsX0_rows wsX0_end := goodIn_r _ [5, 6, 7, 8, 4, 9, 10, 11, 12, 13, 14, 15, 16, 17, 18, 19, 20, 21, 22, 23, 24, 25, 26, 27, 28, 29, 30, 39] (by decide +kernel) (by decide +kernel)
set_option maxRecDepth 20000 in
theorem gX0_rows_X0_end : GoodIn wsX0_rows (wsV RX0 84 RX0 yX0_end wsX0_end) := goodIn_app (goodIn_of _ (by decide +kernel)) ggX0_rows_X0_end
set_option maxRecDepth 20000 in
theorem ggX0_rows_X0_holds : GoodIn wsX0_rows wsX0_holds := goodIn_r _ [34, 35, 36, 37, 4, 38, 14, 39] (by decide +kernel) (by decide +kernel)
set_option maxRecDepth 20000 in
theorem gX0_rows_X0_holds : GoodIn wsX0_rows (wsV RX0 58 RX0 yX0_holds wsX0_holds) := goodIn_app (goodIn_of _ (by decide +kernel)) ggX0_rows_X0_holds
theorem dX0_rows_0 : decode cX0_rows 0 = .ok (.iconst 0, 1) := by decide +kernel
theorem dX0_rows_1 : decode cX0_rows 1 = .ok (.istore_n 1, 1) := by decide +kernel
theorem dX0_rows_2 : decode cX0_rows 2 = .ok (.aload_n 0, 1) := by decide +kernel
theorem dX0_rows_3 : decode cX0_rows 3 = .ok (.invokevirtual 84, 3) := by decide +kernel
theorem dX0_rows_6 : decode cX0_rows 6 = .ok (.istore_n 2, 1) := by decide +kernel
theorem dX0_rows_7 : decode cX0_rows 7 = .ok (.iconst 0, 1) := by decide +kernel
theorem dX0_rows_8 : decode cX0_rows 8 = .ok (.istore_n 3, 1) := by decide +kernel
theorem dX0_rows_9 : decode cX0_rows 9 = .ok (.iload_n 3, 1) := by decide +kernel
theorem dX0_rows_10 : decode cX0_rows 10 = .ok (.iload_n 2, 1) := by decide +kernel
theorem dX0_rows_11 : decode cX0_rows 11 = .ok (.if_icmp .ge 30, 3) := by decide +kernel
theorem dX0_rows_14 : decode cX0_rows 14 = .ok (.aload_n 0, 1) := by decide +kernel
theorem dX0_rows_15 : decode cX0_rows 15 = .ok (.iload_n 3, 1) := by decide +kernel
theorem dX0_rows_16 : decode cX0_rows 16 = .ok (.invokevirtual 58, 3) := by decide +kernel
theorem dX0_rows_19 : decode cX0_rows 19 = .ok (.ifCond .eq 16, 3) := by decide +kernel
theorem dX0_rows_22 : decode cX0_rows 22 = .ok (.aload_n 0, 1) := by decide +kernel
theorem dX0_rows_23 : decode cX0_rows 23 = .ok (.iload_n 3, 1) := by decide +kernel
theorem dX0_rows_24 : decode cX0_rows 24 = .ok (.iconst 1, 1) := by decide +kernel
theorem dX0_rows_25 : decode cX0_rows 25 = .ok (.isub, 1) := by decide +kernel
theorem dX0_rows_26 : decode cX0_rows 26 = .ok (.invokevirtual 58, 3) := by decide +kernel
theorem dX0_rows_29 : decode cX0_rows 29 = .ok (.ifCond .ne 6, 3) := by decide +kernel
theorem dX0_rows_32 : decode cX0_rows 32 = .ok (.iinc 1 1, 3) := by decide +kernel
theorem dX0_rows_35 : decode cX0_rows 35 = .ok (.iinc 3 1, 3) := by decide +kernel
theorem dX0_rows_38 : decode cX0_rows 38 = .ok (.goto (-29), 3) := by decide +kernel
theorem dX0_rows_41 : decode cX0_rows 41 = .ok (.iload_n 1, 1) := by decide +kernel
theorem dX0_rows_42 : decode cX0_rows 42 = .ok (.ireturn, 1) := by decide +kernel
set_option maxRecDepth 20000 in
theorem ggX0_sizeOfCommon_J13_bitCount_95d88 : GoodIn wsX0_sizeOfCommon wsJ13_bitCount_95d88 := goodIn_r _ [5, 6, 7, 8] (by decide +kernel) (by decide +kernel)
set_option maxRecDepth 20000 in
theorem gX0_sizeOfCommon_J13_bitCount_95d88 : GoodIn wsX0_sizeOfCommon (va_wsS RX0 71 yJ13_bitCount_95d88 wsJ13_bitCount_95d88) := goodIn_app (goodIn_of _ (by decide +kernel)) ggX0_sizeOfCommon_J13_bitCount_95d88
theorem dX0_sizeOfCommon_0 : decode cX0_sizeOfCommon 0 = .ok (.iconst 0, 1) := by decide +kernel
theorem dX0_sizeOfCommon_1 : decode cX0_sizeOfCommon 1 = .ok (.istore_n 2, 1) := by decide +kernel
theorem dX0_sizeOfCommon_2 : decode cX0_sizeOfCommon 2 = .ok (.iconst 0, 1) := by decide +kernel
theorem dX0_sizeOfCommon_3 : decode cX0_sizeOfCommon 3 = .ok (.istore_n 3, 1) := by decide +kernel
theorem dX0_sizeOfCommon_4 : decode cX0_sizeOfCommon 4 = .ok (.iload_n 3, 1) := by decide +kernel
theorem dX0_sizeOfCommon_5 : decode cX0_sizeOfCommon 5 = .ok (.bipush 16, 2) := by decide +kernel
theorem dX0_sizeOfCommon_7 : decode cX0_sizeOfCommon 7 = .ok (.if_icmp .ge 28, 3) := by decide +kernel
theorem dX0_sizeOfCommon_10 : decode cX0_sizeOfCommon 10 = .ok (.iload_n 2, 1) := by decide +kernel
theorem dX0_sizeOfCommon_11 : decode cX0_sizeOfCommon 11 = .ok (.aload_n 0, 1) := by decide +kernel
theorem dX0_sizeOfCommon_12 : decode cX0_sizeOfCommon 12 = .ok (.getfield 9, 3) := by decide +kernel
theorem dX0_sizeOfCommon_15 : decode cX0_sizeOfCommon 15 = .ok (.iload_n 3, 1) := by decide +kernel
theorem dX0_sizeOfCommon_16 : decode cX0_sizeOfCommon 16 = .ok (.laload, 1) := by decide +kernel
theorem dX0_sizeOfCommon_17 : decode cX0_sizeOfCommon 17 = .ok (.aload_n 1, 1) := by decide +kernel
theorem dX0_sizeOfCommon_18 : decode cX0_sizeOfCommon 18 = .ok (.getfield 9, 3) := by decide +kernel
theorem dX0_sizeOfCommon_21 : decode cX0_sizeOfCommon 21 = .ok (.iload_n 3, 1) := by decide +kernel
theorem dX0_sizeOfCommon_22 : decode cX0_sizeOfCommon 22 = .ok (.laload, 1) := by decide +kernel
theorem dX0_sizeOfCommon_23 : decode cX0_sizeOfCommon 23 = .ok (.land, 1) := by decide +kernel
theorem dX0_sizeOfCommon_24 : decode cX0_sizeOfCommon 24 = .ok (.invokestatic 71, 3) := by decide +kernel
theorem dX0_sizeOfCommon_27 : decode cX0_sizeOfCommon 27 = .ok (.iadd, 1) := by decide +kernel
theorem dX0_sizeOfCommon_28 : decode cX0_sizeOfCommon 28 = .ok (.istore_n 2, 1) := by decide +kernel
theorem dX0_sizeOfCommon_29 : decode cX0_sizeOfCommon 29 = .ok (.iinc 3 1, 3) := by decide +kernel
theorem dX0_sizeOfCommon_32 : decode cX0_sizeOfCommon 32 = .ok (.goto (-28), 3) := by decide +kernel
theorem dX0_sizeOfCommon_35 : decode cX0_sizeOfCommon 35 = .ok (.iload_n 2, 1) := by decide +kernel
theorem dX0_sizeOfCommon_36 : decode cX0_sizeOfCommon 36 = .ok (.ireturn, 1) := by decide +kernel
set_option maxRecDepth 20000 in
theorem ggX0_sizeOfEither_J13_bitCount_95d88 : GoodIn wsX0_sizeOfEither wsJ13_bitCount_95d88 := goodIn_r _ [5, 6, 7, 8] (by decide +kernel) (by decide +kernel)
set_option maxRecDepth 20000 in
theorem gX0_sizeOfEither_J13_bitCount_95d88 : GoodIn wsX0_sizeOfEither (va_wsS RX0 71 yJ13_bitCount_95d88 wsJ13_bitCount_95d88) := goodIn_app (goodIn_of _ (by decide +kernel)) ggX0_sizeOfEither_J13_bitCount_95d88
theorem dX0_sizeOfEither_0 : decode cX0_sizeOfEither 0 = .ok (.iconst 0, 1) := by decide +kernel
theorem dX0_sizeOfEither_1 : decode cX0_sizeOfEither 1 = .ok (.istore_n 2, 1) := by decide +kernel
theorem dX0_sizeOfEither_2 : decode cX0_sizeOfEither 2 = .ok (.iconst 0, 1) := by decide +kernel
theorem dX0_sizeOfEither_3 : decode cX0_sizeOfEither 3 = .ok (.istore_n 3, 1) := by decide +kernel
theorem dX0_sizeOfEither_4 : decode cX0_sizeOfEither 4 = .ok (.iload_n 3, 1) := by decide +kernel
theorem dX0_sizeOfEither_5 : decode cX0_sizeOfEither 5 = .ok (.bipush 16, 2) := by decide +kernel
theorem dX0_sizeOfEither_7 : decode cX0_sizeOfEither 7 = .ok (.if_icmp .ge 28, 3) := by decide +kernel
theorem dX0_sizeOfEither_10 : decode cX0_sizeOfEither 10 = .ok (.iload_n 2, 1) := by decide +kernel
theorem dX0_sizeOfEither_11 : decode cX0_sizeOfEither 11 = .ok (.aload_n 0, 1) := by decide +kernel
theorem dX0_sizeOfEither_12 : decode cX0_sizeOfEither 12 = .ok (.getfield 9, 3) := by decide +kernel
theorem dX0_sizeOfEither_15 : decode cX0_sizeOfEither 15 = .ok (.iload_n 3, 1) := by decide +kernel
theorem dX0_sizeOfEither_16 : decode cX0_sizeOfEither 16 = .ok (.laload, 1) := by decide +kernel
theorem dX0_sizeOfEither_17 : decode cX0_sizeOfEither 17 = .ok (.aload_n 1, 1) := by decide +kernel
theorem dX0_sizeOfEither_18 : decode cX0_sizeOfEither 18 = .ok (.getfield 9, 3) := by decide +kernel
theorem dX0_sizeOfEither_21 : decode cX0_sizeOfEither 21 = .ok (.iload_n 3, 1) := by decide +kernel
theorem dX0_sizeOfEither_22 : decode cX0_sizeOfEither 22 = .ok (.laload, 1) := by decide +kernel
theorem dX0_sizeOfEither_23 : decode cX0_sizeOfEither 23 = .ok (.lor, 1) := by decide +kernel
theorem dX0_sizeOfEither_24 : decode cX0_sizeOfEither 24 = .ok (.invokestatic 71, 3) := by decide +kernel
theorem dX0_sizeOfEither_27 : decode cX0_sizeOfEither 27 = .ok (.iadd, 1) := by decide +kernel
theorem dX0_sizeOfEither_28 : decode cX0_sizeOfEither 28 = .ok (.istore_n 2, 1) := by decide +kernel
theorem dX0_sizeOfEither_29 : decode cX0_sizeOfEither 29 = .ok (.iinc 3 1, 3) := by decide +kernel
theorem dX0_sizeOfEither_32 : decode cX0_sizeOfEither 32 = .ok (.goto (-28), 3) := by decide +kernel
theorem dX0_sizeOfEither_35 : decode cX0_sizeOfEither 35 = .ok (.iload_n 2, 1) := by decide +kernel
theorem dX0_sizeOfEither_36 : decode cX0_sizeOfEither 36 = .ok (.ireturn, 1) := by decide +kernel
set_option maxRecDepth 20000 in
theorem ggX0_firstCommonWith_J13_numberOfTrailingZeros_95d88 : GoodIn wsX0_firstCommonWith wsJ13_numberOfTrailingZeros_95d88 := goodIn_r _ [5, 6, 7, 8, 9, 10] (by decide +kernel) (by decide +kernel)
set_option maxRecDepth 20000 in
theorem gX0_firstCommonWith_J13_numberOfTrailingZeros_95d88 : GoodIn wsX0_firstCommonWith (va_wsS RX0 90 yJ13_numberOfTrailingZeros_95d88 wsJ13_numberOfTrailingZeros_95d88) := goodIn_app (goodIn_of _ (by decide +kernel)) ggX0_firstCommonWith_J13_numberOfTrailingZeros_95d88
theorem dX0_firstCommonWith_0 : decode cX0_firstCommonWith 0 = .ok (.iconst 0, 1) := by decide +kernel
theorem dX0_firstCommonWith_1 : decode cX0_firstCommonWith 1 = .ok (.istore_n 2, 1) := by decide +kernel
theorem dX0_firstCommonWith_2 : decode cX0_firstCommonWith 2 = .ok (.iload_n 2, 1) := by decide +kernel
theorem dX0_firstCommonWith_3 : decode cX0_firstCommonWith 3 = .ok (.bipush 16, 2) := by decide +kernel
theorem dX0_firstCommonWith_5 : decode cX0_firstCommonWith 5 = .ok (.if_icmp .ge 39, 3) := by decide +kernel
theorem dX0_firstCommonWith_8 : decode cX0_firstCommonWith 8 = .ok (.aload_n 0, 1) := by decide +kernel
theorem dX0_firstCommonWith_9 : decode cX0_firstCommonWith 9 = .ok (.getfield 9, 3) := by decide +kernel
theorem dX0_firstCommonWith_12 : decode cX0_firstCommonWith 12 = .ok (.iload_n 2, 1) := by decide +kernel
theorem dX0_firstCommonWith_13 : decode cX0_firstCommonWith 13 = .ok (.laload, 1) := by decide +kernel
theorem dX0_firstCommonWith_14 : decode cX0_firstCommonWith 14 = .ok (.aload_n 1, 1) := by decide +kernel
theorem dX0_firstCommonWith_15 : decode cX0_firstCommonWith 15 = .ok (.getfield 9, 3) := by decide +kernel
theorem dX0_firstCommonWith_18 : decode cX0_firstCommonWith 18 = .ok (.iload_n 2, 1) := by decide +kernel
theorem dX0_firstCommonWith_19 : decode cX0_firstCommonWith 19 = .ok (.laload, 1) := by decide +kernel
theorem dX0_firstCommonWith_20 : decode cX0_firstCommonWith 20 = .ok (.land, 1) := by decide +kernel
theorem dX0_firstCommonWith_21 : decode cX0_firstCommonWith 21 = .ok (.lstore_n 3, 1) := by decide +kernel
theorem dX0_firstCommonWith_22 : decode cX0_firstCommonWith 22 = .ok (.lload_n 3, 1) := by decide +kernel
theorem dX0_firstCommonWith_23 : decode cX0_firstCommonWith 23 = .ok (.lconst 0, 1) := by decide +kernel
theorem dX0_firstCommonWith_24 : decode cX0_firstCommonWith 24 = .ok (.lcmp, 1) := by decide +kernel
theorem dX0_firstCommonWith_25 : decode cX0_firstCommonWith 25 = .ok (.ifCond .eq 13, 3) := by decide +kernel
theorem dX0_firstCommonWith_28 : decode cX0_firstCommonWith 28 = .ok (.bipush 64, 2) := by decide +kernel
theorem dX0_firstCommonWith_30 : decode cX0_firstCommonWith 30 = .ok (.iload_n 2, 1) := by decide +kernel
theorem dX0_firstCommonWith_31 : decode cX0_firstCommonWith 31 = .ok (.imul, 1) := by decide +kernel
theorem dX0_firstCommonWith_32 : decode cX0_firstCommonWith 32 = .ok (.lload_n 3, 1) := by decide +kernel
theorem dX0_firstCommonWith_33 : decode cX0_firstCommonWith 33 = .ok (.invokestatic 90, 3) := by decide +kernel
theorem dX0_firstCommonWith_36 : decode cX0_firstCommonWith 36 = .ok (.iadd, 1) := by decide +kernel
theorem dX0_firstCommonWith_37 : decode cX0_firstCommonWith 37 = .ok (.ireturn, 1) := by decide +kernel
theorem dX0_firstCommonWith_38 : decode cX0_firstCommonWith 38 = .ok (.iinc 2 1, 3) := by decide +kernel
theorem dX0_firstCommonWith_41 : decode cX0_firstCommonWith 41 = .ok (.goto (-39), 3) := by decide +kernel
theorem dX0_firstCommonWith_44 : decode cX0_firstCommonWith 44 = .ok (.iconst (-1), 1) := by decide +kernel
theorem dX0_firstCommonWith_45 : decode cX0_firstCommonWith 45 = .ok (.ireturn, 1) := by decide +kernel
set_option maxRecDepth 20000 in
theorem ggX0_keepsLawsWith_X0_size : GoodIn wsX0_keepsLawsWith wsX0_size := goodIn_r _ [7, 8, 9, 10, 6, 11, 1, 12, 13, 14, 15, 16, 17, 18, 19, 20, 21, 2, 22, 23, 24, 25, 26, 27, 28, 37] (by decide +kernel) (by decide +kernel)
set_option maxRecDepth 20000 in
theorem gX0_keepsLawsWith_X0_size : GoodIn wsX0_keepsLawsWith (wsV RX0 96 RX0 yX0_size wsX0_size) := goodIn_app (goodIn_of _ (by decide +kernel)) ggX0_keepsLawsWith_X0_size
set_option maxRecDepth 20000 in
theorem ggX0_keepsLawsWith_X0_sizeOfCommon : GoodIn wsX0_keepsLawsWith wsX0_sizeOfCommon := goodIn_r _ [32, 1, 22, 23, 24, 25, 26, 27, 28, 37] (by decide +kernel) (by decide +kernel)
set_option maxRecDepth 20000 in
theorem gX0_keepsLawsWith_X0_sizeOfCommon : GoodIn wsX0_keepsLawsWith (wsV RX0 99 RX0 yX0_sizeOfCommon wsX0_sizeOfCommon) := goodIn_app (goodIn_of _ (by decide +kernel)) ggX0_keepsLawsWith_X0_sizeOfCommon
set_option maxRecDepth 20000 in
theorem ggX0_keepsLawsWith_X0_sizeOfEither : GoodIn wsX0_keepsLawsWith wsX0_sizeOfEither := goodIn_r _ [36, 1, 22, 23, 24, 25, 26, 27, 28, 37] (by decide +kernel) (by decide +kernel)
set_option maxRecDepth 20000 in
theorem gX0_keepsLawsWith_X0_sizeOfEither : GoodIn wsX0_keepsLawsWith (wsV RX0 103 RX0 yX0_sizeOfEither wsX0_sizeOfEither) := goodIn_app (goodIn_of _ (by decide +kernel)) ggX0_keepsLawsWith_X0_sizeOfEither
theorem dX0_keepsLawsWith_0 : decode cX0_keepsLawsWith 0 = .ok (.iconst 0, 1) := by decide +kernel
theorem dX0_keepsLawsWith_1 : decode cX0_keepsLawsWith 1 = .ok (.istore_n 2, 1) := by decide +kernel
theorem dX0_keepsLawsWith_2 : decode cX0_keepsLawsWith 2 = .ok (.iload_n 2, 1) := by decide +kernel
theorem dX0_keepsLawsWith_3 : decode cX0_keepsLawsWith 3 = .ok (.bipush 16, 2) := by decide +kernel
theorem dX0_keepsLawsWith_5 : decode cX0_keepsLawsWith 5 = .ok (.if_icmp .ge 53, 3) := by decide +kernel
theorem dX0_keepsLawsWith_8 : decode cX0_keepsLawsWith 8 = .ok (.aload_n 0, 1) := by decide +kernel
theorem dX0_keepsLawsWith_9 : decode cX0_keepsLawsWith 9 = .ok (.getfield 9, 3) := by decide +kernel
theorem dX0_keepsLawsWith_12 : decode cX0_keepsLawsWith 12 = .ok (.iload_n 2, 1) := by decide +kernel
theorem dX0_keepsLawsWith_13 : decode cX0_keepsLawsWith 13 = .ok (.laload, 1) := by decide +kernel
theorem dX0_keepsLawsWith_14 : decode cX0_keepsLawsWith 14 = .ok (.aload_n 1, 1) := by decide +kernel
theorem dX0_keepsLawsWith_15 : decode cX0_keepsLawsWith 15 = .ok (.getfield 9, 3) := by decide +kernel
theorem dX0_keepsLawsWith_18 : decode cX0_keepsLawsWith 18 = .ok (.iload_n 2, 1) := by decide +kernel
theorem dX0_keepsLawsWith_19 : decode cX0_keepsLawsWith 19 = .ok (.laload, 1) := by decide +kernel
theorem dX0_keepsLawsWith_20 : decode cX0_keepsLawsWith 20 = .ok (.lor, 1) := by decide +kernel
theorem dX0_keepsLawsWith_21 : decode cX0_keepsLawsWith 21 = .ok (.ldc2_w 24, 3) := by decide +kernel
theorem dX0_keepsLawsWith_24 : decode cX0_keepsLawsWith 24 = .ok (.lxor, 1) := by decide +kernel
theorem dX0_keepsLawsWith_25 : decode cX0_keepsLawsWith 25 = .ok (.aload_n 0, 1) := by decide +kernel
theorem dX0_keepsLawsWith_26 : decode cX0_keepsLawsWith 26 = .ok (.getfield 9, 3) := by decide +kernel
theorem dX0_keepsLawsWith_29 : decode cX0_keepsLawsWith 29 = .ok (.iload_n 2, 1) := by decide +kernel
theorem dX0_keepsLawsWith_30 : decode cX0_keepsLawsWith 30 = .ok (.laload, 1) := by decide +kernel
theorem dX0_keepsLawsWith_31 : decode cX0_keepsLawsWith 31 = .ok (.ldc2_w 24, 3) := by decide +kernel
theorem dX0_keepsLawsWith_34 : decode cX0_keepsLawsWith 34 = .ok (.lxor, 1) := by decide +kernel
theorem dX0_keepsLawsWith_35 : decode cX0_keepsLawsWith 35 = .ok (.aload_n 1, 1) := by decide +kernel
theorem dX0_keepsLawsWith_36 : decode cX0_keepsLawsWith 36 = .ok (.getfield 9, 3) := by decide +kernel
theorem dX0_keepsLawsWith_39 : decode cX0_keepsLawsWith 39 = .ok (.iload_n 2, 1) := by decide +kernel
theorem dX0_keepsLawsWith_40 : decode cX0_keepsLawsWith 40 = .ok (.laload, 1) := by decide +kernel
theorem dX0_keepsLawsWith_41 : decode cX0_keepsLawsWith 41 = .ok (.ldc2_w 24, 3) := by decide +kernel
theorem dX0_keepsLawsWith_44 : decode cX0_keepsLawsWith 44 = .ok (.lxor, 1) := by decide +kernel
theorem dX0_keepsLawsWith_45 : decode cX0_keepsLawsWith 45 = .ok (.land, 1) := by decide +kernel
theorem dX0_keepsLawsWith_46 : decode cX0_keepsLawsWith 46 = .ok (.lcmp, 1) := by decide +kernel
theorem dX0_keepsLawsWith_47 : decode cX0_keepsLawsWith 47 = .ok (.ifCond .eq 5, 3) := by decide +kernel
theorem dX0_keepsLawsWith_50 : decode cX0_keepsLawsWith 50 = .ok (.iconst 0, 1) := by decide +kernel
theorem dX0_keepsLawsWith_51 : decode cX0_keepsLawsWith 51 = .ok (.ireturn, 1) := by decide +kernel
theorem dX0_keepsLawsWith_52 : decode cX0_keepsLawsWith 52 = .ok (.iinc 2 1, 3) := by decide +kernel
theorem dX0_keepsLawsWith_55 : decode cX0_keepsLawsWith 55 = .ok (.goto (-53), 3) := by decide +kernel
theorem dX0_keepsLawsWith_58 : decode cX0_keepsLawsWith 58 = .ok (.aload_n 0, 1) := by decide +kernel
theorem dX0_keepsLawsWith_59 : decode cX0_keepsLawsWith 59 = .ok (.invokevirtual 96, 3) := by decide +kernel
theorem dX0_keepsLawsWith_62 : decode cX0_keepsLawsWith 62 = .ok (.aload_n 1, 1) := by decide +kernel
theorem dX0_keepsLawsWith_63 : decode cX0_keepsLawsWith 63 = .ok (.invokevirtual 96, 3) := by decide +kernel
theorem dX0_keepsLawsWith_66 : decode cX0_keepsLawsWith 66 = .ok (.iadd, 1) := by decide +kernel
theorem dX0_keepsLawsWith_67 : decode cX0_keepsLawsWith 67 = .ok (.aload_n 0, 1) := by decide +kernel
theorem dX0_keepsLawsWith_68 : decode cX0_keepsLawsWith 68 = .ok (.aload_n 1, 1) := by decide +kernel
theorem dX0_keepsLawsWith_69 : decode cX0_keepsLawsWith 69 = .ok (.invokevirtual 99, 3) := by decide +kernel
theorem dX0_keepsLawsWith_72 : decode cX0_keepsLawsWith 72 = .ok (.isub, 1) := by decide +kernel
theorem dX0_keepsLawsWith_73 : decode cX0_keepsLawsWith 73 = .ok (.aload_n 0, 1) := by decide +kernel
theorem dX0_keepsLawsWith_74 : decode cX0_keepsLawsWith 74 = .ok (.aload_n 1, 1) := by decide +kernel
theorem dX0_keepsLawsWith_75 : decode cX0_keepsLawsWith 75 = .ok (.invokevirtual 103, 3) := by decide +kernel
theorem dX0_keepsLawsWith_78 : decode cX0_keepsLawsWith 78 = .ok (.if_icmp .ne 7, 3) := by decide +kernel
theorem dX0_keepsLawsWith_81 : decode cX0_keepsLawsWith 81 = .ok (.iconst 1, 1) := by decide +kernel
theorem dX0_keepsLawsWith_82 : decode cX0_keepsLawsWith 82 = .ok (.goto 4, 3) := by decide +kernel
theorem dX0_keepsLawsWith_85 : decode cX0_keepsLawsWith 85 = .ok (.iconst 0, 1) := by decide +kernel
theorem dX0_keepsLawsWith_86 : decode cX0_keepsLawsWith 86 = .ok (.ireturn, 1) := by decide +kernel
set_option maxRecDepth 20000 in
theorem ggX1_init_X5_init : GoodIn wsX1_init wsX5_init := goodIn_r _ [17, 18, 2, 3, 10, 19, 20, 21, 22, 23, 24, 28, 29, 30, 31, 32, 33] (by decide +kernel) (by decide +kernel)
set_option maxRecDepth 20000 in
theorem gX1_init_X5_init_n13 : GoodIn wsX1_init (wsX5_init) := ggX1_init_X5_init
set_option maxRecDepth 20000 in
theorem ggX1_init_X2_init : GoodIn wsX1_init wsX2_init := goodIn_r _ [26, 27, 2, 3] (by decide +kernel) (by decide +kernel)
set_option maxRecDepth 20000 in
theorem gX1_init_X2_init_n35 : GoodIn wsX1_init (wsX2_init) := ggX1_init_X2_init
theorem dX1_init_0 : decode cX1_init 0 = .ok (.aload_n 0, 1) := by decide +kernel
theorem dX1_init_1 : decode cX1_init 1 = .ok (.invokespecial 5, 3) := by decide +kernel
theorem dX1_init_4 : decode cX1_init 4 = .ok (.aload_n 0, 1) := by decide +kernel
theorem dX1_init_5 : decode cX1_init 5 = .ok (.new 11, 3) := by decide +kernel
theorem dX1_init_8 : decode cX1_init 8 = .ok (.dup, 1) := by decide +kernel
theorem dX1_init_9 : decode cX1_init 9 = .ok (.invokespecial 13, 3) := by decide +kernel
theorem dX1_init_12 : decode cX1_init 12 = .ok (.putfield 14, 3) := by decide +kernel
theorem dX1_init_15 : decode cX1_init 15 = .ok (.aload_n 0, 1) := by decide +kernel
theorem dX1_init_16 : decode cX1_init 16 = .ok (.bipush 100, 2) := by decide +kernel
theorem dX1_init_18 : decode cX1_init 18 = .ok (.anewarray 18, 3) := by decide +kernel
theorem dX1_init_21 : decode cX1_init 21 = .ok (.putfield 20, 3) := by decide +kernel
theorem dX1_init_24 : decode cX1_init 24 = .ok (.aload_n 0, 1) := by decide +kernel
theorem dX1_init_25 : decode cX1_init 25 = .ok (.sipush 400, 3) := by decide +kernel
theorem dX1_init_28 : decode cX1_init 28 = .ok (.newarray .int, 2) := by decide +kernel
theorem dX1_init_30 : decode cX1_init 30 = .ok (.putfield 24, 3) := by decide +kernel
theorem dX1_init_33 : decode cX1_init 33 = .ok (.aload_n 0, 1) := by decide +kernel
theorem dX1_init_34 : decode cX1_init 34 = .ok (.iconst 0, 1) := by decide +kernel
theorem dX1_init_35 : decode cX1_init 35 = .ok (.putfield 28, 3) := by decide +kernel
theorem dX1_init_38 : decode cX1_init 38 = .ok (.aload_n 0, 1) := by decide +kernel
theorem dX1_init_39 : decode cX1_init 39 = .ok (.iconst 0, 1) := by decide +kernel
theorem dX1_init_40 : decode cX1_init 40 = .ok (.putfield 32, 3) := by decide +kernel
theorem dX1_init_43 : decode cX1_init 43 = .ok (.iconst 0, 1) := by decide +kernel
theorem dX1_init_44 : decode cX1_init 44 = .ok (.istore_n 1, 1) := by decide +kernel
theorem dX1_init_45 : decode cX1_init 45 = .ok (.iload_n 1, 1) := by decide +kernel
theorem dX1_init_46 : decode cX1_init 46 = .ok (.bipush 100, 2) := by decide +kernel
theorem dX1_init_48 : decode cX1_init 48 = .ok (.if_icmp .ge 22, 3) := by decide +kernel
theorem dX1_init_51 : decode cX1_init 51 = .ok (.aload_n 0, 1) := by decide +kernel
theorem dX1_init_52 : decode cX1_init 52 = .ok (.getfield 20, 3) := by decide +kernel
theorem dX1_init_55 : decode cX1_init 55 = .ok (.iload_n 1, 1) := by decide +kernel
theorem dX1_init_56 : decode cX1_init 56 = .ok (.new 18, 3) := by decide +kernel
theorem dX1_init_59 : decode cX1_init 59 = .ok (.dup, 1) := by decide +kernel
theorem dX1_init_60 : decode cX1_init 60 = .ok (.invokespecial 35, 3) := by decide +kernel
theorem dX1_init_63 : decode cX1_init 63 = .ok (.aastore, 1) := by decide +kernel
theorem dX1_init_64 : decode cX1_init 64 = .ok (.iinc 1 1, 3) := by decide +kernel
theorem dX1_init_67 : decode cX1_init 67 = .ok (.goto (-22), 3) := by decide +kernel
theorem dX1_init_70 : decode cX1_init 70 = .ok (.return_, 1) := by decide +kernel
theorem dX1_statements_0 : decode cX1_statements 0 = .ok (.aload_n 0, 1) := by decide +kernel
theorem dX1_statements_1 : decode cX1_statements 1 = .ok (.getfield 28, 3) := by decide +kernel
theorem dX1_statements_4 : decode cX1_statements 4 = .ok (.ireturn, 1) := by decide +kernel
theorem dX1_statement_0 : decode cX1_statement 0 = .ok (.aload_n 0, 1) := by decide +kernel
theorem dX1_statement_1 : decode cX1_statement 1 = .ok (.getfield 20, 3) := by decide +kernel
theorem dX1_statement_4 : decode cX1_statement 4 = .ok (.iload_n 1, 1) := by decide +kernel
theorem dX1_statement_5 : decode cX1_statement 5 = .ok (.aaload, 1) := by decide +kernel
theorem dX1_statement_6 : decode cX1_statement 6 = .ok (.areturn, 1) := by decide +kernel
set_option maxRecDepth 20000 in
theorem ggX1_fill_X0_clear : GoodIn wsX1_fill wsX0_clear := goodIn_r _ [6, 7, 8, 9, 5, 10, 11, 12, 13, 14, 15, 16, 17, 18, 19, 20, 21, 22, 32] (by decide +kernel) (by decide +kernel)
set_option maxRecDepth 20000 in
theorem gX1_fill_X0_clear : GoodIn wsX1_fill (wsV RX1 36 RX0 yX0_clear wsX0_clear) := goodIn_app (goodIn_of _ (by decide +kernel)) ggX1_fill_X0_clear
set_option maxRecDepth 20000 in
theorem ggX1_fill_X0_includeOne : GoodIn wsX1_fill wsX0_includeOne := goodIn_r _ [26, 11, 32] (by decide +kernel) (by decide +kernel)
set_option maxRecDepth 20000 in
theorem gX1_fill_X0_includeOne : GoodIn wsX1_fill (wsV RX1 41 RX0 yX0_includeOne wsX0_includeOne) := goodIn_app (goodIn_of _ (by decide +kernel)) ggX1_fill_X0_includeOne
theorem dX1_fill_0 : decode cX1_fill 0 = .ok (.aload_n 1, 1) := by decide +kernel
theorem dX1_fill_1 : decode cX1_fill 1 = .ok (.invokevirtual 36, 3) := by decide +kernel
theorem dX1_fill_4 : decode cX1_fill 4 = .ok (.iload_n 2, 1) := by decide +kernel
theorem dX1_fill_5 : decode cX1_fill 5 = .ok (.istore 4, 2) := by decide +kernel
theorem dX1_fill_7 : decode cX1_fill 7 = .ok (.iload 4, 2) := by decide +kernel
theorem dX1_fill_9 : decode cX1_fill 9 = .ok (.iload_n 3, 1) := by decide +kernel
theorem dX1_fill_10 : decode cX1_fill 10 = .ok (.if_icmp .ge 28, 3) := by decide +kernel
theorem dX1_fill_13 : decode cX1_fill 13 = .ok (.iload 4, 2) := by decide +kernel
theorem dX1_fill_15 : decode cX1_fill 15 = .ok (.sipush 400, 3) := by decide +kernel
theorem dX1_fill_18 : decode cX1_fill 18 = .ok (.if_icmp .ge 20, 3) := by decide +kernel
theorem dX1_fill_21 : decode cX1_fill 21 = .ok (.aload_n 1, 1) := by decide +kernel
theorem dX1_fill_22 : decode cX1_fill 22 = .ok (.aload_n 0, 1) := by decide +kernel
theorem dX1_fill_23 : decode cX1_fill 23 = .ok (.getfield 24, 3) := by decide +kernel
theorem dX1_fill_26 : decode cX1_fill 26 = .ok (.iload 4, 2) := by decide +kernel
theorem dX1_fill_28 : decode cX1_fill 28 = .ok (.iaload, 1) := by decide +kernel
theorem dX1_fill_29 : decode cX1_fill 29 = .ok (.invokevirtual 41, 3) := by decide +kernel
theorem dX1_fill_32 : decode cX1_fill 32 = .ok (.iinc 4 1, 3) := by decide +kernel
theorem dX1_fill_35 : decode cX1_fill 35 = .ok (.goto (-28), 3) := by decide +kernel
theorem dX1_fill_38 : decode cX1_fill 38 = .ok (.return_, 1) := by decide +kernel
set_option maxRecDepth 20000 in
theorem ggX1_read_X5_readAll : GoodIn wsX1_read wsX5_readAll := goodIn_r _ [9, 10, 11, 12, 13, 14, 15, 16, 17, 18, 19, 20, 21, 22, 23, 24, 25, 8, 26, 27, 28, 29, 30, 31, 32, 33, 34, 35, 36, 37, 38, 39, 40, 41, 42, 43, 44, 45, 46, 47, 48, 49, 50, 51, 52, 53, 54, 55, 56, 57, 58, 59, 60, 61, 62, 63, 64, 65, 66, 67, 68, 69, 70, 71, 72, 73, 74, 75, 76, 77, 78, 79, 80, 81, 82, 83, 84, 85, 86, 87, 88, 89, 90, 91, 92, 93, 94, 95, 96, 97, 98, 99, 100, 101, 102, 103, 104, 105, 106, 107, 108, 109, 110, 111, 112, 113, 114, 115, 116, 117, 118, 119, 120, 121, 122, 123, 124, 125, 126, 127, 128, 129, 130, 131, 132, 133, 134, 135, 136, 137, 189, 190, 191, 192, 193, 194, 195, 196, 197, 198, 199, 200] (by decide +kernel) (by decide +kernel)
set_option maxRecDepth 20000 in
theorem gX1_read_X5_readAll : GoodIn wsX1_read (wsV RX1 45 RX5 yX5_readAll wsX5_readAll) := goodIn_app (goodIn_of _ (by decide +kernel)) ggX1_read_X5_readAll
set_option maxRecDepth 20000 in
theorem ggX1_read_X5_kind : GoodIn wsX1_read wsX5_kind := goodIn_r _ [141, 11, 10, 46, 189, 190, 191, 192, 193, 194] (by decide +kernel) (by decide +kernel)
set_option maxRecDepth 20000 in
theorem gX1_read_X5_kind : GoodIn wsX1_read (wsV RX1 49 RX5 yX5_kind wsX5_kind) := goodIn_app (goodIn_of _ (by decide +kernel)) ggX1_read_X5_kind
set_option maxRecDepth 20000 in
theorem ggX1_read_X1_readStatement : GoodIn wsX1_read wsX1_readStatement := goodIn_r _ [146, 3, 147, 138, 139, 140, 8, 141, 11, 10, 46, 148, 149, 150, 151, 47, 152, 153, 154, 155, 156, 157, 158, 145, 159, 160, 161, 162, 163, 164, 165, 166, 167, 168, 169, 170, 171, 172, 173, 174, 2, 175, 176, 177, 178, 179, 184, 185, 186, 187, 188, 201, 202, 203, 204, 189, 190, 191, 192, 193, 194] (by decide +kernel) (by decide +kernel)
set_option maxRecDepth 20000 in
theorem gX1_read_X1_readStatement : GoodIn wsX1_read (wsV RX1 53 RX1 yX1_readStatement wsX1_readStatement) := goodIn_app (goodIn_of _ (by decide +kernel)) ggX1_read_X1_readStatement
set_option maxRecDepth 20000 in
theorem ggX1_read_X5_start : GoodIn wsX1_read wsX5_start := goodIn_r _ [183, 11, 10, 48, 12, 189, 190, 191, 192, 193, 194] (by decide +kernel) (by decide +kernel)
set_option maxRecDepth 20000 in
theorem gX1_read_X5_start : GoodIn wsX1_read (wsV RX1 57 RX5 yX5_start wsX5_start) := goodIn_app (goodIn_of _ (by decide +kernel)) ggX1_read_X5_start
theorem dX1_read_0 : decode cX1_read 0 = .ok (.aload_n 0, 1) := by decide +kernel
theorem dX1_read_1 : decode cX1_read 1 = .ok (.iconst 0, 1) := by decide +kernel
theorem dX1_read_2 : decode cX1_read 2 = .ok (.putfield 28, 3) := by decide +kernel
theorem dX1_read_5 : decode cX1_read 5 = .ok (.aload_n 0, 1) := by decide +kernel
theorem dX1_read_6 : decode cX1_read 6 = .ok (.iconst 0, 1) := by decide +kernel
theorem dX1_read_7 : decode cX1_read 7 = .ok (.putfield 32, 3) := by decide +kernel
theorem dX1_read_10 : decode cX1_read 10 = .ok (.aload_n 0, 1) := by decide +kernel
theorem dX1_read_11 : decode cX1_read 11 = .ok (.getfield 14, 3) := by decide +kernel
theorem dX1_read_14 : decode cX1_read 14 = .ok (.aload_n 1, 1) := by decide +kernel
theorem dX1_read_15 : decode cX1_read 15 = .ok (.invokevirtual 45, 3) := by decide +kernel
theorem dX1_read_18 : decode cX1_read 18 = .ok (.iconst 0, 1) := by decide +kernel
theorem dX1_read_19 : decode cX1_read 19 = .ok (.istore_n 2, 1) := by decide +kernel
theorem dX1_read_20 : decode cX1_read 20 = .ok (.iload_n 2, 1) := by decide +kernel
theorem dX1_read_21 : decode cX1_read 21 = .ok (.bipush 100, 2) := by decide +kernel
theorem dX1_read_23 : decode cX1_read 23 = .ok (.if_icmp .ge 50, 3) := by decide +kernel
theorem dX1_read_26 : decode cX1_read 26 = .ok (.aload_n 0, 1) := by decide +kernel
theorem dX1_read_27 : decode cX1_read 27 = .ok (.getfield 14, 3) := by decide +kernel
theorem dX1_read_30 : decode cX1_read 30 = .ok (.invokevirtual 49, 3) := by decide +kernel
theorem dX1_read_33 : decode cX1_read 33 = .ok (.ifCond .eq 40, 3) := by decide +kernel
theorem dX1_read_36 : decode cX1_read 36 = .ok (.aload_n 0, 1) := by decide +kernel
theorem dX1_read_37 : decode cX1_read 37 = .ok (.aload_n 0, 1) := by decide +kernel
theorem dX1_read_38 : decode cX1_read 38 = .ok (.getfield 20, 3) := by decide +kernel
theorem dX1_read_41 : decode cX1_read 41 = .ok (.iload_n 2, 1) := by decide +kernel
theorem dX1_read_42 : decode cX1_read 42 = .ok (.aaload, 1) := by decide +kernel
theorem dX1_read_43 : decode cX1_read 43 = .ok (.invokevirtual 53, 3) := by decide +kernel
theorem dX1_read_46 : decode cX1_read 46 = .ok (.ifCond .ne 11, 3) := by decide +kernel
theorem dX1_read_49 : decode cX1_read 49 = .ok (.aload_n 0, 1) := by decide +kernel
theorem dX1_read_50 : decode cX1_read 50 = .ok (.getfield 14, 3) := by decide +kernel
theorem dX1_read_53 : decode cX1_read 53 = .ok (.invokevirtual 57, 3) := by decide +kernel
theorem dX1_read_56 : decode cX1_read 56 = .ok (.ireturn, 1) := by decide +kernel
theorem dX1_read_57 : decode cX1_read 57 = .ok (.aload_n 0, 1) := by decide +kernel
theorem dX1_read_58 : decode cX1_read 58 = .ok (.dup, 1) := by decide +kernel
theorem dX1_read_59 : decode cX1_read 59 = .ok (.getfield 28, 3) := by decide +kernel
theorem dX1_read_62 : decode cX1_read 62 = .ok (.iconst 1, 1) := by decide +kernel
theorem dX1_read_63 : decode cX1_read 63 = .ok (.iadd, 1) := by decide +kernel
theorem dX1_read_64 : decode cX1_read 64 = .ok (.putfield 28, 3) := by decide +kernel
theorem dX1_read_67 : decode cX1_read 67 = .ok (.iinc 2 1, 3) := by decide +kernel
theorem dX1_read_70 : decode cX1_read 70 = .ok (.goto (-50), 3) := by decide +kernel
theorem dX1_read_73 : decode cX1_read 73 = .ok (.iconst (-1), 1) := by decide +kernel
theorem dX1_read_74 : decode cX1_read 74 = .ok (.ireturn, 1) := by decide +kernel
set_option maxRecDepth 20000 in
theorem ggX1_readStatement_X5_kind : GoodIn wsX1_readStatement wsX5_kind := goodIn_r _ [7, 8, 9, 10, 55, 56, 57, 58, 59, 60] (by decide +kernel) (by decide +kernel)
set_option maxRecDepth 20000 in
theorem gX1_readStatement_X5_kind : GoodIn wsX1_readStatement (wsV RX1 49 RX5 yX5_kind wsX5_kind) := goodIn_app (goodIn_of _ (by decide +kernel)) ggX1_readStatement_X5_kind
set_option maxRecDepth 20000 in
theorem ggX1_readStatement_X5_value : GoodIn wsX1_readStatement wsX5_value := goodIn_r _ [14, 8, 9, 15, 55, 56, 57, 58, 59, 60] (by decide +kernel) (by decide +kernel)
set_option maxRecDepth 20000 in
theorem gX1_readStatement_X5_value : GoodIn wsX1_readStatement (wsV RX1 60 RX5 yX5_value wsX5_value) := goodIn_app (goodIn_of _ (by decide +kernel)) ggX1_readStatement_X5_value
set_option maxRecDepth 20000 in
theorem ggX1_readStatement_X5_advance : GoodIn wsX1_readStatement wsX5_advance := goodIn_r _ [19, 8, 55, 56, 57, 58, 59, 60] (by decide +kernel) (by decide +kernel)
set_option maxRecDepth 20000 in
theorem gX1_readStatement_X5_advance : GoodIn wsX1_readStatement (wsV RX1 66 RX5 yX5_advance wsX5_advance) := goodIn_app (goodIn_of _ (by decide +kernel)) ggX1_readStatement_X5_advance
set_option maxRecDepth 20000 in
theorem ggX1_readStatement_X1_readAction : GoodIn wsX1_readStatement wsX1_readAction := goodIn_r _ [24, 1, 25, 3, 4, 5, 6, 7, 8, 9, 10, 26, 27, 28, 23, 29, 16, 17, 18, 19, 30, 31, 32, 33, 34, 35, 11, 12, 13, 14, 15, 36, 37, 38, 39, 40, 41, 42, 43, 44, 45, 46, 47, 48, 49, 50, 51, 52, 53, 54, 55, 56, 57, 58, 59, 60] (by decide +kernel) (by decide +kernel)
set_option maxRecDepth 20000 in
theorem gX1_readStatement_X1_readAction : GoodIn wsX1_readStatement (wsV RX1 69 RX1 yX1_readAction wsX1_readAction) := goodIn_app (goodIn_of _ (by decide +kernel)) ggX1_readStatement_X1_readAction
set_option maxRecDepth 20000 in
theorem ggX1_readStatement_X1_pass : GoodIn wsX1_readStatement wsX1_pass := goodIn_r _ [29, 1, 3, 4, 5, 6, 7, 8, 9, 10, 16, 17, 18, 19, 46, 47, 48, 49, 50, 55, 56, 57, 58, 59, 60] (by decide +kernel) (by decide +kernel)
set_option maxRecDepth 20000 in
theorem gX1_readStatement_X1_pass : GoodIn wsX1_readStatement (wsV RX1 72 RX1 yX1_pass wsX1_pass) := goodIn_app (goodIn_of _ (by decide +kernel)) ggX1_readStatement_X1_pass
theorem dX1_readStatement_0 : decode cX1_readStatement 0 = .ok (.aload_n 0, 1) := by decide +kernel
theorem dX1_readStatement_1 : decode cX1_readStatement 1 = .ok (.getfield 14, 3) := by decide +kernel
theorem dX1_readStatement_4 : decode cX1_readStatement 4 = .ok (.invokevirtual 49, 3) := by decide +kernel
theorem dX1_readStatement_7 : decode cX1_readStatement 7 = .ok (.iconst 2, 1) := by decide +kernel
theorem dX1_readStatement_8 : decode cX1_readStatement 8 = .ok (.if_icmp .eq 5, 3) := by decide +kernel
theorem dX1_readStatement_11 : decode cX1_readStatement 11 = .ok (.iconst 0, 1) := by decide +kernel
theorem dX1_readStatement_12 : decode cX1_readStatement 12 = .ok (.ireturn, 1) := by decide +kernel
theorem dX1_readStatement_13 : decode cX1_readStatement 13 = .ok (.aload_n 1, 1) := by decide +kernel
theorem dX1_readStatement_14 : decode cX1_readStatement 14 = .ok (.aload_n 0, 1) := by decide +kernel
theorem dX1_readStatement_15 : decode cX1_readStatement 15 = .ok (.getfield 14, 3) := by decide +kernel
theorem dX1_readStatement_18 : decode cX1_readStatement 18 = .ok (.invokevirtual 60, 3) := by decide +kernel
theorem dX1_readStatement_21 : decode cX1_readStatement 21 = .ok (.putfield 63, 3) := by decide +kernel
theorem dX1_readStatement_24 : decode cX1_readStatement 24 = .ok (.aload_n 0, 1) := by decide +kernel
theorem dX1_readStatement_25 : decode cX1_readStatement 25 = .ok (.getfield 14, 3) := by decide +kernel
theorem dX1_readStatement_28 : decode cX1_readStatement 28 = .ok (.invokevirtual 66, 3) := by decide +kernel
theorem dX1_readStatement_31 : decode cX1_readStatement 31 = .ok (.aload_n 0, 1) := by decide +kernel
theorem dX1_readStatement_32 : decode cX1_readStatement 32 = .ok (.aload_n 1, 1) := by decide +kernel
theorem dX1_readStatement_33 : decode cX1_readStatement 33 = .ok (.invokevirtual 69, 3) := by decide +kernel
theorem dX1_readStatement_36 : decode cX1_readStatement 36 = .ok (.ifCond .eq 16, 3) := by decide +kernel
theorem dX1_readStatement_39 : decode cX1_readStatement 39 = .ok (.aload_n 0, 1) := by decide +kernel
theorem dX1_readStatement_40 : decode cX1_readStatement 40 = .ok (.bipush 59, 2) := by decide +kernel
theorem dX1_readStatement_42 : decode cX1_readStatement 42 = .ok (.invokevirtual 72, 3) := by decide +kernel
theorem dX1_readStatement_45 : decode cX1_readStatement 45 = .ok (.ifCond .eq 7, 3) := by decide +kernel
theorem dX1_readStatement_48 : decode cX1_readStatement 48 = .ok (.iconst 1, 1) := by decide +kernel
theorem dX1_readStatement_49 : decode cX1_readStatement 49 = .ok (.goto 4, 3) := by decide +kernel
theorem dX1_readStatement_52 : decode cX1_readStatement 52 = .ok (.iconst 0, 1) := by decide +kernel
theorem dX1_readStatement_53 : decode cX1_readStatement 53 = .ok (.ireturn, 1) := by decide +kernel
set_option maxRecDepth 20000 in
theorem ggX1_readAction_X5_kind : GoodIn wsX1_readAction wsX5_kind := goodIn_r _ [7, 8, 9, 10, 50, 51, 52, 53, 54, 55] (by decide +kernel) (by decide +kernel)
set_option maxRecDepth 20000 in
theorem gX1_readAction_X5_kind : GoodIn wsX1_readAction (wsV RX1 49 RX5 yX5_kind wsX5_kind) := goodIn_app (goodIn_of _ (by decide +kernel)) ggX1_readAction_X5_kind
set_option maxRecDepth 20000 in
theorem ggX1_readAction_X1_pass : GoodIn wsX1_readAction wsX1_pass := goodIn_r _ [15, 1, 3, 4, 5, 6, 7, 8, 9, 10, 16, 17, 18, 19, 41, 42, 43, 44, 45, 50, 51, 52, 53, 54, 55] (by decide +kernel) (by decide +kernel)
set_option maxRecDepth 20000 in
theorem gX1_readAction_X1_pass : GoodIn wsX1_readAction (wsV RX1 72 RX1 yX1_pass wsX1_pass) := goodIn_app (goodIn_of _ (by decide +kernel)) ggX1_readAction_X1_pass
set_option maxRecDepth 20000 in
theorem ggX1_readAction_X1_readRange : GoodIn wsX1_readAction wsX1_readRange := goodIn_r _ [23, 1, 24, 25, 26, 27, 28, 6, 29, 8, 9, 30, 11, 12, 13, 14, 15, 3, 4, 5, 7, 10, 16, 17, 18, 19, 41, 42, 43, 44, 45, 46, 47, 48, 49, 50, 51, 52, 53, 54, 55] (by decide +kernel) (by decide +kernel)
set_option maxRecDepth 20000 in
theorem gX1_readAction_X1_readRange : GoodIn wsX1_readAction (wsV RX1 79 RX1 yX1_readRange wsX1_readRange) := goodIn_app (goodIn_of _ (by decide +kernel)) ggX1_readAction_X1_readRange
set_option maxRecDepth 20000 in
theorem ggX1_readAction_X1_readList : GoodIn wsX1_readAction wsX1_readList := goodIn_r _ [34, 2, 35, 24, 25, 1, 36, 16, 17, 18, 6, 19, 8, 11, 12, 13, 14, 15, 3, 4, 5, 7, 9, 10, 26, 27, 28, 29, 30, 46, 47, 48, 49, 41, 42, 43, 44, 45, 50, 51, 52, 53, 54, 55] (by decide +kernel) (by decide +kernel)
set_option maxRecDepth 20000 in
theorem gX1_readAction_X1_readList : GoodIn wsX1_readAction (wsV RX1 82 RX1 yX1_readList wsX1_readList) := goodIn_app (goodIn_of _ (by decide +kernel)) ggX1_readAction_X1_readList
set_option maxRecDepth 20000 in
theorem ggX1_readAction_X1_readSet : GoodIn wsX1_readAction wsX1_readSet := goodIn_r _ [40, 1, 24, 25, 26, 27, 28, 6, 29, 8, 9, 30, 11, 12, 13, 14, 15, 3, 4, 5, 7, 10, 16, 17, 18, 19, 41, 42, 43, 44, 45, 46, 47, 48, 49, 50, 51, 52, 53, 54, 55] (by decide +kernel) (by decide +kernel)
set_option maxRecDepth 20000 in
theorem gX1_readAction_X1_readSet : GoodIn wsX1_readAction (wsV RX1 85 RX1 yX1_readSet wsX1_readSet) := goodIn_app (goodIn_of _ (by decide +kernel)) ggX1_readAction_X1_readSet
theorem dX1_readAction_0 : decode cX1_readAction 0 = .ok (.aload_n 0, 1) := by decide +kernel
theorem dX1_readAction_1 : decode cX1_readAction 1 = .ok (.getfield 14, 3) := by decide +kernel
theorem dX1_readAction_4 : decode cX1_readAction 4 = .ok (.invokevirtual 49, 3) := by decide +kernel
theorem dX1_readAction_7 : decode cX1_readAction 7 = .ok (.istore_n 2, 1) := by decide +kernel
theorem dX1_readAction_8 : decode cX1_readAction 8 = .ok (.aload_n 1, 1) := by decide +kernel
theorem dX1_readAction_9 : decode cX1_readAction 9 = .ok (.iload_n 2, 1) := by decide +kernel
theorem dX1_readAction_10 : decode cX1_readAction 10 = .ok (.putfield 76, 3) := by decide +kernel
theorem dX1_readAction_13 : decode cX1_readAction 13 = .ok (.aload_n 0, 1) := by decide +kernel
theorem dX1_readAction_14 : decode cX1_readAction 14 = .ok (.bipush 43, 2) := by decide +kernel
theorem dX1_readAction_16 : decode cX1_readAction 16 = .ok (.invokevirtual 72, 3) := by decide +kernel
theorem dX1_readAction_19 : decode cX1_readAction 19 = .ok (.ifCond .ne 21, 3) := by decide +kernel
theorem dX1_readAction_22 : decode cX1_readAction 22 = .ok (.aload_n 0, 1) := by decide +kernel
theorem dX1_readAction_23 : decode cX1_readAction 23 = .ok (.bipush 45, 2) := by decide +kernel
theorem dX1_readAction_25 : decode cX1_readAction 25 = .ok (.invokevirtual 72, 3) := by decide +kernel
theorem dX1_readAction_28 : decode cX1_readAction 28 = .ok (.ifCond .ne 12, 3) := by decide +kernel
theorem dX1_readAction_31 : decode cX1_readAction 31 = .ok (.aload_n 0, 1) := by decide +kernel
theorem dX1_readAction_32 : decode cX1_readAction 32 = .ok (.bipush 94, 2) := by decide +kernel
theorem dX1_readAction_34 : decode cX1_readAction 34 = .ok (.invokevirtual 72, 3) := by decide +kernel
theorem dX1_readAction_37 : decode cX1_readAction 37 = .ok (.ifCond .eq 9, 3) := by decide +kernel
theorem dX1_readAction_40 : decode cX1_readAction 40 = .ok (.aload_n 0, 1) := by decide +kernel
theorem dX1_readAction_41 : decode cX1_readAction 41 = .ok (.aload_n 1, 1) := by decide +kernel
theorem dX1_readAction_42 : decode cX1_readAction 42 = .ok (.invokevirtual 79, 3) := by decide +kernel
theorem dX1_readAction_45 : decode cX1_readAction 45 = .ok (.ireturn, 1) := by decide +kernel
theorem dX1_readAction_46 : decode cX1_readAction 46 = .ok (.aload_n 0, 1) := by decide +kernel
theorem dX1_readAction_47 : decode cX1_readAction 47 = .ok (.bipush 61, 2) := by decide +kernel
theorem dX1_readAction_49 : decode cX1_readAction 49 = .ok (.invokevirtual 72, 3) := by decide +kernel
theorem dX1_readAction_52 : decode cX1_readAction 52 = .ok (.ifCond .eq 29, 3) := by decide +kernel
theorem dX1_readAction_55 : decode cX1_readAction 55 = .ok (.aload_n 0, 1) := by decide +kernel
theorem dX1_readAction_56 : decode cX1_readAction 56 = .ok (.getfield 14, 3) := by decide +kernel
theorem dX1_readAction_59 : decode cX1_readAction 59 = .ok (.invokevirtual 49, 3) := by decide +kernel
theorem dX1_readAction_62 : decode cX1_readAction 62 = .ok (.bipush 91, 2) := by decide +kernel
theorem dX1_readAction_64 : decode cX1_readAction 64 = .ok (.if_icmp .ne 11, 3) := by decide +kernel
theorem dX1_readAction_67 : decode cX1_readAction 67 = .ok (.aload_n 0, 1) := by decide +kernel
theorem dX1_readAction_68 : decode cX1_readAction 68 = .ok (.aload_n 1, 1) := by decide +kernel
theorem dX1_readAction_69 : decode cX1_readAction 69 = .ok (.invokevirtual 82, 3) := by decide +kernel
theorem dX1_readAction_72 : decode cX1_readAction 72 = .ok (.goto 8, 3) := by decide +kernel
theorem dX1_readAction_75 : decode cX1_readAction 75 = .ok (.aload_n 0, 1) := by decide +kernel
theorem dX1_readAction_76 : decode cX1_readAction 76 = .ok (.aload_n 1, 1) := by decide +kernel
theorem dX1_readAction_77 : decode cX1_readAction 77 = .ok (.invokevirtual 85, 3) := by decide +kernel
theorem dX1_readAction_80 : decode cX1_readAction 80 = .ok (.ireturn, 1) := by decide +kernel
theorem dX1_readAction_81 : decode cX1_readAction 81 = .ok (.aload_n 0, 1) := by decide +kernel
theorem dX1_readAction_82 : decode cX1_readAction 82 = .ok (.bipush 38, 2) := by decide +kernel
theorem dX1_readAction_84 : decode cX1_readAction 84 = .ok (.invokevirtual 72, 3) := by decide +kernel
theorem dX1_readAction_87 : decode cX1_readAction 87 = .ok (.ifCond .ne 30, 3) := by decide +kernel
theorem dX1_readAction_90 : decode cX1_readAction 90 = .ok (.aload_n 0, 1) := by decide +kernel
theorem dX1_readAction_91 : decode cX1_readAction 91 = .ok (.bipush 124, 2) := by decide +kernel
theorem dX1_readAction_93 : decode cX1_readAction 93 = .ok (.invokevirtual 72, 3) := by decide +kernel
theorem dX1_readAction_96 : decode cX1_readAction 96 = .ok (.ifCond .ne 21, 3) := by decide +kernel
theorem dX1_readAction_99 : decode cX1_readAction 99 = .ok (.aload_n 0, 1) := by decide +kernel
theorem dX1_readAction_100 : decode cX1_readAction 100 = .ok (.bipush 126, 2) := by decide +kernel
theorem dX1_readAction_102 : decode cX1_readAction 102 = .ok (.invokevirtual 72, 3) := by decide +kernel
theorem dX1_readAction_105 : decode cX1_readAction 105 = .ok (.ifCond .ne 12, 3) := by decide +kernel
theorem dX1_readAction_108 : decode cX1_readAction 108 = .ok (.aload_n 0, 1) := by decide +kernel
theorem dX1_readAction_109 : decode cX1_readAction 109 = .ok (.bipush 33, 2) := by decide +kernel
theorem dX1_readAction_111 : decode cX1_readAction 111 = .ok (.invokevirtual 72, 3) := by decide +kernel
theorem dX1_readAction_114 : decode cX1_readAction 114 = .ok (.ifCond .eq 15, 3) := by decide +kernel
theorem dX1_readAction_117 : decode cX1_readAction 117 = .ok (.aload_n 0, 1) := by decide +kernel
theorem dX1_readAction_118 : decode cX1_readAction 118 = .ok (.aload_n 1, 1) := by decide +kernel
theorem dX1_readAction_119 : decode cX1_readAction 119 = .ok (.invokevirtual 85, 3) := by decide +kernel
theorem dX1_readAction_122 : decode cX1_readAction 122 = .ok (.ifCond .eq 7, 3) := by decide +kernel
theorem dX1_readAction_125 : decode cX1_readAction 125 = .ok (.iconst 1, 1) := by decide +kernel
theorem dX1_readAction_126 : decode cX1_readAction 126 = .ok (.goto 4, 3) := by decide +kernel
theorem dX1_readAction_129 : decode cX1_readAction 129 = .ok (.iconst 0, 1) := by decide +kernel
theorem dX1_readAction_130 : decode cX1_readAction 130 = .ok (.ireturn, 1) := by decide +kernel
set_option maxRecDepth 20000 in
theorem ggX1_readRange_X5_value : GoodIn wsX1_readRange wsX5_value := goodIn_r _ [8, 9, 10, 11, 35, 36, 37, 38, 39, 40] (by decide +kernel) (by decide +kernel)
set_option maxRecDepth 20000 in
theorem gX1_readRange_X5_value : GoodIn wsX1_readRange (wsV RX1 60 RX5 yX5_value wsX5_value) := goodIn_app (goodIn_of _ (by decide +kernel)) ggX1_readRange_X5_value
set_option maxRecDepth 20000 in
theorem ggX1_readRange_X1_pass : GoodIn wsX1_readRange wsX1_pass := goodIn_r _ [16, 1, 17, 18, 19, 7, 20, 9, 10, 21, 22, 23, 24, 25, 26, 27, 28, 29, 30, 35, 36, 37, 38, 39, 40] (by decide +kernel) (by decide +kernel)
set_option maxRecDepth 20000 in
theorem gX1_readRange_X1_pass : GoodIn wsX1_readRange (wsV RX1 72 RX1 yX1_pass wsX1_pass) := goodIn_app (goodIn_of _ (by decide +kernel)) ggX1_readRange_X1_pass
theorem dX1_readRange_0 : decode cX1_readRange 0 = .ok (.aload_n 1, 1) := by decide +kernel
theorem dX1_readRange_1 : decode cX1_readRange 1 = .ok (.aload_n 0, 1) := by decide +kernel
theorem dX1_readRange_2 : decode cX1_readRange 2 = .ok (.getfield 14, 3) := by decide +kernel
theorem dX1_readRange_5 : decode cX1_readRange 5 = .ok (.invokevirtual 60, 3) := by decide +kernel
theorem dX1_readRange_8 : decode cX1_readRange 8 = .ok (.putfield 88, 3) := by decide +kernel
theorem dX1_readRange_11 : decode cX1_readRange 11 = .ok (.aload_n 1, 1) := by decide +kernel
theorem dX1_readRange_12 : decode cX1_readRange 12 = .ok (.aload_n 1, 1) := by decide +kernel
theorem dX1_readRange_13 : decode cX1_readRange 13 = .ok (.getfield 88, 3) := by decide +kernel
theorem dX1_readRange_16 : decode cX1_readRange 16 = .ok (.iconst 1, 1) := by decide +kernel
theorem dX1_readRange_17 : decode cX1_readRange 17 = .ok (.iadd, 1) := by decide +kernel
theorem dX1_readRange_18 : decode cX1_readRange 18 = .ok (.putfield 91, 3) := by decide +kernel
theorem dX1_readRange_21 : decode cX1_readRange 21 = .ok (.aload_n 0, 1) := by decide +kernel
theorem dX1_readRange_22 : decode cX1_readRange 22 = .ok (.iconst 3, 1) := by decide +kernel
theorem dX1_readRange_23 : decode cX1_readRange 23 = .ok (.invokevirtual 72, 3) := by decide +kernel
theorem dX1_readRange_26 : decode cX1_readRange 26 = .ok (.ifCond .ne 5, 3) := by decide +kernel
theorem dX1_readRange_29 : decode cX1_readRange 29 = .ok (.iconst 0, 1) := by decide +kernel
theorem dX1_readRange_30 : decode cX1_readRange 30 = .ok (.ireturn, 1) := by decide +kernel
theorem dX1_readRange_31 : decode cX1_readRange 31 = .ok (.aload_n 0, 1) := by decide +kernel
theorem dX1_readRange_32 : decode cX1_readRange 32 = .ok (.iconst 4, 1) := by decide +kernel
theorem dX1_readRange_33 : decode cX1_readRange 33 = .ok (.invokevirtual 72, 3) := by decide +kernel
theorem dX1_readRange_36 : decode cX1_readRange 36 = .ok (.ifCond .ne 5, 3) := by decide +kernel
theorem dX1_readRange_39 : decode cX1_readRange 39 = .ok (.iconst 1, 1) := by decide +kernel
theorem dX1_readRange_40 : decode cX1_readRange 40 = .ok (.ireturn, 1) := by decide +kernel
theorem dX1_readRange_41 : decode cX1_readRange 41 = .ok (.aload_n 1, 1) := by decide +kernel
theorem dX1_readRange_42 : decode cX1_readRange 42 = .ok (.aload_n 0, 1) := by decide +kernel
theorem dX1_readRange_43 : decode cX1_readRange 43 = .ok (.getfield 14, 3) := by decide +kernel
theorem dX1_readRange_46 : decode cX1_readRange 46 = .ok (.invokevirtual 60, 3) := by decide +kernel
theorem dX1_readRange_49 : decode cX1_readRange 49 = .ok (.putfield 91, 3) := by decide +kernel
theorem dX1_readRange_52 : decode cX1_readRange 52 = .ok (.aload_n 0, 1) := by decide +kernel
theorem dX1_readRange_53 : decode cX1_readRange 53 = .ok (.iconst 3, 1) := by decide +kernel
theorem dX1_readRange_54 : decode cX1_readRange 54 = .ok (.invokevirtual 72, 3) := by decide +kernel
theorem dX1_readRange_57 : decode cX1_readRange 57 = .ok (.ireturn, 1) := by decide +kernel
set_option maxRecDepth 20000 in
theorem ggX1_readSet_X5_value : GoodIn wsX1_readSet wsX5_value := goodIn_r _ [8, 9, 10, 11, 35, 36, 37, 38, 39, 40] (by decide +kernel) (by decide +kernel)
set_option maxRecDepth 20000 in
theorem gX1_readSet_X5_value : GoodIn wsX1_readSet (wsV RX1 60 RX5 yX5_value wsX5_value) := goodIn_app (goodIn_of _ (by decide +kernel)) ggX1_readSet_X5_value
set_option maxRecDepth 20000 in
theorem ggX1_readSet_X1_pass : GoodIn wsX1_readSet wsX1_pass := goodIn_r _ [16, 1, 17, 18, 19, 7, 20, 9, 10, 21, 22, 23, 24, 25, 26, 27, 28, 29, 30, 35, 36, 37, 38, 39, 40] (by decide +kernel) (by decide +kernel)
set_option maxRecDepth 20000 in
theorem gX1_readSet_X1_pass : GoodIn wsX1_readSet (wsV RX1 72 RX1 yX1_pass wsX1_pass) := goodIn_app (goodIn_of _ (by decide +kernel)) ggX1_readSet_X1_pass
theorem dX1_readSet_0 : decode cX1_readSet 0 = .ok (.aload_n 1, 1) := by decide +kernel
theorem dX1_readSet_1 : decode cX1_readSet 1 = .ok (.aload_n 0, 1) := by decide +kernel
theorem dX1_readSet_2 : decode cX1_readSet 2 = .ok (.getfield 14, 3) := by decide +kernel
theorem dX1_readSet_5 : decode cX1_readSet 5 = .ok (.invokevirtual 60, 3) := by decide +kernel
theorem dX1_readSet_8 : decode cX1_readSet 8 = .ok (.putfield 88, 3) := by decide +kernel
theorem dX1_readSet_11 : decode cX1_readSet 11 = .ok (.aload_n 1, 1) := by decide +kernel
theorem dX1_readSet_12 : decode cX1_readSet 12 = .ok (.aload_n 0, 1) := by decide +kernel
theorem dX1_readSet_13 : decode cX1_readSet 13 = .ok (.getfield 14, 3) := by decide +kernel
theorem dX1_readSet_16 : decode cX1_readSet 16 = .ok (.invokevirtual 60, 3) := by decide +kernel
theorem dX1_readSet_19 : decode cX1_readSet 19 = .ok (.putfield 91, 3) := by decide +kernel
theorem dX1_readSet_22 : decode cX1_readSet 22 = .ok (.aload_n 0, 1) := by decide +kernel
theorem dX1_readSet_23 : decode cX1_readSet 23 = .ok (.iconst 2, 1) := by decide +kernel
theorem dX1_readSet_24 : decode cX1_readSet 24 = .ok (.invokevirtual 72, 3) := by decide +kernel
theorem dX1_readSet_27 : decode cX1_readSet 27 = .ok (.ireturn, 1) := by decide +kernel
set_option maxRecDepth 20000 in
theorem ggX1_readList_X5_advance : GoodIn wsX1_readList wsX5_advance := goodIn_r _ [11, 12, 38, 39, 40, 41, 42, 43] (by decide +kernel) (by decide +kernel)
set_option maxRecDepth 20000 in
theorem gX1_readList_X5_advance : GoodIn wsX1_readList (wsV RX1 66 RX5 yX5_advance wsX5_advance) := goodIn_app (goodIn_of _ (by decide +kernel)) ggX1_readList_X5_advance
set_option maxRecDepth 20000 in
theorem ggX1_readList_X1_pass : GoodIn wsX1_readList wsX1_pass := goodIn_r _ [17, 5, 18, 19, 20, 10, 21, 12, 22, 23, 7, 8, 9, 11, 33, 34, 35, 36, 37, 38, 39, 40, 41, 42, 43] (by decide +kernel) (by decide +kernel)
set_option maxRecDepth 20000 in
theorem gX1_readList_X1_pass : GoodIn wsX1_readList (wsV RX1 72 RX1 yX1_pass wsX1_pass) := goodIn_app (goodIn_of _ (by decide +kernel)) ggX1_readList_X1_pass
set_option maxRecDepth 20000 in
theorem ggX1_readList_X5_value : GoodIn wsX1_readList wsX5_value := goodIn_r _ [27, 12, 22, 28, 38, 39, 40, 41, 42, 43] (by decide +kernel) (by decide +kernel)
set_option maxRecDepth 20000 in
theorem gX1_readList_X5_value : GoodIn wsX1_readList (wsV RX1 60 RX5 yX5_value wsX5_value) := goodIn_app (goodIn_of _ (by decide +kernel)) ggX1_readList_X5_value
theorem dX1_readList_0 : decode cX1_readList 0 = .ok (.aload_n 1, 1) := by decide +kernel
theorem dX1_readList_1 : decode cX1_readList 1 = .ok (.bipush 91, 2) := by decide +kernel
theorem dX1_readList_3 : decode cX1_readList 3 = .ok (.putfield 76, 3) := by decide +kernel
theorem dX1_readList_6 : decode cX1_readList 6 = .ok (.aload_n 1, 1) := by decide +kernel
theorem dX1_readList_7 : decode cX1_readList 7 = .ok (.aload_n 0, 1) := by decide +kernel
theorem dX1_readList_8 : decode cX1_readList 8 = .ok (.getfield 32, 3) := by decide +kernel
theorem dX1_readList_11 : decode cX1_readList 11 = .ok (.putfield 88, 3) := by decide +kernel
theorem dX1_readList_14 : decode cX1_readList 14 = .ok (.aload_n 1, 1) := by decide +kernel
theorem dX1_readList_15 : decode cX1_readList 15 = .ok (.aload_n 0, 1) := by decide +kernel
theorem dX1_readList_16 : decode cX1_readList 16 = .ok (.getfield 32, 3) := by decide +kernel
theorem dX1_readList_19 : decode cX1_readList 19 = .ok (.putfield 91, 3) := by decide +kernel
theorem dX1_readList_22 : decode cX1_readList 22 = .ok (.aload_n 0, 1) := by decide +kernel
theorem dX1_readList_23 : decode cX1_readList 23 = .ok (.getfield 14, 3) := by decide +kernel
theorem dX1_readList_26 : decode cX1_readList 26 = .ok (.invokevirtual 66, 3) := by decide +kernel
theorem dX1_readList_29 : decode cX1_readList 29 = .ok (.aload_n 0, 1) := by decide +kernel
theorem dX1_readList_30 : decode cX1_readList 30 = .ok (.bipush 93, 2) := by decide +kernel
theorem dX1_readList_32 : decode cX1_readList 32 = .ok (.invokevirtual 72, 3) := by decide +kernel
theorem dX1_readList_35 : decode cX1_readList 35 = .ok (.ifCond .eq 5, 3) := by decide +kernel
theorem dX1_readList_38 : decode cX1_readList 38 = .ok (.iconst 1, 1) := by decide +kernel
theorem dX1_readList_39 : decode cX1_readList 39 = .ok (.ireturn, 1) := by decide +kernel
theorem dX1_readList_40 : decode cX1_readList 40 = .ok (.aload_n 0, 1) := by decide +kernel
theorem dX1_readList_41 : decode cX1_readList 41 = .ok (.getfield 32, 3) := by decide +kernel
theorem dX1_readList_44 : decode cX1_readList 44 = .ok (.istore_n 2, 1) := by decide +kernel
theorem dX1_readList_45 : decode cX1_readList 45 = .ok (.iload_n 2, 1) := by decide +kernel
theorem dX1_readList_46 : decode cX1_readList 46 = .ok (.sipush 400, 3) := by decide +kernel
theorem dX1_readList_49 : decode cX1_readList 49 = .ok (.if_icmp .ge 63, 3) := by decide +kernel
theorem dX1_readList_52 : decode cX1_readList 52 = .ok (.aload_n 0, 1) := by decide +kernel
theorem dX1_readList_53 : decode cX1_readList 53 = .ok (.getfield 24, 3) := by decide +kernel
theorem dX1_readList_56 : decode cX1_readList 56 = .ok (.iload_n 2, 1) := by decide +kernel
theorem dX1_readList_57 : decode cX1_readList 57 = .ok (.aload_n 0, 1) := by decide +kernel
theorem dX1_readList_58 : decode cX1_readList 58 = .ok (.getfield 14, 3) := by decide +kernel
theorem dX1_readList_61 : decode cX1_readList 61 = .ok (.invokevirtual 60, 3) := by decide +kernel
theorem dX1_readList_64 : decode cX1_readList 64 = .ok (.iastore, 1) := by decide +kernel
theorem dX1_readList_65 : decode cX1_readList 65 = .ok (.aload_n 0, 1) := by decide +kernel
theorem dX1_readList_66 : decode cX1_readList 66 = .ok (.iconst 3, 1) := by decide +kernel
theorem dX1_readList_67 : decode cX1_readList 67 = .ok (.invokevirtual 72, 3) := by decide +kernel
theorem dX1_readList_70 : decode cX1_readList 70 = .ok (.ifCond .ne 5, 3) := by decide +kernel
theorem dX1_readList_73 : decode cX1_readList 73 = .ok (.iconst 0, 1) := by decide +kernel
theorem dX1_readList_74 : decode cX1_readList 74 = .ok (.ireturn, 1) := by decide +kernel
theorem dX1_readList_75 : decode cX1_readList 75 = .ok (.aload_n 0, 1) := by decide +kernel
theorem dX1_readList_76 : decode cX1_readList 76 = .ok (.iload_n 2, 1) := by decide +kernel
theorem dX1_readList_77 : decode cX1_readList 77 = .ok (.iconst 1, 1) := by decide +kernel
theorem dX1_readList_78 : decode cX1_readList 78 = .ok (.iadd, 1) := by decide +kernel
theorem dX1_readList_79 : decode cX1_readList 79 = .ok (.putfield 32, 3) := by decide +kernel
theorem dX1_readList_82 : decode cX1_readList 82 = .ok (.aload_n 1, 1) := by decide +kernel
theorem dX1_readList_83 : decode cX1_readList 83 = .ok (.aload_n 0, 1) := by decide +kernel
theorem dX1_readList_84 : decode cX1_readList 84 = .ok (.getfield 32, 3) := by decide +kernel
theorem dX1_readList_87 : decode cX1_readList 87 = .ok (.putfield 91, 3) := by decide +kernel
theorem dX1_readList_90 : decode cX1_readList 90 = .ok (.aload_n 0, 1) := by decide +kernel
theorem dX1_readList_91 : decode cX1_readList 91 = .ok (.bipush 44, 2) := by decide +kernel
theorem dX1_readList_93 : decode cX1_readList 93 = .ok (.invokevirtual 72, 3) := by decide +kernel
theorem dX1_readList_96 : decode cX1_readList 96 = .ok (.ifCond .ne 10, 3) := by decide +kernel
theorem dX1_readList_99 : decode cX1_readList 99 = .ok (.aload_n 0, 1) := by decide +kernel
theorem dX1_readList_100 : decode cX1_readList 100 = .ok (.bipush 93, 2) := by decide +kernel
theorem dX1_readList_102 : decode cX1_readList 102 = .ok (.invokevirtual 72, 3) := by decide +kernel
theorem dX1_readList_105 : decode cX1_readList 105 = .ok (.ireturn, 1) := by decide +kernel
theorem dX1_readList_106 : decode cX1_readList 106 = .ok (.iinc 2 1, 3) := by decide +kernel
theorem dX1_readList_109 : decode cX1_readList 109 = .ok (.goto (-64), 3) := by decide +kernel
theorem dX1_readList_112 : decode cX1_readList 112 = .ok (.iconst 0, 1) := by decide +kernel
theorem dX1_readList_113 : decode cX1_readList 113 = .ok (.ireturn, 1) := by decide +kernel
set_option maxRecDepth 20000 in
theorem ggX1_pass_X5_kind : GoodIn wsX1_pass wsX5_kind := goodIn_r _ [6, 7, 8, 9, 19, 20, 21, 22, 23, 24] (by decide +kernel) (by decide +kernel)
set_option maxRecDepth 20000 in
theorem gX1_pass_X5_kind : GoodIn wsX1_pass (wsV RX1 49 RX5 yX5_kind wsX5_kind) := goodIn_app (goodIn_of _ (by decide +kernel)) ggX1_pass_X5_kind
set_option maxRecDepth 20000 in
theorem ggX1_pass_X5_advance : GoodIn wsX1_pass wsX5_advance := goodIn_r _ [13, 7, 19, 20, 21, 22, 23, 24] (by decide +kernel) (by decide +kernel)
set_option maxRecDepth 20000 in
theorem gX1_pass_X5_advance : GoodIn wsX1_pass (wsV RX1 66 RX5 yX5_advance wsX5_advance) := goodIn_app (goodIn_of _ (by decide +kernel)) ggX1_pass_X5_advance
theorem dX1_pass_0 : decode cX1_pass 0 = .ok (.aload_n 0, 1) := by decide +kernel
theorem dX1_pass_1 : decode cX1_pass 1 = .ok (.getfield 14, 3) := by decide +kernel
theorem dX1_pass_4 : decode cX1_pass 4 = .ok (.invokevirtual 49, 3) := by decide +kernel
theorem dX1_pass_7 : decode cX1_pass 7 = .ok (.iload_n 1, 1) := by decide +kernel
theorem dX1_pass_8 : decode cX1_pass 8 = .ok (.if_icmp .eq 5, 3) := by decide +kernel
theorem dX1_pass_11 : decode cX1_pass 11 = .ok (.iconst 0, 1) := by decide +kernel
theorem dX1_pass_12 : decode cX1_pass 12 = .ok (.ireturn, 1) := by decide +kernel
theorem dX1_pass_13 : decode cX1_pass 13 = .ok (.aload_n 0, 1) := by decide +kernel
theorem dX1_pass_14 : decode cX1_pass 14 = .ok (.getfield 14, 3) := by decide +kernel
theorem dX1_pass_17 : decode cX1_pass 17 = .ok (.invokevirtual 66, 3) := by decide +kernel
theorem dX1_pass_20 : decode cX1_pass 20 = .ok (.iconst 1, 1) := by decide +kernel
theorem dX1_pass_21 : decode cX1_pass 21 = .ok (.ireturn, 1) := by decide +kernel
theorem dX2_init_0 : decode cX2_init 0 = .ok (.aload_n 0, 1) := by decide +kernel
theorem dX2_init_1 : decode cX2_init 1 = .ok (.invokespecial 1, 3) := by decide +kernel
theorem dX2_init_4 : decode cX2_init 4 = .ok (.return_, 1) := by decide +kernel
theorem dX3_init_0 : decode cX3_init 0 = .ok (.aload_n 0, 1) := by decide +kernel
theorem dX3_init_1 : decode cX3_init 1 = .ok (.invokespecial 3, 3) := by decide +kernel
theorem dX3_init_4 : decode cX3_init 4 = .ok (.aload_n 0, 1) := by decide +kernel
theorem dX3_init_5 : decode cX3_init 5 = .ok (.sipush 400, 3) := by decide +kernel
theorem dX3_init_8 : decode cX3_init 8 = .ok (.newarray .char, 2) := by decide +kernel
theorem dX3_init_10 : decode cX3_init 10 = .ok (.putfield 9, 3) := by decide +kernel
theorem dX3_init_13 : decode cX3_init 13 = .ok (.aload_n 0, 1) := by decide +kernel
theorem dX3_init_14 : decode cX3_init 14 = .ok (.iconst 0, 1) := by decide +kernel
theorem dX3_init_15 : decode cX3_init 15 = .ok (.putfield 15, 3) := by decide +kernel
theorem dX3_init_18 : decode cX3_init 18 = .ok (.return_, 1) := by decide +kernel
theorem dX3_bytesOf_0 : decode cX3_bytesOf 0 = .ok (.iconst 0, 1) := by decide +kernel
theorem dX3_bytesOf_1 : decode cX3_bytesOf 1 = .ok (.istore_n 1, 1) := by decide +kernel
theorem dX3_bytesOf_2 : decode cX3_bytesOf 2 = .ok (.bipush 24, 2) := by decide +kernel
theorem dX3_bytesOf_4 : decode cX3_bytesOf 4 = .ok (.istore_n 2, 1) := by decide +kernel
theorem dX3_bytesOf_5 : decode cX3_bytesOf 5 = .ok (.iload_n 2, 1) := by decide +kernel
theorem dX3_bytesOf_6 : decode cX3_bytesOf 6 = .ok (.ifCond .lt 22, 3) := by decide +kernel
theorem dX3_bytesOf_9 : decode cX3_bytesOf 9 = .ok (.iload_n 0, 1) := by decide +kernel
theorem dX3_bytesOf_10 : decode cX3_bytesOf 10 = .ok (.iload_n 2, 1) := by decide +kernel
theorem dX3_bytesOf_11 : decode cX3_bytesOf 11 = .ok (.iushr, 1) := by decide +kernel
theorem dX3_bytesOf_12 : decode cX3_bytesOf 12 = .ok (.sipush 255, 3) := by decide +kernel
theorem dX3_bytesOf_15 : decode cX3_bytesOf 15 = .ok (.iand, 1) := by decide +kernel
theorem dX3_bytesOf_16 : decode cX3_bytesOf 16 = .ok (.ifCond .eq 6, 3) := by decide +kernel
theorem dX3_bytesOf_19 : decode cX3_bytesOf 19 = .ok (.iinc 1 1, 3) := by decide +kernel
theorem dX3_bytesOf_22 : decode cX3_bytesOf 22 = .ok (.iinc 2 (-8), 3) := by decide +kernel
theorem dX3_bytesOf_25 : decode cX3_bytesOf 25 = .ok (.goto (-20), 3) := by decide +kernel
theorem dX3_bytesOf_28 : decode cX3_bytesOf 28 = .ok (.iload_n 1, 1) := by decide +kernel
theorem dX3_bytesOf_29 : decode cX3_bytesOf 29 = .ok (.ireturn, 1) := by decide +kernel
theorem dX3_take_0 : decode cX3_take 0 = .ok (.bipush 24, 2) := by decide +kernel
theorem dX3_take_2 : decode cX3_take 2 = .ok (.istore_n 2, 1) := by decide +kernel
theorem dX3_take_3 : decode cX3_take 3 = .ok (.iload_n 2, 1) := by decide +kernel
theorem dX3_take_4 : decode cX3_take 4 = .ok (.ifCond .lt 52, 3) := by decide +kernel
theorem dX3_take_7 : decode cX3_take 7 = .ok (.iload_n 1, 1) := by decide +kernel
theorem dX3_take_8 : decode cX3_take 8 = .ok (.iload_n 2, 1) := by decide +kernel
theorem dX3_take_9 : decode cX3_take 9 = .ok (.iushr, 1) := by decide +kernel
theorem dX3_take_10 : decode cX3_take 10 = .ok (.sipush 255, 3) := by decide +kernel
theorem dX3_take_13 : decode cX3_take 13 = .ok (.iand, 1) := by decide +kernel
theorem dX3_take_14 : decode cX3_take 14 = .ok (.istore_n 3, 1) := by decide +kernel
theorem dX3_take_15 : decode cX3_take 15 = .ok (.iload_n 3, 1) := by decide +kernel
theorem dX3_take_16 : decode cX3_take 16 = .ok (.ifCond .eq 34, 3) := by decide +kernel
theorem dX3_take_19 : decode cX3_take 19 = .ok (.aload_n 0, 1) := by decide +kernel
theorem dX3_take_20 : decode cX3_take 20 = .ok (.getfield 15, 3) := by decide +kernel
theorem dX3_take_23 : decode cX3_take 23 = .ok (.sipush 400, 3) := by decide +kernel
theorem dX3_take_26 : decode cX3_take 26 = .ok (.if_icmp .ge 24, 3) := by decide +kernel
theorem dX3_take_29 : decode cX3_take 29 = .ok (.aload_n 0, 1) := by decide +kernel
theorem dX3_take_30 : decode cX3_take 30 = .ok (.getfield 9, 3) := by decide +kernel
theorem dX3_take_33 : decode cX3_take 33 = .ok (.aload_n 0, 1) := by decide +kernel
theorem dX3_take_34 : decode cX3_take 34 = .ok (.getfield 15, 3) := by decide +kernel
theorem dX3_take_37 : decode cX3_take 37 = .ok (.iload_n 3, 1) := by decide +kernel
theorem dX3_take_38 : decode cX3_take 38 = .ok (.i2c, 1) := by decide +kernel
theorem dX3_take_39 : decode cX3_take 39 = .ok (.castore, 1) := by decide +kernel
theorem dX3_take_40 : decode cX3_take 40 = .ok (.aload_n 0, 1) := by decide +kernel
theorem dX3_take_41 : decode cX3_take 41 = .ok (.dup, 1) := by decide +kernel
theorem dX3_take_42 : decode cX3_take 42 = .ok (.getfield 15, 3) := by decide +kernel
theorem dX3_take_45 : decode cX3_take 45 = .ok (.iconst 1, 1) := by decide +kernel
theorem dX3_take_46 : decode cX3_take 46 = .ok (.iadd, 1) := by decide +kernel
theorem dX3_take_47 : decode cX3_take 47 = .ok (.putfield 15, 3) := by decide +kernel
theorem dX3_take_50 : decode cX3_take 50 = .ok (.iinc 2 (-8), 3) := by decide +kernel
theorem dX3_take_53 : decode cX3_take 53 = .ok (.goto (-50), 3) := by decide +kernel
theorem dX3_take_56 : decode cX3_take 56 = .ok (.return_, 1) := by decide +kernel
theorem dX3_size_0 : decode cX3_size 0 = .ok (.aload_n 0, 1) := by decide +kernel
theorem dX3_size_1 : decode cX3_size 1 = .ok (.getfield 15, 3) := by decide +kernel
theorem dX3_size_4 : decode cX3_size 4 = .ok (.ireturn, 1) := by decide +kernel
theorem dX3_sign_0 : decode cX3_sign 0 = .ok (.iload_n 1, 1) := by decide +kernel
theorem dX3_sign_1 : decode cX3_sign 1 = .ok (.ifCond .lt 27, 3) := by decide +kernel
theorem dX3_sign_4 : decode cX3_sign 4 = .ok (.iload_n 1, 1) := by decide +kernel
theorem dX3_sign_5 : decode cX3_sign 5 = .ok (.aload_n 0, 1) := by decide +kernel
theorem dX3_sign_6 : decode cX3_sign 6 = .ok (.getfield 15, 3) := by decide +kernel
theorem dX3_sign_9 : decode cX3_sign 9 = .ok (.if_icmp .ge 19, 3) := by decide +kernel
theorem dX3_sign_12 : decode cX3_sign 12 = .ok (.iload_n 1, 1) := by decide +kernel
theorem dX3_sign_13 : decode cX3_sign 13 = .ok (.sipush 400, 3) := by decide +kernel
theorem dX3_sign_16 : decode cX3_sign 16 = .ok (.if_icmp .ge 12, 3) := by decide +kernel
theorem dX3_sign_19 : decode cX3_sign 19 = .ok (.aload_n 0, 1) := by decide +kernel
theorem dX3_sign_20 : decode cX3_sign 20 = .ok (.getfield 9, 3) := by decide +kernel
theorem dX3_sign_23 : decode cX3_sign 23 = .ok (.iload_n 1, 1) := by decide +kernel
theorem dX3_sign_24 : decode cX3_sign 24 = .ok (.caload, 1) := by decide +kernel
theorem dX3_sign_25 : decode cX3_sign 25 = .ok (.goto 4, 3) := by decide +kernel
theorem dX3_sign_28 : decode cX3_sign 28 = .ok (.iconst 0, 1) := by decide +kernel
theorem dX3_sign_29 : decode cX3_sign 29 = .ok (.ireturn, 1) := by decide +kernel
theorem dX3_empty_0 : decode cX3_empty 0 = .ok (.aload_n 0, 1) := by decide +kernel
theorem dX3_empty_1 : decode cX3_empty 1 = .ok (.iconst 0, 1) := by decide +kernel
theorem dX3_empty_2 : decode cX3_empty 2 = .ok (.putfield 15, 3) := by decide +kernel
theorem dX3_empty_5 : decode cX3_empty 5 = .ok (.return_, 1) := by decide +kernel
theorem dX4_init_0 : decode cX4_init 0 = .ok (.aload_n 0, 1) := by decide +kernel
theorem dX4_init_1 : decode cX4_init 1 = .ok (.invokespecial 3, 3) := by decide +kernel
theorem dX4_init_4 : decode cX4_init 4 = .ok (.aload_n 0, 1) := by decide +kernel
theorem dX4_init_5 : decode cX4_init 5 = .ok (.sipush 5034, 3) := by decide +kernel
theorem dX4_init_8 : decode cX4_init 8 = .ok (.newarray .char, 2) := by decide +kernel
theorem dX4_init_10 : decode cX4_init 10 = .ok (.putfield 11, 3) := by decide +kernel
theorem dX4_init_13 : decode cX4_init 13 = .ok (.aload_n 0, 1) := by decide +kernel
theorem dX4_init_14 : decode cX4_init 14 = .ok (.iconst 0, 1) := by decide +kernel
theorem dX4_init_15 : decode cX4_init 15 = .ok (.putfield 15, 3) := by decide +kernel
theorem dX4_init_18 : decode cX4_init 18 = .ok (.return_, 1) := by decide +kernel
theorem dX5_init_0 : decode cX5_init 0 = .ok (.aload_n 0, 1) := by decide +kernel
theorem dX5_init_1 : decode cX5_init 1 = .ok (.invokespecial 3, 3) := by decide +kernel
theorem dX5_init_4 : decode cX5_init 4 = .ok (.aload_n 0, 1) := by decide +kernel
theorem dX5_init_5 : decode cX5_init 5 = .ok (.sipush 400, 3) := by decide +kernel
theorem dX5_init_8 : decode cX5_init 8 = .ok (.newarray .int, 2) := by decide +kernel
theorem dX5_init_10 : decode cX5_init 10 = .ok (.putfield 9, 3) := by decide +kernel
theorem dX5_init_13 : decode cX5_init 13 = .ok (.aload_n 0, 1) := by decide +kernel
theorem dX5_init_14 : decode cX5_init 14 = .ok (.sipush 400, 3) := by decide +kernel
theorem dX5_init_17 : decode cX5_init 17 = .ok (.newarray .int, 2) := by decide +kernel
theorem dX5_init_19 : decode cX5_init 19 = .ok (.putfield 15, 3) := by decide +kernel
theorem dX5_init_22 : decode cX5_init 22 = .ok (.aload_n 0, 1) := by decide +kernel
theorem dX5_init_23 : decode cX5_init 23 = .ok (.sipush 400, 3) := by decide +kernel
theorem dX5_init_26 : decode cX5_init 26 = .ok (.newarray .int, 2) := by decide +kernel
theorem dX5_init_28 : decode cX5_init 28 = .ok (.putfield 18, 3) := by decide +kernel
theorem dX5_init_31 : decode cX5_init 31 = .ok (.aload_n 0, 1) := by decide +kernel
theorem dX5_init_32 : decode cX5_init 32 = .ok (.iconst 0, 1) := by decide +kernel
theorem dX5_init_33 : decode cX5_init 33 = .ok (.putfield 21, 3) := by decide +kernel
theorem dX5_init_36 : decode cX5_init 36 = .ok (.aload_n 0, 1) := by decide +kernel
theorem dX5_init_37 : decode cX5_init 37 = .ok (.iconst 0, 1) := by decide +kernel
theorem dX5_init_38 : decode cX5_init 38 = .ok (.putfield 25, 3) := by decide +kernel
theorem dX5_init_41 : decode cX5_init 41 = .ok (.aload_n 0, 1) := by decide +kernel
theorem dX5_init_42 : decode cX5_init 42 = .ok (.iconst 0, 1) := by decide +kernel
theorem dX5_init_43 : decode cX5_init 43 = .ok (.putfield 28, 3) := by decide +kernel
theorem dX5_init_46 : decode cX5_init 46 = .ok (.return_, 1) := by decide +kernel
set_option maxRecDepth 20000 in
theorem ggX5_readAll_X3_size : GoodIn wsX5_readAll wsX3_size := goodIn_r _ [8, 9, 136, 137] (by decide +kernel) (by decide +kernel)
set_option maxRecDepth 20000 in
theorem gX5_readAll_X3_size : GoodIn wsX5_readAll (wsV RX5 31 RX3 yX3_size wsX3_size) := goodIn_app (goodIn_of _ (by decide +kernel)) ggX5_readAll_X3_size
set_option maxRecDepth 20000 in
theorem ggX5_readAll_X3_sign : GoodIn wsX5_readAll wsX3_sign := goodIn_r _ [13, 9, 14, 136, 137] (by decide +kernel) (by decide +kernel)
set_option maxRecDepth 20000 in
theorem gX5_readAll_X3_sign : GoodIn wsX5_readAll (wsV RX5 37 RX3 yX3_sign wsX3_sign) := goodIn_app (goodIn_of _ (by decide +kernel)) ggX5_readAll_X3_sign
set_option maxRecDepth 20000 in
theorem ggX5_readAll_X5_isBlank : GoodIn wsX5_readAll wsX5_isBlank := goodIn_r _ [18] (by decide +kernel) (by decide +kernel)
set_option maxRecDepth 20000 in
theorem gX5_readAll_X5_isBlank : GoodIn wsX5_readAll (va_wsS RX5 41 yX5_isBlank wsX5_isBlank) := goodIn_app (goodIn_of _ (by decide +kernel)) ggX5_readAll_X5_isBlank
set_option maxRecDepth 20000 in
theorem ggX5_readAll_X5_readOne : GoodIn wsX5_readAll wsX5_readOne := goodIn_r _ [22, 10, 11, 12, 7, 13, 9, 14, 23, 24, 17, 25, 26, 27, 28, 29, 3, 30, 31, 32, 33, 34, 35, 36, 37, 1, 38, 39, 40, 41, 42, 43, 44, 45, 46, 47, 48, 49, 50, 51, 52, 53, 54, 55, 56, 57, 58, 59, 60, 61, 62, 63, 64, 65, 66, 67, 68, 69, 70, 71, 72, 73, 74, 75, 76, 77, 78, 79, 80, 81, 82, 83, 84, 85, 86, 87, 88, 89, 90, 91, 92, 93, 94, 95, 96, 97, 98, 99, 100, 101, 102, 103, 104, 105, 106, 107, 108, 109, 110, 111, 112, 113, 114, 115, 116, 117, 118, 119, 120, 121, 122, 123, 124, 125, 126, 127, 128, 129, 136, 137, 130, 131, 132, 133, 134, 135, 138, 139, 140, 141] (by decide +kernel) (by decide +kernel)
set_option maxRecDepth 20000 in
theorem gX5_readAll_X5_readOne : GoodIn wsX5_readAll (wsV RX5 45 RX5 yX5_readOne wsX5_readOne) := goodIn_app (goodIn_of _ (by decide +kernel)) ggX5_readAll_X5_readOne
theorem dX5_readAll_0 : decode cX5_readAll 0 = .ok (.aload_n 0, 1) := by decide +kernel
theorem dX5_readAll_1 : decode cX5_readAll 1 = .ok (.iconst 0, 1) := by decide +kernel
theorem dX5_readAll_2 : decode cX5_readAll 2 = .ok (.putfield 21, 3) := by decide +kernel
theorem dX5_readAll_5 : decode cX5_readAll 5 = .ok (.aload_n 0, 1) := by decide +kernel
theorem dX5_readAll_6 : decode cX5_readAll 6 = .ok (.iconst 0, 1) := by decide +kernel
theorem dX5_readAll_7 : decode cX5_readAll 7 = .ok (.putfield 25, 3) := by decide +kernel
theorem dX5_readAll_10 : decode cX5_readAll 10 = .ok (.aload_n 0, 1) := by decide +kernel
theorem dX5_readAll_11 : decode cX5_readAll 11 = .ok (.aload_n 1, 1) := by decide +kernel
theorem dX5_readAll_12 : decode cX5_readAll 12 = .ok (.invokevirtual 31, 3) := by decide +kernel
theorem dX5_readAll_15 : decode cX5_readAll 15 = .ok (.putfield 28, 3) := by decide +kernel
theorem dX5_readAll_18 : decode cX5_readAll 18 = .ok (.iconst 0, 1) := by decide +kernel
theorem dX5_readAll_19 : decode cX5_readAll 19 = .ok (.istore_n 2, 1) := by decide +kernel
theorem dX5_readAll_20 : decode cX5_readAll 20 = .ok (.iconst 0, 1) := by decide +kernel
theorem dX5_readAll_21 : decode cX5_readAll 21 = .ok (.istore_n 3, 1) := by decide +kernel
theorem dX5_readAll_22 : decode cX5_readAll 22 = .ok (.iload_n 3, 1) := by decide +kernel
theorem dX5_readAll_23 : decode cX5_readAll 23 = .ok (.aload_n 0, 1) := by decide +kernel
theorem dX5_readAll_24 : decode cX5_readAll 24 = .ok (.getfield 28, 3) := by decide +kernel
theorem dX5_readAll_27 : decode cX5_readAll 27 = .ok (.if_icmp .ge 34, 3) := by decide +kernel
theorem dX5_readAll_30 : decode cX5_readAll 30 = .ok (.iload_n 3, 1) := by decide +kernel
theorem dX5_readAll_31 : decode cX5_readAll 31 = .ok (.iload_n 2, 1) := by decide +kernel
theorem dX5_readAll_32 : decode cX5_readAll 32 = .ok (.if_icmp .lt 23, 3) := by decide +kernel
theorem dX5_readAll_35 : decode cX5_readAll 35 = .ok (.aload_n 1, 1) := by decide +kernel
theorem dX5_readAll_36 : decode cX5_readAll 36 = .ok (.iload_n 3, 1) := by decide +kernel
theorem dX5_readAll_37 : decode cX5_readAll 37 = .ok (.invokevirtual 37, 3) := by decide +kernel
theorem dX5_readAll_40 : decode cX5_readAll 40 = .ok (.invokestatic 41, 3) := by decide +kernel
theorem dX5_readAll_43 : decode cX5_readAll 43 = .ok (.ifCond .ne 12, 3) := by decide +kernel
theorem dX5_readAll_46 : decode cX5_readAll 46 = .ok (.iload_n 3, 1) := by decide +kernel
theorem dX5_readAll_47 : decode cX5_readAll 47 = .ok (.aload_n 0, 1) := by decide +kernel
theorem dX5_readAll_48 : decode cX5_readAll 48 = .ok (.aload_n 1, 1) := by decide +kernel
theorem dX5_readAll_49 : decode cX5_readAll 49 = .ok (.iload_n 3, 1) := by decide +kernel
theorem dX5_readAll_50 : decode cX5_readAll 50 = .ok (.invokevirtual 45, 3) := by decide +kernel
theorem dX5_readAll_53 : decode cX5_readAll 53 = .ok (.iadd, 1) := by decide +kernel
theorem dX5_readAll_54 : decode cX5_readAll 54 = .ok (.istore_n 2, 1) := by decide +kernel
theorem dX5_readAll_55 : decode cX5_readAll 55 = .ok (.iinc 3 1, 3) := by decide +kernel
theorem dX5_readAll_58 : decode cX5_readAll 58 = .ok (.goto (-36), 3) := by decide +kernel
theorem dX5_readAll_61 : decode cX5_readAll 61 = .ok (.return_, 1) := by decide +kernel
theorem dX5_kind_0 : decode cX5_kind 0 = .ok (.aload_n 0, 1) := by decide +kernel
theorem dX5_kind_1 : decode cX5_kind 1 = .ok (.getfield 25, 3) := by decide +kernel
theorem dX5_kind_4 : decode cX5_kind 4 = .ok (.ifCond .lt 36, 3) := by decide +kernel
theorem dX5_kind_7 : decode cX5_kind 7 = .ok (.aload_n 0, 1) := by decide +kernel
theorem dX5_kind_8 : decode cX5_kind 8 = .ok (.getfield 25, 3) := by decide +kernel
theorem dX5_kind_11 : decode cX5_kind 11 = .ok (.aload_n 0, 1) := by decide +kernel
theorem dX5_kind_12 : decode cX5_kind 12 = .ok (.getfield 21, 3) := by decide +kernel
theorem dX5_kind_15 : decode cX5_kind 15 = .ok (.if_icmp .ge 25, 3) := by decide +kernel
theorem dX5_kind_18 : decode cX5_kind 18 = .ok (.aload_n 0, 1) := by decide +kernel
theorem dX5_kind_19 : decode cX5_kind 19 = .ok (.getfield 25, 3) := by decide +kernel
theorem dX5_kind_22 : decode cX5_kind 22 = .ok (.sipush 400, 3) := by decide +kernel
theorem dX5_kind_25 : decode cX5_kind 25 = .ok (.if_icmp .ge 15, 3) := by decide +kernel
theorem dX5_kind_28 : decode cX5_kind 28 = .ok (.aload_n 0, 1) := by decide +kernel
theorem dX5_kind_29 : decode cX5_kind 29 = .ok (.getfield 9, 3) := by decide +kernel
theorem dX5_kind_32 : decode cX5_kind 32 = .ok (.aload_n 0, 1) := by decide +kernel
theorem dX5_kind_33 : decode cX5_kind 33 = .ok (.getfield 25, 3) := by decide +kernel
theorem dX5_kind_36 : decode cX5_kind 36 = .ok (.iaload, 1) := by decide +kernel
theorem dX5_kind_37 : decode cX5_kind 37 = .ok (.goto 4, 3) := by decide +kernel
theorem dX5_kind_40 : decode cX5_kind 40 = .ok (.iconst 0, 1) := by decide +kernel
theorem dX5_kind_41 : decode cX5_kind 41 = .ok (.ireturn, 1) := by decide +kernel
theorem dX5_value_0 : decode cX5_value 0 = .ok (.aload_n 0, 1) := by decide +kernel
theorem dX5_value_1 : decode cX5_value 1 = .ok (.getfield 25, 3) := by decide +kernel
theorem dX5_value_4 : decode cX5_value 4 = .ok (.ifCond .lt 36, 3) := by decide +kernel
theorem dX5_value_7 : decode cX5_value 7 = .ok (.aload_n 0, 1) := by decide +kernel
theorem dX5_value_8 : decode cX5_value 8 = .ok (.getfield 25, 3) := by decide +kernel
theorem dX5_value_11 : decode cX5_value 11 = .ok (.aload_n 0, 1) := by decide +kernel
theorem dX5_value_12 : decode cX5_value 12 = .ok (.getfield 21, 3) := by decide +kernel
theorem dX5_value_15 : decode cX5_value 15 = .ok (.if_icmp .ge 25, 3) := by decide +kernel
theorem dX5_value_18 : decode cX5_value 18 = .ok (.aload_n 0, 1) := by decide +kernel
theorem dX5_value_19 : decode cX5_value 19 = .ok (.getfield 25, 3) := by decide +kernel
theorem dX5_value_22 : decode cX5_value 22 = .ok (.sipush 400, 3) := by decide +kernel
theorem dX5_value_25 : decode cX5_value 25 = .ok (.if_icmp .ge 15, 3) := by decide +kernel
theorem dX5_value_28 : decode cX5_value 28 = .ok (.aload_n 0, 1) := by decide +kernel
theorem dX5_value_29 : decode cX5_value 29 = .ok (.getfield 15, 3) := by decide +kernel
theorem dX5_value_32 : decode cX5_value 32 = .ok (.aload_n 0, 1) := by decide +kernel
theorem dX5_value_33 : decode cX5_value 33 = .ok (.getfield 25, 3) := by decide +kernel
theorem dX5_value_36 : decode cX5_value 36 = .ok (.iaload, 1) := by decide +kernel
theorem dX5_value_37 : decode cX5_value 37 = .ok (.goto 4, 3) := by decide +kernel
theorem dX5_value_40 : decode cX5_value 40 = .ok (.iconst 0, 1) := by decide +kernel
theorem dX5_value_41 : decode cX5_value 41 = .ok (.ireturn, 1) := by decide +kernel
theorem dX5_start_0 : decode cX5_start 0 = .ok (.aload_n 0, 1) := by decide +kernel
theorem dX5_start_1 : decode cX5_start 1 = .ok (.getfield 25, 3) := by decide +kernel
theorem dX5_start_4 : decode cX5_start 4 = .ok (.ifCond .lt 36, 3) := by decide +kernel
theorem dX5_start_7 : decode cX5_start 7 = .ok (.aload_n 0, 1) := by decide +kernel
theorem dX5_start_8 : decode cX5_start 8 = .ok (.getfield 25, 3) := by decide +kernel
theorem dX5_start_11 : decode cX5_start 11 = .ok (.aload_n 0, 1) := by decide +kernel
theorem dX5_start_12 : decode cX5_start 12 = .ok (.getfield 21, 3) := by decide +kernel
theorem dX5_start_15 : decode cX5_start 15 = .ok (.if_icmp .ge 25, 3) := by decide +kernel
theorem dX5_start_18 : decode cX5_start 18 = .ok (.aload_n 0, 1) := by decide +kernel
theorem dX5_start_19 : decode cX5_start 19 = .ok (.getfield 25, 3) := by decide +kernel
theorem dX5_start_22 : decode cX5_start 22 = .ok (.sipush 400, 3) := by decide +kernel
theorem dX5_start_25 : decode cX5_start 25 = .ok (.if_icmp .ge 15, 3) := by decide +kernel
theorem dX5_start_28 : decode cX5_start 28 = .ok (.aload_n 0, 1) := by decide +kernel
theorem dX5_start_29 : decode cX5_start 29 = .ok (.getfield 18, 3) := by decide +kernel
theorem dX5_start_32 : decode cX5_start 32 = .ok (.aload_n 0, 1) := by decide +kernel
theorem dX5_start_33 : decode cX5_start 33 = .ok (.getfield 25, 3) := by decide +kernel
theorem dX5_start_36 : decode cX5_start 36 = .ok (.iaload, 1) := by decide +kernel
theorem dX5_start_37 : decode cX5_start 37 = .ok (.goto 7, 3) := by decide +kernel
theorem dX5_start_40 : decode cX5_start 40 = .ok (.aload_n 0, 1) := by decide +kernel
theorem dX5_start_41 : decode cX5_start 41 = .ok (.getfield 28, 3) := by decide +kernel
theorem dX5_start_44 : decode cX5_start 44 = .ok (.ireturn, 1) := by decide +kernel
theorem dX5_advance_0 : decode cX5_advance 0 = .ok (.aload_n 0, 1) := by decide +kernel
theorem dX5_advance_1 : decode cX5_advance 1 = .ok (.dup, 1) := by decide +kernel
theorem dX5_advance_2 : decode cX5_advance 2 = .ok (.getfield 25, 3) := by decide +kernel
theorem dX5_advance_5 : decode cX5_advance 5 = .ok (.iconst 1, 1) := by decide +kernel
theorem dX5_advance_6 : decode cX5_advance 6 = .ok (.iadd, 1) := by decide +kernel
theorem dX5_advance_7 : decode cX5_advance 7 = .ok (.putfield 25, 3) := by decide +kernel
theorem dX5_advance_10 : decode cX5_advance 10 = .ok (.return_, 1) := by decide +kernel
set_option maxRecDepth 20000 in
theorem ggX5_readOne_X3_sign : GoodIn wsX5_readOne wsX3_sign := goodIn_r _ [5, 6, 7, 118, 119] (by decide +kernel) (by decide +kernel)
set_option maxRecDepth 20000 in
theorem gX5_readOne_X3_sign : GoodIn wsX5_readOne (wsV RX5 37 RX3 yX3_sign wsX3_sign) := goodIn_app (goodIn_of _ (by decide +kernel)) ggX5_readOne_X3_sign
set_option maxRecDepth 20000 in
theorem ggX5_readOne_X5_isDigit : GoodIn wsX5_readOne wsX5_isDigit := goodIn_r _ [11] (by decide +kernel) (by decide +kernel)
set_option maxRecDepth 20000 in
theorem gX5_readOne_X5_isDigit : GoodIn wsX5_readOne (va_wsS RX5 49 yX5_isDigit wsX5_isDigit) := goodIn_app (goodIn_of _ (by decide +kernel)) ggX5_readOne_X5_isDigit
set_option maxRecDepth 20000 in
theorem ggX5_readOne_X5_readNumber : GoodIn wsX5_readOne wsX5_readNumber := goodIn_r _ [15, 16, 17, 18, 19, 20, 1, 2, 3, 4, 5, 6, 7, 8, 9, 10, 11, 21, 22, 23, 24, 25, 26, 27, 28, 120, 121, 122, 123, 124, 125, 118, 119] (by decide +kernel) (by decide +kernel)
set_option maxRecDepth 20000 in
theorem gX5_readOne_X5_readNumber : GoodIn wsX5_readOne (wsV RX5 52 RX5 yX5_readNumber wsX5_readNumber) := goodIn_app (goodIn_of _ (by decide +kernel)) ggX5_readOne_X5_readNumber
set_option maxRecDepth 20000 in
theorem ggX5_readOne_X5_keep : GoodIn wsX5_readOne wsX5_keep := goodIn_r _ [24, 25, 26, 27, 28, 120, 121, 122, 123, 124, 125] (by decide +kernel) (by decide +kernel)
set_option maxRecDepth 20000 in
theorem gX5_readOne_X5_keep : GoodIn wsX5_readOne (wsV RX5 55 RX5 yX5_keep wsX5_keep) := goodIn_app (goodIn_of _ (by decide +kernel)) ggX5_readOne_X5_keep
set_option maxRecDepth 20000 in
theorem ggX5_readOne_X5_isSign : GoodIn wsX5_readOne wsX5_isSign := goodIn_r _ [31, 32, 33, 34, 35, 36, 37, 38, 39, 40, 41, 42, 43, 44, 45, 46, 47, 48, 49, 50, 51, 52, 53, 54, 55, 56, 57, 58, 59, 60, 61, 19, 62, 63, 18, 20, 64, 65, 66, 67, 68, 69, 70, 71, 72, 73, 74, 75, 76, 77, 78, 79, 80, 81, 82, 83, 84, 85, 86, 87, 88, 89, 90, 91, 92, 93, 94, 95, 96, 97, 98, 99, 100, 101, 102, 103, 104, 105, 106, 107, 108, 109, 110, 111, 112, 113, 114, 115, 116, 117, 126, 127, 128, 129] (by decide +kernel) (by decide +kernel)
set_option maxRecDepth 20000 in
theorem gX5_readOne_X5_isSign : GoodIn wsX5_readOne (va_wsS RX5 59 yX5_isSign wsX5_isSign) := goodIn_app (goodIn_of _ (by decide +kernel)) ggX5_readOne_X5_isSign
theorem dX5_readOne_0 : decode cX5_readOne 0 = .ok (.aload_n 1, 1) := by decide +kernel
theorem dX5_readOne_1 : decode cX5_readOne 1 = .ok (.iload_n 2, 1) := by decide +kernel
theorem dX5_readOne_2 : decode cX5_readOne 2 = .ok (.invokevirtual 37, 3) := by decide +kernel
theorem dX5_readOne_5 : decode cX5_readOne 5 = .ok (.istore_n 3, 1) := by decide +kernel
theorem dX5_readOne_6 : decode cX5_readOne 6 = .ok (.iload_n 3, 1) := by decide +kernel
theorem dX5_readOne_7 : decode cX5_readOne 7 = .ok (.invokestatic 49, 3) := by decide +kernel
theorem dX5_readOne_10 : decode cX5_readOne 10 = .ok (.ifCond .eq 10, 3) := by decide +kernel
theorem dX5_readOne_13 : decode cX5_readOne 13 = .ok (.aload_n 0, 1) := by decide +kernel
theorem dX5_readOne_14 : decode cX5_readOne 14 = .ok (.aload_n 1, 1) := by decide +kernel
theorem dX5_readOne_15 : decode cX5_readOne 15 = .ok (.iload_n 2, 1) := by decide +kernel
theorem dX5_readOne_16 : decode cX5_readOne 16 = .ok (.invokevirtual 52, 3) := by decide +kernel
theorem dX5_readOne_19 : decode cX5_readOne 19 = .ok (.ireturn, 1) := by decide +kernel
theorem dX5_readOne_20 : decode cX5_readOne 20 = .ok (.iload_n 3, 1) := by decide +kernel
theorem dX5_readOne_21 : decode cX5_readOne 21 = .ok (.bipush 97, 2) := by decide +kernel
theorem dX5_readOne_23 : decode cX5_readOne 23 = .ok (.if_icmp .lt 21, 3) := by decide +kernel
theorem dX5_readOne_26 : decode cX5_readOne 26 = .ok (.iload_n 3, 1) := by decide +kernel
theorem dX5_readOne_27 : decode cX5_readOne 27 = .ok (.bipush 104, 2) := by decide +kernel
theorem dX5_readOne_29 : decode cX5_readOne 29 = .ok (.if_icmp .gt 15, 3) := by decide +kernel
theorem dX5_readOne_32 : decode cX5_readOne 32 = .ok (.aload_n 0, 1) := by decide +kernel
theorem dX5_readOne_33 : decode cX5_readOne 33 = .ok (.iconst 2, 1) := by decide +kernel
theorem dX5_readOne_34 : decode cX5_readOne 34 = .ok (.iload_n 3, 1) := by decide +kernel
theorem dX5_readOne_35 : decode cX5_readOne 35 = .ok (.bipush 97, 2) := by decide +kernel
theorem dX5_readOne_37 : decode cX5_readOne 37 = .ok (.isub, 1) := by decide +kernel
theorem dX5_readOne_38 : decode cX5_readOne 38 = .ok (.iload_n 2, 1) := by decide +kernel
theorem dX5_readOne_39 : decode cX5_readOne 39 = .ok (.invokevirtual 55, 3) := by decide +kernel
theorem dX5_readOne_42 : decode cX5_readOne 42 = .ok (.iconst 1, 1) := by decide +kernel
theorem dX5_readOne_43 : decode cX5_readOne 43 = .ok (.ireturn, 1) := by decide +kernel
theorem dX5_readOne_44 : decode cX5_readOne 44 = .ok (.iload_n 3, 1) := by decide +kernel
theorem dX5_readOne_45 : decode cX5_readOne 45 = .ok (.bipush 46, 2) := by decide +kernel
theorem dX5_readOne_47 : decode cX5_readOne 47 = .ok (.if_icmp .ne 24, 3) := by decide +kernel
theorem dX5_readOne_50 : decode cX5_readOne 50 = .ok (.aload_n 1, 1) := by decide +kernel
theorem dX5_readOne_51 : decode cX5_readOne 51 = .ok (.iload_n 2, 1) := by decide +kernel
theorem dX5_readOne_52 : decode cX5_readOne 52 = .ok (.iconst 1, 1) := by decide +kernel
theorem dX5_readOne_53 : decode cX5_readOne 53 = .ok (.iadd, 1) := by decide +kernel
theorem dX5_readOne_54 : decode cX5_readOne 54 = .ok (.invokevirtual 37, 3) := by decide +kernel
theorem dX5_readOne_57 : decode cX5_readOne 57 = .ok (.bipush 46, 2) := by decide +kernel
theorem dX5_readOne_59 : decode cX5_readOne 59 = .ok (.if_icmp .ne 12, 3) := by decide +kernel
theorem dX5_readOne_62 : decode cX5_readOne 62 = .ok (.aload_n 0, 1) := by decide +kernel
theorem dX5_readOne_63 : decode cX5_readOne 63 = .ok (.iconst 4, 1) := by decide +kernel
theorem dX5_readOne_64 : decode cX5_readOne 64 = .ok (.iconst 0, 1) := by decide +kernel
theorem dX5_readOne_65 : decode cX5_readOne 65 = .ok (.iload_n 2, 1) := by decide +kernel
theorem dX5_readOne_66 : decode cX5_readOne 66 = .ok (.invokevirtual 55, 3) := by decide +kernel
theorem dX5_readOne_69 : decode cX5_readOne 69 = .ok (.iconst 2, 1) := by decide +kernel
theorem dX5_readOne_70 : decode cX5_readOne 70 = .ok (.ireturn, 1) := by decide +kernel
theorem dX5_readOne_71 : decode cX5_readOne 71 = .ok (.aload_n 0, 1) := by decide +kernel
theorem dX5_readOne_72 : decode cX5_readOne 72 = .ok (.iload_n 3, 1) := by decide +kernel
theorem dX5_readOne_73 : decode cX5_readOne 73 = .ok (.invokestatic 59, 3) := by decide +kernel
theorem dX5_readOne_76 : decode cX5_readOne 76 = .ok (.ifCond .eq 7, 3) := by decide +kernel
theorem dX5_readOne_79 : decode cX5_readOne 79 = .ok (.iload_n 3, 1) := by decide +kernel
theorem dX5_readOne_80 : decode cX5_readOne 80 = .ok (.goto 4, 3) := by decide +kernel
theorem dX5_readOne_83 : decode cX5_readOne 83 = .ok (.iconst 1, 1) := by decide +kernel
theorem dX5_readOne_84 : decode cX5_readOne 84 = .ok (.iconst 0, 1) := by decide +kernel
theorem dX5_readOne_85 : decode cX5_readOne 85 = .ok (.iload_n 2, 1) := by decide +kernel
theorem dX5_readOne_86 : decode cX5_readOne 86 = .ok (.invokevirtual 55, 3) := by decide +kernel
theorem dX5_readOne_89 : decode cX5_readOne 89 = .ok (.iconst 1, 1) := by decide +kernel
theorem dX5_readOne_90 : decode cX5_readOne 90 = .ok (.ireturn, 1) := by decide +kernel
set_option maxRecDepth 20000 in
theorem ggX5_readNumber_X3_sign : GoodIn wsX5_readNumber wsX3_sign := goodIn_r _ [10, 11, 12, 31, 32] (by decide +kernel) (by decide +kernel)
set_option maxRecDepth 20000 in
theorem gX5_readNumber_X3_sign : GoodIn wsX5_readNumber (wsV RX5 37 RX3 yX3_sign wsX3_sign) := goodIn_app (goodIn_of _ (by decide +kernel)) ggX5_readNumber_X3_sign
set_option maxRecDepth 20000 in
theorem ggX5_readNumber_X5_isDigit : GoodIn wsX5_readNumber wsX5_isDigit := goodIn_r _ [16] (by decide +kernel) (by decide +kernel)
set_option maxRecDepth 20000 in
theorem gX5_readNumber_X5_isDigit : GoodIn wsX5_readNumber (va_wsS RX5 49 yX5_isDigit wsX5_isDigit) := goodIn_app (goodIn_of _ (by decide +kernel)) ggX5_readNumber_X5_isDigit
set_option maxRecDepth 20000 in
theorem ggX5_readNumber_X5_keep : GoodIn wsX5_readNumber wsX5_keep := goodIn_r _ [20, 21, 22, 23, 24, 25, 26, 27, 28, 29, 30] (by decide +kernel) (by decide +kernel)
set_option maxRecDepth 20000 in
theorem gX5_readNumber_X5_keep : GoodIn wsX5_readNumber (wsV RX5 55 RX5 yX5_keep wsX5_keep) := goodIn_app (goodIn_of _ (by decide +kernel)) ggX5_readNumber_X5_keep
theorem dX5_readNumber_0 : decode cX5_readNumber 0 = .ok (.iconst 0, 1) := by decide +kernel
theorem dX5_readNumber_1 : decode cX5_readNumber 1 = .ok (.istore_n 3, 1) := by decide +kernel
theorem dX5_readNumber_2 : decode cX5_readNumber 2 = .ok (.iload_n 2, 1) := by decide +kernel
theorem dX5_readNumber_3 : decode cX5_readNumber 3 = .ok (.istore 4, 2) := by decide +kernel
theorem dX5_readNumber_5 : decode cX5_readNumber 5 = .ok (.iload 4, 2) := by decide +kernel
theorem dX5_readNumber_7 : decode cX5_readNumber 7 = .ok (.aload_n 0, 1) := by decide +kernel
theorem dX5_readNumber_8 : decode cX5_readNumber 8 = .ok (.getfield 28, 3) := by decide +kernel
theorem dX5_readNumber_11 : decode cX5_readNumber 11 = .ok (.if_icmp .ge 42, 3) := by decide +kernel
theorem dX5_readNumber_14 : decode cX5_readNumber 14 = .ok (.aload_n 1, 1) := by decide +kernel
theorem dX5_readNumber_15 : decode cX5_readNumber 15 = .ok (.iload 4, 2) := by decide +kernel
theorem dX5_readNumber_17 : decode cX5_readNumber 17 = .ok (.invokevirtual 37, 3) := by decide +kernel
theorem dX5_readNumber_20 : decode cX5_readNumber 20 = .ok (.invokestatic 49, 3) := by decide +kernel
theorem dX5_readNumber_23 : decode cX5_readNumber 23 = .ok (.ifCond .eq 30, 3) := by decide +kernel
theorem dX5_readNumber_26 : decode cX5_readNumber 26 = .ok (.bipush 10, 2) := by decide +kernel
theorem dX5_readNumber_28 : decode cX5_readNumber 28 = .ok (.iload_n 3, 1) := by decide +kernel
theorem dX5_readNumber_29 : decode cX5_readNumber 29 = .ok (.imul, 1) := by decide +kernel
theorem dX5_readNumber_30 : decode cX5_readNumber 30 = .ok (.aload_n 1, 1) := by decide +kernel
theorem dX5_readNumber_31 : decode cX5_readNumber 31 = .ok (.iload 4, 2) := by decide +kernel
theorem dX5_readNumber_33 : decode cX5_readNumber 33 = .ok (.invokevirtual 37, 3) := by decide +kernel
theorem dX5_readNumber_36 : decode cX5_readNumber 36 = .ok (.bipush 48, 2) := by decide +kernel
theorem dX5_readNumber_38 : decode cX5_readNumber 38 = .ok (.isub, 1) := by decide +kernel
theorem dX5_readNumber_39 : decode cX5_readNumber 39 = .ok (.iadd, 1) := by decide +kernel
theorem dX5_readNumber_40 : decode cX5_readNumber 40 = .ok (.sipush 1024, 3) := by decide +kernel
theorem dX5_readNumber_43 : decode cX5_readNumber 43 = .ok (.invokestatic 62, 3) := by decide +kernel
theorem dX5_readNumber_46 : decode cX5_readNumber 46 = .ok (.istore_n 3, 1) := by decide +kernel
theorem dX5_readNumber_47 : decode cX5_readNumber 47 = .ok (.iinc 4 1, 3) := by decide +kernel
theorem dX5_readNumber_50 : decode cX5_readNumber 50 = .ok (.goto (-45), 3) := by decide +kernel
theorem dX5_readNumber_53 : decode cX5_readNumber 53 = .ok (.iload 4, 2) := by decide +kernel
theorem dX5_readNumber_55 : decode cX5_readNumber 55 = .ok (.iload_n 2, 1) := by decide +kernel
theorem dX5_readNumber_56 : decode cX5_readNumber 56 = .ok (.isub, 1) := by decide +kernel
theorem dX5_readNumber_57 : decode cX5_readNumber 57 = .ok (.iconst 4, 1) := by decide +kernel
theorem dX5_readNumber_58 : decode cX5_readNumber 58 = .ok (.if_icmp .gt 14, 3) := by decide +kernel
theorem dX5_readNumber_61 : decode cX5_readNumber 61 = .ok (.iload_n 3, 1) := by decide +kernel
theorem dX5_readNumber_62 : decode cX5_readNumber 62 = .ok (.sipush 1023, 3) := by decide +kernel
theorem dX5_readNumber_65 : decode cX5_readNumber 65 = .ok (.if_icmp .gt 7, 3) := by decide +kernel
theorem dX5_readNumber_68 : decode cX5_readNumber 68 = .ok (.iconst 1, 1) := by decide +kernel
theorem dX5_readNumber_69 : decode cX5_readNumber 69 = .ok (.goto 4, 3) := by decide +kernel
theorem dX5_readNumber_72 : decode cX5_readNumber 72 = .ok (.iconst 0, 1) := by decide +kernel
theorem dX5_readNumber_73 : decode cX5_readNumber 73 = .ok (.istore 5, 2) := by decide +kernel
theorem dX5_readNumber_75 : decode cX5_readNumber 75 = .ok (.aload_n 0, 1) := by decide +kernel
theorem dX5_readNumber_76 : decode cX5_readNumber 76 = .ok (.iload 5, 2) := by decide +kernel
theorem dX5_readNumber_78 : decode cX5_readNumber 78 = .ok (.ifCond .eq 7, 3) := by decide +kernel
theorem dX5_readNumber_81 : decode cX5_readNumber 81 = .ok (.iconst 3, 1) := by decide +kernel
theorem dX5_readNumber_82 : decode cX5_readNumber 82 = .ok (.goto 4, 3) := by decide +kernel
theorem dX5_readNumber_85 : decode cX5_readNumber 85 = .ok (.iconst 1, 1) := by decide +kernel
theorem dX5_readNumber_86 : decode cX5_readNumber 86 = .ok (.iload_n 3, 1) := by decide +kernel
theorem dX5_readNumber_87 : decode cX5_readNumber 87 = .ok (.iload_n 2, 1) := by decide +kernel
theorem dX5_readNumber_88 : decode cX5_readNumber 88 = .ok (.invokevirtual 55, 3) := by decide +kernel
theorem dX5_readNumber_91 : decode cX5_readNumber 91 = .ok (.iload 4, 2) := by decide +kernel
theorem dX5_readNumber_93 : decode cX5_readNumber 93 = .ok (.iload_n 2, 1) := by decide +kernel
theorem dX5_readNumber_94 : decode cX5_readNumber 94 = .ok (.isub, 1) := by decide +kernel
theorem dX5_readNumber_95 : decode cX5_readNumber 95 = .ok (.ireturn, 1) := by decide +kernel
theorem dX5_keep_0 : decode cX5_keep 0 = .ok (.aload_n 0, 1) := by decide +kernel
theorem dX5_keep_1 : decode cX5_keep 1 = .ok (.getfield 21, 3) := by decide +kernel
theorem dX5_keep_4 : decode cX5_keep 4 = .ok (.ifCond .lt 53, 3) := by decide +kernel
theorem dX5_keep_7 : decode cX5_keep 7 = .ok (.aload_n 0, 1) := by decide +kernel
theorem dX5_keep_8 : decode cX5_keep 8 = .ok (.getfield 21, 3) := by decide +kernel
theorem dX5_keep_11 : decode cX5_keep 11 = .ok (.sipush 400, 3) := by decide +kernel
theorem dX5_keep_14 : decode cX5_keep 14 = .ok (.if_icmp .ge 43, 3) := by decide +kernel
theorem dX5_keep_17 : decode cX5_keep 17 = .ok (.aload_n 0, 1) := by decide +kernel
theorem dX5_keep_18 : decode cX5_keep 18 = .ok (.getfield 9, 3) := by decide +kernel
theorem dX5_keep_21 : decode cX5_keep 21 = .ok (.aload_n 0, 1) := by decide +kernel
theorem dX5_keep_22 : decode cX5_keep 22 = .ok (.getfield 21, 3) := by decide +kernel
theorem dX5_keep_25 : decode cX5_keep 25 = .ok (.iload_n 1, 1) := by decide +kernel
theorem dX5_keep_26 : decode cX5_keep 26 = .ok (.iastore, 1) := by decide +kernel
theorem dX5_keep_27 : decode cX5_keep 27 = .ok (.aload_n 0, 1) := by decide +kernel
theorem dX5_keep_28 : decode cX5_keep 28 = .ok (.getfield 15, 3) := by decide +kernel
theorem dX5_keep_31 : decode cX5_keep 31 = .ok (.aload_n 0, 1) := by decide +kernel
theorem dX5_keep_32 : decode cX5_keep 32 = .ok (.getfield 21, 3) := by decide +kernel
theorem dX5_keep_35 : decode cX5_keep 35 = .ok (.iload_n 2, 1) := by decide +kernel
theorem dX5_keep_36 : decode cX5_keep 36 = .ok (.iastore, 1) := by decide +kernel
theorem dX5_keep_37 : decode cX5_keep 37 = .ok (.aload_n 0, 1) := by decide +kernel
theorem dX5_keep_38 : decode cX5_keep 38 = .ok (.getfield 18, 3) := by decide +kernel
theorem dX5_keep_41 : decode cX5_keep 41 = .ok (.aload_n 0, 1) := by decide +kernel
theorem dX5_keep_42 : decode cX5_keep 42 = .ok (.getfield 21, 3) := by decide +kernel
theorem dX5_keep_45 : decode cX5_keep 45 = .ok (.iload_n 3, 1) := by decide +kernel
theorem dX5_keep_46 : decode cX5_keep 46 = .ok (.iastore, 1) := by decide +kernel
theorem dX5_keep_47 : decode cX5_keep 47 = .ok (.aload_n 0, 1) := by decide +kernel
theorem dX5_keep_48 : decode cX5_keep 48 = .ok (.dup, 1) := by decide +kernel
theorem dX5_keep_49 : decode cX5_keep 49 = .ok (.getfield 21, 3) := by decide +kernel
theorem dX5_keep_52 : decode cX5_keep 52 = .ok (.iconst 1, 1) := by decide +kernel
theorem dX5_keep_53 : decode cX5_keep 53 = .ok (.iadd, 1) := by decide +kernel
theorem dX5_keep_54 : decode cX5_keep 54 = .ok (.putfield 21, 3) := by decide +kernel
theorem dX5_keep_57 : decode cX5_keep 57 = .ok (.return_, 1) := by decide +kernel
theorem dX5_isBlank_0 : decode cX5_isBlank 0 = .ok (.iload_n 0, 1) := by decide +kernel
theorem dX5_isBlank_1 : decode cX5_isBlank 1 = .ok (.bipush 32, 2) := by decide +kernel
theorem dX5_isBlank_3 : decode cX5_isBlank 3 = .ok (.if_icmp .eq 9, 3) := by decide +kernel
theorem dX5_isBlank_6 : decode cX5_isBlank 6 = .ok (.iload_n 0, 1) := by decide +kernel
theorem dX5_isBlank_7 : decode cX5_isBlank 7 = .ok (.bipush 10, 2) := by decide +kernel
theorem dX5_isBlank_9 : decode cX5_isBlank 9 = .ok (.if_icmp .ne 7, 3) := by decide +kernel
theorem dX5_isBlank_12 : decode cX5_isBlank 12 = .ok (.iconst 1, 1) := by decide +kernel
theorem dX5_isBlank_13 : decode cX5_isBlank 13 = .ok (.goto 4, 3) := by decide +kernel
theorem dX5_isBlank_16 : decode cX5_isBlank 16 = .ok (.iconst 0, 1) := by decide +kernel
theorem dX5_isBlank_17 : decode cX5_isBlank 17 = .ok (.ireturn, 1) := by decide +kernel
theorem dX5_isDigit_0 : decode cX5_isDigit 0 = .ok (.iload_n 0, 1) := by decide +kernel
theorem dX5_isDigit_1 : decode cX5_isDigit 1 = .ok (.bipush 48, 2) := by decide +kernel
theorem dX5_isDigit_3 : decode cX5_isDigit 3 = .ok (.if_icmp .lt 13, 3) := by decide +kernel
theorem dX5_isDigit_6 : decode cX5_isDigit 6 = .ok (.iload_n 0, 1) := by decide +kernel
theorem dX5_isDigit_7 : decode cX5_isDigit 7 = .ok (.bipush 57, 2) := by decide +kernel
theorem dX5_isDigit_9 : decode cX5_isDigit 9 = .ok (.if_icmp .gt 7, 3) := by decide +kernel
theorem dX5_isDigit_12 : decode cX5_isDigit 12 = .ok (.iconst 1, 1) := by decide +kernel
theorem dX5_isDigit_13 : decode cX5_isDigit 13 = .ok (.goto 4, 3) := by decide +kernel
theorem dX5_isDigit_16 : decode cX5_isDigit 16 = .ok (.iconst 0, 1) := by decide +kernel
theorem dX5_isDigit_17 : decode cX5_isDigit 17 = .ok (.ireturn, 1) := by decide +kernel
set_option maxRecDepth 20000 in
theorem ggX5_isSign_J0_indexOf_0f7a4 : GoodIn wsX5_isSign wsJ0_indexOf_0f7a4 := goodIn_r _ [5, 6, 7, 8, 4, 9, 10, 11, 12, 13, 14, 15, 16, 17, 18, 19, 20, 21, 22, 23, 24, 25, 26, 27, 28, 29, 30, 31, 32, 33, 34, 35, 36, 37, 38, 39, 40, 41, 42, 43, 44, 45, 46, 47, 48, 49, 50, 51, 52, 53, 54, 55, 56, 57, 58, 59, 60, 61, 62, 63, 64, 65, 66, 67, 68, 69, 70, 71, 72, 73, 74, 75, 76, 77, 78, 79, 80, 81, 82, 83, 84, 85, 86, 87, 88, 89, 90, 91, 92, 93] (by decide +kernel) (by decide +kernel)
set_option maxRecDepth 20000 in
theorem gX5_isSign_J0_indexOf_0f7a4 : GoodIn wsX5_isSign (wsV RX5 70 RJ0 yJ0_indexOf_0f7a4 wsJ0_indexOf_0f7a4) := goodIn_app (goodIn_of _ (by decide +kernel)) ggX5_isSign_J0_indexOf_0f7a4
theorem dX5_isSign_0 : decode cX5_isSign 0 = .ok (.ldc 68, 2) := by decide +kernel
theorem dX5_isSign_2 : decode cX5_isSign 2 = .ok (.iload_n 0, 1) := by decide +kernel
theorem dX5_isSign_3 : decode cX5_isSign 3 = .ok (.invokevirtual 70, 3) := by decide +kernel
theorem dX5_isSign_6 : decode cX5_isSign 6 = .ok (.ifCond .lt 7, 3) := by decide +kernel
theorem dX5_isSign_9 : decode cX5_isSign 9 = .ok (.iconst 1, 1) := by decide +kernel
theorem dX5_isSign_10 : decode cX5_isSign 10 = .ok (.goto 4, 3) := by decide +kernel
theorem dX5_isSign_13 : decode cX5_isSign 13 = .ok (.iconst 0, 1) := by decide +kernel
theorem dX5_isSign_14 : decode cX5_isSign 14 = .ok (.ireturn, 1) := by decide +kernel
