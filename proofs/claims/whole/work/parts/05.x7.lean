theorem dX7_thrown_0 : decode cX7_thrown 0 = .ok (.aload_n 0, 1) := by decide +kernel
theorem dX7_thrown_1 : decode cX7_thrown 1 = .ok (.getfield 1, 3) := by decide +kernel
theorem dX7_thrown_4 : decode cX7_thrown 4 = .ok (.ireturn, 1) := by decide +kernel
theorem dX7_in_0 : decode cX7_in 0 = .ok (.iload_n 0, 1) := by decide +kernel
theorem dX7_in_1 : decode cX7_in 1 = .ok (.iload_n 1, 1) := by decide +kernel
theorem dX7_in_2 : decode cX7_in 2 = .ok (.if_icmp .lt 12, 3) := by decide +kernel
theorem dX7_in_5 : decode cX7_in 5 = .ok (.iload_n 0, 1) := by decide +kernel
theorem dX7_in_6 : decode cX7_in 6 = .ok (.iload_n 2, 1) := by decide +kernel
theorem dX7_in_7 : decode cX7_in 7 = .ok (.if_icmp .gt 7, 3) := by decide +kernel
theorem dX7_in_10 : decode cX7_in 10 = .ok (.iconst 1, 1) := by decide +kernel
theorem dX7_in_11 : decode cX7_in 11 = .ok (.goto 4, 3) := by decide +kernel
theorem dX7_in_14 : decode cX7_in 14 = .ok (.iconst 0, 1) := by decide +kernel
theorem dX7_in_15 : decode cX7_in 15 = .ok (.ireturn, 1) := by decide +kernel
theorem dX7_fails_0 : decode cX7_fails 0 = .ok (.iload_n 1, 1) := by decide +kernel
theorem dX7_fails_1 : decode cX7_fails 1 = .ok (.ifCond .ne 15, 3) := by decide +kernel
theorem dX7_fails_4 : decode cX7_fails 4 = .ok (.aload_n 0, 1) := by decide +kernel
theorem dX7_fails_5 : decode cX7_fails 5 = .ok (.getfield 1, 3) := by decide +kernel
theorem dX7_fails_8 : decode cX7_fails 8 = .ok (.ifCond .ne 8, 3) := by decide +kernel
theorem dX7_fails_11 : decode cX7_fails 11 = .ok (.aload_n 0, 1) := by decide +kernel
theorem dX7_fails_12 : decode cX7_fails 12 = .ok (.iload_n 2, 1) := by decide +kernel
theorem dX7_fails_13 : decode cX7_fails 13 = .ok (.putfield 1, 3) := by decide +kernel
theorem dX7_fails_16 : decode cX7_fails 16 = .ok (.aload_n 0, 1) := by decide +kernel
theorem dX7_fails_17 : decode cX7_fails 17 = .ok (.getfield 1, 3) := by decide +kernel
theorem dX7_fails_20 : decode cX7_fails 20 = .ok (.ifCond .eq 7, 3) := by decide +kernel
theorem dX7_fails_23 : decode cX7_fails 23 = .ok (.iconst 1, 1) := by decide +kernel
theorem dX7_fails_24 : decode cX7_fails 24 = .ok (.goto 4, 3) := by decide +kernel
theorem dX7_fails_27 : decode cX7_fails 27 = .ok (.iconst 0, 1) := by decide +kernel
theorem dX7_fails_28 : decode cX7_fails 28 = .ok (.ireturn, 1) := by decide +kernel
theorem dX7_init_0 : decode cX7_init 0 = .ok (.aload_n 0, 1) := by decide +kernel
theorem dX7_init_1 : decode cX7_init 1 = .ok (.invokespecial 7, 3) := by decide +kernel
theorem dX7_init_4 : decode cX7_init 4 = .ok (.aload_n 0, 1) := by decide +kernel
theorem dX7_init_5 : decode cX7_init 5 = .ok (.sipush 8192, 3) := by decide +kernel
theorem dX7_init_8 : decode cX7_init 8 = .ok (.newarray .boolean, 2) := by decide +kernel
theorem dX7_init_10 : decode cX7_init 10 = .ok (.putfield 13, 3) := by decide +kernel
theorem dX7_init_13 : decode cX7_init 13 = .ok (.aload_n 0, 1) := by decide +kernel
theorem dX7_init_14 : decode cX7_init 14 = .ok (.sipush 400, 3) := by decide +kernel
theorem dX7_init_17 : decode cX7_init 17 = .ok (.newarray .int, 2) := by decide +kernel
theorem dX7_init_19 : decode cX7_init 19 = .ok (.putfield 17, 3) := by decide +kernel
theorem dX7_init_22 : decode cX7_init 22 = .ok (.aload_n 0, 1) := by decide +kernel
theorem dX7_init_23 : decode cX7_init 23 = .ok (.bipush 100, 2) := by decide +kernel
theorem dX7_init_25 : decode cX7_init 25 = .ok (.newarray .int, 2) := by decide +kernel
theorem dX7_init_27 : decode cX7_init 27 = .ok (.putfield 21, 3) := by decide +kernel
theorem dX7_init_30 : decode cX7_init 30 = .ok (.aload_n 0, 1) := by decide +kernel
theorem dX7_init_31 : decode cX7_init 31 = .ok (.bipush 100, 2) := by decide +kernel
theorem dX7_init_33 : decode cX7_init 33 = .ok (.newarray .int, 2) := by decide +kernel
theorem dX7_init_35 : decode cX7_init 35 = .ok (.putfield 24, 3) := by decide +kernel
theorem dX7_init_38 : decode cX7_init 38 = .ok (.aload_n 0, 1) := by decide +kernel
theorem dX7_init_39 : decode cX7_init 39 = .ok (.bipush 100, 2) := by decide +kernel
theorem dX7_init_41 : decode cX7_init 41 = .ok (.newarray .int, 2) := by decide +kernel
theorem dX7_init_43 : decode cX7_init 43 = .ok (.putfield 27, 3) := by decide +kernel
theorem dX7_init_46 : decode cX7_init 46 = .ok (.aload_n 0, 1) := by decide +kernel
theorem dX7_init_47 : decode cX7_init 47 = .ok (.bipush 100, 2) := by decide +kernel
theorem dX7_init_49 : decode cX7_init 49 = .ok (.newarray .int, 2) := by decide +kernel
theorem dX7_init_51 : decode cX7_init 51 = .ok (.putfield 30, 3) := by decide +kernel
theorem dX7_init_54 : decode cX7_init 54 = .ok (.aload_n 0, 1) := by decide +kernel
theorem dX7_init_55 : decode cX7_init 55 = .ok (.sipush 200, 3) := by decide +kernel
theorem dX7_init_58 : decode cX7_init 58 = .ok (.newarray .int, 2) := by decide +kernel
theorem dX7_init_60 : decode cX7_init 60 = .ok (.putfield 33, 3) := by decide +kernel
theorem dX7_init_63 : decode cX7_init 63 = .ok (.aload_n 0, 1) := by decide +kernel
theorem dX7_init_64 : decode cX7_init 64 = .ok (.iconst (-1), 1) := by decide +kernel
theorem dX7_init_65 : decode cX7_init 65 = .ok (.putfield 36, 3) := by decide +kernel
theorem dX7_init_68 : decode cX7_init 68 = .ok (.aload_n 0, 1) := by decide +kernel
theorem dX7_init_69 : decode cX7_init 69 = .ok (.iconst (-1), 1) := by decide +kernel
theorem dX7_init_70 : decode cX7_init 70 = .ok (.putfield 39, 3) := by decide +kernel
theorem dX7_init_73 : decode cX7_init 73 = .ok (.aload_n 0, 1) := by decide +kernel
theorem dX7_init_74 : decode cX7_init 74 = .ok (.sipush 1024, 3) := by decide +kernel
theorem dX7_init_77 : decode cX7_init 77 = .ok (.newarray .boolean, 2) := by decide +kernel
theorem dX7_init_79 : decode cX7_init 79 = .ok (.putfield 42, 3) := by decide +kernel
theorem dX7_init_82 : decode cX7_init 82 = .ok (.aload_n 0, 1) := by decide +kernel
theorem dX7_init_83 : decode cX7_init 83 = .ok (.sipush 5100, 3) := by decide +kernel
theorem dX7_init_86 : decode cX7_init 86 = .ok (.newarray .int, 2) := by decide +kernel
theorem dX7_init_88 : decode cX7_init 88 = .ok (.putfield 45, 3) := by decide +kernel
theorem dX7_init_91 : decode cX7_init 91 = .ok (.iconst 0, 1) := by decide +kernel
theorem dX7_init_92 : decode cX7_init 92 = .ok (.istore_n 1, 1) := by decide +kernel
theorem dX7_init_93 : decode cX7_init 93 = .ok (.iload_n 1, 1) := by decide +kernel
theorem dX7_init_94 : decode cX7_init 94 = .ok (.bipush 10, 2) := by decide +kernel
theorem dX7_init_96 : decode cX7_init 96 = .ok (.if_icmp .ge 29, 3) := by decide +kernel
theorem dX7_init_99 : decode cX7_init 99 = .ok (.aload_n 0, 1) := by decide +kernel
theorem dX7_init_100 : decode cX7_init 100 = .ok (.getfield 13, 3) := by decide +kernel
theorem dX7_init_103 : decode cX7_init 103 = .ok (.iload_n 1, 1) := by decide +kernel
theorem dX7_init_104 : decode cX7_init 104 = .ok (.iconst 1, 1) := by decide +kernel
theorem dX7_init_105 : decode cX7_init 105 = .ok (.bastore, 1) := by decide +kernel
theorem dX7_init_106 : decode cX7_init 106 = .ok (.aload_n 0, 1) := by decide +kernel
theorem dX7_init_107 : decode cX7_init 107 = .ok (.getfield 13, 3) := by decide +kernel
theorem dX7_init_110 : decode cX7_init 110 = .ok (.sipush 1024, 3) := by decide +kernel
theorem dX7_init_113 : decode cX7_init 113 = .ok (.iconst 2, 1) := by decide +kernel
theorem dX7_init_114 : decode cX7_init 114 = .ok (.iload_n 1, 1) := by decide +kernel
theorem dX7_init_115 : decode cX7_init 115 = .ok (.imul, 1) := by decide +kernel
theorem dX7_init_116 : decode cX7_init 116 = .ok (.iadd, 1) := by decide +kernel
theorem dX7_init_117 : decode cX7_init 117 = .ok (.iconst 1, 1) := by decide +kernel
theorem dX7_init_118 : decode cX7_init 118 = .ok (.bastore, 1) := by decide +kernel
theorem dX7_init_119 : decode cX7_init 119 = .ok (.iinc 1 1, 3) := by decide +kernel
theorem dX7_init_122 : decode cX7_init 122 = .ok (.goto (-29), 3) := by decide +kernel
theorem dX7_init_125 : decode cX7_init 125 = .ok (.iconst 1, 1) := by decide +kernel
theorem dX7_init_126 : decode cX7_init 126 = .ok (.istore_n 1, 1) := by decide +kernel
theorem dX7_init_127 : decode cX7_init 127 = .ok (.iconst 2, 1) := by decide +kernel
theorem dX7_init_128 : decode cX7_init 128 = .ok (.istore_n 2, 1) := by decide +kernel
theorem dX7_init_129 : decode cX7_init 129 = .ok (.iload_n 1, 1) := by decide +kernel
theorem dX7_init_130 : decode cX7_init 130 = .ok (.bipush 22, 2) := by decide +kernel
theorem dX7_init_132 : decode cX7_init 132 = .ok (.if_icmp .ge 25, 3) := by decide +kernel
theorem dX7_init_135 : decode cX7_init 135 = .ok (.aload_n 0, 1) := by decide +kernel
theorem dX7_init_136 : decode cX7_init 136 = .ok (.getfield 13, 3) := by decide +kernel
theorem dX7_init_139 : decode cX7_init 139 = .ok (.sipush 2048, 3) := by decide +kernel
theorem dX7_init_142 : decode cX7_init 142 = .ok (.iload_n 1, 1) := by decide +kernel
theorem dX7_init_143 : decode cX7_init 143 = .ok (.iadd, 1) := by decide +kernel
theorem dX7_init_144 : decode cX7_init 144 = .ok (.iconst 1, 1) := by decide +kernel
theorem dX7_init_145 : decode cX7_init 145 = .ok (.bastore, 1) := by decide +kernel
theorem dX7_init_146 : decode cX7_init 146 = .ok (.iload_n 1, 1) := by decide +kernel
theorem dX7_init_147 : decode cX7_init 147 = .ok (.iload_n 2, 1) := by decide +kernel
theorem dX7_init_148 : decode cX7_init 148 = .ok (.iadd, 1) := by decide +kernel
theorem dX7_init_149 : decode cX7_init 149 = .ok (.istore_n 3, 1) := by decide +kernel
theorem dX7_init_150 : decode cX7_init 150 = .ok (.iload_n 2, 1) := by decide +kernel
theorem dX7_init_151 : decode cX7_init 151 = .ok (.istore_n 1, 1) := by decide +kernel
theorem dX7_init_152 : decode cX7_init 152 = .ok (.iload_n 3, 1) := by decide +kernel
theorem dX7_init_153 : decode cX7_init 153 = .ok (.istore_n 2, 1) := by decide +kernel
theorem dX7_init_154 : decode cX7_init 154 = .ok (.goto (-25), 3) := by decide +kernel
theorem dX7_init_157 : decode cX7_init 157 = .ok (.aload_n 0, 1) := by decide +kernel
theorem dX7_init_158 : decode cX7_init 158 = .ok (.getfield 13, 3) := by decide +kernel
theorem dX7_init_161 : decode cX7_init 161 = .ok (.sipush 2111, 3) := by decide +kernel
theorem dX7_init_164 : decode cX7_init 164 = .ok (.iconst 1, 1) := by decide +kernel
theorem dX7_init_165 : decode cX7_init 165 = .ok (.bastore, 1) := by decide +kernel
theorem dX7_init_166 : decode cX7_init 166 = .ok (.aload_n 0, 1) := by decide +kernel
theorem dX7_init_167 : decode cX7_init 167 = .ok (.getfield 13, 3) := by decide +kernel
theorem dX7_init_170 : decode cX7_init 170 = .ok (.sipush 2112, 3) := by decide +kernel
theorem dX7_init_173 : decode cX7_init 173 = .ok (.iconst 1, 1) := by decide +kernel
theorem dX7_init_174 : decode cX7_init 174 = .ok (.bastore, 1) := by decide +kernel
theorem dX7_init_175 : decode cX7_init 175 = .ok (.aload_n 0, 1) := by decide +kernel
theorem dX7_init_176 : decode cX7_init 176 = .ok (.getfield 13, 3) := by decide +kernel
theorem dX7_init_179 : decode cX7_init 179 = .ok (.sipush 2175, 3) := by decide +kernel
theorem dX7_init_182 : decode cX7_init 182 = .ok (.iconst 1, 1) := by decide +kernel
theorem dX7_init_183 : decode cX7_init 183 = .ok (.bastore, 1) := by decide +kernel
theorem dX7_init_184 : decode cX7_init 184 = .ok (.aload_n 0, 1) := by decide +kernel
theorem dX7_init_185 : decode cX7_init 185 = .ok (.getfield 13, 3) := by decide +kernel
theorem dX7_init_188 : decode cX7_init 188 = .ok (.sipush 2176, 3) := by decide +kernel
theorem dX7_init_191 : decode cX7_init 191 = .ok (.iconst 1, 1) := by decide +kernel
theorem dX7_init_192 : decode cX7_init 192 = .ok (.bastore, 1) := by decide +kernel
theorem dX7_init_193 : decode cX7_init 193 = .ok (.return_, 1) := by decide +kernel
set_option maxRecDepth 20000 in
theorem ggX7_noSet_X7_in : GoodIn wsX7_noSet wsX7_in := goodIn_r _ [4] (by decide +kernel) (by decide +kernel)
set_option maxRecDepth 20000 in
theorem gX7_noSet_X7_in : GoodIn wsX7_noSet (va_wsS RX7 48 yX7_in wsX7_in) := goodIn_app (goodIn_of _ (by decide +kernel)) ggX7_noSet_X7_in
set_option maxRecDepth 20000 in
theorem ggX7_noSet_X7_fails : GoodIn wsX7_noSet wsX7_fails := goodIn_r _ [8, 9, 10, 11, 12, 13, 14, 15, 16, 17, 18, 19, 20, 21, 22, 23, 24, 25, 26, 27, 28, 29, 30] (by decide +kernel) (by decide +kernel)
set_option maxRecDepth 20000 in
theorem gX7_noSet_X7_fails : GoodIn wsX7_noSet (wsV RX7 52 RX7 yX7_fails wsX7_fails) := goodIn_app (goodIn_of _ (by decide +kernel)) ggX7_noSet_X7_fails
theorem dX7_noSet_0 : decode cX7_noSet 0 = .ok (.aload_n 0, 1) := by decide +kernel
theorem dX7_noSet_1 : decode cX7_noSet 1 = .ok (.iload_n 1, 1) := by decide +kernel
theorem dX7_noSet_2 : decode cX7_noSet 2 = .ok (.iconst 0, 1) := by decide +kernel
theorem dX7_noSet_3 : decode cX7_noSet 3 = .ok (.bipush 7, 2) := by decide +kernel
theorem dX7_noSet_5 : decode cX7_noSet 5 = .ok (.invokestatic 48, 3) := by decide +kernel
theorem dX7_noSet_8 : decode cX7_noSet 8 = .ok (.iconst 1, 1) := by decide +kernel
theorem dX7_noSet_9 : decode cX7_noSet 9 = .ok (.invokevirtual 52, 3) := by decide +kernel
theorem dX7_noSet_12 : decode cX7_noSet 12 = .ok (.ireturn, 1) := by decide +kernel
set_option maxRecDepth 20000 in
theorem ggX7_noSets_X7_noSet : GoodIn wsX7_noSets wsX7_noSet := goodIn_r _ [5, 6, 7, 4, 8, 9, 10, 11, 12, 13, 14, 15, 16, 17, 18, 19, 20, 21, 22, 23, 24, 25, 26, 27, 28, 29, 30, 31, 32, 33, 34] (by decide +kernel) (by decide +kernel)
set_option maxRecDepth 20000 in
theorem gX7_noSets_X7_noSet : GoodIn wsX7_noSets (wsV RX7 56 RX7 yX7_noSet wsX7_noSet) := goodIn_app (goodIn_of _ (by decide +kernel)) ggX7_noSets_X7_noSet
theorem dX7_noSets_0 : decode cX7_noSets 0 = .ok (.aload_n 0, 1) := by decide +kernel
theorem dX7_noSets_1 : decode cX7_noSets 1 = .ok (.iload_n 1, 1) := by decide +kernel
theorem dX7_noSets_2 : decode cX7_noSets 2 = .ok (.invokevirtual 56, 3) := by decide +kernel
theorem dX7_noSets_5 : decode cX7_noSets 5 = .ok (.ifCond .ne 11, 3) := by decide +kernel
theorem dX7_noSets_8 : decode cX7_noSets 8 = .ok (.aload_n 0, 1) := by decide +kernel
theorem dX7_noSets_9 : decode cX7_noSets 9 = .ok (.iload_n 2, 1) := by decide +kernel
theorem dX7_noSets_10 : decode cX7_noSets 10 = .ok (.invokevirtual 56, 3) := by decide +kernel
theorem dX7_noSets_13 : decode cX7_noSets 13 = .ok (.ifCond .eq 7, 3) := by decide +kernel
theorem dX7_noSets_16 : decode cX7_noSets 16 = .ok (.iconst 1, 1) := by decide +kernel
theorem dX7_noSets_17 : decode cX7_noSets 17 = .ok (.goto 4, 3) := by decide +kernel
theorem dX7_noSets_20 : decode cX7_noSets 20 = .ok (.iconst 0, 1) := by decide +kernel
theorem dX7_noSets_21 : decode cX7_noSets 21 = .ok (.ireturn, 1) := by decide +kernel
theorem dX7_isBelow_0 : decode cX7_isBelow 0 = .ok (.aload_n 0, 1) := by decide +kernel
theorem dX7_isBelow_1 : decode cX7_isBelow 1 = .ok (.getfield 1, 3) := by decide +kernel
theorem dX7_isBelow_4 : decode cX7_isBelow 4 = .ok (.ifCond .ne 23, 3) := by decide +kernel
theorem dX7_isBelow_7 : decode cX7_isBelow 7 = .ok (.iload_n 1, 1) := by decide +kernel
theorem dX7_isBelow_8 : decode cX7_isBelow 8 = .ok (.iload_n 2, 1) := by decide +kernel
theorem dX7_isBelow_9 : decode cX7_isBelow 9 = .ok (.if_icmp .ge 18, 3) := by decide +kernel
theorem dX7_isBelow_12 : decode cX7_isBelow 12 = .ok (.aload_n 0, 1) := by decide +kernel
theorem dX7_isBelow_13 : decode cX7_isBelow 13 = .ok (.dup, 1) := by decide +kernel
theorem dX7_isBelow_14 : decode cX7_isBelow 14 = .ok (.getfield 60, 3) := by decide +kernel
theorem dX7_isBelow_17 : decode cX7_isBelow 17 = .ok (.iconst 1, 1) := by decide +kernel
theorem dX7_isBelow_18 : decode cX7_isBelow 18 = .ok (.iadd, 1) := by decide +kernel
theorem dX7_isBelow_19 : decode cX7_isBelow 19 = .ok (.putfield 60, 3) := by decide +kernel
theorem dX7_isBelow_22 : decode cX7_isBelow 22 = .ok (.aload_n 0, 1) := by decide +kernel
theorem dX7_isBelow_23 : decode cX7_isBelow 23 = .ok (.iconst 2, 1) := by decide +kernel
theorem dX7_isBelow_24 : decode cX7_isBelow 24 = .ok (.putfield 1, 3) := by decide +kernel
theorem dX7_isBelow_27 : decode cX7_isBelow 27 = .ok (.aload_n 0, 1) := by decide +kernel
theorem dX7_isBelow_28 : decode cX7_isBelow 28 = .ok (.getfield 1, 3) := by decide +kernel
theorem dX7_isBelow_31 : decode cX7_isBelow 31 = .ok (.ifCond .eq 7, 3) := by decide +kernel
theorem dX7_isBelow_34 : decode cX7_isBelow 34 = .ok (.iconst 1, 1) := by decide +kernel
theorem dX7_isBelow_35 : decode cX7_isBelow 35 = .ok (.goto 4, 3) := by decide +kernel
theorem dX7_isBelow_38 : decode cX7_isBelow 38 = .ok (.iconst 0, 1) := by decide +kernel
theorem dX7_isBelow_39 : decode cX7_isBelow 39 = .ok (.ireturn, 1) := by decide +kernel
theorem dX7_isRange_0 : decode cX7_isRange 0 = .ok (.iload_n 0, 1) := by decide +kernel
theorem dX7_isRange_1 : decode cX7_isRange 1 = .ok (.ifCond .lt 12, 3) := by decide +kernel
theorem dX7_isRange_4 : decode cX7_isRange 4 = .ok (.iload_n 0, 1) := by decide +kernel
theorem dX7_isRange_5 : decode cX7_isRange 5 = .ok (.iload_n 1, 1) := by decide +kernel
theorem dX7_isRange_6 : decode cX7_isRange 6 = .ok (.if_icmp .gt 7, 3) := by decide +kernel
theorem dX7_isRange_9 : decode cX7_isRange 9 = .ok (.iconst 1, 1) := by decide +kernel
theorem dX7_isRange_10 : decode cX7_isRange 10 = .ok (.goto 4, 3) := by decide +kernel
theorem dX7_isRange_13 : decode cX7_isRange 13 = .ok (.iconst 0, 1) := by decide +kernel
theorem dX7_isRange_14 : decode cX7_isRange 14 = .ok (.ireturn, 1) := by decide +kernel
set_option maxRecDepth 20000 in
theorem ggX7_noRange_X7_isRange : GoodIn wsX7_noRange wsX7_isRange := goodIn_r _ [6] (by decide +kernel) (by decide +kernel)
set_option maxRecDepth 20000 in
theorem gX7_noRange_X7_isRange : GoodIn wsX7_noRange (va_wsS RX7 63 yX7_isRange wsX7_isRange) := goodIn_app (goodIn_of _ (by decide +kernel)) ggX7_noRange_X7_isRange
theorem dX7_noRange_0 : decode cX7_noRange 0 = .ok (.aload_n 0, 1) := by decide +kernel
theorem dX7_noRange_1 : decode cX7_noRange 1 = .ok (.getfield 1, 3) := by decide +kernel
theorem dX7_noRange_4 : decode cX7_noRange 4 = .ok (.ifCond .ne 26, 3) := by decide +kernel
theorem dX7_noRange_7 : decode cX7_noRange 7 = .ok (.iload_n 1, 1) := by decide +kernel
theorem dX7_noRange_8 : decode cX7_noRange 8 = .ok (.iload_n 2, 1) := by decide +kernel
theorem dX7_noRange_9 : decode cX7_noRange 9 = .ok (.invokestatic 63, 3) := by decide +kernel
theorem dX7_noRange_12 : decode cX7_noRange 12 = .ok (.ifCond .ne 18, 3) := by decide +kernel
theorem dX7_noRange_15 : decode cX7_noRange 15 = .ok (.aload_n 0, 1) := by decide +kernel
theorem dX7_noRange_16 : decode cX7_noRange 16 = .ok (.dup, 1) := by decide +kernel
theorem dX7_noRange_17 : decode cX7_noRange 17 = .ok (.getfield 60, 3) := by decide +kernel
theorem dX7_noRange_20 : decode cX7_noRange 20 = .ok (.iconst 1, 1) := by decide +kernel
theorem dX7_noRange_21 : decode cX7_noRange 21 = .ok (.iadd, 1) := by decide +kernel
theorem dX7_noRange_22 : decode cX7_noRange 22 = .ok (.putfield 60, 3) := by decide +kernel
theorem dX7_noRange_25 : decode cX7_noRange 25 = .ok (.aload_n 0, 1) := by decide +kernel
theorem dX7_noRange_26 : decode cX7_noRange 26 = .ok (.iconst 2, 1) := by decide +kernel
theorem dX7_noRange_27 : decode cX7_noRange 27 = .ok (.putfield 1, 3) := by decide +kernel
theorem dX7_noRange_30 : decode cX7_noRange 30 = .ok (.aload_n 0, 1) := by decide +kernel
theorem dX7_noRange_31 : decode cX7_noRange 31 = .ok (.getfield 1, 3) := by decide +kernel
theorem dX7_noRange_34 : decode cX7_noRange 34 = .ok (.ifCond .eq 7, 3) := by decide +kernel
theorem dX7_noRange_37 : decode cX7_noRange 37 = .ok (.iconst 1, 1) := by decide +kernel
theorem dX7_noRange_38 : decode cX7_noRange 38 = .ok (.goto 4, 3) := by decide +kernel
theorem dX7_noRange_41 : decode cX7_noRange 41 = .ok (.iconst 0, 1) := by decide +kernel
theorem dX7_noRange_42 : decode cX7_noRange 42 = .ok (.ireturn, 1) := by decide +kernel
theorem dX7_bytesIn_0 : decode cX7_bytesIn 0 = .ok (.iconst 0, 1) := by decide +kernel
theorem dX7_bytesIn_1 : decode cX7_bytesIn 1 = .ok (.istore_n 1, 1) := by decide +kernel
theorem dX7_bytesIn_2 : decode cX7_bytesIn 2 = .ok (.iconst 0, 1) := by decide +kernel
theorem dX7_bytesIn_3 : decode cX7_bytesIn 3 = .ok (.istore_n 2, 1) := by decide +kernel
theorem dX7_bytesIn_4 : decode cX7_bytesIn 4 = .ok (.iload_n 2, 1) := by decide +kernel
theorem dX7_bytesIn_5 : decode cX7_bytesIn 5 = .ok (.bipush 32, 2) := by decide +kernel
theorem dX7_bytesIn_7 : decode cX7_bytesIn 7 = .ok (.if_icmp .ge 27, 3) := by decide +kernel
theorem dX7_bytesIn_10 : decode cX7_bytesIn 10 = .ok (.iload_n 1, 1) := by decide +kernel
theorem dX7_bytesIn_11 : decode cX7_bytesIn 11 = .ok (.iload_n 0, 1) := by decide +kernel
theorem dX7_bytesIn_12 : decode cX7_bytesIn 12 = .ok (.iload_n 2, 1) := by decide +kernel
theorem dX7_bytesIn_13 : decode cX7_bytesIn 13 = .ok (.ishr, 1) := by decide +kernel
theorem dX7_bytesIn_14 : decode cX7_bytesIn 14 = .ok (.sipush 255, 3) := by decide +kernel
theorem dX7_bytesIn_17 : decode cX7_bytesIn 17 = .ok (.iand, 1) := by decide +kernel
theorem dX7_bytesIn_18 : decode cX7_bytesIn 18 = .ok (.ifCond .ne 7, 3) := by decide +kernel
theorem dX7_bytesIn_21 : decode cX7_bytesIn 21 = .ok (.iconst 0, 1) := by decide +kernel
theorem dX7_bytesIn_22 : decode cX7_bytesIn 22 = .ok (.goto 4, 3) := by decide +kernel
theorem dX7_bytesIn_25 : decode cX7_bytesIn 25 = .ok (.iconst 1, 1) := by decide +kernel
theorem dX7_bytesIn_26 : decode cX7_bytesIn 26 = .ok (.iadd, 1) := by decide +kernel
theorem dX7_bytesIn_27 : decode cX7_bytesIn 27 = .ok (.istore_n 1, 1) := by decide +kernel
theorem dX7_bytesIn_28 : decode cX7_bytesIn 28 = .ok (.iinc 2 8, 3) := by decide +kernel
theorem dX7_bytesIn_31 : decode cX7_bytesIn 31 = .ok (.goto (-27), 3) := by decide +kernel
theorem dX7_bytesIn_34 : decode cX7_bytesIn 34 = .ok (.iload_n 1, 1) := by decide +kernel
theorem dX7_bytesIn_35 : decode cX7_bytesIn 35 = .ok (.ireturn, 1) := by decide +kernel
theorem dX7_takesBytes_0 : decode cX7_takesBytes 0 = .ok (.bipush 24, 2) := by decide +kernel
theorem dX7_takesBytes_2 : decode cX7_takesBytes 2 = .ok (.istore_n 2, 1) := by decide +kernel
theorem dX7_takesBytes_3 : decode cX7_takesBytes 3 = .ok (.iload_n 2, 1) := by decide +kernel
theorem dX7_takesBytes_4 : decode cX7_takesBytes 4 = .ok (.ifCond .lt 44, 3) := by decide +kernel
theorem dX7_takesBytes_7 : decode cX7_takesBytes 7 = .ok (.iload_n 1, 1) := by decide +kernel
theorem dX7_takesBytes_8 : decode cX7_takesBytes 8 = .ok (.iload_n 2, 1) := by decide +kernel
theorem dX7_takesBytes_9 : decode cX7_takesBytes 9 = .ok (.ishr, 1) := by decide +kernel
theorem dX7_takesBytes_10 : decode cX7_takesBytes 10 = .ok (.sipush 255, 3) := by decide +kernel
theorem dX7_takesBytes_13 : decode cX7_takesBytes 13 = .ok (.iand, 1) := by decide +kernel
theorem dX7_takesBytes_14 : decode cX7_takesBytes 14 = .ok (.istore_n 3, 1) := by decide +kernel
theorem dX7_takesBytes_15 : decode cX7_takesBytes 15 = .ok (.iload_n 3, 1) := by decide +kernel
theorem dX7_takesBytes_16 : decode cX7_takesBytes 16 = .ok (.ifCond .ne 6, 3) := by decide +kernel
theorem dX7_takesBytes_19 : decode cX7_takesBytes 19 = .ok (.goto 23, 3) := by decide +kernel
theorem dX7_takesBytes_22 : decode cX7_takesBytes 22 = .ok (.aload_n 0, 1) := by decide +kernel
theorem dX7_takesBytes_23 : decode cX7_takesBytes 23 = .ok (.getfield 17, 3) := by decide +kernel
theorem dX7_takesBytes_26 : decode cX7_takesBytes 26 = .ok (.aload_n 0, 1) := by decide +kernel
theorem dX7_takesBytes_27 : decode cX7_takesBytes 27 = .ok (.getfield 67, 3) := by decide +kernel
theorem dX7_takesBytes_30 : decode cX7_takesBytes 30 = .ok (.iload_n 3, 1) := by decide +kernel
theorem dX7_takesBytes_31 : decode cX7_takesBytes 31 = .ok (.iastore, 1) := by decide +kernel
theorem dX7_takesBytes_32 : decode cX7_takesBytes 32 = .ok (.aload_n 0, 1) := by decide +kernel
theorem dX7_takesBytes_33 : decode cX7_takesBytes 33 = .ok (.dup, 1) := by decide +kernel
theorem dX7_takesBytes_34 : decode cX7_takesBytes 34 = .ok (.getfield 67, 3) := by decide +kernel
theorem dX7_takesBytes_37 : decode cX7_takesBytes 37 = .ok (.iconst 1, 1) := by decide +kernel
theorem dX7_takesBytes_38 : decode cX7_takesBytes 38 = .ok (.iadd, 1) := by decide +kernel
theorem dX7_takesBytes_39 : decode cX7_takesBytes 39 = .ok (.putfield 67, 3) := by decide +kernel
theorem dX7_takesBytes_42 : decode cX7_takesBytes 42 = .ok (.iinc 2 (-8), 3) := by decide +kernel
theorem dX7_takesBytes_45 : decode cX7_takesBytes 45 = .ok (.goto (-42), 3) := by decide +kernel
theorem dX7_takesBytes_48 : decode cX7_takesBytes 48 = .ok (.return_, 1) := by decide +kernel
set_option maxRecDepth 20000 in
theorem ggX7_append_X7_bytesIn : GoodIn wsX7_append wsX7_bytesIn := goodIn_r _ [6] (by decide +kernel) (by decide +kernel)
set_option maxRecDepth 20000 in
theorem gX7_append_X7_bytesIn : GoodIn wsX7_append (va_wsS RX7 70 yX7_bytesIn wsX7_bytesIn) := goodIn_app (goodIn_of _ (by decide +kernel)) ggX7_append_X7_bytesIn
set_option maxRecDepth 20000 in
theorem ggX7_append_X7_fails : GoodIn wsX7_append wsX7_fails := goodIn_r _ [10, 1, 16, 17, 18, 19, 20, 21, 22, 23, 24, 25, 26, 27, 28, 29, 30, 31, 32, 33, 34, 35, 36] (by decide +kernel) (by decide +kernel)
set_option maxRecDepth 20000 in
theorem gX7_append_X7_fails : GoodIn wsX7_append (wsV RX7 52 RX7 yX7_fails wsX7_fails) := goodIn_app (goodIn_of _ (by decide +kernel)) ggX7_append_X7_fails
set_option maxRecDepth 20000 in
theorem ggX7_append_X7_takesBytes : GoodIn wsX7_append wsX7_takesBytes := goodIn_r _ [14, 15, 2, 16, 17, 18, 19, 20, 21, 22, 23, 24, 25, 26, 27, 28, 29, 30, 31, 32, 33, 34, 35, 36] (by decide +kernel) (by decide +kernel)
set_option maxRecDepth 20000 in
theorem gX7_append_X7_takesBytes : GoodIn wsX7_append (wsV RX7 74 RX7 yX7_takesBytes wsX7_takesBytes) := goodIn_app (goodIn_of _ (by decide +kernel)) ggX7_append_X7_takesBytes
theorem dX7_append_0 : decode cX7_append 0 = .ok (.aload_n 0, 1) := by decide +kernel
theorem dX7_append_1 : decode cX7_append 1 = .ok (.iconst 0, 1) := by decide +kernel
theorem dX7_append_2 : decode cX7_append 2 = .ok (.putfield 1, 3) := by decide +kernel
theorem dX7_append_5 : decode cX7_append 5 = .ok (.iload_n 1, 1) := by decide +kernel
theorem dX7_append_6 : decode cX7_append 6 = .ok (.invokestatic 70, 3) := by decide +kernel
theorem dX7_append_9 : decode cX7_append 9 = .ok (.iload_n 2, 1) := by decide +kernel
theorem dX7_append_10 : decode cX7_append 10 = .ok (.invokestatic 70, 3) := by decide +kernel
theorem dX7_append_13 : decode cX7_append 13 = .ok (.iadd, 1) := by decide +kernel
theorem dX7_append_14 : decode cX7_append 14 = .ok (.iload_n 3, 1) := by decide +kernel
theorem dX7_append_15 : decode cX7_append 15 = .ok (.invokestatic 70, 3) := by decide +kernel
theorem dX7_append_18 : decode cX7_append 18 = .ok (.iadd, 1) := by decide +kernel
theorem dX7_append_19 : decode cX7_append 19 = .ok (.iload 4, 2) := by decide +kernel
theorem dX7_append_21 : decode cX7_append 21 = .ok (.invokestatic 70, 3) := by decide +kernel
theorem dX7_append_24 : decode cX7_append 24 = .ok (.iadd, 1) := by decide +kernel
theorem dX7_append_25 : decode cX7_append 25 = .ok (.iload 5, 2) := by decide +kernel
theorem dX7_append_27 : decode cX7_append 27 = .ok (.invokestatic 70, 3) := by decide +kernel
theorem dX7_append_30 : decode cX7_append 30 = .ok (.iadd, 1) := by decide +kernel
theorem dX7_append_31 : decode cX7_append 31 = .ok (.istore 6, 2) := by decide +kernel
theorem dX7_append_33 : decode cX7_append 33 = .ok (.aload_n 0, 1) := by decide +kernel
theorem dX7_append_34 : decode cX7_append 34 = .ok (.aload_n 0, 1) := by decide +kernel
theorem dX7_append_35 : decode cX7_append 35 = .ok (.getfield 67, 3) := by decide +kernel
theorem dX7_append_38 : decode cX7_append 38 = .ok (.iload 6, 2) := by decide +kernel
theorem dX7_append_40 : decode cX7_append 40 = .ok (.iadd, 1) := by decide +kernel
theorem dX7_append_41 : decode cX7_append 41 = .ok (.sipush 400, 3) := by decide +kernel
theorem dX7_append_44 : decode cX7_append 44 = .ok (.if_icmp .gt 7, 3) := by decide +kernel
theorem dX7_append_47 : decode cX7_append 47 = .ok (.iconst 1, 1) := by decide +kernel
theorem dX7_append_48 : decode cX7_append 48 = .ok (.goto 4, 3) := by decide +kernel
theorem dX7_append_51 : decode cX7_append 51 = .ok (.iconst 0, 1) := by decide +kernel
theorem dX7_append_52 : decode cX7_append 52 = .ok (.iconst 1, 1) := by decide +kernel
theorem dX7_append_53 : decode cX7_append 53 = .ok (.invokevirtual 52, 3) := by decide +kernel
theorem dX7_append_56 : decode cX7_append 56 = .ok (.ifCond .eq 5, 3) := by decide +kernel
theorem dX7_append_59 : decode cX7_append 59 = .ok (.iconst 0, 1) := by decide +kernel
theorem dX7_append_60 : decode cX7_append 60 = .ok (.ireturn, 1) := by decide +kernel
theorem dX7_append_61 : decode cX7_append 61 = .ok (.aload_n 0, 1) := by decide +kernel
theorem dX7_append_62 : decode cX7_append 62 = .ok (.iload_n 1, 1) := by decide +kernel
theorem dX7_append_63 : decode cX7_append 63 = .ok (.invokevirtual 74, 3) := by decide +kernel
theorem dX7_append_66 : decode cX7_append 66 = .ok (.aload_n 0, 1) := by decide +kernel
theorem dX7_append_67 : decode cX7_append 67 = .ok (.iload_n 2, 1) := by decide +kernel
theorem dX7_append_68 : decode cX7_append 68 = .ok (.invokevirtual 74, 3) := by decide +kernel
theorem dX7_append_71 : decode cX7_append 71 = .ok (.aload_n 0, 1) := by decide +kernel
theorem dX7_append_72 : decode cX7_append 72 = .ok (.iload_n 3, 1) := by decide +kernel
theorem dX7_append_73 : decode cX7_append 73 = .ok (.invokevirtual 74, 3) := by decide +kernel
theorem dX7_append_76 : decode cX7_append 76 = .ok (.aload_n 0, 1) := by decide +kernel
theorem dX7_append_77 : decode cX7_append 77 = .ok (.iload 4, 2) := by decide +kernel
theorem dX7_append_79 : decode cX7_append 79 = .ok (.invokevirtual 74, 3) := by decide +kernel
theorem dX7_append_82 : decode cX7_append 82 = .ok (.aload_n 0, 1) := by decide +kernel
theorem dX7_append_83 : decode cX7_append 83 = .ok (.iload 5, 2) := by decide +kernel
theorem dX7_append_85 : decode cX7_append 85 = .ok (.invokevirtual 74, 3) := by decide +kernel
theorem dX7_append_88 : decode cX7_append 88 = .ok (.aload_n 0, 1) := by decide +kernel
theorem dX7_append_89 : decode cX7_append 89 = .ok (.getfield 67, 3) := by decide +kernel
theorem dX7_append_92 : decode cX7_append 92 = .ok (.ireturn, 1) := by decide +kernel
theorem dX7_clearTape_0 : decode cX7_clearTape 0 = .ok (.aload_n 0, 1) := by decide +kernel
theorem dX7_clearTape_1 : decode cX7_clearTape 1 = .ok (.iconst 0, 1) := by decide +kernel
theorem dX7_clearTape_2 : decode cX7_clearTape 2 = .ok (.putfield 1, 3) := by decide +kernel
theorem dX7_clearTape_5 : decode cX7_clearTape 5 = .ok (.aload_n 0, 1) := by decide +kernel
theorem dX7_clearTape_6 : decode cX7_clearTape 6 = .ok (.getfield 67, 3) := by decide +kernel
theorem dX7_clearTape_9 : decode cX7_clearTape 9 = .ok (.istore_n 1, 1) := by decide +kernel
theorem dX7_clearTape_10 : decode cX7_clearTape 10 = .ok (.aload_n 0, 1) := by decide +kernel
theorem dX7_clearTape_11 : decode cX7_clearTape 11 = .ok (.iconst 0, 1) := by decide +kernel
theorem dX7_clearTape_12 : decode cX7_clearTape 12 = .ok (.putfield 67, 3) := by decide +kernel
theorem dX7_clearTape_15 : decode cX7_clearTape 15 = .ok (.iload_n 1, 1) := by decide +kernel
theorem dX7_clearTape_16 : decode cX7_clearTape 16 = .ok (.ireturn, 1) := by decide +kernel
theorem dX7_isSign_0 : decode cX7_isSign 0 = .ok (.iload_n 0, 1) := by decide +kernel
theorem dX7_isSign_1 : decode cX7_isSign 1 = .ok (.bipush 59, 2) := by decide +kernel
theorem dX7_isSign_3 : decode cX7_isSign 3 = .ok (.if_icmp .eq 69, 3) := by decide +kernel
theorem dX7_isSign_6 : decode cX7_isSign 6 = .ok (.iload_n 0, 1) := by decide +kernel
theorem dX7_isSign_7 : decode cX7_isSign 7 = .ok (.bipush 43, 2) := by decide +kernel
theorem dX7_isSign_9 : decode cX7_isSign 9 = .ok (.if_icmp .eq 63, 3) := by decide +kernel
theorem dX7_isSign_12 : decode cX7_isSign 12 = .ok (.iload_n 0, 1) := by decide +kernel
theorem dX7_isSign_13 : decode cX7_isSign 13 = .ok (.bipush 45, 2) := by decide +kernel
theorem dX7_isSign_15 : decode cX7_isSign 15 = .ok (.if_icmp .eq 57, 3) := by decide +kernel
theorem dX7_isSign_18 : decode cX7_isSign 18 = .ok (.iload_n 0, 1) := by decide +kernel
theorem dX7_isSign_19 : decode cX7_isSign 19 = .ok (.bipush 94, 2) := by decide +kernel
theorem dX7_isSign_21 : decode cX7_isSign 21 = .ok (.if_icmp .eq 51, 3) := by decide +kernel
theorem dX7_isSign_24 : decode cX7_isSign 24 = .ok (.iload_n 0, 1) := by decide +kernel
theorem dX7_isSign_25 : decode cX7_isSign 25 = .ok (.bipush 38, 2) := by decide +kernel
theorem dX7_isSign_27 : decode cX7_isSign 27 = .ok (.if_icmp .eq 45, 3) := by decide +kernel
theorem dX7_isSign_30 : decode cX7_isSign 30 = .ok (.iload_n 0, 1) := by decide +kernel
theorem dX7_isSign_31 : decode cX7_isSign 31 = .ok (.bipush 124, 2) := by decide +kernel
theorem dX7_isSign_33 : decode cX7_isSign 33 = .ok (.if_icmp .eq 39, 3) := by decide +kernel
theorem dX7_isSign_36 : decode cX7_isSign 36 = .ok (.iload_n 0, 1) := by decide +kernel
theorem dX7_isSign_37 : decode cX7_isSign 37 = .ok (.bipush 126, 2) := by decide +kernel
theorem dX7_isSign_39 : decode cX7_isSign 39 = .ok (.if_icmp .eq 33, 3) := by decide +kernel
theorem dX7_isSign_42 : decode cX7_isSign 42 = .ok (.iload_n 0, 1) := by decide +kernel
theorem dX7_isSign_43 : decode cX7_isSign 43 = .ok (.bipush 33, 2) := by decide +kernel
theorem dX7_isSign_45 : decode cX7_isSign 45 = .ok (.if_icmp .eq 27, 3) := by decide +kernel
theorem dX7_isSign_48 : decode cX7_isSign 48 = .ok (.iload_n 0, 1) := by decide +kernel
theorem dX7_isSign_49 : decode cX7_isSign 49 = .ok (.bipush 61, 2) := by decide +kernel
theorem dX7_isSign_51 : decode cX7_isSign 51 = .ok (.if_icmp .eq 21, 3) := by decide +kernel
theorem dX7_isSign_54 : decode cX7_isSign 54 = .ok (.iload_n 0, 1) := by decide +kernel
theorem dX7_isSign_55 : decode cX7_isSign 55 = .ok (.bipush 91, 2) := by decide +kernel
theorem dX7_isSign_57 : decode cX7_isSign 57 = .ok (.if_icmp .eq 15, 3) := by decide +kernel
theorem dX7_isSign_60 : decode cX7_isSign 60 = .ok (.iload_n 0, 1) := by decide +kernel
theorem dX7_isSign_61 : decode cX7_isSign 61 = .ok (.bipush 93, 2) := by decide +kernel
theorem dX7_isSign_63 : decode cX7_isSign 63 = .ok (.if_icmp .eq 9, 3) := by decide +kernel
theorem dX7_isSign_66 : decode cX7_isSign 66 = .ok (.iload_n 0, 1) := by decide +kernel
theorem dX7_isSign_67 : decode cX7_isSign 67 = .ok (.bipush 44, 2) := by decide +kernel
theorem dX7_isSign_69 : decode cX7_isSign 69 = .ok (.if_icmp .ne 7, 3) := by decide +kernel
theorem dX7_isSign_72 : decode cX7_isSign 72 = .ok (.iconst 1, 1) := by decide +kernel
theorem dX7_isSign_73 : decode cX7_isSign 73 = .ok (.goto 4, 3) := by decide +kernel
theorem dX7_isSign_76 : decode cX7_isSign 76 = .ok (.iconst 0, 1) := by decide +kernel
theorem dX7_isSign_77 : decode cX7_isSign 77 = .ok (.ireturn, 1) := by decide +kernel
set_option maxRecDepth 20000 in
theorem ggX7_isDigit_X7_in : GoodIn wsX7_isDigit wsX7_in := goodIn_r _ [4] (by decide +kernel) (by decide +kernel)
set_option maxRecDepth 20000 in
theorem gX7_isDigit_X7_in : GoodIn wsX7_isDigit (va_wsS RX7 48 yX7_in wsX7_in) := goodIn_app (goodIn_of _ (by decide +kernel)) ggX7_isDigit_X7_in
theorem dX7_isDigit_0 : decode cX7_isDigit 0 = .ok (.iload_n 0, 1) := by decide +kernel
theorem dX7_isDigit_1 : decode cX7_isDigit 1 = .ok (.bipush 48, 2) := by decide +kernel
theorem dX7_isDigit_3 : decode cX7_isDigit 3 = .ok (.bipush 57, 2) := by decide +kernel
theorem dX7_isDigit_5 : decode cX7_isDigit 5 = .ok (.invokestatic 48, 3) := by decide +kernel
theorem dX7_isDigit_8 : decode cX7_isDigit 8 = .ok (.ireturn, 1) := by decide +kernel
set_option maxRecDepth 20000 in
theorem ggX7_readsNumber_X7_isDigit : GoodIn wsX7_readsNumber wsX7_isDigit := goodIn_r _ [9, 10, 11, 8, 12] (by decide +kernel) (by decide +kernel)
set_option maxRecDepth 20000 in
theorem gX7_readsNumber_X7_isDigit : GoodIn wsX7_readsNumber (va_wsS RX7 84 yX7_isDigit wsX7_isDigit) := goodIn_app (goodIn_of _ (by decide +kernel)) ggX7_readsNumber_X7_isDigit
theorem dX7_readsNumber_0 : decode cX7_readsNumber 0 = .ok (.iconst 0, 1) := by decide +kernel
theorem dX7_readsNumber_1 : decode cX7_readsNumber 1 = .ok (.istore_n 1, 1) := by decide +kernel
theorem dX7_readsNumber_2 : decode cX7_readsNumber 2 = .ok (.aload_n 0, 1) := by decide +kernel
theorem dX7_readsNumber_3 : decode cX7_readsNumber 3 = .ok (.iconst 0, 1) := by decide +kernel
theorem dX7_readsNumber_4 : decode cX7_readsNumber 4 = .ok (.putfield 78, 3) := by decide +kernel
theorem dX7_readsNumber_7 : decode cX7_readsNumber 7 = .ok (.aload_n 0, 1) := by decide +kernel
theorem dX7_readsNumber_8 : decode cX7_readsNumber 8 = .ok (.getfield 81, 3) := by decide +kernel
theorem dX7_readsNumber_11 : decode cX7_readsNumber 11 = .ok (.aload_n 0, 1) := by decide +kernel
theorem dX7_readsNumber_12 : decode cX7_readsNumber 12 = .ok (.getfield 67, 3) := by decide +kernel
theorem dX7_readsNumber_15 : decode cX7_readsNumber 15 = .ok (.if_icmp .ge 63, 3) := by decide +kernel
theorem dX7_readsNumber_18 : decode cX7_readsNumber 18 = .ok (.aload_n 0, 1) := by decide +kernel
theorem dX7_readsNumber_19 : decode cX7_readsNumber 19 = .ok (.getfield 17, 3) := by decide +kernel
theorem dX7_readsNumber_22 : decode cX7_readsNumber 22 = .ok (.aload_n 0, 1) := by decide +kernel
theorem dX7_readsNumber_23 : decode cX7_readsNumber 23 = .ok (.getfield 81, 3) := by decide +kernel
theorem dX7_readsNumber_26 : decode cX7_readsNumber 26 = .ok (.iaload, 1) := by decide +kernel
theorem dX7_readsNumber_27 : decode cX7_readsNumber 27 = .ok (.invokestatic 84, 3) := by decide +kernel
theorem dX7_readsNumber_30 : decode cX7_readsNumber 30 = .ok (.ifCond .eq 48, 3) := by decide +kernel
theorem dX7_readsNumber_33 : decode cX7_readsNumber 33 = .ok (.iload_n 1, 1) := by decide +kernel
theorem dX7_readsNumber_34 : decode cX7_readsNumber 34 = .ok (.iconst 4, 1) := by decide +kernel
theorem dX7_readsNumber_35 : decode cX7_readsNumber 35 = .ok (.if_icmp .ge 27, 3) := by decide +kernel
theorem dX7_readsNumber_38 : decode cX7_readsNumber 38 = .ok (.aload_n 0, 1) := by decide +kernel
theorem dX7_readsNumber_39 : decode cX7_readsNumber 39 = .ok (.bipush 10, 2) := by decide +kernel
theorem dX7_readsNumber_41 : decode cX7_readsNumber 41 = .ok (.aload_n 0, 1) := by decide +kernel
theorem dX7_readsNumber_42 : decode cX7_readsNumber 42 = .ok (.getfield 78, 3) := by decide +kernel
theorem dX7_readsNumber_45 : decode cX7_readsNumber 45 = .ok (.imul, 1) := by decide +kernel
theorem dX7_readsNumber_46 : decode cX7_readsNumber 46 = .ok (.aload_n 0, 1) := by decide +kernel
theorem dX7_readsNumber_47 : decode cX7_readsNumber 47 = .ok (.getfield 17, 3) := by decide +kernel
theorem dX7_readsNumber_50 : decode cX7_readsNumber 50 = .ok (.aload_n 0, 1) := by decide +kernel
theorem dX7_readsNumber_51 : decode cX7_readsNumber 51 = .ok (.getfield 81, 3) := by decide +kernel
theorem dX7_readsNumber_54 : decode cX7_readsNumber 54 = .ok (.iaload, 1) := by decide +kernel
theorem dX7_readsNumber_55 : decode cX7_readsNumber 55 = .ok (.iadd, 1) := by decide +kernel
theorem dX7_readsNumber_56 : decode cX7_readsNumber 56 = .ok (.bipush 48, 2) := by decide +kernel
theorem dX7_readsNumber_58 : decode cX7_readsNumber 58 = .ok (.isub, 1) := by decide +kernel
theorem dX7_readsNumber_59 : decode cX7_readsNumber 59 = .ok (.putfield 78, 3) := by decide +kernel
theorem dX7_readsNumber_62 : decode cX7_readsNumber 62 = .ok (.iinc 1 1, 3) := by decide +kernel
theorem dX7_readsNumber_65 : decode cX7_readsNumber 65 = .ok (.aload_n 0, 1) := by decide +kernel
theorem dX7_readsNumber_66 : decode cX7_readsNumber 66 = .ok (.dup, 1) := by decide +kernel
theorem dX7_readsNumber_67 : decode cX7_readsNumber 67 = .ok (.getfield 81, 3) := by decide +kernel
theorem dX7_readsNumber_70 : decode cX7_readsNumber 70 = .ok (.iconst 1, 1) := by decide +kernel
theorem dX7_readsNumber_71 : decode cX7_readsNumber 71 = .ok (.iadd, 1) := by decide +kernel
theorem dX7_readsNumber_72 : decode cX7_readsNumber 72 = .ok (.putfield 81, 3) := by decide +kernel
theorem dX7_readsNumber_75 : decode cX7_readsNumber 75 = .ok (.goto (-68), 3) := by decide +kernel
theorem dX7_readsNumber_78 : decode cX7_readsNumber 78 = .ok (.aload_n 0, 1) := by decide +kernel
theorem dX7_readsNumber_79 : decode cX7_readsNumber 79 = .ok (.iload_n 1, 1) := by decide +kernel
theorem dX7_readsNumber_80 : decode cX7_readsNumber 80 = .ok (.iconst 4, 1) := by decide +kernel
theorem dX7_readsNumber_81 : decode cX7_readsNumber 81 = .ok (.if_icmp .gt 17, 3) := by decide +kernel
theorem dX7_readsNumber_84 : decode cX7_readsNumber 84 = .ok (.aload_n 0, 1) := by decide +kernel
theorem dX7_readsNumber_85 : decode cX7_readsNumber 85 = .ok (.getfield 78, 3) := by decide +kernel
theorem dX7_readsNumber_88 : decode cX7_readsNumber 88 = .ok (.sipush 1024, 3) := by decide +kernel
theorem dX7_readsNumber_91 : decode cX7_readsNumber 91 = .ok (.if_icmp .ge 7, 3) := by decide +kernel
theorem dX7_readsNumber_94 : decode cX7_readsNumber 94 = .ok (.iconst 2, 1) := by decide +kernel
theorem dX7_readsNumber_95 : decode cX7_readsNumber 95 = .ok (.goto 4, 3) := by decide +kernel
theorem dX7_readsNumber_98 : decode cX7_readsNumber 98 = .ok (.iconst 5, 1) := by decide +kernel
theorem dX7_readsNumber_99 : decode cX7_readsNumber 99 = .ok (.putfield 87, 3) := by decide +kernel
theorem dX7_readsNumber_102 : decode cX7_readsNumber 102 = .ok (.return_, 1) := by decide +kernel
set_option maxRecDepth 20000 in
theorem ggX7_reads_X7_isDigit : GoodIn wsX7_reads wsX7_isDigit := goodIn_r _ [10, 11, 12, 9, 13] (by decide +kernel) (by decide +kernel)
set_option maxRecDepth 20000 in
theorem gX7_reads_X7_isDigit : GoodIn wsX7_reads (va_wsS RX7 84 yX7_isDigit wsX7_isDigit) := goodIn_app (goodIn_of _ (by decide +kernel)) ggX7_reads_X7_isDigit
set_option maxRecDepth 20000 in
theorem ggX7_reads_X7_readsNumber : GoodIn wsX7_reads wsX7_readsNumber := goodIn_r _ [17, 6, 1, 2, 3, 5, 7, 8, 9, 10, 11, 12, 13, 21, 22, 23, 24, 25, 26, 27, 28, 29, 30, 31, 32, 33, 34, 35, 36, 37, 38, 39, 40, 41] (by decide +kernel) (by decide +kernel)
set_option maxRecDepth 20000 in
theorem gX7_reads_X7_readsNumber : GoodIn wsX7_reads (wsV RX7 93 RX7 yX7_readsNumber wsX7_readsNumber) := goodIn_app (goodIn_of _ (by decide +kernel)) ggX7_reads_X7_readsNumber
set_option maxRecDepth 20000 in
theorem ggX7_reads_X7_in : GoodIn wsX7_reads wsX7_in := goodIn_r _ [13] (by decide +kernel) (by decide +kernel)
set_option maxRecDepth 20000 in
theorem gX7_reads_X7_in : GoodIn wsX7_reads (va_wsS RX7 48 yX7_in wsX7_in) := goodIn_app (goodIn_of _ (by decide +kernel)) ggX7_reads_X7_in
set_option maxRecDepth 20000 in
theorem ggX7_reads_X7_isSign : GoodIn wsX7_reads wsX7_isSign := goodIn_r _ [20] (by decide +kernel) (by decide +kernel)
set_option maxRecDepth 20000 in
theorem gX7_reads_X7_isSign : GoodIn wsX7_reads (va_wsS RX7 96 yX7_isSign wsX7_isSign) := goodIn_app (goodIn_of _ (by decide +kernel)) ggX7_reads_X7_isSign
theorem dX7_reads_0 : decode cX7_reads 0 = .ok (.aload_n 0, 1) := by decide +kernel
theorem dX7_reads_1 : decode cX7_reads 1 = .ok (.getfield 81, 3) := by decide +kernel
theorem dX7_reads_4 : decode cX7_reads 4 = .ok (.aload_n 0, 1) := by decide +kernel
theorem dX7_reads_5 : decode cX7_reads 5 = .ok (.getfield 67, 3) := by decide +kernel
theorem dX7_reads_8 : decode cX7_reads 8 = .ok (.if_icmp .ge 44, 3) := by decide +kernel
theorem dX7_reads_11 : decode cX7_reads 11 = .ok (.aload_n 0, 1) := by decide +kernel
theorem dX7_reads_12 : decode cX7_reads 12 = .ok (.getfield 17, 3) := by decide +kernel
theorem dX7_reads_15 : decode cX7_reads 15 = .ok (.aload_n 0, 1) := by decide +kernel
theorem dX7_reads_16 : decode cX7_reads 16 = .ok (.getfield 81, 3) := by decide +kernel
theorem dX7_reads_19 : decode cX7_reads 19 = .ok (.iaload, 1) := by decide +kernel
theorem dX7_reads_20 : decode cX7_reads 20 = .ok (.bipush 32, 2) := by decide +kernel
theorem dX7_reads_22 : decode cX7_reads 22 = .ok (.if_icmp .eq 17, 3) := by decide +kernel
theorem dX7_reads_25 : decode cX7_reads 25 = .ok (.aload_n 0, 1) := by decide +kernel
theorem dX7_reads_26 : decode cX7_reads 26 = .ok (.getfield 17, 3) := by decide +kernel
theorem dX7_reads_29 : decode cX7_reads 29 = .ok (.aload_n 0, 1) := by decide +kernel
theorem dX7_reads_30 : decode cX7_reads 30 = .ok (.getfield 81, 3) := by decide +kernel
theorem dX7_reads_33 : decode cX7_reads 33 = .ok (.iaload, 1) := by decide +kernel
theorem dX7_reads_34 : decode cX7_reads 34 = .ok (.bipush 10, 2) := by decide +kernel
theorem dX7_reads_36 : decode cX7_reads 36 = .ok (.if_icmp .ne 16, 3) := by decide +kernel
theorem dX7_reads_39 : decode cX7_reads 39 = .ok (.aload_n 0, 1) := by decide +kernel
theorem dX7_reads_40 : decode cX7_reads 40 = .ok (.dup, 1) := by decide +kernel
theorem dX7_reads_41 : decode cX7_reads 41 = .ok (.getfield 81, 3) := by decide +kernel
theorem dX7_reads_44 : decode cX7_reads 44 = .ok (.iconst 1, 1) := by decide +kernel
theorem dX7_reads_45 : decode cX7_reads 45 = .ok (.iadd, 1) := by decide +kernel
theorem dX7_reads_46 : decode cX7_reads 46 = .ok (.putfield 81, 3) := by decide +kernel
theorem dX7_reads_49 : decode cX7_reads 49 = .ok (.goto (-49), 3) := by decide +kernel
theorem dX7_reads_52 : decode cX7_reads 52 = .ok (.aload_n 0, 1) := by decide +kernel
theorem dX7_reads_53 : decode cX7_reads 53 = .ok (.aload_n 0, 1) := by decide +kernel
theorem dX7_reads_54 : decode cX7_reads 54 = .ok (.getfield 81, 3) := by decide +kernel
theorem dX7_reads_57 : decode cX7_reads 57 = .ok (.putfield 90, 3) := by decide +kernel
theorem dX7_reads_60 : decode cX7_reads 60 = .ok (.aload_n 0, 1) := by decide +kernel
theorem dX7_reads_61 : decode cX7_reads 61 = .ok (.iconst 0, 1) := by decide +kernel
theorem dX7_reads_62 : decode cX7_reads 62 = .ok (.putfield 87, 3) := by decide +kernel
theorem dX7_reads_65 : decode cX7_reads 65 = .ok (.aload_n 0, 1) := by decide +kernel
theorem dX7_reads_66 : decode cX7_reads 66 = .ok (.getfield 81, 3) := by decide +kernel
theorem dX7_reads_69 : decode cX7_reads 69 = .ok (.aload_n 0, 1) := by decide +kernel
theorem dX7_reads_70 : decode cX7_reads 70 = .ok (.getfield 67, 3) := by decide +kernel
theorem dX7_reads_73 : decode cX7_reads 73 = .ok (.if_icmp .ne 4, 3) := by decide +kernel
theorem dX7_reads_76 : decode cX7_reads 76 = .ok (.return_, 1) := by decide +kernel
theorem dX7_reads_77 : decode cX7_reads 77 = .ok (.aload_n 0, 1) := by decide +kernel
theorem dX7_reads_78 : decode cX7_reads 78 = .ok (.getfield 17, 3) := by decide +kernel
theorem dX7_reads_81 : decode cX7_reads 81 = .ok (.aload_n 0, 1) := by decide +kernel
theorem dX7_reads_82 : decode cX7_reads 82 = .ok (.getfield 81, 3) := by decide +kernel
theorem dX7_reads_85 : decode cX7_reads 85 = .ok (.iaload, 1) := by decide +kernel
theorem dX7_reads_86 : decode cX7_reads 86 = .ok (.istore_n 1, 1) := by decide +kernel
theorem dX7_reads_87 : decode cX7_reads 87 = .ok (.iload_n 1, 1) := by decide +kernel
theorem dX7_reads_88 : decode cX7_reads 88 = .ok (.invokestatic 84, 3) := by decide +kernel
theorem dX7_reads_91 : decode cX7_reads 91 = .ok (.ifCond .eq 8, 3) := by decide +kernel
theorem dX7_reads_94 : decode cX7_reads 94 = .ok (.aload_n 0, 1) := by decide +kernel
theorem dX7_reads_95 : decode cX7_reads 95 = .ok (.invokevirtual 93, 3) := by decide +kernel
theorem dX7_reads_98 : decode cX7_reads 98 = .ok (.return_, 1) := by decide +kernel
theorem dX7_reads_99 : decode cX7_reads 99 = .ok (.aload_n 0, 1) := by decide +kernel
theorem dX7_reads_100 : decode cX7_reads 100 = .ok (.dup, 1) := by decide +kernel
theorem dX7_reads_101 : decode cX7_reads 101 = .ok (.getfield 81, 3) := by decide +kernel
theorem dX7_reads_104 : decode cX7_reads 104 = .ok (.iconst 1, 1) := by decide +kernel
theorem dX7_reads_105 : decode cX7_reads 105 = .ok (.iadd, 1) := by decide +kernel
theorem dX7_reads_106 : decode cX7_reads 106 = .ok (.putfield 81, 3) := by decide +kernel
theorem dX7_reads_109 : decode cX7_reads 109 = .ok (.aload_n 0, 1) := by decide +kernel
theorem dX7_reads_110 : decode cX7_reads 110 = .ok (.iload_n 1, 1) := by decide +kernel
theorem dX7_reads_111 : decode cX7_reads 111 = .ok (.putfield 78, 3) := by decide +kernel
theorem dX7_reads_114 : decode cX7_reads 114 = .ok (.iload_n 1, 1) := by decide +kernel
theorem dX7_reads_115 : decode cX7_reads 115 = .ok (.bipush 97, 2) := by decide +kernel
theorem dX7_reads_117 : decode cX7_reads 117 = .ok (.bipush 104, 2) := by decide +kernel
theorem dX7_reads_119 : decode cX7_reads 119 = .ok (.invokestatic 48, 3) := by decide +kernel
theorem dX7_reads_122 : decode cX7_reads 122 = .ok (.ifCond .eq 19, 3) := by decide +kernel
theorem dX7_reads_125 : decode cX7_reads 125 = .ok (.aload_n 0, 1) := by decide +kernel
theorem dX7_reads_126 : decode cX7_reads 126 = .ok (.iconst 1, 1) := by decide +kernel
theorem dX7_reads_127 : decode cX7_reads 127 = .ok (.putfield 87, 3) := by decide +kernel
theorem dX7_reads_130 : decode cX7_reads 130 = .ok (.aload_n 0, 1) := by decide +kernel
theorem dX7_reads_131 : decode cX7_reads 131 = .ok (.iload_n 1, 1) := by decide +kernel
theorem dX7_reads_132 : decode cX7_reads 132 = .ok (.bipush 97, 2) := by decide +kernel
theorem dX7_reads_134 : decode cX7_reads 134 = .ok (.isub, 1) := by decide +kernel
theorem dX7_reads_135 : decode cX7_reads 135 = .ok (.putfield 78, 3) := by decide +kernel
theorem dX7_reads_138 : decode cX7_reads 138 = .ok (.goto 72, 3) := by decide +kernel
theorem dX7_reads_141 : decode cX7_reads 141 = .ok (.iload_n 1, 1) := by decide +kernel
theorem dX7_reads_142 : decode cX7_reads 142 = .ok (.invokestatic 96, 3) := by decide +kernel
theorem dX7_reads_145 : decode cX7_reads 145 = .ok (.ifCond .eq 11, 3) := by decide +kernel
theorem dX7_reads_148 : decode cX7_reads 148 = .ok (.aload_n 0, 1) := by decide +kernel
theorem dX7_reads_149 : decode cX7_reads 149 = .ok (.iconst 3, 1) := by decide +kernel
theorem dX7_reads_150 : decode cX7_reads 150 = .ok (.putfield 87, 3) := by decide +kernel
theorem dX7_reads_153 : decode cX7_reads 153 = .ok (.goto 57, 3) := by decide +kernel
theorem dX7_reads_156 : decode cX7_reads 156 = .ok (.iload_n 1, 1) := by decide +kernel
theorem dX7_reads_157 : decode cX7_reads 157 = .ok (.bipush 46, 2) := by decide +kernel
theorem dX7_reads_159 : decode cX7_reads 159 = .ok (.if_icmp .ne 46, 3) := by decide +kernel
theorem dX7_reads_162 : decode cX7_reads 162 = .ok (.aload_n 0, 1) := by decide +kernel
theorem dX7_reads_163 : decode cX7_reads 163 = .ok (.getfield 81, 3) := by decide +kernel
theorem dX7_reads_166 : decode cX7_reads 166 = .ok (.aload_n 0, 1) := by decide +kernel
theorem dX7_reads_167 : decode cX7_reads 167 = .ok (.getfield 67, 3) := by decide +kernel
theorem dX7_reads_170 : decode cX7_reads 170 = .ok (.if_icmp .ge 35, 3) := by decide +kernel
theorem dX7_reads_173 : decode cX7_reads 173 = .ok (.aload_n 0, 1) := by decide +kernel
theorem dX7_reads_174 : decode cX7_reads 174 = .ok (.getfield 17, 3) := by decide +kernel
theorem dX7_reads_177 : decode cX7_reads 177 = .ok (.aload_n 0, 1) := by decide +kernel
theorem dX7_reads_178 : decode cX7_reads 178 = .ok (.getfield 81, 3) := by decide +kernel
theorem dX7_reads_181 : decode cX7_reads 181 = .ok (.iaload, 1) := by decide +kernel
theorem dX7_reads_182 : decode cX7_reads 182 = .ok (.bipush 46, 2) := by decide +kernel
theorem dX7_reads_184 : decode cX7_reads 184 = .ok (.if_icmp .ne 21, 3) := by decide +kernel
theorem dX7_reads_187 : decode cX7_reads 187 = .ok (.aload_n 0, 1) := by decide +kernel
theorem dX7_reads_188 : decode cX7_reads 188 = .ok (.iconst 4, 1) := by decide +kernel
theorem dX7_reads_189 : decode cX7_reads 189 = .ok (.putfield 87, 3) := by decide +kernel
theorem dX7_reads_192 : decode cX7_reads 192 = .ok (.aload_n 0, 1) := by decide +kernel
theorem dX7_reads_193 : decode cX7_reads 193 = .ok (.dup, 1) := by decide +kernel
theorem dX7_reads_194 : decode cX7_reads 194 = .ok (.getfield 81, 3) := by decide +kernel
theorem dX7_reads_197 : decode cX7_reads 197 = .ok (.iconst 1, 1) := by decide +kernel
theorem dX7_reads_198 : decode cX7_reads 198 = .ok (.iadd, 1) := by decide +kernel
theorem dX7_reads_199 : decode cX7_reads 199 = .ok (.putfield 81, 3) := by decide +kernel
theorem dX7_reads_202 : decode cX7_reads 202 = .ok (.goto 8, 3) := by decide +kernel
theorem dX7_reads_205 : decode cX7_reads 205 = .ok (.aload_n 0, 1) := by decide +kernel
theorem dX7_reads_206 : decode cX7_reads 206 = .ok (.iconst 5, 1) := by decide +kernel
theorem dX7_reads_207 : decode cX7_reads 207 = .ok (.putfield 87, 3) := by decide +kernel
theorem dX7_reads_210 : decode cX7_reads 210 = .ok (.return_, 1) := by decide +kernel
theorem dX7_isSignNow_0 : decode cX7_isSignNow 0 = .ok (.aload_n 0, 1) := by decide +kernel
theorem dX7_isSignNow_1 : decode cX7_isSignNow 1 = .ok (.getfield 87, 3) := by decide +kernel
theorem dX7_isSignNow_4 : decode cX7_isSignNow 4 = .ok (.iconst 3, 1) := by decide +kernel
theorem dX7_isSignNow_5 : decode cX7_isSignNow 5 = .ok (.if_icmp .ne 15, 3) := by decide +kernel
theorem dX7_isSignNow_8 : decode cX7_isSignNow 8 = .ok (.aload_n 0, 1) := by decide +kernel
theorem dX7_isSignNow_9 : decode cX7_isSignNow 9 = .ok (.getfield 78, 3) := by decide +kernel
theorem dX7_isSignNow_12 : decode cX7_isSignNow 12 = .ok (.iload_n 1, 1) := by decide +kernel
theorem dX7_isSignNow_13 : decode cX7_isSignNow 13 = .ok (.if_icmp .ne 7, 3) := by decide +kernel
theorem dX7_isSignNow_16 : decode cX7_isSignNow 16 = .ok (.iconst 1, 1) := by decide +kernel
theorem dX7_isSignNow_17 : decode cX7_isSignNow 17 = .ok (.goto 4, 3) := by decide +kernel
theorem dX7_isSignNow_20 : decode cX7_isSignNow 20 = .ok (.iconst 0, 1) := by decide +kernel
theorem dX7_isSignNow_21 : decode cX7_isSignNow 21 = .ok (.ireturn, 1) := by decide +kernel
set_option maxRecDepth 20000 in
theorem ggX7_takes_X7_reads : GoodIn wsX7_takes wsX7_reads := goodIn_r _ [6, 7, 8, 9, 10, 1, 11, 12, 13, 5, 14, 15, 16, 17, 18, 19, 20, 21, 22, 23, 24, 25, 26, 27, 28, 29, 30, 31, 32, 33, 34, 35, 36, 37, 38, 39, 40, 41, 42, 43, 44, 45] (by decide +kernel) (by decide +kernel)
set_option maxRecDepth 20000 in
theorem gX7_takes_X7_reads : GoodIn wsX7_takes (wsV RX7 99 RX7 yX7_reads wsX7_reads) := goodIn_app (goodIn_of _ (by decide +kernel)) ggX7_takes_X7_reads
theorem dX7_takes_0 : decode cX7_takes 0 = .ok (.aload_n 0, 1) := by decide +kernel
theorem dX7_takes_1 : decode cX7_takes 1 = .ok (.getfield 87, 3) := by decide +kernel
theorem dX7_takes_4 : decode cX7_takes 4 = .ok (.iload_n 1, 1) := by decide +kernel
theorem dX7_takes_5 : decode cX7_takes 5 = .ok (.if_icmp .eq 5, 3) := by decide +kernel
theorem dX7_takes_8 : decode cX7_takes 8 = .ok (.iconst 0, 1) := by decide +kernel
theorem dX7_takes_9 : decode cX7_takes 9 = .ok (.ireturn, 1) := by decide +kernel
theorem dX7_takes_10 : decode cX7_takes 10 = .ok (.aload_n 0, 1) := by decide +kernel
theorem dX7_takes_11 : decode cX7_takes 11 = .ok (.invokevirtual 99, 3) := by decide +kernel
theorem dX7_takes_14 : decode cX7_takes 14 = .ok (.iconst 1, 1) := by decide +kernel
theorem dX7_takes_15 : decode cX7_takes 15 = .ok (.ireturn, 1) := by decide +kernel
set_option maxRecDepth 20000 in
theorem ggX7_takesSign_X7_isSignNow : GoodIn wsX7_takesSign wsX7_isSignNow := goodIn_r _ [5, 6, 7, 33, 34, 35, 36, 37, 38, 39, 40, 41, 42, 43, 44, 45, 46, 47, 48, 49, 50, 51, 52, 53] (by decide +kernel) (by decide +kernel)
set_option maxRecDepth 20000 in
theorem gX7_takesSign_X7_isSignNow : GoodIn wsX7_takesSign (wsV RX7 102 RX7 yX7_isSignNow wsX7_isSignNow) := goodIn_app (goodIn_of _ (by decide +kernel)) ggX7_takesSign_X7_isSignNow
set_option maxRecDepth 20000 in
theorem ggX7_takesSign_X7_takes : GoodIn wsX7_takesSign wsX7_takes := goodIn_r _ [11, 6, 12, 13, 14, 4, 15, 16, 17, 18, 19, 7, 20, 21, 22, 23, 24, 25, 26, 27, 28, 29, 30, 31, 32, 33, 34, 35, 36, 37, 38, 39, 40, 41, 42, 43, 44, 45, 46, 47, 48, 49, 50, 51, 52, 53] (by decide +kernel) (by decide +kernel)
set_option maxRecDepth 20000 in
theorem gX7_takesSign_X7_takes : GoodIn wsX7_takesSign (wsV RX7 105 RX7 yX7_takes wsX7_takes) := goodIn_app (goodIn_of _ (by decide +kernel)) ggX7_takesSign_X7_takes
theorem dX7_takesSign_0 : decode cX7_takesSign 0 = .ok (.aload_n 0, 1) := by decide +kernel
theorem dX7_takesSign_1 : decode cX7_takesSign 1 = .ok (.iload_n 1, 1) := by decide +kernel
theorem dX7_takesSign_2 : decode cX7_takesSign 2 = .ok (.invokevirtual 102, 3) := by decide +kernel
theorem dX7_takesSign_5 : decode cX7_takesSign 5 = .ok (.ifCond .eq 15, 3) := by decide +kernel
theorem dX7_takesSign_8 : decode cX7_takesSign 8 = .ok (.aload_n 0, 1) := by decide +kernel
theorem dX7_takesSign_9 : decode cX7_takesSign 9 = .ok (.iconst 3, 1) := by decide +kernel
theorem dX7_takesSign_10 : decode cX7_takesSign 10 = .ok (.invokevirtual 105, 3) := by decide +kernel
theorem dX7_takesSign_13 : decode cX7_takesSign 13 = .ok (.ifCond .eq 7, 3) := by decide +kernel
theorem dX7_takesSign_16 : decode cX7_takesSign 16 = .ok (.iconst 1, 1) := by decide +kernel
theorem dX7_takesSign_17 : decode cX7_takesSign 17 = .ok (.goto 4, 3) := by decide +kernel
theorem dX7_takesSign_20 : decode cX7_takesSign 20 = .ok (.iconst 0, 1) := by decide +kernel
theorem dX7_takesSign_21 : decode cX7_takesSign 21 = .ok (.ireturn, 1) := by decide +kernel
set_option maxRecDepth 20000 in
theorem ggX7_readsRange_X7_takes : GoodIn wsX7_readsRange wsX7_takes := goodIn_r _ [10, 5, 11, 12, 13, 9, 14, 15, 16, 17, 18, 3, 19, 20, 21, 22, 23, 24, 25, 26, 27, 28, 29, 30, 31, 32, 33, 34, 35, 36, 37, 38, 39, 40, 41, 42, 43, 44, 45, 46, 47, 48, 49, 50, 51, 52] (by decide +kernel) (by decide +kernel)
set_option maxRecDepth 20000 in
theorem gX7_readsRange_X7_takes : GoodIn wsX7_readsRange (wsV RX7 105 RX7 yX7_takes wsX7_takes) := goodIn_app (goodIn_of _ (by decide +kernel)) ggX7_readsRange_X7_takes
set_option maxRecDepth 20000 in
theorem ggX7_readsRange_X7_reads : GoodIn wsX7_readsRange wsX7_reads := goodIn_r _ [14, 15, 16, 17, 18, 5, 3, 19, 20, 9, 21, 22, 23, 24, 25, 26, 27, 28, 29, 30, 31, 32, 33, 34, 35, 36, 37, 38, 39, 40, 41, 42, 43, 44, 45, 46, 47, 48, 49, 50, 51, 52] (by decide +kernel) (by decide +kernel)
set_option maxRecDepth 20000 in
theorem gX7_readsRange_X7_reads : GoodIn wsX7_readsRange (wsV RX7 99 RX7 yX7_reads wsX7_reads) := goodIn_app (goodIn_of _ (by decide +kernel)) ggX7_readsRange_X7_reads
theorem dX7_readsRange_0 : decode cX7_readsRange 0 = .ok (.aload_n 0, 1) := by decide +kernel
theorem dX7_readsRange_1 : decode cX7_readsRange 1 = .ok (.getfield 27, 3) := by decide +kernel
theorem dX7_readsRange_4 : decode cX7_readsRange 4 = .ok (.aload_n 0, 1) := by decide +kernel
theorem dX7_readsRange_5 : decode cX7_readsRange 5 = .ok (.getfield 108, 3) := by decide +kernel
theorem dX7_readsRange_8 : decode cX7_readsRange 8 = .ok (.aload_n 0, 1) := by decide +kernel
theorem dX7_readsRange_9 : decode cX7_readsRange 9 = .ok (.getfield 78, 3) := by decide +kernel
theorem dX7_readsRange_12 : decode cX7_readsRange 12 = .ok (.iastore, 1) := by decide +kernel
theorem dX7_readsRange_13 : decode cX7_readsRange 13 = .ok (.aload_n 0, 1) := by decide +kernel
theorem dX7_readsRange_14 : decode cX7_readsRange 14 = .ok (.getfield 30, 3) := by decide +kernel
theorem dX7_readsRange_17 : decode cX7_readsRange 17 = .ok (.aload_n 0, 1) := by decide +kernel
theorem dX7_readsRange_18 : decode cX7_readsRange 18 = .ok (.getfield 108, 3) := by decide +kernel
theorem dX7_readsRange_21 : decode cX7_readsRange 21 = .ok (.iconst (-1), 1) := by decide +kernel
theorem dX7_readsRange_22 : decode cX7_readsRange 22 = .ok (.iastore, 1) := by decide +kernel
theorem dX7_readsRange_23 : decode cX7_readsRange 23 = .ok (.aload_n 0, 1) := by decide +kernel
theorem dX7_readsRange_24 : decode cX7_readsRange 24 = .ok (.iconst 2, 1) := by decide +kernel
theorem dX7_readsRange_25 : decode cX7_readsRange 25 = .ok (.invokevirtual 105, 3) := by decide +kernel
theorem dX7_readsRange_28 : decode cX7_readsRange 28 = .ok (.ifCond .ne 5, 3) := by decide +kernel
theorem dX7_readsRange_31 : decode cX7_readsRange 31 = .ok (.iconst 0, 1) := by decide +kernel
theorem dX7_readsRange_32 : decode cX7_readsRange 32 = .ok (.ireturn, 1) := by decide +kernel
theorem dX7_readsRange_33 : decode cX7_readsRange 33 = .ok (.aload_n 0, 1) := by decide +kernel
theorem dX7_readsRange_34 : decode cX7_readsRange 34 = .ok (.getfield 87, 3) := by decide +kernel
theorem dX7_readsRange_37 : decode cX7_readsRange 37 = .ok (.iconst 4, 1) := by decide +kernel
theorem dX7_readsRange_38 : decode cX7_readsRange 38 = .ok (.if_icmp .eq 5, 3) := by decide +kernel
theorem dX7_readsRange_41 : decode cX7_readsRange 41 = .ok (.iconst 1, 1) := by decide +kernel
theorem dX7_readsRange_42 : decode cX7_readsRange 42 = .ok (.ireturn, 1) := by decide +kernel
theorem dX7_readsRange_43 : decode cX7_readsRange 43 = .ok (.aload_n 0, 1) := by decide +kernel
theorem dX7_readsRange_44 : decode cX7_readsRange 44 = .ok (.invokevirtual 99, 3) := by decide +kernel
theorem dX7_readsRange_47 : decode cX7_readsRange 47 = .ok (.aload_n 0, 1) := by decide +kernel
theorem dX7_readsRange_48 : decode cX7_readsRange 48 = .ok (.getfield 30, 3) := by decide +kernel
theorem dX7_readsRange_51 : decode cX7_readsRange 51 = .ok (.aload_n 0, 1) := by decide +kernel
theorem dX7_readsRange_52 : decode cX7_readsRange 52 = .ok (.getfield 108, 3) := by decide +kernel
theorem dX7_readsRange_55 : decode cX7_readsRange 55 = .ok (.aload_n 0, 1) := by decide +kernel
theorem dX7_readsRange_56 : decode cX7_readsRange 56 = .ok (.getfield 78, 3) := by decide +kernel
theorem dX7_readsRange_59 : decode cX7_readsRange 59 = .ok (.iastore, 1) := by decide +kernel
theorem dX7_readsRange_60 : decode cX7_readsRange 60 = .ok (.aload_n 0, 1) := by decide +kernel
theorem dX7_readsRange_61 : decode cX7_readsRange 61 = .ok (.iconst 2, 1) := by decide +kernel
theorem dX7_readsRange_62 : decode cX7_readsRange 62 = .ok (.invokevirtual 105, 3) := by decide +kernel
theorem dX7_readsRange_65 : decode cX7_readsRange 65 = .ok (.ireturn, 1) := by decide +kernel
set_option maxRecDepth 20000 in
theorem ggX7_readsSet_X7_takes : GoodIn wsX7_readsSet wsX7_takes := goodIn_r _ [8, 9, 10, 11, 12, 7, 13, 14, 15, 16, 17, 3, 18, 19, 20, 21, 22, 23, 24, 25, 26, 27, 28, 29, 30, 31, 32, 33, 34, 35, 36, 37, 38, 39, 40, 41, 42, 43, 44, 45, 46, 47, 48, 49, 50, 51] (by decide +kernel) (by decide +kernel)
set_option maxRecDepth 20000 in
theorem gX7_readsSet_X7_takes : GoodIn wsX7_readsSet (wsV RX7 105 RX7 yX7_takes wsX7_takes) := goodIn_app (goodIn_of _ (by decide +kernel)) ggX7_readsSet_X7_takes
theorem dX7_readsSet_0 : decode cX7_readsSet 0 = .ok (.aload_n 0, 1) := by decide +kernel
theorem dX7_readsSet_1 : decode cX7_readsSet 1 = .ok (.getfield 27, 3) := by decide +kernel
theorem dX7_readsSet_4 : decode cX7_readsSet 4 = .ok (.aload_n 0, 1) := by decide +kernel
theorem dX7_readsSet_5 : decode cX7_readsSet 5 = .ok (.getfield 108, 3) := by decide +kernel
theorem dX7_readsSet_8 : decode cX7_readsSet 8 = .ok (.aload_n 0, 1) := by decide +kernel
theorem dX7_readsSet_9 : decode cX7_readsSet 9 = .ok (.getfield 78, 3) := by decide +kernel
theorem dX7_readsSet_12 : decode cX7_readsSet 12 = .ok (.iastore, 1) := by decide +kernel
theorem dX7_readsSet_13 : decode cX7_readsSet 13 = .ok (.aload_n 0, 1) := by decide +kernel
theorem dX7_readsSet_14 : decode cX7_readsSet 14 = .ok (.iconst 1, 1) := by decide +kernel
theorem dX7_readsSet_15 : decode cX7_readsSet 15 = .ok (.invokevirtual 105, 3) := by decide +kernel
theorem dX7_readsSet_18 : decode cX7_readsSet 18 = .ok (.ireturn, 1) := by decide +kernel
set_option maxRecDepth 20000 in
theorem ggX7_lists_X7_takes : GoodIn wsX7_lists wsX7_takes := goodIn_r _ [8, 9, 10, 11, 12, 7, 13, 14, 15, 16, 17, 3, 18, 19, 20, 21, 22, 23, 24, 25, 26, 27, 28, 29, 30, 31, 32, 33, 34, 35, 36, 37, 38, 39, 40, 41, 42, 43, 44, 45, 46, 47, 48, 49, 50, 51] (by decide +kernel) (by decide +kernel)
set_option maxRecDepth 20000 in
theorem gX7_lists_X7_takes : GoodIn wsX7_lists (wsV RX7 105 RX7 yX7_takes wsX7_takes) := goodIn_app (goodIn_of _ (by decide +kernel)) ggX7_lists_X7_takes
theorem dX7_lists_0 : decode cX7_lists 0 = .ok (.aload_n 0, 1) := by decide +kernel
theorem dX7_lists_1 : decode cX7_lists 1 = .ok (.getfield 33, 3) := by decide +kernel
theorem dX7_lists_4 : decode cX7_lists 4 = .ok (.aload_n 0, 1) := by decide +kernel
theorem dX7_lists_5 : decode cX7_lists 5 = .ok (.getfield 111, 3) := by decide +kernel
theorem dX7_lists_8 : decode cX7_lists 8 = .ok (.aload_n 0, 1) := by decide +kernel
theorem dX7_lists_9 : decode cX7_lists 9 = .ok (.getfield 78, 3) := by decide +kernel
theorem dX7_lists_12 : decode cX7_lists 12 = .ok (.iastore, 1) := by decide +kernel
theorem dX7_lists_13 : decode cX7_lists 13 = .ok (.aload_n 0, 1) := by decide +kernel
theorem dX7_lists_14 : decode cX7_lists 14 = .ok (.iconst 2, 1) := by decide +kernel
theorem dX7_lists_15 : decode cX7_lists 15 = .ok (.invokevirtual 105, 3) := by decide +kernel
theorem dX7_lists_18 : decode cX7_lists 18 = .ok (.ifCond .ne 5, 3) := by decide +kernel
theorem dX7_lists_21 : decode cX7_lists 21 = .ok (.iconst 0, 1) := by decide +kernel
theorem dX7_lists_22 : decode cX7_lists 22 = .ok (.ireturn, 1) := by decide +kernel
theorem dX7_lists_23 : decode cX7_lists 23 = .ok (.aload_n 0, 1) := by decide +kernel
theorem dX7_lists_24 : decode cX7_lists 24 = .ok (.dup, 1) := by decide +kernel
theorem dX7_lists_25 : decode cX7_lists 25 = .ok (.getfield 111, 3) := by decide +kernel
theorem dX7_lists_28 : decode cX7_lists 28 = .ok (.iconst 1, 1) := by decide +kernel
theorem dX7_lists_29 : decode cX7_lists 29 = .ok (.iadd, 1) := by decide +kernel
theorem dX7_lists_30 : decode cX7_lists 30 = .ok (.putfield 111, 3) := by decide +kernel
theorem dX7_lists_33 : decode cX7_lists 33 = .ok (.iconst 1, 1) := by decide +kernel
theorem dX7_lists_34 : decode cX7_lists 34 = .ok (.ireturn, 1) := by decide +kernel
set_option maxRecDepth 20000 in
theorem ggX7_readsRow_X7_lists : GoodIn wsX7_readsRow wsX7_lists := goodIn_r _ [11, 12, 4, 13, 14, 15, 16, 10, 17, 5, 18, 19, 20, 21, 22, 23, 24, 25, 26, 27, 28, 29, 30, 31, 32, 33, 34, 35, 36, 37, 38, 47, 48, 49, 50, 51, 52, 53, 54, 55, 56, 57, 58, 59, 60, 61, 62, 63, 64, 65, 66, 67] (by decide +kernel) (by decide +kernel)
set_option maxRecDepth 20000 in
theorem gX7_readsRow_X7_lists : GoodIn wsX7_readsRow (wsV RX7 114 RX7 yX7_lists wsX7_lists) := goodIn_app (goodIn_of _ (by decide +kernel)) ggX7_readsRow_X7_lists
set_option maxRecDepth 20000 in
theorem ggX7_readsRow_X7_isSignNow : GoodIn wsX7_readsRow wsX7_isSignNow := goodIn_r _ [42, 5, 13, 47, 48, 49, 50, 51, 52, 53, 54, 55, 56, 57, 58, 59, 60, 61, 62, 63, 64, 65, 66, 67] (by decide +kernel) (by decide +kernel)
set_option maxRecDepth 20000 in
theorem gX7_readsRow_X7_isSignNow : GoodIn wsX7_readsRow (wsV RX7 102 RX7 yX7_isSignNow wsX7_isSignNow) := goodIn_app (goodIn_of _ (by decide +kernel)) ggX7_readsRow_X7_isSignNow
set_option maxRecDepth 20000 in
theorem ggX7_readsRow_X7_reads : GoodIn wsX7_readsRow wsX7_reads := goodIn_r _ [21, 22, 23, 24, 25, 5, 13, 26, 27, 10, 28, 29, 30, 31, 32, 33, 34, 35, 36, 37, 38, 47, 48, 49, 50, 51, 52, 53, 54, 55, 56, 57, 58, 59, 60, 61, 62, 63, 64, 65, 66, 67] (by decide +kernel) (by decide +kernel)
set_option maxRecDepth 20000 in
theorem gX7_readsRow_X7_reads : GoodIn wsX7_readsRow (wsV RX7 99 RX7 yX7_reads wsX7_reads) := goodIn_app (goodIn_of _ (by decide +kernel)) ggX7_readsRow_X7_reads
set_option maxRecDepth 20000 in
theorem ggX7_readsRow_X7_takesSign : GoodIn wsX7_readsRow wsX7_takesSign := goodIn_r _ [46, 39, 40, 41, 10, 42, 5, 13, 14, 15, 16, 17, 18, 19, 20, 21, 22, 23, 24, 25, 26, 27, 28, 29, 30, 31, 32, 33, 34, 35, 36, 37, 38, 47, 48, 49, 50, 51, 52, 53, 54, 55, 56, 57, 58, 59, 60, 61, 62, 63, 64, 65, 66, 67] (by decide +kernel) (by decide +kernel)
set_option maxRecDepth 20000 in
theorem gX7_readsRow_X7_takesSign : GoodIn wsX7_readsRow (wsV RX7 118 RX7 yX7_takesSign wsX7_takesSign) := goodIn_app (goodIn_of _ (by decide +kernel)) ggX7_readsRow_X7_takesSign
theorem dX7_readsRow_0 : decode cX7_readsRow 0 = .ok (.aload_n 0, 1) := by decide +kernel
theorem dX7_readsRow_1 : decode cX7_readsRow 1 = .ok (.getfield 24, 3) := by decide +kernel
theorem dX7_readsRow_4 : decode cX7_readsRow 4 = .ok (.aload_n 0, 1) := by decide +kernel
theorem dX7_readsRow_5 : decode cX7_readsRow 5 = .ok (.getfield 108, 3) := by decide +kernel
theorem dX7_readsRow_8 : decode cX7_readsRow 8 = .ok (.bipush 91, 2) := by decide +kernel
theorem dX7_readsRow_10 : decode cX7_readsRow 10 = .ok (.iastore, 1) := by decide +kernel
theorem dX7_readsRow_11 : decode cX7_readsRow 11 = .ok (.aload_n 0, 1) := by decide +kernel
theorem dX7_readsRow_12 : decode cX7_readsRow 12 = .ok (.getfield 27, 3) := by decide +kernel
theorem dX7_readsRow_15 : decode cX7_readsRow 15 = .ok (.aload_n 0, 1) := by decide +kernel
theorem dX7_readsRow_16 : decode cX7_readsRow 16 = .ok (.getfield 108, 3) := by decide +kernel
theorem dX7_readsRow_19 : decode cX7_readsRow 19 = .ok (.aload_n 0, 1) := by decide +kernel
theorem dX7_readsRow_20 : decode cX7_readsRow 20 = .ok (.getfield 111, 3) := by decide +kernel
theorem dX7_readsRow_23 : decode cX7_readsRow 23 = .ok (.iastore, 1) := by decide +kernel
theorem dX7_readsRow_24 : decode cX7_readsRow 24 = .ok (.aload_n 0, 1) := by decide +kernel
theorem dX7_readsRow_25 : decode cX7_readsRow 25 = .ok (.getfield 87, 3) := by decide +kernel
theorem dX7_readsRow_28 : decode cX7_readsRow 28 = .ok (.iconst 2, 1) := by decide +kernel
theorem dX7_readsRow_29 : decode cX7_readsRow 29 = .ok (.if_icmp .ne 34, 3) := by decide +kernel
theorem dX7_readsRow_32 : decode cX7_readsRow 32 = .ok (.aload_n 0, 1) := by decide +kernel
theorem dX7_readsRow_33 : decode cX7_readsRow 33 = .ok (.invokevirtual 114, 3) := by decide +kernel
theorem dX7_readsRow_36 : decode cX7_readsRow 36 = .ok (.istore_n 1, 1) := by decide +kernel
theorem dX7_readsRow_37 : decode cX7_readsRow 37 = .ok (.iload_n 1, 1) := by decide +kernel
theorem dX7_readsRow_38 : decode cX7_readsRow 38 = .ok (.ifCond .eq 25, 3) := by decide +kernel
theorem dX7_readsRow_41 : decode cX7_readsRow 41 = .ok (.aload_n 0, 1) := by decide +kernel
theorem dX7_readsRow_42 : decode cX7_readsRow 42 = .ok (.bipush 44, 2) := by decide +kernel
theorem dX7_readsRow_44 : decode cX7_readsRow 44 = .ok (.invokevirtual 102, 3) := by decide +kernel
theorem dX7_readsRow_47 : decode cX7_readsRow 47 = .ok (.ifCond .eq 16, 3) := by decide +kernel
theorem dX7_readsRow_50 : decode cX7_readsRow 50 = .ok (.aload_n 0, 1) := by decide +kernel
theorem dX7_readsRow_51 : decode cX7_readsRow 51 = .ok (.invokevirtual 99, 3) := by decide +kernel
theorem dX7_readsRow_54 : decode cX7_readsRow 54 = .ok (.aload_n 0, 1) := by decide +kernel
theorem dX7_readsRow_55 : decode cX7_readsRow 55 = .ok (.invokevirtual 114, 3) := by decide +kernel
theorem dX7_readsRow_58 : decode cX7_readsRow 58 = .ok (.ifCond .ne (-21), 3) := by decide +kernel
theorem dX7_readsRow_61 : decode cX7_readsRow 61 = .ok (.iconst 0, 1) := by decide +kernel
theorem dX7_readsRow_62 : decode cX7_readsRow 62 = .ok (.ireturn, 1) := by decide +kernel
theorem dX7_readsRow_63 : decode cX7_readsRow 63 = .ok (.aload_n 0, 1) := by decide +kernel
theorem dX7_readsRow_64 : decode cX7_readsRow 64 = .ok (.getfield 30, 3) := by decide +kernel
theorem dX7_readsRow_67 : decode cX7_readsRow 67 = .ok (.aload_n 0, 1) := by decide +kernel
theorem dX7_readsRow_68 : decode cX7_readsRow 68 = .ok (.getfield 108, 3) := by decide +kernel
theorem dX7_readsRow_71 : decode cX7_readsRow 71 = .ok (.aload_n 0, 1) := by decide +kernel
theorem dX7_readsRow_72 : decode cX7_readsRow 72 = .ok (.getfield 111, 3) := by decide +kernel
theorem dX7_readsRow_75 : decode cX7_readsRow 75 = .ok (.aload_n 0, 1) := by decide +kernel
theorem dX7_readsRow_76 : decode cX7_readsRow 76 = .ok (.getfield 27, 3) := by decide +kernel
theorem dX7_readsRow_79 : decode cX7_readsRow 79 = .ok (.aload_n 0, 1) := by decide +kernel
theorem dX7_readsRow_80 : decode cX7_readsRow 80 = .ok (.getfield 108, 3) := by decide +kernel
theorem dX7_readsRow_83 : decode cX7_readsRow 83 = .ok (.iaload, 1) := by decide +kernel
theorem dX7_readsRow_84 : decode cX7_readsRow 84 = .ok (.isub, 1) := by decide +kernel
theorem dX7_readsRow_85 : decode cX7_readsRow 85 = .ok (.iastore, 1) := by decide +kernel
theorem dX7_readsRow_86 : decode cX7_readsRow 86 = .ok (.aload_n 0, 1) := by decide +kernel
theorem dX7_readsRow_87 : decode cX7_readsRow 87 = .ok (.bipush 93, 2) := by decide +kernel
theorem dX7_readsRow_89 : decode cX7_readsRow 89 = .ok (.invokevirtual 118, 3) := by decide +kernel
theorem dX7_readsRow_92 : decode cX7_readsRow 92 = .ok (.ireturn, 1) := by decide +kernel
set_option maxRecDepth 20000 in
theorem ggX7_readsAction_X7_reads : GoodIn wsX7_readsAction wsX7_reads := goodIn_r _ [9, 10, 11, 12, 13, 1, 2, 14, 15, 8, 16, 17, 18, 19, 20, 21, 22, 23, 24, 25, 26, 59, 60, 61, 62, 63, 64, 65, 66, 67, 68, 69, 70, 71, 72, 73, 74, 75, 76, 77, 78, 79] (by decide +kernel) (by decide +kernel)
set_option maxRecDepth 20000 in
theorem gX7_readsAction_X7_reads : GoodIn wsX7_readsAction (wsV RX7 99 RX7 yX7_reads wsX7_reads) := goodIn_app (goodIn_of _ (by decide +kernel)) ggX7_readsAction_X7_reads
set_option maxRecDepth 20000 in
theorem ggX7_readsAction_X7_readsRange : GoodIn wsX7_readsAction wsX7_readsRange := goodIn_r _ [30, 31, 4, 2, 32, 1, 33, 34, 35, 8, 36, 5, 6, 7, 9, 10, 11, 12, 13, 14, 15, 16, 17, 18, 19, 20, 21, 22, 23, 24, 25, 26, 59, 60, 61, 62, 63, 64, 65, 66, 67, 68, 69, 70, 71, 72, 73, 74, 75, 76, 77, 78, 79] (by decide +kernel) (by decide +kernel)
set_option maxRecDepth 20000 in
theorem gX7_readsAction_X7_readsRange : GoodIn wsX7_readsAction (wsV RX7 121 RX7 yX7_readsRange wsX7_readsRange) := goodIn_app (goodIn_of _ (by decide +kernel)) ggX7_readsAction_X7_readsRange
set_option maxRecDepth 20000 in
theorem ggX7_readsAction_X7_takesSign : GoodIn wsX7_readsAction wsX7_takesSign := goodIn_r _ [40, 41, 42, 43, 8, 44, 1, 2, 33, 34, 35, 36, 5, 6, 7, 9, 10, 11, 12, 13, 14, 15, 16, 17, 18, 19, 20, 21, 22, 23, 24, 25, 26, 59, 60, 61, 62, 63, 64, 65, 66, 67, 68, 69, 70, 71, 72, 73, 74, 75, 76, 77, 78, 79] (by decide +kernel) (by decide +kernel)
set_option maxRecDepth 20000 in
theorem gX7_readsAction_X7_takesSign : GoodIn wsX7_readsAction (wsV RX7 118 RX7 yX7_takesSign wsX7_takesSign) := goodIn_app (goodIn_of _ (by decide +kernel)) ggX7_readsAction_X7_takesSign
set_option maxRecDepth 20000 in
theorem ggX7_readsAction_X7_readsRow : GoodIn wsX7_readsAction wsX7_readsRow := goodIn_r _ [48, 3, 4, 31, 49, 1, 32, 50, 51, 52, 8, 53, 54, 2, 33, 34, 35, 36, 5, 6, 7, 9, 10, 11, 12, 13, 14, 15, 16, 17, 18, 19, 20, 21, 22, 23, 24, 25, 26, 41, 42, 43, 44, 37, 38, 39, 40, 59, 60, 61, 62, 63, 64, 65, 66, 67, 68, 69, 70, 71, 72, 73, 74, 75, 76, 77, 78, 79] (by decide +kernel) (by decide +kernel)
set_option maxRecDepth 20000 in
theorem gX7_readsAction_X7_readsRow : GoodIn wsX7_readsAction (wsV RX7 124 RX7 yX7_readsRow wsX7_readsRow) := goodIn_app (goodIn_of _ (by decide +kernel)) ggX7_readsAction_X7_readsRow
set_option maxRecDepth 20000 in
theorem ggX7_readsAction_X7_readsSet : GoodIn wsX7_readsAction wsX7_readsSet := goodIn_r _ [58, 31, 4, 2, 33, 34, 35, 8, 36, 1, 5, 6, 7, 9, 10, 11, 12, 13, 14, 15, 16, 17, 18, 19, 20, 21, 22, 23, 24, 25, 26, 59, 60, 61, 62, 63, 64, 65, 66, 67, 68, 69, 70, 71, 72, 73, 74, 75, 76, 77, 78, 79] (by decide +kernel) (by decide +kernel)
set_option maxRecDepth 20000 in
theorem gX7_readsAction_X7_readsSet : GoodIn wsX7_readsAction (wsV RX7 127 RX7 yX7_readsSet wsX7_readsSet) := goodIn_app (goodIn_of _ (by decide +kernel)) ggX7_readsAction_X7_readsSet
theorem dX7_readsAction_0 : decode cX7_readsAction 0 = .ok (.aload_n 0, 1) := by decide +kernel
theorem dX7_readsAction_1 : decode cX7_readsAction 1 = .ok (.getfield 87, 3) := by decide +kernel
theorem dX7_readsAction_4 : decode cX7_readsAction 4 = .ok (.iconst 3, 1) := by decide +kernel
theorem dX7_readsAction_5 : decode cX7_readsAction 5 = .ok (.if_icmp .eq 5, 3) := by decide +kernel
theorem dX7_readsAction_8 : decode cX7_readsAction 8 = .ok (.iconst 0, 1) := by decide +kernel
theorem dX7_readsAction_9 : decode cX7_readsAction 9 = .ok (.ireturn, 1) := by decide +kernel
theorem dX7_readsAction_10 : decode cX7_readsAction 10 = .ok (.aload_n 0, 1) := by decide +kernel
theorem dX7_readsAction_11 : decode cX7_readsAction 11 = .ok (.getfield 78, 3) := by decide +kernel
theorem dX7_readsAction_14 : decode cX7_readsAction 14 = .ok (.istore_n 1, 1) := by decide +kernel
theorem dX7_readsAction_15 : decode cX7_readsAction 15 = .ok (.aload_n 0, 1) := by decide +kernel
theorem dX7_readsAction_16 : decode cX7_readsAction 16 = .ok (.getfield 24, 3) := by decide +kernel
theorem dX7_readsAction_19 : decode cX7_readsAction 19 = .ok (.aload_n 0, 1) := by decide +kernel
theorem dX7_readsAction_20 : decode cX7_readsAction 20 = .ok (.getfield 108, 3) := by decide +kernel
theorem dX7_readsAction_23 : decode cX7_readsAction 23 = .ok (.iload_n 1, 1) := by decide +kernel
theorem dX7_readsAction_24 : decode cX7_readsAction 24 = .ok (.iastore, 1) := by decide +kernel
theorem dX7_readsAction_25 : decode cX7_readsAction 25 = .ok (.iload_n 1, 1) := by decide +kernel
theorem dX7_readsAction_26 : decode cX7_readsAction 26 = .ok (.bipush 43, 2) := by decide +kernel
theorem dX7_readsAction_28 : decode cX7_readsAction 28 = .ok (.if_icmp .eq 45, 3) := by decide +kernel
theorem dX7_readsAction_31 : decode cX7_readsAction 31 = .ok (.iload_n 1, 1) := by decide +kernel
theorem dX7_readsAction_32 : decode cX7_readsAction 32 = .ok (.bipush 45, 2) := by decide +kernel
theorem dX7_readsAction_34 : decode cX7_readsAction 34 = .ok (.if_icmp .eq 39, 3) := by decide +kernel
theorem dX7_readsAction_37 : decode cX7_readsAction 37 = .ok (.iload_n 1, 1) := by decide +kernel
theorem dX7_readsAction_38 : decode cX7_readsAction 38 = .ok (.bipush 94, 2) := by decide +kernel
theorem dX7_readsAction_40 : decode cX7_readsAction 40 = .ok (.if_icmp .eq 33, 3) := by decide +kernel
theorem dX7_readsAction_43 : decode cX7_readsAction 43 = .ok (.iload_n 1, 1) := by decide +kernel
theorem dX7_readsAction_44 : decode cX7_readsAction 44 = .ok (.bipush 38, 2) := by decide +kernel
theorem dX7_readsAction_46 : decode cX7_readsAction 46 = .ok (.if_icmp .eq 27, 3) := by decide +kernel
theorem dX7_readsAction_49 : decode cX7_readsAction 49 = .ok (.iload_n 1, 1) := by decide +kernel
theorem dX7_readsAction_50 : decode cX7_readsAction 50 = .ok (.bipush 124, 2) := by decide +kernel
theorem dX7_readsAction_52 : decode cX7_readsAction 52 = .ok (.if_icmp .eq 21, 3) := by decide +kernel
theorem dX7_readsAction_55 : decode cX7_readsAction 55 = .ok (.iload_n 1, 1) := by decide +kernel
theorem dX7_readsAction_56 : decode cX7_readsAction 56 = .ok (.bipush 126, 2) := by decide +kernel
theorem dX7_readsAction_58 : decode cX7_readsAction 58 = .ok (.if_icmp .eq 15, 3) := by decide +kernel
theorem dX7_readsAction_61 : decode cX7_readsAction 61 = .ok (.iload_n 1, 1) := by decide +kernel
theorem dX7_readsAction_62 : decode cX7_readsAction 62 = .ok (.bipush 33, 2) := by decide +kernel
theorem dX7_readsAction_64 : decode cX7_readsAction 64 = .ok (.if_icmp .eq 9, 3) := by decide +kernel
theorem dX7_readsAction_67 : decode cX7_readsAction 67 = .ok (.iload_n 1, 1) := by decide +kernel
theorem dX7_readsAction_68 : decode cX7_readsAction 68 = .ok (.bipush 61, 2) := by decide +kernel
theorem dX7_readsAction_70 : decode cX7_readsAction 70 = .ok (.if_icmp .ne 7, 3) := by decide +kernel
theorem dX7_readsAction_73 : decode cX7_readsAction 73 = .ok (.iconst 1, 1) := by decide +kernel
theorem dX7_readsAction_74 : decode cX7_readsAction 74 = .ok (.goto 4, 3) := by decide +kernel
theorem dX7_readsAction_77 : decode cX7_readsAction 77 = .ok (.iconst 0, 1) := by decide +kernel
theorem dX7_readsAction_78 : decode cX7_readsAction 78 = .ok (.istore_n 2, 1) := by decide +kernel
theorem dX7_readsAction_79 : decode cX7_readsAction 79 = .ok (.iload_n 2, 1) := by decide +kernel
theorem dX7_readsAction_80 : decode cX7_readsAction 80 = .ok (.ifCond .ne 5, 3) := by decide +kernel
theorem dX7_readsAction_83 : decode cX7_readsAction 83 = .ok (.iconst 0, 1) := by decide +kernel
theorem dX7_readsAction_84 : decode cX7_readsAction 84 = .ok (.ireturn, 1) := by decide +kernel
theorem dX7_readsAction_85 : decode cX7_readsAction 85 = .ok (.aload_n 0, 1) := by decide +kernel
theorem dX7_readsAction_86 : decode cX7_readsAction 86 = .ok (.invokevirtual 99, 3) := by decide +kernel
theorem dX7_readsAction_89 : decode cX7_readsAction 89 = .ok (.iload_n 1, 1) := by decide +kernel
theorem dX7_readsAction_90 : decode cX7_readsAction 90 = .ok (.bipush 43, 2) := by decide +kernel
theorem dX7_readsAction_92 : decode cX7_readsAction 92 = .ok (.if_icmp .eq 15, 3) := by decide +kernel
theorem dX7_readsAction_95 : decode cX7_readsAction 95 = .ok (.iload_n 1, 1) := by decide +kernel
theorem dX7_readsAction_96 : decode cX7_readsAction 96 = .ok (.bipush 45, 2) := by decide +kernel
theorem dX7_readsAction_98 : decode cX7_readsAction 98 = .ok (.if_icmp .eq 9, 3) := by decide +kernel
theorem dX7_readsAction_101 : decode cX7_readsAction 101 = .ok (.iload_n 1, 1) := by decide +kernel
theorem dX7_readsAction_102 : decode cX7_readsAction 102 = .ok (.bipush 94, 2) := by decide +kernel
theorem dX7_readsAction_104 : decode cX7_readsAction 104 = .ok (.if_icmp .ne 8, 3) := by decide +kernel
theorem dX7_readsAction_107 : decode cX7_readsAction 107 = .ok (.aload_n 0, 1) := by decide +kernel
theorem dX7_readsAction_108 : decode cX7_readsAction 108 = .ok (.invokevirtual 121, 3) := by decide +kernel
theorem dX7_readsAction_111 : decode cX7_readsAction 111 = .ok (.ireturn, 1) := by decide +kernel
theorem dX7_readsAction_112 : decode cX7_readsAction 112 = .ok (.iload_n 1, 1) := by decide +kernel
theorem dX7_readsAction_113 : decode cX7_readsAction 113 = .ok (.bipush 61, 2) := by decide +kernel
theorem dX7_readsAction_115 : decode cX7_readsAction 115 = .ok (.if_icmp .ne 17, 3) := by decide +kernel
theorem dX7_readsAction_118 : decode cX7_readsAction 118 = .ok (.aload_n 0, 1) := by decide +kernel
theorem dX7_readsAction_119 : decode cX7_readsAction 119 = .ok (.bipush 91, 2) := by decide +kernel
theorem dX7_readsAction_121 : decode cX7_readsAction 121 = .ok (.invokevirtual 118, 3) := by decide +kernel
theorem dX7_readsAction_124 : decode cX7_readsAction 124 = .ok (.ifCond .eq 8, 3) := by decide +kernel
theorem dX7_readsAction_127 : decode cX7_readsAction 127 = .ok (.aload_n 0, 1) := by decide +kernel
theorem dX7_readsAction_128 : decode cX7_readsAction 128 = .ok (.invokevirtual 124, 3) := by decide +kernel
theorem dX7_readsAction_131 : decode cX7_readsAction 131 = .ok (.ireturn, 1) := by decide +kernel
theorem dX7_readsAction_132 : decode cX7_readsAction 132 = .ok (.aload_n 0, 1) := by decide +kernel
theorem dX7_readsAction_133 : decode cX7_readsAction 133 = .ok (.invokevirtual 127, 3) := by decide +kernel
theorem dX7_readsAction_136 : decode cX7_readsAction 136 = .ok (.ireturn, 1) := by decide +kernel
set_option maxRecDepth 20000 in
theorem ggX7_readsStatement_X7_takes : GoodIn wsX7_readsStatement wsX7_takes := goodIn_r _ [8, 9, 10, 11, 12, 7, 13, 14, 15, 16, 17, 3, 18, 19, 20, 21, 22, 23, 24, 25, 26, 27, 28, 29, 30, 64, 65, 66, 67, 68, 69, 70, 71, 72, 73, 74, 75, 76, 77, 78, 79, 80, 81, 82, 83, 84] (by decide +kernel) (by decide +kernel)
set_option maxRecDepth 20000 in
theorem gX7_readsStatement_X7_takes : GoodIn wsX7_readsStatement (wsV RX7 105 RX7 yX7_takes wsX7_takes) := goodIn_app (goodIn_of _ (by decide +kernel)) ggX7_readsStatement_X7_takes
set_option maxRecDepth 20000 in
theorem ggX7_readsStatement_X7_readsAction : GoodIn wsX7_readsStatement wsX7_readsAction := goodIn_r _ [34, 9, 3, 35, 2, 10, 11, 12, 7, 13, 14, 15, 16, 17, 18, 19, 20, 21, 22, 23, 24, 25, 26, 27, 28, 29, 30, 36, 37, 38, 39, 40, 41, 4, 5, 6, 8, 42, 43, 44, 45, 46, 47, 48, 49, 50, 51, 52, 53, 54, 55, 56, 57, 58, 59, 60, 61, 62, 63, 64, 65, 66, 67, 68, 69, 70, 71, 72, 73, 74, 75, 76, 77, 78, 79, 80, 81, 82, 83, 84] (by decide +kernel) (by decide +kernel)
set_option maxRecDepth 20000 in
theorem gX7_readsStatement_X7_readsAction : GoodIn wsX7_readsStatement (wsV RX7 130 RX7 yX7_readsAction wsX7_readsAction) := goodIn_app (goodIn_of _ (by decide +kernel)) ggX7_readsStatement_X7_readsAction
set_option maxRecDepth 20000 in
theorem ggX7_readsStatement_X7_takesSign : GoodIn wsX7_readsStatement wsX7_takesSign := goodIn_r _ [45, 46, 47, 48, 7, 49, 9, 3, 4, 5, 6, 8, 10, 11, 12, 13, 14, 15, 16, 17, 18, 19, 20, 21, 22, 23, 24, 25, 26, 27, 28, 29, 30, 64, 65, 66, 67, 68, 69, 70, 71, 72, 73, 74, 75, 76, 77, 78, 79, 80, 81, 82, 83, 84] (by decide +kernel) (by decide +kernel)
set_option maxRecDepth 20000 in
theorem gX7_readsStatement_X7_takesSign : GoodIn wsX7_readsStatement (wsV RX7 118 RX7 yX7_takesSign wsX7_takesSign) := goodIn_app (goodIn_of _ (by decide +kernel)) ggX7_readsStatement_X7_takesSign
theorem dX7_readsStatement_0 : decode cX7_readsStatement 0 = .ok (.aload_n 0, 1) := by decide +kernel
theorem dX7_readsStatement_1 : decode cX7_readsStatement 1 = .ok (.getfield 21, 3) := by decide +kernel
theorem dX7_readsStatement_4 : decode cX7_readsStatement 4 = .ok (.aload_n 0, 1) := by decide +kernel
theorem dX7_readsStatement_5 : decode cX7_readsStatement 5 = .ok (.getfield 108, 3) := by decide +kernel
theorem dX7_readsStatement_8 : decode cX7_readsStatement 8 = .ok (.aload_n 0, 1) := by decide +kernel
theorem dX7_readsStatement_9 : decode cX7_readsStatement 9 = .ok (.getfield 78, 3) := by decide +kernel
theorem dX7_readsStatement_12 : decode cX7_readsStatement 12 = .ok (.iastore, 1) := by decide +kernel
theorem dX7_readsStatement_13 : decode cX7_readsStatement 13 = .ok (.aload_n 0, 1) := by decide +kernel
theorem dX7_readsStatement_14 : decode cX7_readsStatement 14 = .ok (.iconst 1, 1) := by decide +kernel
theorem dX7_readsStatement_15 : decode cX7_readsStatement 15 = .ok (.invokevirtual 105, 3) := by decide +kernel
theorem dX7_readsStatement_18 : decode cX7_readsStatement 18 = .ok (.ifCond .eq 19, 3) := by decide +kernel
theorem dX7_readsStatement_21 : decode cX7_readsStatement 21 = .ok (.aload_n 0, 1) := by decide +kernel
theorem dX7_readsStatement_22 : decode cX7_readsStatement 22 = .ok (.invokevirtual 130, 3) := by decide +kernel
theorem dX7_readsStatement_25 : decode cX7_readsStatement 25 = .ok (.ifCond .eq 12, 3) := by decide +kernel
theorem dX7_readsStatement_28 : decode cX7_readsStatement 28 = .ok (.aload_n 0, 1) := by decide +kernel
theorem dX7_readsStatement_29 : decode cX7_readsStatement 29 = .ok (.bipush 59, 2) := by decide +kernel
theorem dX7_readsStatement_31 : decode cX7_readsStatement 31 = .ok (.invokevirtual 118, 3) := by decide +kernel
theorem dX7_readsStatement_34 : decode cX7_readsStatement 34 = .ok (.ifCond .ne 5, 3) := by decide +kernel
theorem dX7_readsStatement_37 : decode cX7_readsStatement 37 = .ok (.iconst 0, 1) := by decide +kernel
theorem dX7_readsStatement_38 : decode cX7_readsStatement 38 = .ok (.ireturn, 1) := by decide +kernel
theorem dX7_readsStatement_39 : decode cX7_readsStatement 39 = .ok (.aload_n 0, 1) := by decide +kernel
theorem dX7_readsStatement_40 : decode cX7_readsStatement 40 = .ok (.dup, 1) := by decide +kernel
theorem dX7_readsStatement_41 : decode cX7_readsStatement 41 = .ok (.getfield 108, 3) := by decide +kernel
theorem dX7_readsStatement_44 : decode cX7_readsStatement 44 = .ok (.iconst 1, 1) := by decide +kernel
theorem dX7_readsStatement_45 : decode cX7_readsStatement 45 = .ok (.iadd, 1) := by decide +kernel
theorem dX7_readsStatement_46 : decode cX7_readsStatement 46 = .ok (.putfield 108, 3) := by decide +kernel
theorem dX7_readsStatement_49 : decode cX7_readsStatement 49 = .ok (.iconst 1, 1) := by decide +kernel
theorem dX7_readsStatement_50 : decode cX7_readsStatement 50 = .ok (.ireturn, 1) := by decide +kernel
set_option maxRecDepth 20000 in
theorem ggX7_readsAll_X7_reads : GoodIn wsX7_readsAll wsX7_reads := goodIn_r _ [9, 1, 10, 11, 12, 4, 13, 14, 15, 8, 16, 17, 18, 19, 20, 21, 22, 23, 24, 25, 26, 68, 69, 70, 71, 72, 73, 74, 75, 76, 77, 78, 79, 80, 81, 82, 83, 84, 85, 86, 87, 88] (by decide +kernel) (by decide +kernel)
set_option maxRecDepth 20000 in
theorem gX7_readsAll_X7_reads : GoodIn wsX7_readsAll (wsV RX7 99 RX7 yX7_reads wsX7_reads) := goodIn_app (goodIn_of _ (by decide +kernel)) ggX7_readsAll_X7_reads
set_option maxRecDepth 20000 in
theorem ggX7_readsAll_X7_readsStatement : GoodIn wsX7_readsAll wsX7_readsStatement := goodIn_r _ [30, 31, 2, 13, 32, 33, 34, 8, 35, 4, 5, 6, 7, 9, 1, 10, 11, 12, 14, 15, 16, 17, 18, 19, 20, 21, 22, 23, 24, 25, 26, 36, 37, 38, 39, 40, 41, 42, 43, 44, 45, 46, 47, 48, 49, 50, 51, 52, 53, 54, 55, 56, 57, 58, 3, 59, 60, 61, 62, 63, 64, 65, 66, 67, 68, 69, 70, 71, 72, 73, 74, 75, 76, 77, 78, 79, 80, 81, 82, 83, 84, 85, 86, 87, 88] (by decide +kernel) (by decide +kernel)
set_option maxRecDepth 20000 in
theorem gX7_readsAll_X7_readsStatement : GoodIn wsX7_readsAll (wsV RX7 133 RX7 yX7_readsStatement wsX7_readsStatement) := goodIn_app (goodIn_of _ (by decide +kernel)) ggX7_readsAll_X7_readsStatement
theorem dX7_readsAll_0 : decode cX7_readsAll 0 = .ok (.aload_n 0, 1) := by decide +kernel
theorem dX7_readsAll_1 : decode cX7_readsAll 1 = .ok (.iconst 0, 1) := by decide +kernel
theorem dX7_readsAll_2 : decode cX7_readsAll 2 = .ok (.putfield 81, 3) := by decide +kernel
theorem dX7_readsAll_5 : decode cX7_readsAll 5 = .ok (.aload_n 0, 1) := by decide +kernel
theorem dX7_readsAll_6 : decode cX7_readsAll 6 = .ok (.iconst 0, 1) := by decide +kernel
theorem dX7_readsAll_7 : decode cX7_readsAll 7 = .ok (.putfield 108, 3) := by decide +kernel
theorem dX7_readsAll_10 : decode cX7_readsAll 10 = .ok (.aload_n 0, 1) := by decide +kernel
theorem dX7_readsAll_11 : decode cX7_readsAll 11 = .ok (.iconst 0, 1) := by decide +kernel
theorem dX7_readsAll_12 : decode cX7_readsAll 12 = .ok (.putfield 111, 3) := by decide +kernel
theorem dX7_readsAll_15 : decode cX7_readsAll 15 = .ok (.aload_n 0, 1) := by decide +kernel
theorem dX7_readsAll_16 : decode cX7_readsAll 16 = .ok (.invokevirtual 99, 3) := by decide +kernel
theorem dX7_readsAll_19 : decode cX7_readsAll 19 = .ok (.aload_n 0, 1) := by decide +kernel
theorem dX7_readsAll_20 : decode cX7_readsAll 20 = .ok (.getfield 87, 3) := by decide +kernel
theorem dX7_readsAll_23 : decode cX7_readsAll 23 = .ok (.ifCond .eq 12, 3) := by decide +kernel
theorem dX7_readsAll_26 : decode cX7_readsAll 26 = .ok (.aload_n 0, 1) := by decide +kernel
theorem dX7_readsAll_27 : decode cX7_readsAll 27 = .ok (.invokevirtual 133, 3) := by decide +kernel
theorem dX7_readsAll_30 : decode cX7_readsAll 30 = .ok (.ifCond .ne (-11), 3) := by decide +kernel
theorem dX7_readsAll_33 : decode cX7_readsAll 33 = .ok (.iconst 0, 1) := by decide +kernel
theorem dX7_readsAll_34 : decode cX7_readsAll 34 = .ok (.ireturn, 1) := by decide +kernel
theorem dX7_readsAll_35 : decode cX7_readsAll 35 = .ok (.iconst 1, 1) := by decide +kernel
theorem dX7_readsAll_36 : decode cX7_readsAll 36 = .ok (.ireturn, 1) := by decide +kernel
set_option maxRecDepth 20000 in
theorem ggX7_isDone_X7_empties : GoodIn wsX7_isDone wsX7_empties := goodIn_r _ [11, 5, 20, 21, 22, 23, 24, 25, 26, 27, 28, 29, 30, 31, 32, 33, 34, 35, 36, 37, 38, 39, 40] (by decide +kernel) (by decide +kernel)
set_option maxRecDepth 20000 in
theorem gX7_isDone_X7_empties : GoodIn wsX7_isDone (wsV RX7 136 RX7 yX7_empties wsX7_empties) := goodIn_app (goodIn_of _ (by decide +kernel)) ggX7_isDone_X7_empties
set_option maxRecDepth 20000 in
theorem ggX7_isDone_X7_joins : GoodIn wsX7_isDone wsX7_joins := goodIn_r _ [15, 5, 16, 17, 18, 10, 19, 20, 21, 22, 23, 24, 25, 26, 27, 28, 29, 30, 31, 32, 33, 34, 35, 36, 37, 38, 39, 40] (by decide +kernel) (by decide +kernel)
set_option maxRecDepth 20000 in
theorem gX7_isDone_X7_joins : GoodIn wsX7_isDone (wsV RX7 139 RX7 yX7_joins wsX7_joins) := goodIn_app (goodIn_of _ (by decide +kernel)) ggX7_isDone_X7_joins
theorem dX7_isDone_0 : decode cX7_isDone 0 = .ok (.aload_n 0, 1) := by decide +kernel
theorem dX7_isDone_1 : decode cX7_isDone 1 = .ok (.getfield 21, 3) := by decide +kernel
theorem dX7_isDone_4 : decode cX7_isDone 4 = .ok (.iload_n 1, 1) := by decide +kernel
theorem dX7_isDone_5 : decode cX7_isDone 5 = .ok (.iaload, 1) := by decide +kernel
theorem dX7_isDone_6 : decode cX7_isDone 6 = .ok (.istore_n 2, 1) := by decide +kernel
theorem dX7_isDone_7 : decode cX7_isDone 7 = .ok (.aload_n 0, 1) := by decide +kernel
theorem dX7_isDone_8 : decode cX7_isDone 8 = .ok (.getfield 24, 3) := by decide +kernel
theorem dX7_isDone_11 : decode cX7_isDone 11 = .ok (.iload_n 1, 1) := by decide +kernel
theorem dX7_isDone_12 : decode cX7_isDone 12 = .ok (.iaload, 1) := by decide +kernel
theorem dX7_isDone_13 : decode cX7_isDone 13 = .ok (.istore_n 3, 1) := by decide +kernel
theorem dX7_isDone_14 : decode cX7_isDone 14 = .ok (.iload_n 3, 1) := by decide +kernel
theorem dX7_isDone_15 : decode cX7_isDone 15 = .ok (.bipush 43, 2) := by decide +kernel
theorem dX7_isDone_17 : decode cX7_isDone 17 = .ok (.if_icmp .eq 15, 3) := by decide +kernel
theorem dX7_isDone_20 : decode cX7_isDone 20 = .ok (.iload_n 3, 1) := by decide +kernel
theorem dX7_isDone_21 : decode cX7_isDone 21 = .ok (.bipush 45, 2) := by decide +kernel
theorem dX7_isDone_23 : decode cX7_isDone 23 = .ok (.if_icmp .eq 9, 3) := by decide +kernel
theorem dX7_isDone_26 : decode cX7_isDone 26 = .ok (.iload_n 3, 1) := by decide +kernel
theorem dX7_isDone_27 : decode cX7_isDone 27 = .ok (.bipush 94, 2) := by decide +kernel
theorem dX7_isDone_29 : decode cX7_isDone 29 = .ok (.if_icmp .ne 115, 3) := by decide +kernel
theorem dX7_isDone_32 : decode cX7_isDone 32 = .ok (.aload_n 0, 1) := by decide +kernel
theorem dX7_isDone_33 : decode cX7_isDone 33 = .ok (.getfield 30, 3) := by decide +kernel
theorem dX7_isDone_36 : decode cX7_isDone 36 = .ok (.iload_n 1, 1) := by decide +kernel
theorem dX7_isDone_37 : decode cX7_isDone 37 = .ok (.iaload, 1) := by decide +kernel
theorem dX7_isDone_38 : decode cX7_isDone 38 = .ok (.iconst (-1), 1) := by decide +kernel
theorem dX7_isDone_39 : decode cX7_isDone 39 = .ok (.if_icmp .ne 14, 3) := by decide +kernel
theorem dX7_isDone_42 : decode cX7_isDone 42 = .ok (.aload_n 0, 1) := by decide +kernel
theorem dX7_isDone_43 : decode cX7_isDone 43 = .ok (.getfield 27, 3) := by decide +kernel
theorem dX7_isDone_46 : decode cX7_isDone 46 = .ok (.iload_n 1, 1) := by decide +kernel
theorem dX7_isDone_47 : decode cX7_isDone 47 = .ok (.iaload, 1) := by decide +kernel
theorem dX7_isDone_48 : decode cX7_isDone 48 = .ok (.iconst 1, 1) := by decide +kernel
theorem dX7_isDone_49 : decode cX7_isDone 49 = .ok (.iadd, 1) := by decide +kernel
theorem dX7_isDone_50 : decode cX7_isDone 50 = .ok (.goto 9, 3) := by decide +kernel
theorem dX7_isDone_53 : decode cX7_isDone 53 = .ok (.aload_n 0, 1) := by decide +kernel
theorem dX7_isDone_54 : decode cX7_isDone 54 = .ok (.getfield 30, 3) := by decide +kernel
theorem dX7_isDone_57 : decode cX7_isDone 57 = .ok (.iload_n 1, 1) := by decide +kernel
theorem dX7_isDone_58 : decode cX7_isDone 58 = .ok (.iaload, 1) := by decide +kernel
theorem dX7_isDone_59 : decode cX7_isDone 59 = .ok (.istore 4, 2) := by decide +kernel
theorem dX7_isDone_61 : decode cX7_isDone 61 = .ok (.aload_n 0, 1) := by decide +kernel
theorem dX7_isDone_62 : decode cX7_isDone 62 = .ok (.getfield 27, 3) := by decide +kernel
theorem dX7_isDone_65 : decode cX7_isDone 65 = .ok (.iload_n 1, 1) := by decide +kernel
theorem dX7_isDone_66 : decode cX7_isDone 66 = .ok (.iaload, 1) := by decide +kernel
theorem dX7_isDone_67 : decode cX7_isDone 67 = .ok (.iload 4, 2) := by decide +kernel
theorem dX7_isDone_69 : decode cX7_isDone 69 = .ok (.if_icmp .le 5, 3) := by decide +kernel
theorem dX7_isDone_72 : decode cX7_isDone 72 = .ok (.iconst 0, 1) := by decide +kernel
theorem dX7_isDone_73 : decode cX7_isDone 73 = .ok (.ireturn, 1) := by decide +kernel
theorem dX7_isDone_74 : decode cX7_isDone 74 = .ok (.aload_n 0, 1) := by decide +kernel
theorem dX7_isDone_75 : decode cX7_isDone 75 = .ok (.getfield 27, 3) := by decide +kernel
theorem dX7_isDone_78 : decode cX7_isDone 78 = .ok (.iload_n 1, 1) := by decide +kernel
theorem dX7_isDone_79 : decode cX7_isDone 79 = .ok (.iaload, 1) := by decide +kernel
theorem dX7_isDone_80 : decode cX7_isDone 80 = .ok (.istore 5, 2) := by decide +kernel
theorem dX7_isDone_82 : decode cX7_isDone 82 = .ok (.iload 5, 2) := by decide +kernel
theorem dX7_isDone_84 : decode cX7_isDone 84 = .ok (.iload 4, 2) := by decide +kernel
theorem dX7_isDone_86 : decode cX7_isDone 86 = .ok (.if_icmp .ge 55, 3) := by decide +kernel
theorem dX7_isDone_89 : decode cX7_isDone 89 = .ok (.aload_n 0, 1) := by decide +kernel
theorem dX7_isDone_90 : decode cX7_isDone 90 = .ok (.getfield 13, 3) := by decide +kernel
theorem dX7_isDone_93 : decode cX7_isDone 93 = .ok (.sipush 1024, 3) := by decide +kernel
theorem dX7_isDone_96 : decode cX7_isDone 96 = .ok (.iload_n 2, 1) := by decide +kernel
theorem dX7_isDone_97 : decode cX7_isDone 97 = .ok (.imul, 1) := by decide +kernel
theorem dX7_isDone_98 : decode cX7_isDone 98 = .ok (.iload 5, 2) := by decide +kernel
theorem dX7_isDone_100 : decode cX7_isDone 100 = .ok (.iadd, 1) := by decide +kernel
theorem dX7_isDone_101 : decode cX7_isDone 101 = .ok (.iload_n 3, 1) := by decide +kernel
theorem dX7_isDone_102 : decode cX7_isDone 102 = .ok (.bipush 43, 2) := by decide +kernel
theorem dX7_isDone_104 : decode cX7_isDone 104 = .ok (.if_icmp .eq 25, 3) := by decide +kernel
theorem dX7_isDone_107 : decode cX7_isDone 107 = .ok (.iload_n 3, 1) := by decide +kernel
theorem dX7_isDone_108 : decode cX7_isDone 108 = .ok (.bipush 94, 2) := by decide +kernel
theorem dX7_isDone_110 : decode cX7_isDone 110 = .ok (.if_icmp .ne 23, 3) := by decide +kernel
theorem dX7_isDone_113 : decode cX7_isDone 113 = .ok (.aload_n 0, 1) := by decide +kernel
theorem dX7_isDone_114 : decode cX7_isDone 114 = .ok (.getfield 13, 3) := by decide +kernel
theorem dX7_isDone_117 : decode cX7_isDone 117 = .ok (.sipush 1024, 3) := by decide +kernel
theorem dX7_isDone_120 : decode cX7_isDone 120 = .ok (.iload_n 2, 1) := by decide +kernel
theorem dX7_isDone_121 : decode cX7_isDone 121 = .ok (.imul, 1) := by decide +kernel
theorem dX7_isDone_122 : decode cX7_isDone 122 = .ok (.iload 5, 2) := by decide +kernel
theorem dX7_isDone_124 : decode cX7_isDone 124 = .ok (.iadd, 1) := by decide +kernel
theorem dX7_isDone_125 : decode cX7_isDone 125 = .ok (.baload, 1) := by decide +kernel
theorem dX7_isDone_126 : decode cX7_isDone 126 = .ok (.ifCond .ne 7, 3) := by decide +kernel
theorem dX7_isDone_129 : decode cX7_isDone 129 = .ok (.iconst 1, 1) := by decide +kernel
theorem dX7_isDone_130 : decode cX7_isDone 130 = .ok (.goto 4, 3) := by decide +kernel
theorem dX7_isDone_133 : decode cX7_isDone 133 = .ok (.iconst 0, 1) := by decide +kernel
theorem dX7_isDone_134 : decode cX7_isDone 134 = .ok (.bastore, 1) := by decide +kernel
theorem dX7_isDone_135 : decode cX7_isDone 135 = .ok (.iinc 5 1, 3) := by decide +kernel
theorem dX7_isDone_138 : decode cX7_isDone 138 = .ok (.goto (-56), 3) := by decide +kernel
theorem dX7_isDone_141 : decode cX7_isDone 141 = .ok (.goto 76, 3) := by decide +kernel
theorem dX7_isDone_144 : decode cX7_isDone 144 = .ok (.iload_n 3, 1) := by decide +kernel
theorem dX7_isDone_145 : decode cX7_isDone 145 = .ok (.bipush 91, 2) := by decide +kernel
theorem dX7_isDone_147 : decode cX7_isDone 147 = .ok (.if_icmp .ne 57, 3) := by decide +kernel
theorem dX7_isDone_150 : decode cX7_isDone 150 = .ok (.aload_n 0, 1) := by decide +kernel
theorem dX7_isDone_151 : decode cX7_isDone 151 = .ok (.iload_n 2, 1) := by decide +kernel
theorem dX7_isDone_152 : decode cX7_isDone 152 = .ok (.invokevirtual 136, 3) := by decide +kernel
theorem dX7_isDone_155 : decode cX7_isDone 155 = .ok (.iconst 0, 1) := by decide +kernel
theorem dX7_isDone_156 : decode cX7_isDone 156 = .ok (.istore 4, 2) := by decide +kernel
theorem dX7_isDone_158 : decode cX7_isDone 158 = .ok (.iload 4, 2) := by decide +kernel
theorem dX7_isDone_160 : decode cX7_isDone 160 = .ok (.aload_n 0, 1) := by decide +kernel
theorem dX7_isDone_161 : decode cX7_isDone 161 = .ok (.getfield 30, 3) := by decide +kernel
theorem dX7_isDone_164 : decode cX7_isDone 164 = .ok (.iload_n 1, 1) := by decide +kernel
theorem dX7_isDone_165 : decode cX7_isDone 165 = .ok (.iaload, 1) := by decide +kernel
theorem dX7_isDone_166 : decode cX7_isDone 166 = .ok (.if_icmp .ge 35, 3) := by decide +kernel
theorem dX7_isDone_169 : decode cX7_isDone 169 = .ok (.aload_n 0, 1) := by decide +kernel
theorem dX7_isDone_170 : decode cX7_isDone 170 = .ok (.getfield 13, 3) := by decide +kernel
theorem dX7_isDone_173 : decode cX7_isDone 173 = .ok (.sipush 1024, 3) := by decide +kernel
theorem dX7_isDone_176 : decode cX7_isDone 176 = .ok (.iload_n 2, 1) := by decide +kernel
theorem dX7_isDone_177 : decode cX7_isDone 177 = .ok (.imul, 1) := by decide +kernel
theorem dX7_isDone_178 : decode cX7_isDone 178 = .ok (.aload_n 0, 1) := by decide +kernel
theorem dX7_isDone_179 : decode cX7_isDone 179 = .ok (.getfield 33, 3) := by decide +kernel
theorem dX7_isDone_182 : decode cX7_isDone 182 = .ok (.aload_n 0, 1) := by decide +kernel
theorem dX7_isDone_183 : decode cX7_isDone 183 = .ok (.getfield 27, 3) := by decide +kernel
theorem dX7_isDone_186 : decode cX7_isDone 186 = .ok (.iload_n 1, 1) := by decide +kernel
theorem dX7_isDone_187 : decode cX7_isDone 187 = .ok (.iaload, 1) := by decide +kernel
theorem dX7_isDone_188 : decode cX7_isDone 188 = .ok (.iload 4, 2) := by decide +kernel
theorem dX7_isDone_190 : decode cX7_isDone 190 = .ok (.iadd, 1) := by decide +kernel
theorem dX7_isDone_191 : decode cX7_isDone 191 = .ok (.iaload, 1) := by decide +kernel
theorem dX7_isDone_192 : decode cX7_isDone 192 = .ok (.iadd, 1) := by decide +kernel
theorem dX7_isDone_193 : decode cX7_isDone 193 = .ok (.iconst 1, 1) := by decide +kernel
theorem dX7_isDone_194 : decode cX7_isDone 194 = .ok (.bastore, 1) := by decide +kernel
theorem dX7_isDone_195 : decode cX7_isDone 195 = .ok (.iinc 4 1, 3) := by decide +kernel
theorem dX7_isDone_198 : decode cX7_isDone 198 = .ok (.goto (-40), 3) := by decide +kernel
theorem dX7_isDone_201 : decode cX7_isDone 201 = .ok (.goto 16, 3) := by decide +kernel
theorem dX7_isDone_204 : decode cX7_isDone 204 = .ok (.aload_n 0, 1) := by decide +kernel
theorem dX7_isDone_205 : decode cX7_isDone 205 = .ok (.iload_n 2, 1) := by decide +kernel
theorem dX7_isDone_206 : decode cX7_isDone 206 = .ok (.aload_n 0, 1) := by decide +kernel
theorem dX7_isDone_207 : decode cX7_isDone 207 = .ok (.getfield 27, 3) := by decide +kernel
theorem dX7_isDone_210 : decode cX7_isDone 210 = .ok (.iload_n 1, 1) := by decide +kernel
theorem dX7_isDone_211 : decode cX7_isDone 211 = .ok (.iaload, 1) := by decide +kernel
theorem dX7_isDone_212 : decode cX7_isDone 212 = .ok (.iload_n 3, 1) := by decide +kernel
theorem dX7_isDone_213 : decode cX7_isDone 213 = .ok (.invokevirtual 139, 3) := by decide +kernel
theorem dX7_isDone_216 : decode cX7_isDone 216 = .ok (.pop, 1) := by decide +kernel
theorem dX7_isDone_217 : decode cX7_isDone 217 = .ok (.iconst 1, 1) := by decide +kernel
theorem dX7_isDone_218 : decode cX7_isDone 218 = .ok (.ireturn, 1) := by decide +kernel
set_option maxRecDepth 20000 in
theorem ggX7_run_X7_readsAll : GoodIn wsX7_run wsX7_readsAll := goodIn_r _ [12, 13, 6, 14, 15, 16, 17, 18, 11, 19, 5, 20, 2, 21, 22, 23, 24, 25, 26, 27, 28, 29, 30, 31, 32, 33, 34, 35, 36, 37, 38, 39, 40, 41, 42, 43, 44, 45, 46, 47, 48, 49, 50, 51, 52, 53, 54, 55, 56, 57, 58, 59, 60, 61, 62, 63, 64, 65, 66, 67, 68, 69, 70, 71, 72, 73, 74, 75, 97, 98, 99, 100, 101, 102, 103, 104, 105, 106, 107, 108, 109, 110, 111, 112, 113, 114, 115, 116, 117] (by decide +kernel) (by decide +kernel)
set_option maxRecDepth 20000 in
theorem gX7_run_X7_readsAll : GoodIn wsX7_run (wsV RX7 143 RX7 yX7_readsAll wsX7_readsAll) := goodIn_app (goodIn_of _ (by decide +kernel)) ggX7_run_X7_readsAll
set_option maxRecDepth 20000 in
theorem ggX7_run_X7_fails : GoodIn wsX7_run wsX7_fails := goodIn_r _ [79, 1, 97, 98, 99, 100, 101, 102, 103, 104, 105, 106, 107, 108, 109, 110, 111, 112, 113, 114, 115, 116, 117] (by decide +kernel) (by decide +kernel)
set_option maxRecDepth 20000 in
theorem gX7_run_X7_fails : GoodIn wsX7_run (wsV RX7 52 RX7 yX7_fails wsX7_fails) := goodIn_app (goodIn_of _ (by decide +kernel)) ggX7_run_X7_fails
set_option maxRecDepth 20000 in
theorem ggX7_run_X7_isDone : GoodIn wsX7_run wsX7_isDone := goodIn_r _ [83, 39, 48, 54, 53, 84, 71, 85, 86, 87, 11, 88, 89, 90, 91, 92, 93, 94, 95, 96, 97, 98, 99, 100, 101, 102, 103, 104, 105, 106, 107, 108, 109, 110, 111, 112, 113, 114, 115, 116, 117] (by decide +kernel) (by decide +kernel)
set_option maxRecDepth 20000 in
theorem gX7_run_X7_isDone : GoodIn wsX7_run (wsV RX7 146 RX7 yX7_isDone wsX7_isDone) := goodIn_app (goodIn_of _ (by decide +kernel)) ggX7_run_X7_isDone
theorem dX7_run_0 : decode cX7_run 0 = .ok (.aload_n 0, 1) := by decide +kernel
theorem dX7_run_1 : decode cX7_run 1 = .ok (.iconst 0, 1) := by decide +kernel
theorem dX7_run_2 : decode cX7_run 2 = .ok (.putfield 1, 3) := by decide +kernel
theorem dX7_run_5 : decode cX7_run 5 = .ok (.aload_n 0, 1) := by decide +kernel
theorem dX7_run_6 : decode cX7_run 6 = .ok (.invokevirtual 143, 3) := by decide +kernel
theorem dX7_run_9 : decode cX7_run 9 = .ok (.istore_n 1, 1) := by decide +kernel
theorem dX7_run_10 : decode cX7_run 10 = .ok (.aload_n 0, 1) := by decide +kernel
theorem dX7_run_11 : decode cX7_run 11 = .ok (.iload_n 1, 1) := by decide +kernel
theorem dX7_run_12 : decode cX7_run 12 = .ok (.ifCond .eq 7, 3) := by decide +kernel
theorem dX7_run_15 : decode cX7_run 15 = .ok (.iconst (-1), 1) := by decide +kernel
theorem dX7_run_16 : decode cX7_run 16 = .ok (.goto 7, 3) := by decide +kernel
theorem dX7_run_19 : decode cX7_run 19 = .ok (.aload_n 0, 1) := by decide +kernel
theorem dX7_run_20 : decode cX7_run 20 = .ok (.getfield 90, 3) := by decide +kernel
theorem dX7_run_23 : decode cX7_run 23 = .ok (.putfield 36, 3) := by decide +kernel
theorem dX7_run_26 : decode cX7_run 26 = .ok (.aload_n 0, 1) := by decide +kernel
theorem dX7_run_27 : decode cX7_run 27 = .ok (.iconst (-1), 1) := by decide +kernel
theorem dX7_run_28 : decode cX7_run 28 = .ok (.putfield 39, 3) := by decide +kernel
theorem dX7_run_31 : decode cX7_run 31 = .ok (.aload_n 0, 1) := by decide +kernel
theorem dX7_run_32 : decode cX7_run 32 = .ok (.iconst 0, 1) := by decide +kernel
theorem dX7_run_33 : decode cX7_run 33 = .ok (.putfield 67, 3) := by decide +kernel
theorem dX7_run_36 : decode cX7_run 36 = .ok (.aload_n 0, 1) := by decide +kernel
theorem dX7_run_37 : decode cX7_run 37 = .ok (.iload_n 1, 1) := by decide +kernel
theorem dX7_run_38 : decode cX7_run 38 = .ok (.iconst 1, 1) := by decide +kernel
theorem dX7_run_39 : decode cX7_run 39 = .ok (.invokevirtual 52, 3) := by decide +kernel
theorem dX7_run_42 : decode cX7_run 42 = .ok (.ifCond .eq 5, 3) := by decide +kernel
theorem dX7_run_45 : decode cX7_run 45 = .ok (.iconst 0, 1) := by decide +kernel
theorem dX7_run_46 : decode cX7_run 46 = .ok (.ireturn, 1) := by decide +kernel
theorem dX7_run_47 : decode cX7_run 47 = .ok (.iconst 0, 1) := by decide +kernel
theorem dX7_run_48 : decode cX7_run 48 = .ok (.istore_n 2, 1) := by decide +kernel
theorem dX7_run_49 : decode cX7_run 49 = .ok (.iload_n 2, 1) := by decide +kernel
theorem dX7_run_50 : decode cX7_run 50 = .ok (.aload_n 0, 1) := by decide +kernel
theorem dX7_run_51 : decode cX7_run 51 = .ok (.getfield 108, 3) := by decide +kernel
theorem dX7_run_54 : decode cX7_run 54 = .ok (.if_icmp .ge 37, 3) := by decide +kernel
theorem dX7_run_57 : decode cX7_run 57 = .ok (.aload_n 0, 1) := by decide +kernel
theorem dX7_run_58 : decode cX7_run 58 = .ok (.iload_n 2, 1) := by decide +kernel
theorem dX7_run_59 : decode cX7_run 59 = .ok (.invokevirtual 146, 3) := by decide +kernel
theorem dX7_run_62 : decode cX7_run 62 = .ok (.ifCond .eq 6, 3) := by decide +kernel
theorem dX7_run_65 : decode cX7_run 65 = .ok (.goto 20, 3) := by decide +kernel
theorem dX7_run_68 : decode cX7_run 68 = .ok (.aload_n 0, 1) := by decide +kernel
theorem dX7_run_69 : decode cX7_run 69 = .ok (.dup, 1) := by decide +kernel
theorem dX7_run_70 : decode cX7_run 70 = .ok (.getfield 60, 3) := by decide +kernel
theorem dX7_run_73 : decode cX7_run 73 = .ok (.iconst 1, 1) := by decide +kernel
theorem dX7_run_74 : decode cX7_run 74 = .ok (.iadd, 1) := by decide +kernel
theorem dX7_run_75 : decode cX7_run 75 = .ok (.putfield 60, 3) := by decide +kernel
theorem dX7_run_78 : decode cX7_run 78 = .ok (.aload_n 0, 1) := by decide +kernel
theorem dX7_run_79 : decode cX7_run 79 = .ok (.iload_n 2, 1) := by decide +kernel
theorem dX7_run_80 : decode cX7_run 80 = .ok (.putfield 39, 3) := by decide +kernel
theorem dX7_run_83 : decode cX7_run 83 = .ok (.iload_n 2, 1) := by decide +kernel
theorem dX7_run_84 : decode cX7_run 84 = .ok (.ireturn, 1) := by decide +kernel
theorem dX7_run_85 : decode cX7_run 85 = .ok (.iinc 2 1, 3) := by decide +kernel
theorem dX7_run_88 : decode cX7_run 88 = .ok (.goto (-39), 3) := by decide +kernel
theorem dX7_run_91 : decode cX7_run 91 = .ok (.aload_n 0, 1) := by decide +kernel
theorem dX7_run_92 : decode cX7_run 92 = .ok (.getfield 108, 3) := by decide +kernel
theorem dX7_run_95 : decode cX7_run 95 = .ok (.ireturn, 1) := by decide +kernel
theorem dX7_errorPosition_0 : decode cX7_errorPosition 0 = .ok (.aload_n 0, 1) := by decide +kernel
theorem dX7_errorPosition_1 : decode cX7_errorPosition 1 = .ok (.iconst 0, 1) := by decide +kernel
theorem dX7_errorPosition_2 : decode cX7_errorPosition 2 = .ok (.putfield 1, 3) := by decide +kernel
theorem dX7_errorPosition_5 : decode cX7_errorPosition 5 = .ok (.aload_n 0, 1) := by decide +kernel
theorem dX7_errorPosition_6 : decode cX7_errorPosition 6 = .ok (.getfield 36, 3) := by decide +kernel
theorem dX7_errorPosition_9 : decode cX7_errorPosition 9 = .ok (.ireturn, 1) := by decide +kernel
theorem dX7_stoppedAt_0 : decode cX7_stoppedAt 0 = .ok (.aload_n 0, 1) := by decide +kernel
theorem dX7_stoppedAt_1 : decode cX7_stoppedAt 1 = .ok (.iconst 0, 1) := by decide +kernel
theorem dX7_stoppedAt_2 : decode cX7_stoppedAt 2 = .ok (.putfield 1, 3) := by decide +kernel
theorem dX7_stoppedAt_5 : decode cX7_stoppedAt 5 = .ok (.aload_n 0, 1) := by decide +kernel
theorem dX7_stoppedAt_6 : decode cX7_stoppedAt 6 = .ok (.getfield 39, 3) := by decide +kernel
theorem dX7_stoppedAt_9 : decode cX7_stoppedAt 9 = .ok (.ireturn, 1) := by decide +kernel
theorem dX7_empties_0 : decode cX7_empties 0 = .ok (.iconst 0, 1) := by decide +kernel
theorem dX7_empties_1 : decode cX7_empties 1 = .ok (.istore_n 2, 1) := by decide +kernel
theorem dX7_empties_2 : decode cX7_empties 2 = .ok (.iload_n 2, 1) := by decide +kernel
theorem dX7_empties_3 : decode cX7_empties 3 = .ok (.sipush 1024, 3) := by decide +kernel
theorem dX7_empties_6 : decode cX7_empties 6 = .ok (.if_icmp .ge 22, 3) := by decide +kernel
theorem dX7_empties_9 : decode cX7_empties 9 = .ok (.aload_n 0, 1) := by decide +kernel
theorem dX7_empties_10 : decode cX7_empties 10 = .ok (.getfield 13, 3) := by decide +kernel
theorem dX7_empties_13 : decode cX7_empties 13 = .ok (.sipush 1024, 3) := by decide +kernel
theorem dX7_empties_16 : decode cX7_empties 16 = .ok (.iload_n 1, 1) := by decide +kernel
theorem dX7_empties_17 : decode cX7_empties 17 = .ok (.imul, 1) := by decide +kernel
theorem dX7_empties_18 : decode cX7_empties 18 = .ok (.iload_n 2, 1) := by decide +kernel
theorem dX7_empties_19 : decode cX7_empties 19 = .ok (.iadd, 1) := by decide +kernel
theorem dX7_empties_20 : decode cX7_empties 20 = .ok (.iconst 0, 1) := by decide +kernel
theorem dX7_empties_21 : decode cX7_empties 21 = .ok (.bastore, 1) := by decide +kernel
theorem dX7_empties_22 : decode cX7_empties 22 = .ok (.iinc 2 1, 3) := by decide +kernel
theorem dX7_empties_25 : decode cX7_empties 25 = .ok (.goto (-23), 3) := by decide +kernel
theorem dX7_empties_28 : decode cX7_empties 28 = .ok (.return_, 1) := by decide +kernel
theorem dX7_many_0 : decode cX7_many 0 = .ok (.iconst 0, 1) := by decide +kernel
theorem dX7_many_1 : decode cX7_many 1 = .ok (.istore_n 2, 1) := by decide +kernel
theorem dX7_many_2 : decode cX7_many 2 = .ok (.iconst 0, 1) := by decide +kernel
theorem dX7_many_3 : decode cX7_many 3 = .ok (.istore_n 3, 1) := by decide +kernel
theorem dX7_many_4 : decode cX7_many 4 = .ok (.iload_n 3, 1) := by decide +kernel
theorem dX7_many_5 : decode cX7_many 5 = .ok (.sipush 1024, 3) := by decide +kernel
theorem dX7_many_8 : decode cX7_many 8 = .ok (.if_icmp .ge 32, 3) := by decide +kernel
theorem dX7_many_11 : decode cX7_many 11 = .ok (.iload_n 2, 1) := by decide +kernel
theorem dX7_many_12 : decode cX7_many 12 = .ok (.aload_n 0, 1) := by decide +kernel
theorem dX7_many_13 : decode cX7_many 13 = .ok (.getfield 13, 3) := by decide +kernel
theorem dX7_many_16 : decode cX7_many 16 = .ok (.sipush 1024, 3) := by decide +kernel
theorem dX7_many_19 : decode cX7_many 19 = .ok (.iload_n 1, 1) := by decide +kernel
theorem dX7_many_20 : decode cX7_many 20 = .ok (.imul, 1) := by decide +kernel
theorem dX7_many_21 : decode cX7_many 21 = .ok (.iload_n 3, 1) := by decide +kernel
theorem dX7_many_22 : decode cX7_many 22 = .ok (.iadd, 1) := by decide +kernel
theorem dX7_many_23 : decode cX7_many 23 = .ok (.baload, 1) := by decide +kernel
theorem dX7_many_24 : decode cX7_many 24 = .ok (.ifCond .eq 7, 3) := by decide +kernel
theorem dX7_many_27 : decode cX7_many 27 = .ok (.iconst 1, 1) := by decide +kernel
theorem dX7_many_28 : decode cX7_many 28 = .ok (.goto 4, 3) := by decide +kernel
theorem dX7_many_31 : decode cX7_many 31 = .ok (.iconst 0, 1) := by decide +kernel
theorem dX7_many_32 : decode cX7_many 32 = .ok (.iadd, 1) := by decide +kernel
theorem dX7_many_33 : decode cX7_many 33 = .ok (.istore_n 2, 1) := by decide +kernel
theorem dX7_many_34 : decode cX7_many 34 = .ok (.iinc 3 1, 3) := by decide +kernel
theorem dX7_many_37 : decode cX7_many 37 = .ok (.goto (-33), 3) := by decide +kernel
theorem dX7_many_40 : decode cX7_many 40 = .ok (.iload_n 2, 1) := by decide +kernel
theorem dX7_many_41 : decode cX7_many 41 = .ok (.ireturn, 1) := by decide +kernel
set_option maxRecDepth 20000 in
theorem ggX7_noMember_X7_noSet : GoodIn wsX7_noMember wsX7_noSet := goodIn_r _ [5, 6, 7, 4, 8, 9, 10, 11, 12, 13, 19, 20, 21, 22, 23, 24, 25, 26, 27, 28, 29, 30, 31, 32, 33, 34, 35, 36, 37, 38, 39] (by decide +kernel) (by decide +kernel)
set_option maxRecDepth 20000 in
theorem gX7_noMember_X7_noSet : GoodIn wsX7_noMember (wsV RX7 56 RX7 yX7_noSet wsX7_noSet) := goodIn_app (goodIn_of _ (by decide +kernel)) ggX7_noMember_X7_noSet
set_option maxRecDepth 20000 in
theorem ggX7_noMember_X7_fails : GoodIn wsX7_noMember wsX7_fails := goodIn_r _ [12, 13, 19, 20, 21, 22, 23, 24, 25, 26, 27, 28, 29, 30, 31, 32, 33, 34, 35, 36, 37, 38, 39] (by decide +kernel) (by decide +kernel)
set_option maxRecDepth 20000 in
theorem gX7_noMember_X7_fails : GoodIn wsX7_noMember (wsV RX7 52 RX7 yX7_fails wsX7_fails) := goodIn_app (goodIn_of _ (by decide +kernel)) ggX7_noMember_X7_fails
set_option maxRecDepth 20000 in
theorem ggX7_noMember_X7_isBelow : GoodIn wsX7_noMember wsX7_isBelow := goodIn_r _ [17, 13, 18, 19, 20, 21, 22, 23, 24, 25, 26, 27, 28, 29, 30, 31, 32, 33, 34, 35, 36, 37, 38, 39] (by decide +kernel) (by decide +kernel)
set_option maxRecDepth 20000 in
theorem gX7_noMember_X7_isBelow : GoodIn wsX7_noMember (wsV RX7 149 RX7 yX7_isBelow wsX7_isBelow) := goodIn_app (goodIn_of _ (by decide +kernel)) ggX7_noMember_X7_isBelow
theorem dX7_noMember_0 : decode cX7_noMember 0 = .ok (.aload_n 0, 1) := by decide +kernel
theorem dX7_noMember_1 : decode cX7_noMember 1 = .ok (.iload_n 1, 1) := by decide +kernel
theorem dX7_noMember_2 : decode cX7_noMember 2 = .ok (.invokevirtual 56, 3) := by decide +kernel
theorem dX7_noMember_5 : decode cX7_noMember 5 = .ok (.ifCond .ne 32, 3) := by decide +kernel
theorem dX7_noMember_8 : decode cX7_noMember 8 = .ok (.aload_n 0, 1) := by decide +kernel
theorem dX7_noMember_9 : decode cX7_noMember 9 = .ok (.iload_n 2, 1) := by decide +kernel
theorem dX7_noMember_10 : decode cX7_noMember 10 = .ok (.sipush 1024, 3) := by decide +kernel
theorem dX7_noMember_13 : decode cX7_noMember 13 = .ok (.if_icmp .ge 7, 3) := by decide +kernel
theorem dX7_noMember_16 : decode cX7_noMember 16 = .ok (.iconst 1, 1) := by decide +kernel
theorem dX7_noMember_17 : decode cX7_noMember 17 = .ok (.goto 4, 3) := by decide +kernel
theorem dX7_noMember_20 : decode cX7_noMember 20 = .ok (.iconst 0, 1) := by decide +kernel
theorem dX7_noMember_21 : decode cX7_noMember 21 = .ok (.iconst 1, 1) := by decide +kernel
theorem dX7_noMember_22 : decode cX7_noMember 22 = .ok (.invokevirtual 52, 3) := by decide +kernel
theorem dX7_noMember_25 : decode cX7_noMember 25 = .ok (.ifCond .ne 12, 3) := by decide +kernel
theorem dX7_noMember_28 : decode cX7_noMember 28 = .ok (.aload_n 0, 1) := by decide +kernel
theorem dX7_noMember_29 : decode cX7_noMember 29 = .ok (.iload_n 2, 1) := by decide +kernel
theorem dX7_noMember_30 : decode cX7_noMember 30 = .ok (.iconst 0, 1) := by decide +kernel
theorem dX7_noMember_31 : decode cX7_noMember 31 = .ok (.invokevirtual 149, 3) := by decide +kernel
theorem dX7_noMember_34 : decode cX7_noMember 34 = .ok (.ifCond .eq 7, 3) := by decide +kernel
theorem dX7_noMember_37 : decode cX7_noMember 37 = .ok (.iconst 1, 1) := by decide +kernel
theorem dX7_noMember_38 : decode cX7_noMember 38 = .ok (.goto 4, 3) := by decide +kernel
theorem dX7_noMember_41 : decode cX7_noMember 41 = .ok (.iconst 0, 1) := by decide +kernel
theorem dX7_noMember_42 : decode cX7_noMember 42 = .ok (.ireturn, 1) := by decide +kernel
set_option maxRecDepth 20000 in
theorem ggX7_add_X7_noMember : GoodIn wsX7_add wsX7_noMember := goodIn_r _ [7, 8, 9, 10, 6, 11, 12, 13, 14, 15, 16, 17, 18, 1, 19, 20, 21, 22, 23, 24, 25, 26, 27, 28, 29, 30, 31, 32, 33, 34, 35, 36, 37, 38, 39, 40, 41, 42, 43, 44] (by decide +kernel) (by decide +kernel)
set_option maxRecDepth 20000 in
theorem gX7_add_X7_noMember : GoodIn wsX7_add (wsV RX7 152 RX7 yX7_noMember wsX7_noMember) := goodIn_app (goodIn_of _ (by decide +kernel)) ggX7_add_X7_noMember
theorem dX7_add_0 : decode cX7_add 0 = .ok (.aload_n 0, 1) := by decide +kernel
theorem dX7_add_1 : decode cX7_add 1 = .ok (.iconst 0, 1) := by decide +kernel
theorem dX7_add_2 : decode cX7_add 2 = .ok (.putfield 1, 3) := by decide +kernel
theorem dX7_add_5 : decode cX7_add 5 = .ok (.aload_n 0, 1) := by decide +kernel
theorem dX7_add_6 : decode cX7_add 6 = .ok (.iload_n 1, 1) := by decide +kernel
theorem dX7_add_7 : decode cX7_add 7 = .ok (.iload_n 2, 1) := by decide +kernel
theorem dX7_add_8 : decode cX7_add 8 = .ok (.invokevirtual 152, 3) := by decide +kernel
theorem dX7_add_11 : decode cX7_add 11 = .ok (.ifCond .eq 5, 3) := by decide +kernel
theorem dX7_add_14 : decode cX7_add 14 = .ok (.iconst 0, 1) := by decide +kernel
theorem dX7_add_15 : decode cX7_add 15 = .ok (.ireturn, 1) := by decide +kernel
theorem dX7_add_16 : decode cX7_add 16 = .ok (.aload_n 0, 1) := by decide +kernel
theorem dX7_add_17 : decode cX7_add 17 = .ok (.getfield 13, 3) := by decide +kernel
theorem dX7_add_20 : decode cX7_add 20 = .ok (.sipush 1024, 3) := by decide +kernel
theorem dX7_add_23 : decode cX7_add 23 = .ok (.iload_n 1, 1) := by decide +kernel
theorem dX7_add_24 : decode cX7_add 24 = .ok (.imul, 1) := by decide +kernel
theorem dX7_add_25 : decode cX7_add 25 = .ok (.iload_n 2, 1) := by decide +kernel
theorem dX7_add_26 : decode cX7_add 26 = .ok (.iadd, 1) := by decide +kernel
theorem dX7_add_27 : decode cX7_add 27 = .ok (.baload, 1) := by decide +kernel
theorem dX7_add_28 : decode cX7_add 28 = .ok (.istore_n 3, 1) := by decide +kernel
theorem dX7_add_29 : decode cX7_add 29 = .ok (.aload_n 0, 1) := by decide +kernel
theorem dX7_add_30 : decode cX7_add 30 = .ok (.getfield 13, 3) := by decide +kernel
theorem dX7_add_33 : decode cX7_add 33 = .ok (.sipush 1024, 3) := by decide +kernel
theorem dX7_add_36 : decode cX7_add 36 = .ok (.iload_n 1, 1) := by decide +kernel
theorem dX7_add_37 : decode cX7_add 37 = .ok (.imul, 1) := by decide +kernel
theorem dX7_add_38 : decode cX7_add 38 = .ok (.iload_n 2, 1) := by decide +kernel
theorem dX7_add_39 : decode cX7_add 39 = .ok (.iadd, 1) := by decide +kernel
theorem dX7_add_40 : decode cX7_add 40 = .ok (.iconst 1, 1) := by decide +kernel
theorem dX7_add_41 : decode cX7_add 41 = .ok (.bastore, 1) := by decide +kernel
theorem dX7_add_42 : decode cX7_add 42 = .ok (.iload_n 3, 1) := by decide +kernel
theorem dX7_add_43 : decode cX7_add 43 = .ok (.ifCond .ne 7, 3) := by decide +kernel
theorem dX7_add_46 : decode cX7_add 46 = .ok (.iconst 1, 1) := by decide +kernel
theorem dX7_add_47 : decode cX7_add 47 = .ok (.goto 4, 3) := by decide +kernel
theorem dX7_add_50 : decode cX7_add 50 = .ok (.iconst 0, 1) := by decide +kernel
theorem dX7_add_51 : decode cX7_add 51 = .ok (.ireturn, 1) := by decide +kernel
theorem dX7_isIn_0 : decode cX7_isIn 0 = .ok (.iload_n 2, 1) := by decide +kernel
theorem dX7_isIn_1 : decode cX7_isIn 1 = .ok (.sipush 1024, 3) := by decide +kernel
theorem dX7_isIn_4 : decode cX7_isIn 4 = .ok (.if_icmp .ge 22, 3) := by decide +kernel
theorem dX7_isIn_7 : decode cX7_isIn 7 = .ok (.aload_n 0, 1) := by decide +kernel
theorem dX7_isIn_8 : decode cX7_isIn 8 = .ok (.getfield 13, 3) := by decide +kernel
theorem dX7_isIn_11 : decode cX7_isIn 11 = .ok (.sipush 1024, 3) := by decide +kernel
theorem dX7_isIn_14 : decode cX7_isIn 14 = .ok (.iload_n 1, 1) := by decide +kernel
theorem dX7_isIn_15 : decode cX7_isIn 15 = .ok (.imul, 1) := by decide +kernel
theorem dX7_isIn_16 : decode cX7_isIn 16 = .ok (.iload_n 2, 1) := by decide +kernel
theorem dX7_isIn_17 : decode cX7_isIn 17 = .ok (.iadd, 1) := by decide +kernel
theorem dX7_isIn_18 : decode cX7_isIn 18 = .ok (.baload, 1) := by decide +kernel
theorem dX7_isIn_19 : decode cX7_isIn 19 = .ok (.ifCond .eq 7, 3) := by decide +kernel
theorem dX7_isIn_22 : decode cX7_isIn 22 = .ok (.iconst 1, 1) := by decide +kernel
theorem dX7_isIn_23 : decode cX7_isIn 23 = .ok (.goto 4, 3) := by decide +kernel
theorem dX7_isIn_26 : decode cX7_isIn 26 = .ok (.iconst 0, 1) := by decide +kernel
theorem dX7_isIn_27 : decode cX7_isIn 27 = .ok (.ireturn, 1) := by decide +kernel
set_option maxRecDepth 20000 in
theorem ggX7_remove_X7_noSet : GoodIn wsX7_remove wsX7_noSet := goodIn_r _ [7, 8, 9, 6, 10, 11, 12, 13, 14, 1, 24, 25, 26, 27, 28, 29, 30, 31, 32, 33, 34, 35, 36, 37, 38, 39, 40, 41, 42, 43, 44] (by decide +kernel) (by decide +kernel)
set_option maxRecDepth 20000 in
theorem gX7_remove_X7_noSet : GoodIn wsX7_remove (wsV RX7 56 RX7 yX7_noSet wsX7_noSet) := goodIn_app (goodIn_of _ (by decide +kernel)) ggX7_remove_X7_noSet
set_option maxRecDepth 20000 in
theorem ggX7_remove_X7_isBelow : GoodIn wsX7_remove wsX7_isBelow := goodIn_r _ [18, 1, 19, 24, 25, 26, 27, 28, 29, 30, 31, 32, 33, 34, 35, 36, 37, 38, 39, 40, 41, 42, 43, 44] (by decide +kernel) (by decide +kernel)
set_option maxRecDepth 20000 in
theorem gX7_remove_X7_isBelow : GoodIn wsX7_remove (wsV RX7 149 RX7 yX7_isBelow wsX7_isBelow) := goodIn_app (goodIn_of _ (by decide +kernel)) ggX7_remove_X7_isBelow
set_option maxRecDepth 20000 in
theorem ggX7_remove_X7_isIn : GoodIn wsX7_remove wsX7_isIn := goodIn_r _ [23, 2, 24, 25, 26, 27, 28, 29, 30, 31, 32, 33, 34, 35, 36, 37, 38, 39, 40, 41, 42, 43, 44] (by decide +kernel) (by decide +kernel)
set_option maxRecDepth 20000 in
theorem gX7_remove_X7_isIn : GoodIn wsX7_remove (wsV RX7 155 RX7 yX7_isIn wsX7_isIn) := goodIn_app (goodIn_of _ (by decide +kernel)) ggX7_remove_X7_isIn
theorem dX7_remove_0 : decode cX7_remove 0 = .ok (.aload_n 0, 1) := by decide +kernel
theorem dX7_remove_1 : decode cX7_remove 1 = .ok (.iconst 0, 1) := by decide +kernel
theorem dX7_remove_2 : decode cX7_remove 2 = .ok (.putfield 1, 3) := by decide +kernel
theorem dX7_remove_5 : decode cX7_remove 5 = .ok (.aload_n 0, 1) := by decide +kernel
theorem dX7_remove_6 : decode cX7_remove 6 = .ok (.iload_n 1, 1) := by decide +kernel
theorem dX7_remove_7 : decode cX7_remove 7 = .ok (.invokevirtual 56, 3) := by decide +kernel
theorem dX7_remove_10 : decode cX7_remove 10 = .ok (.ifCond .ne 21, 3) := by decide +kernel
theorem dX7_remove_13 : decode cX7_remove 13 = .ok (.aload_n 0, 1) := by decide +kernel
theorem dX7_remove_14 : decode cX7_remove 14 = .ok (.iload_n 2, 1) := by decide +kernel
theorem dX7_remove_15 : decode cX7_remove 15 = .ok (.iconst 0, 1) := by decide +kernel
theorem dX7_remove_16 : decode cX7_remove 16 = .ok (.invokevirtual 149, 3) := by decide +kernel
theorem dX7_remove_19 : decode cX7_remove 19 = .ok (.ifCond .ne 12, 3) := by decide +kernel
theorem dX7_remove_22 : decode cX7_remove 22 = .ok (.aload_n 0, 1) := by decide +kernel
theorem dX7_remove_23 : decode cX7_remove 23 = .ok (.iload_n 1, 1) := by decide +kernel
theorem dX7_remove_24 : decode cX7_remove 24 = .ok (.iload_n 2, 1) := by decide +kernel
theorem dX7_remove_25 : decode cX7_remove 25 = .ok (.invokevirtual 155, 3) := by decide +kernel
theorem dX7_remove_28 : decode cX7_remove 28 = .ok (.ifCond .ne 5, 3) := by decide +kernel
theorem dX7_remove_31 : decode cX7_remove 31 = .ok (.iconst 0, 1) := by decide +kernel
theorem dX7_remove_32 : decode cX7_remove 32 = .ok (.ireturn, 1) := by decide +kernel
theorem dX7_remove_33 : decode cX7_remove 33 = .ok (.aload_n 0, 1) := by decide +kernel
theorem dX7_remove_34 : decode cX7_remove 34 = .ok (.getfield 13, 3) := by decide +kernel
theorem dX7_remove_37 : decode cX7_remove 37 = .ok (.sipush 1024, 3) := by decide +kernel
theorem dX7_remove_40 : decode cX7_remove 40 = .ok (.iload_n 1, 1) := by decide +kernel
theorem dX7_remove_41 : decode cX7_remove 41 = .ok (.imul, 1) := by decide +kernel
theorem dX7_remove_42 : decode cX7_remove 42 = .ok (.iload_n 2, 1) := by decide +kernel
theorem dX7_remove_43 : decode cX7_remove 43 = .ok (.iadd, 1) := by decide +kernel
theorem dX7_remove_44 : decode cX7_remove 44 = .ok (.iconst 0, 1) := by decide +kernel
theorem dX7_remove_45 : decode cX7_remove 45 = .ok (.bastore, 1) := by decide +kernel
theorem dX7_remove_46 : decode cX7_remove 46 = .ok (.iconst 1, 1) := by decide +kernel
theorem dX7_remove_47 : decode cX7_remove 47 = .ok (.ireturn, 1) := by decide +kernel
set_option maxRecDepth 20000 in
theorem ggX7_put_X7_noMember : GoodIn wsX7_put wsX7_noMember := goodIn_r _ [7, 8, 9, 10, 6, 11, 12, 13, 14, 15, 16, 17, 18, 1, 19, 20, 21, 22, 23, 24, 25, 26, 27, 28, 29, 30, 31, 32, 33, 34, 35, 36, 37, 38, 39, 40, 41, 42, 43, 44] (by decide +kernel) (by decide +kernel)
set_option maxRecDepth 20000 in
theorem gX7_put_X7_noMember : GoodIn wsX7_put (wsV RX7 152 RX7 yX7_noMember wsX7_noMember) := goodIn_app (goodIn_of _ (by decide +kernel)) ggX7_put_X7_noMember
theorem dX7_put_0 : decode cX7_put 0 = .ok (.aload_n 0, 1) := by decide +kernel
theorem dX7_put_1 : decode cX7_put 1 = .ok (.iconst 0, 1) := by decide +kernel
theorem dX7_put_2 : decode cX7_put 2 = .ok (.putfield 1, 3) := by decide +kernel
theorem dX7_put_5 : decode cX7_put 5 = .ok (.aload_n 0, 1) := by decide +kernel
theorem dX7_put_6 : decode cX7_put 6 = .ok (.iload_n 1, 1) := by decide +kernel
theorem dX7_put_7 : decode cX7_put 7 = .ok (.iload_n 2, 1) := by decide +kernel
theorem dX7_put_8 : decode cX7_put 8 = .ok (.invokevirtual 152, 3) := by decide +kernel
theorem dX7_put_11 : decode cX7_put 11 = .ok (.ifCond .eq 5, 3) := by decide +kernel
theorem dX7_put_14 : decode cX7_put 14 = .ok (.iconst 0, 1) := by decide +kernel
theorem dX7_put_15 : decode cX7_put 15 = .ok (.ireturn, 1) := by decide +kernel
theorem dX7_put_16 : decode cX7_put 16 = .ok (.aload_n 0, 1) := by decide +kernel
theorem dX7_put_17 : decode cX7_put 17 = .ok (.getfield 13, 3) := by decide +kernel
theorem dX7_put_20 : decode cX7_put 20 = .ok (.sipush 1024, 3) := by decide +kernel
theorem dX7_put_23 : decode cX7_put 23 = .ok (.iload_n 1, 1) := by decide +kernel
theorem dX7_put_24 : decode cX7_put 24 = .ok (.imul, 1) := by decide +kernel
theorem dX7_put_25 : decode cX7_put 25 = .ok (.iload_n 2, 1) := by decide +kernel
theorem dX7_put_26 : decode cX7_put 26 = .ok (.iadd, 1) := by decide +kernel
theorem dX7_put_27 : decode cX7_put 27 = .ok (.baload, 1) := by decide +kernel
theorem dX7_put_28 : decode cX7_put 28 = .ok (.istore 4, 2) := by decide +kernel
theorem dX7_put_30 : decode cX7_put 30 = .ok (.aload_n 0, 1) := by decide +kernel
theorem dX7_put_31 : decode cX7_put 31 = .ok (.getfield 13, 3) := by decide +kernel
theorem dX7_put_34 : decode cX7_put 34 = .ok (.sipush 1024, 3) := by decide +kernel
theorem dX7_put_37 : decode cX7_put 37 = .ok (.iload_n 1, 1) := by decide +kernel
theorem dX7_put_38 : decode cX7_put 38 = .ok (.imul, 1) := by decide +kernel
theorem dX7_put_39 : decode cX7_put 39 = .ok (.iload_n 2, 1) := by decide +kernel
theorem dX7_put_40 : decode cX7_put 40 = .ok (.iadd, 1) := by decide +kernel
theorem dX7_put_41 : decode cX7_put 41 = .ok (.iload_n 3, 1) := by decide +kernel
theorem dX7_put_42 : decode cX7_put 42 = .ok (.bastore, 1) := by decide +kernel
theorem dX7_put_43 : decode cX7_put 43 = .ok (.iload 4, 2) := by decide +kernel
theorem dX7_put_45 : decode cX7_put 45 = .ok (.ireturn, 1) := by decide +kernel
set_option maxRecDepth 20000 in
theorem ggX7_flip_X7_noMember : GoodIn wsX7_flip wsX7_noMember := goodIn_r _ [7, 8, 9, 10, 6, 11, 12, 13, 14, 15, 16, 17, 18, 1, 19, 20, 21, 22, 23, 24, 25, 26, 27, 28, 29, 30, 31, 32, 33, 34, 35, 36, 37, 38, 39, 40, 41, 42, 43, 44] (by decide +kernel) (by decide +kernel)
set_option maxRecDepth 20000 in
theorem gX7_flip_X7_noMember : GoodIn wsX7_flip (wsV RX7 152 RX7 yX7_noMember wsX7_noMember) := goodIn_app (goodIn_of _ (by decide +kernel)) ggX7_flip_X7_noMember
theorem dX7_flip_0 : decode cX7_flip 0 = .ok (.aload_n 0, 1) := by decide +kernel
theorem dX7_flip_1 : decode cX7_flip 1 = .ok (.iconst 0, 1) := by decide +kernel
theorem dX7_flip_2 : decode cX7_flip 2 = .ok (.putfield 1, 3) := by decide +kernel
theorem dX7_flip_5 : decode cX7_flip 5 = .ok (.aload_n 0, 1) := by decide +kernel
theorem dX7_flip_6 : decode cX7_flip 6 = .ok (.iload_n 1, 1) := by decide +kernel
theorem dX7_flip_7 : decode cX7_flip 7 = .ok (.iload_n 2, 1) := by decide +kernel
theorem dX7_flip_8 : decode cX7_flip 8 = .ok (.invokevirtual 152, 3) := by decide +kernel
theorem dX7_flip_11 : decode cX7_flip 11 = .ok (.ifCond .eq 5, 3) := by decide +kernel
theorem dX7_flip_14 : decode cX7_flip 14 = .ok (.iconst 0, 1) := by decide +kernel
theorem dX7_flip_15 : decode cX7_flip 15 = .ok (.ireturn, 1) := by decide +kernel
theorem dX7_flip_16 : decode cX7_flip 16 = .ok (.aload_n 0, 1) := by decide +kernel
theorem dX7_flip_17 : decode cX7_flip 17 = .ok (.getfield 13, 3) := by decide +kernel
theorem dX7_flip_20 : decode cX7_flip 20 = .ok (.sipush 1024, 3) := by decide +kernel
theorem dX7_flip_23 : decode cX7_flip 23 = .ok (.iload_n 1, 1) := by decide +kernel
theorem dX7_flip_24 : decode cX7_flip 24 = .ok (.imul, 1) := by decide +kernel
theorem dX7_flip_25 : decode cX7_flip 25 = .ok (.iload_n 2, 1) := by decide +kernel
theorem dX7_flip_26 : decode cX7_flip 26 = .ok (.iadd, 1) := by decide +kernel
theorem dX7_flip_27 : decode cX7_flip 27 = .ok (.aload_n 0, 1) := by decide +kernel
theorem dX7_flip_28 : decode cX7_flip 28 = .ok (.getfield 13, 3) := by decide +kernel
theorem dX7_flip_31 : decode cX7_flip 31 = .ok (.sipush 1024, 3) := by decide +kernel
theorem dX7_flip_34 : decode cX7_flip 34 = .ok (.iload_n 1, 1) := by decide +kernel
theorem dX7_flip_35 : decode cX7_flip 35 = .ok (.imul, 1) := by decide +kernel
theorem dX7_flip_36 : decode cX7_flip 36 = .ok (.iload_n 2, 1) := by decide +kernel
theorem dX7_flip_37 : decode cX7_flip 37 = .ok (.iadd, 1) := by decide +kernel
theorem dX7_flip_38 : decode cX7_flip 38 = .ok (.baload, 1) := by decide +kernel
theorem dX7_flip_39 : decode cX7_flip 39 = .ok (.ifCond .ne 7, 3) := by decide +kernel
theorem dX7_flip_42 : decode cX7_flip 42 = .ok (.iconst 1, 1) := by decide +kernel
theorem dX7_flip_43 : decode cX7_flip 43 = .ok (.goto 4, 3) := by decide +kernel
theorem dX7_flip_46 : decode cX7_flip 46 = .ok (.iconst 0, 1) := by decide +kernel
theorem dX7_flip_47 : decode cX7_flip 47 = .ok (.bastore, 1) := by decide +kernel
theorem dX7_flip_48 : decode cX7_flip 48 = .ok (.aload_n 0, 1) := by decide +kernel
theorem dX7_flip_49 : decode cX7_flip 49 = .ok (.getfield 13, 3) := by decide +kernel
theorem dX7_flip_52 : decode cX7_flip 52 = .ok (.sipush 1024, 3) := by decide +kernel
theorem dX7_flip_55 : decode cX7_flip 55 = .ok (.iload_n 1, 1) := by decide +kernel
theorem dX7_flip_56 : decode cX7_flip 56 = .ok (.imul, 1) := by decide +kernel
theorem dX7_flip_57 : decode cX7_flip 57 = .ok (.iload_n 2, 1) := by decide +kernel
theorem dX7_flip_58 : decode cX7_flip 58 = .ok (.iadd, 1) := by decide +kernel
theorem dX7_flip_59 : decode cX7_flip 59 = .ok (.baload, 1) := by decide +kernel
theorem dX7_flip_60 : decode cX7_flip 60 = .ok (.ireturn, 1) := by decide +kernel
set_option maxRecDepth 20000 in
theorem ggX7_noPlaces_X7_noSet : GoodIn wsX7_noPlaces wsX7_noSet := goodIn_r _ [5, 6, 7, 4, 8, 9, 10, 11, 12, 13, 22, 23, 24, 25, 26, 27, 28, 29, 30, 31, 32, 33, 34, 35, 36, 37, 38, 39, 40, 41, 42] (by decide +kernel) (by decide +kernel)
set_option maxRecDepth 20000 in
theorem gX7_noPlaces_X7_noSet : GoodIn wsX7_noPlaces (wsV RX7 56 RX7 yX7_noSet wsX7_noSet) := goodIn_app (goodIn_of _ (by decide +kernel)) ggX7_noPlaces_X7_noSet
set_option maxRecDepth 20000 in
theorem ggX7_noPlaces_X7_fails : GoodIn wsX7_noPlaces wsX7_fails := goodIn_r _ [12, 13, 22, 23, 24, 25, 26, 27, 28, 29, 30, 31, 32, 33, 34, 35, 36, 37, 38, 39, 40, 41, 42] (by decide +kernel) (by decide +kernel)
set_option maxRecDepth 20000 in
theorem gX7_noPlaces_X7_fails : GoodIn wsX7_noPlaces (wsV RX7 52 RX7 yX7_fails wsX7_fails) := goodIn_app (goodIn_of _ (by decide +kernel)) ggX7_noPlaces_X7_fails
set_option maxRecDepth 20000 in
theorem ggX7_noPlaces_X7_noRange : GoodIn wsX7_noPlaces wsX7_noRange := goodIn_r _ [17, 13, 18, 19, 20, 4, 21, 22, 23, 24, 25, 26, 27, 28, 29, 30, 31, 32, 33, 34, 35, 36, 37, 38, 39, 40, 41, 42] (by decide +kernel) (by decide +kernel)
set_option maxRecDepth 20000 in
theorem gX7_noPlaces_X7_noRange : GoodIn wsX7_noPlaces (wsV RX7 158 RX7 yX7_noRange wsX7_noRange) := goodIn_app (goodIn_of _ (by decide +kernel)) ggX7_noPlaces_X7_noRange
theorem dX7_noPlaces_0 : decode cX7_noPlaces 0 = .ok (.aload_n 0, 1) := by decide +kernel
theorem dX7_noPlaces_1 : decode cX7_noPlaces 1 = .ok (.iload_n 1, 1) := by decide +kernel
theorem dX7_noPlaces_2 : decode cX7_noPlaces 2 = .ok (.invokevirtual 56, 3) := by decide +kernel
theorem dX7_noPlaces_5 : decode cX7_noPlaces 5 = .ok (.ifCond .ne 32, 3) := by decide +kernel
theorem dX7_noPlaces_8 : decode cX7_noPlaces 8 = .ok (.aload_n 0, 1) := by decide +kernel
theorem dX7_noPlaces_9 : decode cX7_noPlaces 9 = .ok (.iload_n 3, 1) := by decide +kernel
theorem dX7_noPlaces_10 : decode cX7_noPlaces 10 = .ok (.sipush 1024, 3) := by decide +kernel
theorem dX7_noPlaces_13 : decode cX7_noPlaces 13 = .ok (.if_icmp .gt 7, 3) := by decide +kernel
theorem dX7_noPlaces_16 : decode cX7_noPlaces 16 = .ok (.iconst 1, 1) := by decide +kernel
theorem dX7_noPlaces_17 : decode cX7_noPlaces 17 = .ok (.goto 4, 3) := by decide +kernel
theorem dX7_noPlaces_20 : decode cX7_noPlaces 20 = .ok (.iconst 0, 1) := by decide +kernel
theorem dX7_noPlaces_21 : decode cX7_noPlaces 21 = .ok (.iconst 1, 1) := by decide +kernel
theorem dX7_noPlaces_22 : decode cX7_noPlaces 22 = .ok (.invokevirtual 52, 3) := by decide +kernel
theorem dX7_noPlaces_25 : decode cX7_noPlaces 25 = .ok (.ifCond .ne 12, 3) := by decide +kernel
theorem dX7_noPlaces_28 : decode cX7_noPlaces 28 = .ok (.aload_n 0, 1) := by decide +kernel
theorem dX7_noPlaces_29 : decode cX7_noPlaces 29 = .ok (.iload_n 2, 1) := by decide +kernel
theorem dX7_noPlaces_30 : decode cX7_noPlaces 30 = .ok (.iload_n 3, 1) := by decide +kernel
theorem dX7_noPlaces_31 : decode cX7_noPlaces 31 = .ok (.invokevirtual 158, 3) := by decide +kernel
theorem dX7_noPlaces_34 : decode cX7_noPlaces 34 = .ok (.ifCond .eq 7, 3) := by decide +kernel
theorem dX7_noPlaces_37 : decode cX7_noPlaces 37 = .ok (.iconst 1, 1) := by decide +kernel
theorem dX7_noPlaces_38 : decode cX7_noPlaces 38 = .ok (.goto 4, 3) := by decide +kernel
theorem dX7_noPlaces_41 : decode cX7_noPlaces 41 = .ok (.iconst 0, 1) := by decide +kernel
theorem dX7_noPlaces_42 : decode cX7_noPlaces 42 = .ok (.ireturn, 1) := by decide +kernel
set_option maxRecDepth 20000 in
theorem ggX7_addRange_X7_noPlaces : GoodIn wsX7_addRange wsX7_noPlaces := goodIn_r _ [6, 7, 8, 9, 5, 10, 11, 12, 13, 14, 15, 16, 17, 1, 18, 19, 20, 21, 22, 23, 24, 25, 35, 36, 37, 38, 39, 40, 41, 42, 43, 44, 45, 46, 47, 48, 49, 50, 51, 52, 53, 54, 55] (by decide +kernel) (by decide +kernel)
set_option maxRecDepth 20000 in
theorem gX7_addRange_X7_noPlaces : GoodIn wsX7_addRange (wsV RX7 161 RX7 yX7_noPlaces wsX7_noPlaces) := goodIn_app (goodIn_of _ (by decide +kernel)) ggX7_addRange_X7_noPlaces
set_option maxRecDepth 20000 in
theorem ggX7_addRange_X7_puts : GoodIn wsX7_addRange wsX7_puts := goodIn_r _ [29, 30, 31, 32, 33, 5, 34, 35, 36, 37, 38, 39, 40, 41, 42, 43, 44, 45, 46, 47, 48, 49, 50, 51, 52, 53, 54, 55] (by decide +kernel) (by decide +kernel)
set_option maxRecDepth 20000 in
theorem gX7_addRange_X7_puts : GoodIn wsX7_addRange (wsV RX7 164 RX7 yX7_puts wsX7_puts) := goodIn_app (goodIn_of _ (by decide +kernel)) ggX7_addRange_X7_puts
theorem dX7_addRange_0 : decode cX7_addRange 0 = .ok (.aload_n 0, 1) := by decide +kernel
theorem dX7_addRange_1 : decode cX7_addRange 1 = .ok (.iconst 0, 1) := by decide +kernel
theorem dX7_addRange_2 : decode cX7_addRange 2 = .ok (.putfield 1, 3) := by decide +kernel
theorem dX7_addRange_5 : decode cX7_addRange 5 = .ok (.aload_n 0, 1) := by decide +kernel
theorem dX7_addRange_6 : decode cX7_addRange 6 = .ok (.iload_n 1, 1) := by decide +kernel
theorem dX7_addRange_7 : decode cX7_addRange 7 = .ok (.iload_n 2, 1) := by decide +kernel
theorem dX7_addRange_8 : decode cX7_addRange 8 = .ok (.iload_n 3, 1) := by decide +kernel
theorem dX7_addRange_9 : decode cX7_addRange 9 = .ok (.invokevirtual 161, 3) := by decide +kernel
theorem dX7_addRange_12 : decode cX7_addRange 12 = .ok (.ifCond .eq 7, 3) := by decide +kernel
theorem dX7_addRange_15 : decode cX7_addRange 15 = .ok (.iconst 0, 1) := by decide +kernel
theorem dX7_addRange_16 : decode cX7_addRange 16 = .ok (.goto 11, 3) := by decide +kernel
theorem dX7_addRange_19 : decode cX7_addRange 19 = .ok (.aload_n 0, 1) := by decide +kernel
theorem dX7_addRange_20 : decode cX7_addRange 20 = .ok (.iload_n 1, 1) := by decide +kernel
theorem dX7_addRange_21 : decode cX7_addRange 21 = .ok (.iload_n 2, 1) := by decide +kernel
theorem dX7_addRange_22 : decode cX7_addRange 22 = .ok (.iload_n 3, 1) := by decide +kernel
theorem dX7_addRange_23 : decode cX7_addRange 23 = .ok (.iconst 1, 1) := by decide +kernel
theorem dX7_addRange_24 : decode cX7_addRange 24 = .ok (.invokevirtual 164, 3) := by decide +kernel
theorem dX7_addRange_27 : decode cX7_addRange 27 = .ok (.ireturn, 1) := by decide +kernel
set_option maxRecDepth 20000 in
theorem ggX7_puts_X7_many : GoodIn wsX7_puts wsX7_many := goodIn_r _ [6, 1, 7, 8, 9, 10, 11, 12, 13, 14, 15, 16, 17, 18, 19, 20, 21, 22, 23, 24, 25, 26, 27] (by decide +kernel) (by decide +kernel)
set_option maxRecDepth 20000 in
theorem gX7_puts_X7_many : GoodIn wsX7_puts (wsV RX7 168 RX7 yX7_many wsX7_many) := goodIn_app (goodIn_of _ (by decide +kernel)) ggX7_puts_X7_many
theorem dX7_puts_0 : decode cX7_puts 0 = .ok (.iload_n 2, 1) := by decide +kernel
theorem dX7_puts_1 : decode cX7_puts 1 = .ok (.istore 5, 2) := by decide +kernel
theorem dX7_puts_3 : decode cX7_puts 3 = .ok (.iload 5, 2) := by decide +kernel
theorem dX7_puts_5 : decode cX7_puts 5 = .ok (.iload_n 3, 1) := by decide +kernel
theorem dX7_puts_6 : decode cX7_puts 6 = .ok (.if_icmp .ge 32, 3) := by decide +kernel
theorem dX7_puts_9 : decode cX7_puts 9 = .ok (.iload 5, 2) := by decide +kernel
theorem dX7_puts_11 : decode cX7_puts 11 = .ok (.sipush 1024, 3) := by decide +kernel
theorem dX7_puts_14 : decode cX7_puts 14 = .ok (.if_icmp .ge 24, 3) := by decide +kernel
theorem dX7_puts_17 : decode cX7_puts 17 = .ok (.aload_n 0, 1) := by decide +kernel
theorem dX7_puts_18 : decode cX7_puts 18 = .ok (.getfield 13, 3) := by decide +kernel
theorem dX7_puts_21 : decode cX7_puts 21 = .ok (.sipush 1024, 3) := by decide +kernel
theorem dX7_puts_24 : decode cX7_puts 24 = .ok (.iload_n 1, 1) := by decide +kernel
theorem dX7_puts_25 : decode cX7_puts 25 = .ok (.imul, 1) := by decide +kernel
theorem dX7_puts_26 : decode cX7_puts 26 = .ok (.iload 5, 2) := by decide +kernel
theorem dX7_puts_28 : decode cX7_puts 28 = .ok (.iadd, 1) := by decide +kernel
theorem dX7_puts_29 : decode cX7_puts 29 = .ok (.iload 4, 2) := by decide +kernel
theorem dX7_puts_31 : decode cX7_puts 31 = .ok (.bastore, 1) := by decide +kernel
theorem dX7_puts_32 : decode cX7_puts 32 = .ok (.iinc 5 1, 3) := by decide +kernel
theorem dX7_puts_35 : decode cX7_puts 35 = .ok (.goto (-32), 3) := by decide +kernel
theorem dX7_puts_38 : decode cX7_puts 38 = .ok (.aload_n 0, 1) := by decide +kernel
theorem dX7_puts_39 : decode cX7_puts 39 = .ok (.iload_n 1, 1) := by decide +kernel
theorem dX7_puts_40 : decode cX7_puts 40 = .ok (.invokevirtual 168, 3) := by decide +kernel
theorem dX7_puts_43 : decode cX7_puts 43 = .ok (.ireturn, 1) := by decide +kernel
set_option maxRecDepth 20000 in
theorem ggX7_removeRange_X7_noSet : GoodIn wsX7_removeRange wsX7_noSet := goodIn_r _ [6, 7, 8, 5, 9, 10, 11, 12, 13, 1, 31, 32, 33, 34, 35, 36, 37, 38, 39, 40, 41, 42, 43, 44, 45, 46, 47, 48, 49, 50, 51] (by decide +kernel) (by decide +kernel)
set_option maxRecDepth 20000 in
theorem gX7_removeRange_X7_noSet : GoodIn wsX7_removeRange (wsV RX7 56 RX7 yX7_noSet wsX7_noSet) := goodIn_app (goodIn_of _ (by decide +kernel)) ggX7_removeRange_X7_noSet
set_option maxRecDepth 20000 in
theorem ggX7_removeRange_X7_noRange : GoodIn wsX7_removeRange wsX7_noRange := goodIn_r _ [17, 1, 18, 19, 20, 5, 21, 31, 32, 33, 34, 35, 36, 37, 38, 39, 40, 41, 42, 43, 44, 45, 46, 47, 48, 49, 50, 51] (by decide +kernel) (by decide +kernel)
set_option maxRecDepth 20000 in
theorem gX7_removeRange_X7_noRange : GoodIn wsX7_removeRange (wsV RX7 158 RX7 yX7_noRange wsX7_noRange) := goodIn_app (goodIn_of _ (by decide +kernel)) ggX7_removeRange_X7_noRange
set_option maxRecDepth 20000 in
theorem ggX7_removeRange_X7_puts : GoodIn wsX7_removeRange wsX7_puts := goodIn_r _ [25, 26, 27, 28, 29, 5, 30, 31, 32, 33, 34, 35, 36, 37, 38, 39, 40, 41, 42, 43, 44, 45, 46, 47, 48, 49, 50, 51] (by decide +kernel) (by decide +kernel)
set_option maxRecDepth 20000 in
theorem gX7_removeRange_X7_puts : GoodIn wsX7_removeRange (wsV RX7 164 RX7 yX7_puts wsX7_puts) := goodIn_app (goodIn_of _ (by decide +kernel)) ggX7_removeRange_X7_puts
theorem dX7_removeRange_0 : decode cX7_removeRange 0 = .ok (.aload_n 0, 1) := by decide +kernel
theorem dX7_removeRange_1 : decode cX7_removeRange 1 = .ok (.iconst 0, 1) := by decide +kernel
theorem dX7_removeRange_2 : decode cX7_removeRange 2 = .ok (.putfield 1, 3) := by decide +kernel
theorem dX7_removeRange_5 : decode cX7_removeRange 5 = .ok (.aload_n 0, 1) := by decide +kernel
theorem dX7_removeRange_6 : decode cX7_removeRange 6 = .ok (.iload_n 1, 1) := by decide +kernel
theorem dX7_removeRange_7 : decode cX7_removeRange 7 = .ok (.invokevirtual 56, 3) := by decide +kernel
theorem dX7_removeRange_10 : decode cX7_removeRange 10 = .ok (.ifCond .ne 12, 3) := by decide +kernel
theorem dX7_removeRange_13 : decode cX7_removeRange 13 = .ok (.aload_n 0, 1) := by decide +kernel
theorem dX7_removeRange_14 : decode cX7_removeRange 14 = .ok (.iload_n 2, 1) := by decide +kernel
theorem dX7_removeRange_15 : decode cX7_removeRange 15 = .ok (.iload_n 3, 1) := by decide +kernel
theorem dX7_removeRange_16 : decode cX7_removeRange 16 = .ok (.invokevirtual 158, 3) := by decide +kernel
theorem dX7_removeRange_19 : decode cX7_removeRange 19 = .ok (.ifCond .eq 7, 3) := by decide +kernel
theorem dX7_removeRange_22 : decode cX7_removeRange 22 = .ok (.iconst 0, 1) := by decide +kernel
theorem dX7_removeRange_23 : decode cX7_removeRange 23 = .ok (.goto 11, 3) := by decide +kernel
theorem dX7_removeRange_26 : decode cX7_removeRange 26 = .ok (.aload_n 0, 1) := by decide +kernel
theorem dX7_removeRange_27 : decode cX7_removeRange 27 = .ok (.iload_n 1, 1) := by decide +kernel
theorem dX7_removeRange_28 : decode cX7_removeRange 28 = .ok (.iload_n 2, 1) := by decide +kernel
theorem dX7_removeRange_29 : decode cX7_removeRange 29 = .ok (.iload_n 3, 1) := by decide +kernel
theorem dX7_removeRange_30 : decode cX7_removeRange 30 = .ok (.iconst 0, 1) := by decide +kernel
theorem dX7_removeRange_31 : decode cX7_removeRange 31 = .ok (.invokevirtual 164, 3) := by decide +kernel
theorem dX7_removeRange_34 : decode cX7_removeRange 34 = .ok (.ireturn, 1) := by decide +kernel
set_option maxRecDepth 20000 in
theorem ggX7_putRange_X7_noPlaces : GoodIn wsX7_putRange wsX7_noPlaces := goodIn_r _ [6, 7, 8, 9, 5, 10, 11, 12, 13, 14, 15, 16, 17, 1, 18, 19, 20, 21, 22, 23, 24, 25, 35, 36, 37, 38, 39, 40, 41, 42, 43, 44, 45, 46, 47, 48, 49, 50, 51, 52, 53, 54, 55] (by decide +kernel) (by decide +kernel)
set_option maxRecDepth 20000 in
theorem gX7_putRange_X7_noPlaces : GoodIn wsX7_putRange (wsV RX7 161 RX7 yX7_noPlaces wsX7_noPlaces) := goodIn_app (goodIn_of _ (by decide +kernel)) ggX7_putRange_X7_noPlaces
set_option maxRecDepth 20000 in
theorem ggX7_putRange_X7_puts : GoodIn wsX7_putRange wsX7_puts := goodIn_r _ [29, 30, 31, 32, 33, 5, 34, 35, 36, 37, 38, 39, 40, 41, 42, 43, 44, 45, 46, 47, 48, 49, 50, 51, 52, 53, 54, 55] (by decide +kernel) (by decide +kernel)
set_option maxRecDepth 20000 in
theorem gX7_putRange_X7_puts : GoodIn wsX7_putRange (wsV RX7 164 RX7 yX7_puts wsX7_puts) := goodIn_app (goodIn_of _ (by decide +kernel)) ggX7_putRange_X7_puts
theorem dX7_putRange_0 : decode cX7_putRange 0 = .ok (.aload_n 0, 1) := by decide +kernel
theorem dX7_putRange_1 : decode cX7_putRange 1 = .ok (.iconst 0, 1) := by decide +kernel
theorem dX7_putRange_2 : decode cX7_putRange 2 = .ok (.putfield 1, 3) := by decide +kernel
theorem dX7_putRange_5 : decode cX7_putRange 5 = .ok (.aload_n 0, 1) := by decide +kernel
theorem dX7_putRange_6 : decode cX7_putRange 6 = .ok (.iload_n 1, 1) := by decide +kernel
theorem dX7_putRange_7 : decode cX7_putRange 7 = .ok (.iload_n 2, 1) := by decide +kernel
theorem dX7_putRange_8 : decode cX7_putRange 8 = .ok (.iload_n 3, 1) := by decide +kernel
theorem dX7_putRange_9 : decode cX7_putRange 9 = .ok (.invokevirtual 161, 3) := by decide +kernel
theorem dX7_putRange_12 : decode cX7_putRange 12 = .ok (.ifCond .eq 7, 3) := by decide +kernel
theorem dX7_putRange_15 : decode cX7_putRange 15 = .ok (.iconst 0, 1) := by decide +kernel
theorem dX7_putRange_16 : decode cX7_putRange 16 = .ok (.goto 12, 3) := by decide +kernel
theorem dX7_putRange_19 : decode cX7_putRange 19 = .ok (.aload_n 0, 1) := by decide +kernel
theorem dX7_putRange_20 : decode cX7_putRange 20 = .ok (.iload_n 1, 1) := by decide +kernel
theorem dX7_putRange_21 : decode cX7_putRange 21 = .ok (.iload_n 2, 1) := by decide +kernel
theorem dX7_putRange_22 : decode cX7_putRange 22 = .ok (.iload_n 3, 1) := by decide +kernel
theorem dX7_putRange_23 : decode cX7_putRange 23 = .ok (.iload 4, 2) := by decide +kernel
theorem dX7_putRange_25 : decode cX7_putRange 25 = .ok (.invokevirtual 164, 3) := by decide +kernel
theorem dX7_putRange_28 : decode cX7_putRange 28 = .ok (.ireturn, 1) := by decide +kernel
set_option maxRecDepth 20000 in
theorem ggX7_flipRange_X7_noPlaces : GoodIn wsX7_flipRange wsX7_noPlaces := goodIn_r _ [7, 8, 9, 10, 6, 11, 12, 13, 14, 15, 16, 17, 18, 1, 19, 20, 21, 22, 23, 24, 25, 26, 31, 32, 33, 34, 35, 36, 37, 38, 39, 40, 41, 42, 43, 44, 45, 46, 47, 48, 49, 50, 51] (by decide +kernel) (by decide +kernel)
set_option maxRecDepth 20000 in
theorem gX7_flipRange_X7_noPlaces : GoodIn wsX7_flipRange (wsV RX7 161 RX7 yX7_noPlaces wsX7_noPlaces) := goodIn_app (goodIn_of _ (by decide +kernel)) ggX7_flipRange_X7_noPlaces
set_option maxRecDepth 20000 in
theorem ggX7_flipRange_X7_many : GoodIn wsX7_flipRange wsX7_many := goodIn_r _ [30, 2, 31, 32, 33, 34, 35, 36, 37, 38, 39, 40, 41, 42, 43, 44, 45, 46, 47, 48, 49, 50, 51] (by decide +kernel) (by decide +kernel)
set_option maxRecDepth 20000 in
theorem gX7_flipRange_X7_many : GoodIn wsX7_flipRange (wsV RX7 168 RX7 yX7_many wsX7_many) := goodIn_app (goodIn_of _ (by decide +kernel)) ggX7_flipRange_X7_many
theorem dX7_flipRange_0 : decode cX7_flipRange 0 = .ok (.aload_n 0, 1) := by decide +kernel
theorem dX7_flipRange_1 : decode cX7_flipRange 1 = .ok (.iconst 0, 1) := by decide +kernel
theorem dX7_flipRange_2 : decode cX7_flipRange 2 = .ok (.putfield 1, 3) := by decide +kernel
theorem dX7_flipRange_5 : decode cX7_flipRange 5 = .ok (.aload_n 0, 1) := by decide +kernel
theorem dX7_flipRange_6 : decode cX7_flipRange 6 = .ok (.iload_n 1, 1) := by decide +kernel
theorem dX7_flipRange_7 : decode cX7_flipRange 7 = .ok (.iload_n 2, 1) := by decide +kernel
theorem dX7_flipRange_8 : decode cX7_flipRange 8 = .ok (.iload_n 3, 1) := by decide +kernel
theorem dX7_flipRange_9 : decode cX7_flipRange 9 = .ok (.invokevirtual 161, 3) := by decide +kernel
theorem dX7_flipRange_12 : decode cX7_flipRange 12 = .ok (.ifCond .eq 5, 3) := by decide +kernel
theorem dX7_flipRange_15 : decode cX7_flipRange 15 = .ok (.iconst 0, 1) := by decide +kernel
theorem dX7_flipRange_16 : decode cX7_flipRange 16 = .ok (.ireturn, 1) := by decide +kernel
theorem dX7_flipRange_17 : decode cX7_flipRange 17 = .ok (.iload_n 2, 1) := by decide +kernel
theorem dX7_flipRange_18 : decode cX7_flipRange 18 = .ok (.istore 4, 2) := by decide +kernel
theorem dX7_flipRange_20 : decode cX7_flipRange 20 = .ok (.iload 4, 2) := by decide +kernel
theorem dX7_flipRange_22 : decode cX7_flipRange 22 = .ok (.iload_n 3, 1) := by decide +kernel
theorem dX7_flipRange_23 : decode cX7_flipRange 23 = .ok (.if_icmp .ge 43, 3) := by decide +kernel
theorem dX7_flipRange_26 : decode cX7_flipRange 26 = .ok (.aload_n 0, 1) := by decide +kernel
theorem dX7_flipRange_27 : decode cX7_flipRange 27 = .ok (.getfield 13, 3) := by decide +kernel
theorem dX7_flipRange_30 : decode cX7_flipRange 30 = .ok (.sipush 1024, 3) := by decide +kernel
theorem dX7_flipRange_33 : decode cX7_flipRange 33 = .ok (.iload_n 1, 1) := by decide +kernel
theorem dX7_flipRange_34 : decode cX7_flipRange 34 = .ok (.imul, 1) := by decide +kernel
theorem dX7_flipRange_35 : decode cX7_flipRange 35 = .ok (.iload 4, 2) := by decide +kernel
theorem dX7_flipRange_37 : decode cX7_flipRange 37 = .ok (.iadd, 1) := by decide +kernel
theorem dX7_flipRange_38 : decode cX7_flipRange 38 = .ok (.aload_n 0, 1) := by decide +kernel
theorem dX7_flipRange_39 : decode cX7_flipRange 39 = .ok (.getfield 13, 3) := by decide +kernel
theorem dX7_flipRange_42 : decode cX7_flipRange 42 = .ok (.sipush 1024, 3) := by decide +kernel
theorem dX7_flipRange_45 : decode cX7_flipRange 45 = .ok (.iload_n 1, 1) := by decide +kernel
theorem dX7_flipRange_46 : decode cX7_flipRange 46 = .ok (.imul, 1) := by decide +kernel
theorem dX7_flipRange_47 : decode cX7_flipRange 47 = .ok (.iload 4, 2) := by decide +kernel
theorem dX7_flipRange_49 : decode cX7_flipRange 49 = .ok (.iadd, 1) := by decide +kernel
theorem dX7_flipRange_50 : decode cX7_flipRange 50 = .ok (.baload, 1) := by decide +kernel
theorem dX7_flipRange_51 : decode cX7_flipRange 51 = .ok (.ifCond .ne 7, 3) := by decide +kernel
theorem dX7_flipRange_54 : decode cX7_flipRange 54 = .ok (.iconst 1, 1) := by decide +kernel
theorem dX7_flipRange_55 : decode cX7_flipRange 55 = .ok (.goto 4, 3) := by decide +kernel
theorem dX7_flipRange_58 : decode cX7_flipRange 58 = .ok (.iconst 0, 1) := by decide +kernel
theorem dX7_flipRange_59 : decode cX7_flipRange 59 = .ok (.bastore, 1) := by decide +kernel
theorem dX7_flipRange_60 : decode cX7_flipRange 60 = .ok (.iinc 4 1, 3) := by decide +kernel
theorem dX7_flipRange_63 : decode cX7_flipRange 63 = .ok (.goto (-43), 3) := by decide +kernel
theorem dX7_flipRange_66 : decode cX7_flipRange 66 = .ok (.aload_n 0, 1) := by decide +kernel
theorem dX7_flipRange_67 : decode cX7_flipRange 67 = .ok (.iload_n 1, 1) := by decide +kernel
theorem dX7_flipRange_68 : decode cX7_flipRange 68 = .ok (.invokevirtual 168, 3) := by decide +kernel
theorem dX7_flipRange_71 : decode cX7_flipRange 71 = .ok (.ireturn, 1) := by decide +kernel
set_option maxRecDepth 20000 in
theorem ggX7_removeAll_X7_noSet : GoodIn wsX7_removeAll wsX7_noSet := goodIn_r _ [6, 7, 8, 5, 9, 10, 11, 12, 13, 1, 23, 24, 25, 26, 27, 28, 29, 30, 31, 32, 33, 34, 35, 36, 37, 38, 39, 40, 41, 42, 43] (by decide +kernel) (by decide +kernel)
set_option maxRecDepth 20000 in
theorem gX7_removeAll_X7_noSet : GoodIn wsX7_removeAll (wsV RX7 56 RX7 yX7_noSet wsX7_noSet) := goodIn_app (goodIn_of _ (by decide +kernel)) ggX7_removeAll_X7_noSet
set_option maxRecDepth 20000 in
theorem ggX7_removeAll_X7_many : GoodIn wsX7_removeAll wsX7_many := goodIn_r _ [17, 18, 23, 24, 25, 26, 27, 28, 29, 30, 31, 32, 33, 34, 35, 36, 37, 38, 39, 40, 41, 42, 43] (by decide +kernel) (by decide +kernel)
set_option maxRecDepth 20000 in
theorem gX7_removeAll_X7_many : GoodIn wsX7_removeAll (wsV RX7 168 RX7 yX7_many wsX7_many) := goodIn_app (goodIn_of _ (by decide +kernel)) ggX7_removeAll_X7_many
set_option maxRecDepth 20000 in
theorem ggX7_removeAll_X7_empties : GoodIn wsX7_removeAll wsX7_empties := goodIn_r _ [22, 18, 23, 24, 25, 26, 27, 28, 29, 30, 31, 32, 33, 34, 35, 36, 37, 38, 39, 40, 41, 42, 43] (by decide +kernel) (by decide +kernel)
set_option maxRecDepth 20000 in
theorem gX7_removeAll_X7_empties : GoodIn wsX7_removeAll (wsV RX7 136 RX7 yX7_empties wsX7_empties) := goodIn_app (goodIn_of _ (by decide +kernel)) ggX7_removeAll_X7_empties
theorem dX7_removeAll_0 : decode cX7_removeAll 0 = .ok (.aload_n 0, 1) := by decide +kernel
theorem dX7_removeAll_1 : decode cX7_removeAll 1 = .ok (.iconst 0, 1) := by decide +kernel
theorem dX7_removeAll_2 : decode cX7_removeAll 2 = .ok (.putfield 1, 3) := by decide +kernel
theorem dX7_removeAll_5 : decode cX7_removeAll 5 = .ok (.aload_n 0, 1) := by decide +kernel
theorem dX7_removeAll_6 : decode cX7_removeAll 6 = .ok (.iload_n 1, 1) := by decide +kernel
theorem dX7_removeAll_7 : decode cX7_removeAll 7 = .ok (.invokevirtual 56, 3) := by decide +kernel
theorem dX7_removeAll_10 : decode cX7_removeAll 10 = .ok (.ifCond .eq 5, 3) := by decide +kernel
theorem dX7_removeAll_13 : decode cX7_removeAll 13 = .ok (.iconst 0, 1) := by decide +kernel
theorem dX7_removeAll_14 : decode cX7_removeAll 14 = .ok (.ireturn, 1) := by decide +kernel
theorem dX7_removeAll_15 : decode cX7_removeAll 15 = .ok (.aload_n 0, 1) := by decide +kernel
theorem dX7_removeAll_16 : decode cX7_removeAll 16 = .ok (.iload_n 1, 1) := by decide +kernel
theorem dX7_removeAll_17 : decode cX7_removeAll 17 = .ok (.invokevirtual 168, 3) := by decide +kernel
theorem dX7_removeAll_20 : decode cX7_removeAll 20 = .ok (.istore_n 2, 1) := by decide +kernel
theorem dX7_removeAll_21 : decode cX7_removeAll 21 = .ok (.aload_n 0, 1) := by decide +kernel
theorem dX7_removeAll_22 : decode cX7_removeAll 22 = .ok (.iload_n 1, 1) := by decide +kernel
theorem dX7_removeAll_23 : decode cX7_removeAll 23 = .ok (.invokevirtual 136, 3) := by decide +kernel
theorem dX7_removeAll_26 : decode cX7_removeAll 26 = .ok (.iload_n 2, 1) := by decide +kernel
theorem dX7_removeAll_27 : decode cX7_removeAll 27 = .ok (.ireturn, 1) := by decide +kernel
set_option maxRecDepth 20000 in
theorem ggX7_renew_X7_noSet : GoodIn wsX7_renew wsX7_noSet := goodIn_r _ [7, 8, 9, 6, 10, 11, 12, 13, 14, 1, 24, 25, 26, 27, 28, 29, 30, 31, 32, 33, 34, 35, 36, 37, 38, 39, 40, 41, 42, 43, 44] (by decide +kernel) (by decide +kernel)
set_option maxRecDepth 20000 in
theorem gX7_renew_X7_noSet : GoodIn wsX7_renew (wsV RX7 56 RX7 yX7_noSet wsX7_noSet) := goodIn_app (goodIn_of _ (by decide +kernel)) ggX7_renew_X7_noSet
set_option maxRecDepth 20000 in
theorem ggX7_renew_X7_in : GoodIn wsX7_renew wsX7_in := goodIn_r _ [10] (by decide +kernel) (by decide +kernel)
set_option maxRecDepth 20000 in
theorem gX7_renew_X7_in : GoodIn wsX7_renew (va_wsS RX7 48 yX7_in wsX7_in) := goodIn_app (goodIn_of _ (by decide +kernel)) ggX7_renew_X7_in
set_option maxRecDepth 20000 in
theorem ggX7_renew_X7_fails : GoodIn wsX7_renew wsX7_fails := goodIn_r _ [14, 1, 24, 25, 26, 27, 28, 29, 30, 31, 32, 33, 34, 35, 36, 37, 38, 39, 40, 41, 42, 43, 44] (by decide +kernel) (by decide +kernel)
set_option maxRecDepth 20000 in
theorem gX7_renew_X7_fails : GoodIn wsX7_renew (wsV RX7 52 RX7 yX7_fails wsX7_fails) := goodIn_app (goodIn_of _ (by decide +kernel)) ggX7_renew_X7_fails
set_option maxRecDepth 20000 in
theorem ggX7_renew_X7_many : GoodIn wsX7_renew wsX7_many := goodIn_r _ [18, 19, 24, 25, 26, 27, 28, 29, 30, 31, 32, 33, 34, 35, 36, 37, 38, 39, 40, 41, 42, 43, 44] (by decide +kernel) (by decide +kernel)
set_option maxRecDepth 20000 in
theorem gX7_renew_X7_many : GoodIn wsX7_renew (wsV RX7 168 RX7 yX7_many wsX7_many) := goodIn_app (goodIn_of _ (by decide +kernel)) ggX7_renew_X7_many
set_option maxRecDepth 20000 in
theorem ggX7_renew_X7_empties : GoodIn wsX7_renew wsX7_empties := goodIn_r _ [23, 19, 24, 25, 26, 27, 28, 29, 30, 31, 32, 33, 34, 35, 36, 37, 38, 39, 40, 41, 42, 43, 44] (by decide +kernel) (by decide +kernel)
set_option maxRecDepth 20000 in
theorem gX7_renew_X7_empties : GoodIn wsX7_renew (wsV RX7 136 RX7 yX7_empties wsX7_empties) := goodIn_app (goodIn_of _ (by decide +kernel)) ggX7_renew_X7_empties
theorem dX7_renew_0 : decode cX7_renew 0 = .ok (.aload_n 0, 1) := by decide +kernel
theorem dX7_renew_1 : decode cX7_renew 1 = .ok (.iconst 0, 1) := by decide +kernel
theorem dX7_renew_2 : decode cX7_renew 2 = .ok (.putfield 1, 3) := by decide +kernel
theorem dX7_renew_5 : decode cX7_renew 5 = .ok (.aload_n 0, 1) := by decide +kernel
theorem dX7_renew_6 : decode cX7_renew 6 = .ok (.iload_n 1, 1) := by decide +kernel
theorem dX7_renew_7 : decode cX7_renew 7 = .ok (.invokevirtual 56, 3) := by decide +kernel
theorem dX7_renew_10 : decode cX7_renew 10 = .ok (.ifCond .eq 5, 3) := by decide +kernel
theorem dX7_renew_13 : decode cX7_renew 13 = .ok (.iconst 0, 1) := by decide +kernel
theorem dX7_renew_14 : decode cX7_renew 14 = .ok (.ireturn, 1) := by decide +kernel
theorem dX7_renew_15 : decode cX7_renew 15 = .ok (.iload_n 2, 1) := by decide +kernel
theorem dX7_renew_16 : decode cX7_renew 16 = .ok (.ifCond .ge 13, 3) := by decide +kernel
theorem dX7_renew_19 : decode cX7_renew 19 = .ok (.aload_n 0, 1) := by decide +kernel
theorem dX7_renew_20 : decode cX7_renew 20 = .ok (.dup, 1) := by decide +kernel
theorem dX7_renew_21 : decode cX7_renew 21 = .ok (.getfield 60, 3) := by decide +kernel
theorem dX7_renew_24 : decode cX7_renew 24 = .ok (.iconst 1, 1) := by decide +kernel
theorem dX7_renew_25 : decode cX7_renew 25 = .ok (.iadd, 1) := by decide +kernel
theorem dX7_renew_26 : decode cX7_renew 26 = .ok (.putfield 60, 3) := by decide +kernel
theorem dX7_renew_29 : decode cX7_renew 29 = .ok (.aload_n 0, 1) := by decide +kernel
theorem dX7_renew_30 : decode cX7_renew 30 = .ok (.iload_n 2, 1) := by decide +kernel
theorem dX7_renew_31 : decode cX7_renew 31 = .ok (.iconst 0, 1) := by decide +kernel
theorem dX7_renew_32 : decode cX7_renew 32 = .ok (.sipush 1024, 3) := by decide +kernel
theorem dX7_renew_35 : decode cX7_renew 35 = .ok (.invokestatic 48, 3) := by decide +kernel
theorem dX7_renew_38 : decode cX7_renew 38 = .ok (.iconst 1, 1) := by decide +kernel
theorem dX7_renew_39 : decode cX7_renew 39 = .ok (.invokevirtual 52, 3) := by decide +kernel
theorem dX7_renew_42 : decode cX7_renew 42 = .ok (.ifCond .eq 5, 3) := by decide +kernel
theorem dX7_renew_45 : decode cX7_renew 45 = .ok (.iconst 0, 1) := by decide +kernel
theorem dX7_renew_46 : decode cX7_renew 46 = .ok (.ireturn, 1) := by decide +kernel
theorem dX7_renew_47 : decode cX7_renew 47 = .ok (.aload_n 0, 1) := by decide +kernel
theorem dX7_renew_48 : decode cX7_renew 48 = .ok (.iload_n 1, 1) := by decide +kernel
theorem dX7_renew_49 : decode cX7_renew 49 = .ok (.invokevirtual 168, 3) := by decide +kernel
theorem dX7_renew_52 : decode cX7_renew 52 = .ok (.istore_n 3, 1) := by decide +kernel
theorem dX7_renew_53 : decode cX7_renew 53 = .ok (.aload_n 0, 1) := by decide +kernel
theorem dX7_renew_54 : decode cX7_renew 54 = .ok (.iload_n 1, 1) := by decide +kernel
theorem dX7_renew_55 : decode cX7_renew 55 = .ok (.invokevirtual 136, 3) := by decide +kernel
theorem dX7_renew_58 : decode cX7_renew 58 = .ok (.iload_n 3, 1) := by decide +kernel
theorem dX7_renew_59 : decode cX7_renew 59 = .ok (.ireturn, 1) := by decide +kernel
set_option maxRecDepth 20000 in
theorem ggX7_joins_X7_many : GoodIn wsX7_joins wsX7_many := goodIn_r _ [6, 1, 7, 8, 9, 10, 11, 12, 13, 14, 15, 16, 17, 18, 19, 20, 21, 22, 23, 24, 25, 26, 27] (by decide +kernel) (by decide +kernel)
set_option maxRecDepth 20000 in
theorem gX7_joins_X7_many : GoodIn wsX7_joins (wsV RX7 168 RX7 yX7_many wsX7_many) := goodIn_app (goodIn_of _ (by decide +kernel)) ggX7_joins_X7_many
theorem dX7_joins_0 : decode cX7_joins 0 = .ok (.iconst 0, 1) := by decide +kernel
theorem dX7_joins_1 : decode cX7_joins 1 = .ok (.istore 4, 2) := by decide +kernel
theorem dX7_joins_3 : decode cX7_joins 3 = .ok (.iload 4, 2) := by decide +kernel
theorem dX7_joins_5 : decode cX7_joins 5 = .ok (.sipush 1024, 3) := by decide +kernel
theorem dX7_joins_8 : decode cX7_joins 8 = .ok (.if_icmp .ge 147, 3) := by decide +kernel
theorem dX7_joins_11 : decode cX7_joins 11 = .ok (.aload_n 0, 1) := by decide +kernel
theorem dX7_joins_12 : decode cX7_joins 12 = .ok (.getfield 13, 3) := by decide +kernel
theorem dX7_joins_15 : decode cX7_joins 15 = .ok (.sipush 1024, 3) := by decide +kernel
theorem dX7_joins_18 : decode cX7_joins 18 = .ok (.iload_n 1, 1) := by decide +kernel
theorem dX7_joins_19 : decode cX7_joins 19 = .ok (.imul, 1) := by decide +kernel
theorem dX7_joins_20 : decode cX7_joins 20 = .ok (.iload 4, 2) := by decide +kernel
theorem dX7_joins_22 : decode cX7_joins 22 = .ok (.iadd, 1) := by decide +kernel
theorem dX7_joins_23 : decode cX7_joins 23 = .ok (.baload, 1) := by decide +kernel
theorem dX7_joins_24 : decode cX7_joins 24 = .ok (.istore 5, 2) := by decide +kernel
theorem dX7_joins_26 : decode cX7_joins 26 = .ok (.aload_n 0, 1) := by decide +kernel
theorem dX7_joins_27 : decode cX7_joins 27 = .ok (.getfield 13, 3) := by decide +kernel
theorem dX7_joins_30 : decode cX7_joins 30 = .ok (.sipush 1024, 3) := by decide +kernel
theorem dX7_joins_33 : decode cX7_joins 33 = .ok (.iload_n 2, 1) := by decide +kernel
theorem dX7_joins_34 : decode cX7_joins 34 = .ok (.imul, 1) := by decide +kernel
theorem dX7_joins_35 : decode cX7_joins 35 = .ok (.iload 4, 2) := by decide +kernel
theorem dX7_joins_37 : decode cX7_joins 37 = .ok (.iadd, 1) := by decide +kernel
theorem dX7_joins_38 : decode cX7_joins 38 = .ok (.baload, 1) := by decide +kernel
theorem dX7_joins_39 : decode cX7_joins 39 = .ok (.istore 6, 2) := by decide +kernel
theorem dX7_joins_41 : decode cX7_joins 41 = .ok (.aload_n 0, 1) := by decide +kernel
theorem dX7_joins_42 : decode cX7_joins 42 = .ok (.getfield 13, 3) := by decide +kernel
theorem dX7_joins_45 : decode cX7_joins 45 = .ok (.sipush 1024, 3) := by decide +kernel
theorem dX7_joins_48 : decode cX7_joins 48 = .ok (.iload_n 1, 1) := by decide +kernel
theorem dX7_joins_49 : decode cX7_joins 49 = .ok (.imul, 1) := by decide +kernel
theorem dX7_joins_50 : decode cX7_joins 50 = .ok (.iload 4, 2) := by decide +kernel
theorem dX7_joins_52 : decode cX7_joins 52 = .ok (.iadd, 1) := by decide +kernel
theorem dX7_joins_53 : decode cX7_joins 53 = .ok (.iload_n 3, 1) := by decide +kernel
theorem dX7_joins_54 : decode cX7_joins 54 = .ok (.bipush 38, 2) := by decide +kernel
theorem dX7_joins_56 : decode cX7_joins 56 = .ok (.if_icmp .ne 21, 3) := by decide +kernel
theorem dX7_joins_59 : decode cX7_joins 59 = .ok (.iload 5, 2) := by decide +kernel
theorem dX7_joins_61 : decode cX7_joins 61 = .ok (.ifCond .eq 12, 3) := by decide +kernel
theorem dX7_joins_64 : decode cX7_joins 64 = .ok (.iload 6, 2) := by decide +kernel
theorem dX7_joins_66 : decode cX7_joins 66 = .ok (.ifCond .eq 7, 3) := by decide +kernel
theorem dX7_joins_69 : decode cX7_joins 69 = .ok (.iconst 1, 1) := by decide +kernel
theorem dX7_joins_70 : decode cX7_joins 70 = .ok (.goto 78, 3) := by decide +kernel
theorem dX7_joins_73 : decode cX7_joins 73 = .ok (.iconst 0, 1) := by decide +kernel
theorem dX7_joins_74 : decode cX7_joins 74 = .ok (.goto 74, 3) := by decide +kernel
theorem dX7_joins_77 : decode cX7_joins 77 = .ok (.iload_n 3, 1) := by decide +kernel
theorem dX7_joins_78 : decode cX7_joins 78 = .ok (.bipush 124, 2) := by decide +kernel
theorem dX7_joins_80 : decode cX7_joins 80 = .ok (.if_icmp .ne 21, 3) := by decide +kernel
theorem dX7_joins_83 : decode cX7_joins 83 = .ok (.iload 5, 2) := by decide +kernel
theorem dX7_joins_85 : decode cX7_joins 85 = .ok (.ifCond .ne 8, 3) := by decide +kernel
theorem dX7_joins_88 : decode cX7_joins 88 = .ok (.iload 6, 2) := by decide +kernel
theorem dX7_joins_90 : decode cX7_joins 90 = .ok (.ifCond .eq 7, 3) := by decide +kernel
theorem dX7_joins_93 : decode cX7_joins 93 = .ok (.iconst 1, 1) := by decide +kernel
theorem dX7_joins_94 : decode cX7_joins 94 = .ok (.goto 54, 3) := by decide +kernel
theorem dX7_joins_97 : decode cX7_joins 97 = .ok (.iconst 0, 1) := by decide +kernel
theorem dX7_joins_98 : decode cX7_joins 98 = .ok (.goto 50, 3) := by decide +kernel
theorem dX7_joins_101 : decode cX7_joins 101 = .ok (.iload_n 3, 1) := by decide +kernel
theorem dX7_joins_102 : decode cX7_joins 102 = .ok (.bipush 126, 2) := by decide +kernel
theorem dX7_joins_104 : decode cX7_joins 104 = .ok (.if_icmp .ne 18, 3) := by decide +kernel
theorem dX7_joins_107 : decode cX7_joins 107 = .ok (.iload 5, 2) := by decide +kernel
theorem dX7_joins_109 : decode cX7_joins 109 = .ok (.iload 6, 2) := by decide +kernel
theorem dX7_joins_111 : decode cX7_joins 111 = .ok (.if_icmp .eq 7, 3) := by decide +kernel
theorem dX7_joins_114 : decode cX7_joins 114 = .ok (.iconst 1, 1) := by decide +kernel
theorem dX7_joins_115 : decode cX7_joins 115 = .ok (.goto 33, 3) := by decide +kernel
theorem dX7_joins_118 : decode cX7_joins 118 = .ok (.iconst 0, 1) := by decide +kernel
theorem dX7_joins_119 : decode cX7_joins 119 = .ok (.goto 29, 3) := by decide +kernel
theorem dX7_joins_122 : decode cX7_joins 122 = .ok (.iload_n 3, 1) := by decide +kernel
theorem dX7_joins_123 : decode cX7_joins 123 = .ok (.bipush 33, 2) := by decide +kernel
theorem dX7_joins_125 : decode cX7_joins 125 = .ok (.if_icmp .ne 21, 3) := by decide +kernel
theorem dX7_joins_128 : decode cX7_joins 128 = .ok (.iload 5, 2) := by decide +kernel
theorem dX7_joins_130 : decode cX7_joins 130 = .ok (.ifCond .eq 12, 3) := by decide +kernel
theorem dX7_joins_133 : decode cX7_joins 133 = .ok (.iload 6, 2) := by decide +kernel
theorem dX7_joins_135 : decode cX7_joins 135 = .ok (.ifCond .ne 7, 3) := by decide +kernel
theorem dX7_joins_138 : decode cX7_joins 138 = .ok (.iconst 1, 1) := by decide +kernel
theorem dX7_joins_139 : decode cX7_joins 139 = .ok (.goto 9, 3) := by decide +kernel
theorem dX7_joins_142 : decode cX7_joins 142 = .ok (.iconst 0, 1) := by decide +kernel
theorem dX7_joins_143 : decode cX7_joins 143 = .ok (.goto 5, 3) := by decide +kernel
theorem dX7_joins_146 : decode cX7_joins 146 = .ok (.iload 6, 2) := by decide +kernel
theorem dX7_joins_148 : decode cX7_joins 148 = .ok (.bastore, 1) := by decide +kernel
theorem dX7_joins_149 : decode cX7_joins 149 = .ok (.iinc 4 1, 3) := by decide +kernel
theorem dX7_joins_152 : decode cX7_joins 152 = .ok (.goto (-149), 3) := by decide +kernel
theorem dX7_joins_155 : decode cX7_joins 155 = .ok (.aload_n 0, 1) := by decide +kernel
theorem dX7_joins_156 : decode cX7_joins 156 = .ok (.iload_n 1, 1) := by decide +kernel
theorem dX7_joins_157 : decode cX7_joins 157 = .ok (.invokevirtual 168, 3) := by decide +kernel
theorem dX7_joins_160 : decode cX7_joins 160 = .ok (.ireturn, 1) := by decide +kernel
set_option maxRecDepth 20000 in
theorem ggX7_intersect_X7_noSets : GoodIn wsX7_intersect wsX7_noSets := goodIn_r _ [6, 7, 8, 9, 5, 10, 11, 12, 13, 14, 15, 16, 17, 1, 27, 28, 29, 30, 31, 32, 33, 34, 35, 36, 37, 38, 39, 40, 41, 42, 43, 44, 45, 46, 47] (by decide +kernel) (by decide +kernel)
set_option maxRecDepth 20000 in
theorem gX7_intersect_X7_noSets : GoodIn wsX7_intersect (wsV RX7 171 RX7 yX7_noSets wsX7_noSets) := goodIn_app (goodIn_of _ (by decide +kernel)) ggX7_intersect_X7_noSets
set_option maxRecDepth 20000 in
theorem ggX7_intersect_X7_joins : GoodIn wsX7_intersect wsX7_joins := goodIn_r _ [21, 22, 23, 24, 25, 5, 26, 27, 28, 29, 30, 31, 32, 33, 34, 35, 36, 37, 38, 39, 40, 41, 42, 43, 44, 45, 46, 47] (by decide +kernel) (by decide +kernel)
set_option maxRecDepth 20000 in
theorem gX7_intersect_X7_joins : GoodIn wsX7_intersect (wsV RX7 139 RX7 yX7_joins wsX7_joins) := goodIn_app (goodIn_of _ (by decide +kernel)) ggX7_intersect_X7_joins
theorem dX7_intersect_0 : decode cX7_intersect 0 = .ok (.aload_n 0, 1) := by decide +kernel
theorem dX7_intersect_1 : decode cX7_intersect 1 = .ok (.iconst 0, 1) := by decide +kernel
theorem dX7_intersect_2 : decode cX7_intersect 2 = .ok (.putfield 1, 3) := by decide +kernel
theorem dX7_intersect_5 : decode cX7_intersect 5 = .ok (.aload_n 0, 1) := by decide +kernel
theorem dX7_intersect_6 : decode cX7_intersect 6 = .ok (.iload_n 1, 1) := by decide +kernel
theorem dX7_intersect_7 : decode cX7_intersect 7 = .ok (.iload_n 2, 1) := by decide +kernel
theorem dX7_intersect_8 : decode cX7_intersect 8 = .ok (.invokevirtual 171, 3) := by decide +kernel
theorem dX7_intersect_11 : decode cX7_intersect 11 = .ok (.ifCond .eq 7, 3) := by decide +kernel
theorem dX7_intersect_14 : decode cX7_intersect 14 = .ok (.iconst 0, 1) := by decide +kernel
theorem dX7_intersect_15 : decode cX7_intersect 15 = .ok (.goto 11, 3) := by decide +kernel
theorem dX7_intersect_18 : decode cX7_intersect 18 = .ok (.aload_n 0, 1) := by decide +kernel
theorem dX7_intersect_19 : decode cX7_intersect 19 = .ok (.iload_n 1, 1) := by decide +kernel
theorem dX7_intersect_20 : decode cX7_intersect 20 = .ok (.iload_n 2, 1) := by decide +kernel
theorem dX7_intersect_21 : decode cX7_intersect 21 = .ok (.bipush 38, 2) := by decide +kernel
theorem dX7_intersect_23 : decode cX7_intersect 23 = .ok (.invokevirtual 139, 3) := by decide +kernel
theorem dX7_intersect_26 : decode cX7_intersect 26 = .ok (.ireturn, 1) := by decide +kernel
set_option maxRecDepth 20000 in
theorem ggX7_unite_X7_noSets : GoodIn wsX7_unite wsX7_noSets := goodIn_r _ [6, 7, 8, 9, 5, 10, 11, 12, 13, 14, 15, 16, 17, 1, 27, 28, 29, 30, 31, 32, 33, 34, 35, 36, 37, 38, 39, 40, 41, 42, 43, 44, 45, 46, 47] (by decide +kernel) (by decide +kernel)
set_option maxRecDepth 20000 in
theorem gX7_unite_X7_noSets : GoodIn wsX7_unite (wsV RX7 171 RX7 yX7_noSets wsX7_noSets) := goodIn_app (goodIn_of _ (by decide +kernel)) ggX7_unite_X7_noSets
set_option maxRecDepth 20000 in
theorem ggX7_unite_X7_joins : GoodIn wsX7_unite wsX7_joins := goodIn_r _ [21, 22, 23, 24, 25, 5, 26, 27, 28, 29, 30, 31, 32, 33, 34, 35, 36, 37, 38, 39, 40, 41, 42, 43, 44, 45, 46, 47] (by decide +kernel) (by decide +kernel)
set_option maxRecDepth 20000 in
theorem gX7_unite_X7_joins : GoodIn wsX7_unite (wsV RX7 139 RX7 yX7_joins wsX7_joins) := goodIn_app (goodIn_of _ (by decide +kernel)) ggX7_unite_X7_joins
theorem dX7_unite_0 : decode cX7_unite 0 = .ok (.aload_n 0, 1) := by decide +kernel
theorem dX7_unite_1 : decode cX7_unite 1 = .ok (.iconst 0, 1) := by decide +kernel
theorem dX7_unite_2 : decode cX7_unite 2 = .ok (.putfield 1, 3) := by decide +kernel
theorem dX7_unite_5 : decode cX7_unite 5 = .ok (.aload_n 0, 1) := by decide +kernel
theorem dX7_unite_6 : decode cX7_unite 6 = .ok (.iload_n 1, 1) := by decide +kernel
theorem dX7_unite_7 : decode cX7_unite 7 = .ok (.iload_n 2, 1) := by decide +kernel
theorem dX7_unite_8 : decode cX7_unite 8 = .ok (.invokevirtual 171, 3) := by decide +kernel
theorem dX7_unite_11 : decode cX7_unite 11 = .ok (.ifCond .eq 7, 3) := by decide +kernel
theorem dX7_unite_14 : decode cX7_unite 14 = .ok (.iconst 0, 1) := by decide +kernel
theorem dX7_unite_15 : decode cX7_unite 15 = .ok (.goto 11, 3) := by decide +kernel
theorem dX7_unite_18 : decode cX7_unite 18 = .ok (.aload_n 0, 1) := by decide +kernel
theorem dX7_unite_19 : decode cX7_unite 19 = .ok (.iload_n 1, 1) := by decide +kernel
theorem dX7_unite_20 : decode cX7_unite 20 = .ok (.iload_n 2, 1) := by decide +kernel
theorem dX7_unite_21 : decode cX7_unite 21 = .ok (.bipush 124, 2) := by decide +kernel
theorem dX7_unite_23 : decode cX7_unite 23 = .ok (.invokevirtual 139, 3) := by decide +kernel
theorem dX7_unite_26 : decode cX7_unite 26 = .ok (.ireturn, 1) := by decide +kernel
set_option maxRecDepth 20000 in
theorem ggX7_differ_X7_noSets : GoodIn wsX7_differ wsX7_noSets := goodIn_r _ [6, 7, 8, 9, 5, 10, 11, 12, 13, 14, 15, 16, 17, 1, 27, 28, 29, 30, 31, 32, 33, 34, 35, 36, 37, 38, 39, 40, 41, 42, 43, 44, 45, 46, 47] (by decide +kernel) (by decide +kernel)
set_option maxRecDepth 20000 in
theorem gX7_differ_X7_noSets : GoodIn wsX7_differ (wsV RX7 171 RX7 yX7_noSets wsX7_noSets) := goodIn_app (goodIn_of _ (by decide +kernel)) ggX7_differ_X7_noSets
set_option maxRecDepth 20000 in
theorem ggX7_differ_X7_joins : GoodIn wsX7_differ wsX7_joins := goodIn_r _ [21, 22, 23, 24, 25, 5, 26, 27, 28, 29, 30, 31, 32, 33, 34, 35, 36, 37, 38, 39, 40, 41, 42, 43, 44, 45, 46, 47] (by decide +kernel) (by decide +kernel)
set_option maxRecDepth 20000 in
theorem gX7_differ_X7_joins : GoodIn wsX7_differ (wsV RX7 139 RX7 yX7_joins wsX7_joins) := goodIn_app (goodIn_of _ (by decide +kernel)) ggX7_differ_X7_joins
theorem dX7_differ_0 : decode cX7_differ 0 = .ok (.aload_n 0, 1) := by decide +kernel
theorem dX7_differ_1 : decode cX7_differ 1 = .ok (.iconst 0, 1) := by decide +kernel
theorem dX7_differ_2 : decode cX7_differ 2 = .ok (.putfield 1, 3) := by decide +kernel
theorem dX7_differ_5 : decode cX7_differ 5 = .ok (.aload_n 0, 1) := by decide +kernel
theorem dX7_differ_6 : decode cX7_differ 6 = .ok (.iload_n 1, 1) := by decide +kernel
theorem dX7_differ_7 : decode cX7_differ 7 = .ok (.iload_n 2, 1) := by decide +kernel
theorem dX7_differ_8 : decode cX7_differ 8 = .ok (.invokevirtual 171, 3) := by decide +kernel
theorem dX7_differ_11 : decode cX7_differ 11 = .ok (.ifCond .eq 7, 3) := by decide +kernel
theorem dX7_differ_14 : decode cX7_differ 14 = .ok (.iconst 0, 1) := by decide +kernel
theorem dX7_differ_15 : decode cX7_differ 15 = .ok (.goto 11, 3) := by decide +kernel
theorem dX7_differ_18 : decode cX7_differ 18 = .ok (.aload_n 0, 1) := by decide +kernel
theorem dX7_differ_19 : decode cX7_differ 19 = .ok (.iload_n 1, 1) := by decide +kernel
theorem dX7_differ_20 : decode cX7_differ 20 = .ok (.iload_n 2, 1) := by decide +kernel
theorem dX7_differ_21 : decode cX7_differ 21 = .ok (.bipush 126, 2) := by decide +kernel
theorem dX7_differ_23 : decode cX7_differ 23 = .ok (.invokevirtual 139, 3) := by decide +kernel
theorem dX7_differ_26 : decode cX7_differ 26 = .ok (.ireturn, 1) := by decide +kernel
set_option maxRecDepth 20000 in
theorem ggX7_subtract_X7_noSets : GoodIn wsX7_subtract wsX7_noSets := goodIn_r _ [6, 7, 8, 9, 5, 10, 11, 12, 13, 14, 15, 16, 17, 1, 27, 28, 29, 30, 31, 32, 33, 34, 35, 36, 37, 38, 39, 40, 41, 42, 43, 44, 45, 46, 47] (by decide +kernel) (by decide +kernel)
set_option maxRecDepth 20000 in
theorem gX7_subtract_X7_noSets : GoodIn wsX7_subtract (wsV RX7 171 RX7 yX7_noSets wsX7_noSets) := goodIn_app (goodIn_of _ (by decide +kernel)) ggX7_subtract_X7_noSets
set_option maxRecDepth 20000 in
theorem ggX7_subtract_X7_joins : GoodIn wsX7_subtract wsX7_joins := goodIn_r _ [21, 22, 23, 24, 25, 5, 26, 27, 28, 29, 30, 31, 32, 33, 34, 35, 36, 37, 38, 39, 40, 41, 42, 43, 44, 45, 46, 47] (by decide +kernel) (by decide +kernel)
set_option maxRecDepth 20000 in
theorem gX7_subtract_X7_joins : GoodIn wsX7_subtract (wsV RX7 139 RX7 yX7_joins wsX7_joins) := goodIn_app (goodIn_of _ (by decide +kernel)) ggX7_subtract_X7_joins
theorem dX7_subtract_0 : decode cX7_subtract 0 = .ok (.aload_n 0, 1) := by decide +kernel
theorem dX7_subtract_1 : decode cX7_subtract 1 = .ok (.iconst 0, 1) := by decide +kernel
theorem dX7_subtract_2 : decode cX7_subtract 2 = .ok (.putfield 1, 3) := by decide +kernel
theorem dX7_subtract_5 : decode cX7_subtract 5 = .ok (.aload_n 0, 1) := by decide +kernel
theorem dX7_subtract_6 : decode cX7_subtract 6 = .ok (.iload_n 1, 1) := by decide +kernel
theorem dX7_subtract_7 : decode cX7_subtract 7 = .ok (.iload_n 2, 1) := by decide +kernel
theorem dX7_subtract_8 : decode cX7_subtract 8 = .ok (.invokevirtual 171, 3) := by decide +kernel
theorem dX7_subtract_11 : decode cX7_subtract 11 = .ok (.ifCond .eq 7, 3) := by decide +kernel
theorem dX7_subtract_14 : decode cX7_subtract 14 = .ok (.iconst 0, 1) := by decide +kernel
theorem dX7_subtract_15 : decode cX7_subtract 15 = .ok (.goto 11, 3) := by decide +kernel
theorem dX7_subtract_18 : decode cX7_subtract 18 = .ok (.aload_n 0, 1) := by decide +kernel
theorem dX7_subtract_19 : decode cX7_subtract 19 = .ok (.iload_n 1, 1) := by decide +kernel
theorem dX7_subtract_20 : decode cX7_subtract 20 = .ok (.iload_n 2, 1) := by decide +kernel
theorem dX7_subtract_21 : decode cX7_subtract 21 = .ok (.bipush 33, 2) := by decide +kernel
theorem dX7_subtract_23 : decode cX7_subtract 23 = .ok (.invokevirtual 139, 3) := by decide +kernel
theorem dX7_subtract_26 : decode cX7_subtract 26 = .ok (.ireturn, 1) := by decide +kernel
set_option maxRecDepth 20000 in
theorem ggX7_copy_X7_noSets : GoodIn wsX7_copy wsX7_noSets := goodIn_r _ [6, 7, 8, 9, 5, 10, 11, 12, 13, 14, 15, 16, 17, 1, 27, 28, 29, 30, 31, 32, 33, 34, 35, 36, 37, 38, 39, 40, 41, 42, 43, 44, 45, 46, 47] (by decide +kernel) (by decide +kernel)
set_option maxRecDepth 20000 in
theorem gX7_copy_X7_noSets : GoodIn wsX7_copy (wsV RX7 171 RX7 yX7_noSets wsX7_noSets) := goodIn_app (goodIn_of _ (by decide +kernel)) ggX7_copy_X7_noSets
set_option maxRecDepth 20000 in
theorem ggX7_copy_X7_joins : GoodIn wsX7_copy wsX7_joins := goodIn_r _ [21, 22, 23, 24, 25, 5, 26, 27, 28, 29, 30, 31, 32, 33, 34, 35, 36, 37, 38, 39, 40, 41, 42, 43, 44, 45, 46, 47] (by decide +kernel) (by decide +kernel)
set_option maxRecDepth 20000 in
theorem gX7_copy_X7_joins : GoodIn wsX7_copy (wsV RX7 139 RX7 yX7_joins wsX7_joins) := goodIn_app (goodIn_of _ (by decide +kernel)) ggX7_copy_X7_joins
theorem dX7_copy_0 : decode cX7_copy 0 = .ok (.aload_n 0, 1) := by decide +kernel
theorem dX7_copy_1 : decode cX7_copy 1 = .ok (.iconst 0, 1) := by decide +kernel
theorem dX7_copy_2 : decode cX7_copy 2 = .ok (.putfield 1, 3) := by decide +kernel
theorem dX7_copy_5 : decode cX7_copy 5 = .ok (.aload_n 0, 1) := by decide +kernel
theorem dX7_copy_6 : decode cX7_copy 6 = .ok (.iload_n 1, 1) := by decide +kernel
theorem dX7_copy_7 : decode cX7_copy 7 = .ok (.iload_n 2, 1) := by decide +kernel
theorem dX7_copy_8 : decode cX7_copy 8 = .ok (.invokevirtual 171, 3) := by decide +kernel
theorem dX7_copy_11 : decode cX7_copy 11 = .ok (.ifCond .eq 7, 3) := by decide +kernel
theorem dX7_copy_14 : decode cX7_copy 14 = .ok (.iconst 0, 1) := by decide +kernel
theorem dX7_copy_15 : decode cX7_copy 15 = .ok (.goto 11, 3) := by decide +kernel
theorem dX7_copy_18 : decode cX7_copy 18 = .ok (.aload_n 0, 1) := by decide +kernel
theorem dX7_copy_19 : decode cX7_copy 19 = .ok (.iload_n 1, 1) := by decide +kernel
theorem dX7_copy_20 : decode cX7_copy 20 = .ok (.iload_n 2, 1) := by decide +kernel
theorem dX7_copy_21 : decode cX7_copy 21 = .ok (.bipush 61, 2) := by decide +kernel
theorem dX7_copy_23 : decode cX7_copy 23 = .ok (.invokevirtual 139, 3) := by decide +kernel
theorem dX7_copy_26 : decode cX7_copy 26 = .ok (.ireturn, 1) := by decide +kernel
set_option maxRecDepth 20000 in
theorem ggX7_becomes_X7_many : GoodIn wsX7_becomes wsX7_many := goodIn_r _ [7, 1, 8, 9, 10, 11, 12, 13, 14, 15, 16, 17, 18, 19, 20, 21, 22, 23, 24, 25, 26, 27, 28] (by decide +kernel) (by decide +kernel)
set_option maxRecDepth 20000 in
theorem gX7_becomes_X7_many : GoodIn wsX7_becomes (wsV RX7 168 RX7 yX7_many wsX7_many) := goodIn_app (goodIn_of _ (by decide +kernel)) ggX7_becomes_X7_many
theorem dX7_becomes_0 : decode cX7_becomes 0 = .ok (.iconst 0, 1) := by decide +kernel
theorem dX7_becomes_1 : decode cX7_becomes 1 = .ok (.istore_n 2, 1) := by decide +kernel
theorem dX7_becomes_2 : decode cX7_becomes 2 = .ok (.iload_n 2, 1) := by decide +kernel
theorem dX7_becomes_3 : decode cX7_becomes 3 = .ok (.sipush 1024, 3) := by decide +kernel
theorem dX7_becomes_6 : decode cX7_becomes 6 = .ok (.if_icmp .ge 27, 3) := by decide +kernel
theorem dX7_becomes_9 : decode cX7_becomes 9 = .ok (.aload_n 0, 1) := by decide +kernel
theorem dX7_becomes_10 : decode cX7_becomes 10 = .ok (.getfield 13, 3) := by decide +kernel
theorem dX7_becomes_13 : decode cX7_becomes 13 = .ok (.sipush 1024, 3) := by decide +kernel
theorem dX7_becomes_16 : decode cX7_becomes 16 = .ok (.iload_n 1, 1) := by decide +kernel
theorem dX7_becomes_17 : decode cX7_becomes 17 = .ok (.imul, 1) := by decide +kernel
theorem dX7_becomes_18 : decode cX7_becomes 18 = .ok (.iload_n 2, 1) := by decide +kernel
theorem dX7_becomes_19 : decode cX7_becomes 19 = .ok (.iadd, 1) := by decide +kernel
theorem dX7_becomes_20 : decode cX7_becomes 20 = .ok (.aload_n 0, 1) := by decide +kernel
theorem dX7_becomes_21 : decode cX7_becomes 21 = .ok (.getfield 42, 3) := by decide +kernel
theorem dX7_becomes_24 : decode cX7_becomes 24 = .ok (.iload_n 2, 1) := by decide +kernel
theorem dX7_becomes_25 : decode cX7_becomes 25 = .ok (.baload, 1) := by decide +kernel
theorem dX7_becomes_26 : decode cX7_becomes 26 = .ok (.bastore, 1) := by decide +kernel
theorem dX7_becomes_27 : decode cX7_becomes 27 = .ok (.iinc 2 1, 3) := by decide +kernel
theorem dX7_becomes_30 : decode cX7_becomes 30 = .ok (.goto (-28), 3) := by decide +kernel
theorem dX7_becomes_33 : decode cX7_becomes 33 = .ok (.aload_n 0, 1) := by decide +kernel
theorem dX7_becomes_34 : decode cX7_becomes 34 = .ok (.iload_n 1, 1) := by decide +kernel
theorem dX7_becomes_35 : decode cX7_becomes 35 = .ok (.invokevirtual 168, 3) := by decide +kernel
theorem dX7_becomes_38 : decode cX7_becomes 38 = .ok (.ireturn, 1) := by decide +kernel
set_option maxRecDepth 20000 in
theorem ggX7_takePart_X7_noSets : GoodIn wsX7_takePart wsX7_noSets := goodIn_r _ [8, 9, 10, 11, 7, 12, 13, 14, 15, 16, 17, 18, 19, 1, 36, 37, 38, 39, 40, 41, 42, 43, 44, 45, 46, 47, 48, 49, 50, 51, 52, 53, 54, 55, 56] (by decide +kernel) (by decide +kernel)
set_option maxRecDepth 20000 in
theorem gX7_takePart_X7_noSets : GoodIn wsX7_takePart (wsV RX7 171 RX7 yX7_noSets wsX7_noSets) := goodIn_app (goodIn_of _ (by decide +kernel)) ggX7_takePart_X7_noSets
set_option maxRecDepth 20000 in
theorem ggX7_takePart_X7_noRange : GoodIn wsX7_takePart wsX7_noRange := goodIn_r _ [23, 1, 24, 25, 26, 7, 27, 36, 37, 38, 39, 40, 41, 42, 43, 44, 45, 46, 47, 48, 49, 50, 51, 52, 53, 54, 55, 56] (by decide +kernel) (by decide +kernel)
set_option maxRecDepth 20000 in
theorem gX7_takePart_X7_noRange : GoodIn wsX7_takePart (wsV RX7 158 RX7 yX7_noRange wsX7_noRange) := goodIn_app (goodIn_of _ (by decide +kernel)) ggX7_takePart_X7_noRange
set_option maxRecDepth 20000 in
theorem ggX7_takePart_X7_becomes : GoodIn wsX7_takePart wsX7_becomes := goodIn_r _ [31, 3, 2, 32, 33, 34, 7, 35, 36, 37, 38, 39, 40, 41, 42, 43, 44, 45, 46, 47, 48, 49, 50, 51, 52, 53, 54, 55, 56] (by decide +kernel) (by decide +kernel)
set_option maxRecDepth 20000 in
theorem gX7_takePart_X7_becomes : GoodIn wsX7_takePart (wsV RX7 174 RX7 yX7_becomes wsX7_becomes) := goodIn_app (goodIn_of _ (by decide +kernel)) ggX7_takePart_X7_becomes
theorem dX7_takePart_0 : decode cX7_takePart 0 = .ok (.aload_n 0, 1) := by decide +kernel
theorem dX7_takePart_1 : decode cX7_takePart 1 = .ok (.iconst 0, 1) := by decide +kernel
theorem dX7_takePart_2 : decode cX7_takePart 2 = .ok (.putfield 1, 3) := by decide +kernel
theorem dX7_takePart_5 : decode cX7_takePart 5 = .ok (.aload_n 0, 1) := by decide +kernel
theorem dX7_takePart_6 : decode cX7_takePart 6 = .ok (.iload_n 1, 1) := by decide +kernel
theorem dX7_takePart_7 : decode cX7_takePart 7 = .ok (.iload_n 2, 1) := by decide +kernel
theorem dX7_takePart_8 : decode cX7_takePart 8 = .ok (.invokevirtual 171, 3) := by decide +kernel
theorem dX7_takePart_11 : decode cX7_takePart 11 = .ok (.ifCond .ne 13, 3) := by decide +kernel
theorem dX7_takePart_14 : decode cX7_takePart 14 = .ok (.aload_n 0, 1) := by decide +kernel
theorem dX7_takePart_15 : decode cX7_takePart 15 = .ok (.iload_n 3, 1) := by decide +kernel
theorem dX7_takePart_16 : decode cX7_takePart 16 = .ok (.iload 4, 2) := by decide +kernel
theorem dX7_takePart_18 : decode cX7_takePart 18 = .ok (.invokevirtual 158, 3) := by decide +kernel
theorem dX7_takePart_21 : decode cX7_takePart 21 = .ok (.ifCond .eq 5, 3) := by decide +kernel
theorem dX7_takePart_24 : decode cX7_takePart 24 = .ok (.iconst 0, 1) := by decide +kernel
theorem dX7_takePart_25 : decode cX7_takePart 25 = .ok (.ireturn, 1) := by decide +kernel
theorem dX7_takePart_26 : decode cX7_takePart 26 = .ok (.iconst 0, 1) := by decide +kernel
theorem dX7_takePart_27 : decode cX7_takePart 27 = .ok (.istore 5, 2) := by decide +kernel
theorem dX7_takePart_29 : decode cX7_takePart 29 = .ok (.iload 5, 2) := by decide +kernel
theorem dX7_takePart_31 : decode cX7_takePart 31 = .ok (.sipush 1024, 3) := by decide +kernel
theorem dX7_takePart_34 : decode cX7_takePart 34 = .ok (.if_icmp .ge 58, 3) := by decide +kernel
theorem dX7_takePart_37 : decode cX7_takePart 37 = .ok (.aload_n 0, 1) := by decide +kernel
theorem dX7_takePart_38 : decode cX7_takePart 38 = .ok (.getfield 42, 3) := by decide +kernel
theorem dX7_takePart_41 : decode cX7_takePart 41 = .ok (.iload 5, 2) := by decide +kernel
theorem dX7_takePart_43 : decode cX7_takePart 43 = .ok (.iload 5, 2) := by decide +kernel
theorem dX7_takePart_45 : decode cX7_takePart 45 = .ok (.iload 4, 2) := by decide +kernel
theorem dX7_takePart_47 : decode cX7_takePart 47 = .ok (.iload_n 3, 1) := by decide +kernel
theorem dX7_takePart_48 : decode cX7_takePart 48 = .ok (.isub, 1) := by decide +kernel
theorem dX7_takePart_49 : decode cX7_takePart 49 = .ok (.if_icmp .ge 35, 3) := by decide +kernel
theorem dX7_takePart_52 : decode cX7_takePart 52 = .ok (.iload_n 3, 1) := by decide +kernel
theorem dX7_takePart_53 : decode cX7_takePart 53 = .ok (.sipush 1024, 3) := by decide +kernel
theorem dX7_takePart_56 : decode cX7_takePart 56 = .ok (.iload 5, 2) := by decide +kernel
theorem dX7_takePart_58 : decode cX7_takePart 58 = .ok (.isub, 1) := by decide +kernel
theorem dX7_takePart_59 : decode cX7_takePart 59 = .ok (.if_icmp .ge 25, 3) := by decide +kernel
theorem dX7_takePart_62 : decode cX7_takePart 62 = .ok (.aload_n 0, 1) := by decide +kernel
theorem dX7_takePart_63 : decode cX7_takePart 63 = .ok (.getfield 13, 3) := by decide +kernel
theorem dX7_takePart_66 : decode cX7_takePart 66 = .ok (.sipush 1024, 3) := by decide +kernel
theorem dX7_takePart_69 : decode cX7_takePart 69 = .ok (.iload_n 2, 1) := by decide +kernel
theorem dX7_takePart_70 : decode cX7_takePart 70 = .ok (.imul, 1) := by decide +kernel
theorem dX7_takePart_71 : decode cX7_takePart 71 = .ok (.iload_n 3, 1) := by decide +kernel
theorem dX7_takePart_72 : decode cX7_takePart 72 = .ok (.iadd, 1) := by decide +kernel
theorem dX7_takePart_73 : decode cX7_takePart 73 = .ok (.iload 5, 2) := by decide +kernel
theorem dX7_takePart_75 : decode cX7_takePart 75 = .ok (.iadd, 1) := by decide +kernel
theorem dX7_takePart_76 : decode cX7_takePart 76 = .ok (.baload, 1) := by decide +kernel
theorem dX7_takePart_77 : decode cX7_takePart 77 = .ok (.ifCond .eq 7, 3) := by decide +kernel
theorem dX7_takePart_80 : decode cX7_takePart 80 = .ok (.iconst 1, 1) := by decide +kernel
theorem dX7_takePart_81 : decode cX7_takePart 81 = .ok (.goto 4, 3) := by decide +kernel
theorem dX7_takePart_84 : decode cX7_takePart 84 = .ok (.iconst 0, 1) := by decide +kernel
theorem dX7_takePart_85 : decode cX7_takePart 85 = .ok (.bastore, 1) := by decide +kernel
theorem dX7_takePart_86 : decode cX7_takePart 86 = .ok (.iinc 5 1, 3) := by decide +kernel
theorem dX7_takePart_89 : decode cX7_takePart 89 = .ok (.goto (-60), 3) := by decide +kernel
theorem dX7_takePart_92 : decode cX7_takePart 92 = .ok (.aload_n 0, 1) := by decide +kernel
theorem dX7_takePart_93 : decode cX7_takePart 93 = .ok (.iload_n 1, 1) := by decide +kernel
theorem dX7_takePart_94 : decode cX7_takePart 94 = .ok (.invokevirtual 174, 3) := by decide +kernel
theorem dX7_takePart_97 : decode cX7_takePart 97 = .ok (.ireturn, 1) := by decide +kernel
set_option maxRecDepth 20000 in
theorem ggX7_shift_X7_noSet : GoodIn wsX7_shift wsX7_noSet := goodIn_r _ [8, 9, 10, 7, 11, 12, 13, 14, 15, 1, 24, 25, 26, 27, 28, 29, 30, 31, 32, 33, 34, 35, 36, 37, 38, 39, 40, 41, 42, 43, 44] (by decide +kernel) (by decide +kernel)
set_option maxRecDepth 20000 in
theorem gX7_shift_X7_noSet : GoodIn wsX7_shift (wsV RX7 56 RX7 yX7_noSet wsX7_noSet) := goodIn_app (goodIn_of _ (by decide +kernel)) ggX7_shift_X7_noSet
set_option maxRecDepth 20000 in
theorem ggX7_shift_X7_in : GoodIn wsX7_shift wsX7_in := goodIn_r _ [11] (by decide +kernel) (by decide +kernel)
set_option maxRecDepth 20000 in
theorem gX7_shift_X7_in : GoodIn wsX7_shift (va_wsS RX7 48 yX7_in wsX7_in) := goodIn_app (goodIn_of _ (by decide +kernel)) ggX7_shift_X7_in
set_option maxRecDepth 20000 in
theorem ggX7_shift_X7_fails : GoodIn wsX7_shift wsX7_fails := goodIn_r _ [15, 1, 24, 25, 26, 27, 28, 29, 30, 31, 32, 33, 34, 35, 36, 37, 38, 39, 40, 41, 42, 43, 44] (by decide +kernel) (by decide +kernel)
set_option maxRecDepth 20000 in
theorem gX7_shift_X7_fails : GoodIn wsX7_shift (wsV RX7 52 RX7 yX7_fails wsX7_fails) := goodIn_app (goodIn_of _ (by decide +kernel)) ggX7_shift_X7_fails
set_option maxRecDepth 20000 in
theorem ggX7_shift_X7_becomes : GoodIn wsX7_shift wsX7_becomes := goodIn_r _ [19, 3, 2, 20, 21, 22, 7, 23, 24, 25, 26, 27, 28, 29, 30, 31, 32, 33, 34, 35, 36, 37, 38, 39, 40, 41, 42, 43, 44] (by decide +kernel) (by decide +kernel)
set_option maxRecDepth 20000 in
theorem gX7_shift_X7_becomes : GoodIn wsX7_shift (wsV RX7 174 RX7 yX7_becomes wsX7_becomes) := goodIn_app (goodIn_of _ (by decide +kernel)) ggX7_shift_X7_becomes
theorem dX7_shift_0 : decode cX7_shift 0 = .ok (.aload_n 0, 1) := by decide +kernel
theorem dX7_shift_1 : decode cX7_shift 1 = .ok (.iconst 0, 1) := by decide +kernel
theorem dX7_shift_2 : decode cX7_shift 2 = .ok (.putfield 1, 3) := by decide +kernel
theorem dX7_shift_5 : decode cX7_shift 5 = .ok (.aload_n 0, 1) := by decide +kernel
theorem dX7_shift_6 : decode cX7_shift 6 = .ok (.iload_n 1, 1) := by decide +kernel
theorem dX7_shift_7 : decode cX7_shift 7 = .ok (.invokevirtual 56, 3) := by decide +kernel
theorem dX7_shift_10 : decode cX7_shift 10 = .ok (.ifCond .ne 21, 3) := by decide +kernel
theorem dX7_shift_13 : decode cX7_shift 13 = .ok (.aload_n 0, 1) := by decide +kernel
theorem dX7_shift_14 : decode cX7_shift 14 = .ok (.iload_n 2, 1) := by decide +kernel
theorem dX7_shift_15 : decode cX7_shift 15 = .ok (.sipush (-1023), 3) := by decide +kernel
theorem dX7_shift_18 : decode cX7_shift 18 = .ok (.sipush 1023, 3) := by decide +kernel
theorem dX7_shift_21 : decode cX7_shift 21 = .ok (.invokestatic 48, 3) := by decide +kernel
theorem dX7_shift_24 : decode cX7_shift 24 = .ok (.iconst 1, 1) := by decide +kernel
theorem dX7_shift_25 : decode cX7_shift 25 = .ok (.invokevirtual 52, 3) := by decide +kernel
theorem dX7_shift_28 : decode cX7_shift 28 = .ok (.ifCond .eq 5, 3) := by decide +kernel
theorem dX7_shift_31 : decode cX7_shift 31 = .ok (.iconst 0, 1) := by decide +kernel
theorem dX7_shift_32 : decode cX7_shift 32 = .ok (.ireturn, 1) := by decide +kernel
theorem dX7_shift_33 : decode cX7_shift 33 = .ok (.iconst 0, 1) := by decide +kernel
theorem dX7_shift_34 : decode cX7_shift 34 = .ok (.istore_n 3, 1) := by decide +kernel
theorem dX7_shift_35 : decode cX7_shift 35 = .ok (.iload_n 3, 1) := by decide +kernel
theorem dX7_shift_36 : decode cX7_shift 36 = .ok (.sipush 1024, 3) := by decide +kernel
theorem dX7_shift_39 : decode cX7_shift 39 = .ok (.if_icmp .ge 50, 3) := by decide +kernel
theorem dX7_shift_42 : decode cX7_shift 42 = .ok (.aload_n 0, 1) := by decide +kernel
theorem dX7_shift_43 : decode cX7_shift 43 = .ok (.getfield 42, 3) := by decide +kernel
theorem dX7_shift_46 : decode cX7_shift 46 = .ok (.iload_n 3, 1) := by decide +kernel
theorem dX7_shift_47 : decode cX7_shift 47 = .ok (.iload_n 3, 1) := by decide +kernel
theorem dX7_shift_48 : decode cX7_shift 48 = .ok (.iload_n 2, 1) := by decide +kernel
theorem dX7_shift_49 : decode cX7_shift 49 = .ok (.isub, 1) := by decide +kernel
theorem dX7_shift_50 : decode cX7_shift 50 = .ok (.iconst 0, 1) := by decide +kernel
theorem dX7_shift_51 : decode cX7_shift 51 = .ok (.sipush 1023, 3) := by decide +kernel
theorem dX7_shift_54 : decode cX7_shift 54 = .ok (.invokestatic 48, 3) := by decide +kernel
theorem dX7_shift_57 : decode cX7_shift 57 = .ok (.ifCond .eq 24, 3) := by decide +kernel
theorem dX7_shift_60 : decode cX7_shift 60 = .ok (.aload_n 0, 1) := by decide +kernel
theorem dX7_shift_61 : decode cX7_shift 61 = .ok (.getfield 13, 3) := by decide +kernel
theorem dX7_shift_64 : decode cX7_shift 64 = .ok (.sipush 1024, 3) := by decide +kernel
theorem dX7_shift_67 : decode cX7_shift 67 = .ok (.iload_n 1, 1) := by decide +kernel
theorem dX7_shift_68 : decode cX7_shift 68 = .ok (.imul, 1) := by decide +kernel
theorem dX7_shift_69 : decode cX7_shift 69 = .ok (.iload_n 3, 1) := by decide +kernel
theorem dX7_shift_70 : decode cX7_shift 70 = .ok (.iadd, 1) := by decide +kernel
theorem dX7_shift_71 : decode cX7_shift 71 = .ok (.iload_n 2, 1) := by decide +kernel
theorem dX7_shift_72 : decode cX7_shift 72 = .ok (.isub, 1) := by decide +kernel
theorem dX7_shift_73 : decode cX7_shift 73 = .ok (.baload, 1) := by decide +kernel
theorem dX7_shift_74 : decode cX7_shift 74 = .ok (.ifCond .eq 7, 3) := by decide +kernel
theorem dX7_shift_77 : decode cX7_shift 77 = .ok (.iconst 1, 1) := by decide +kernel
theorem dX7_shift_78 : decode cX7_shift 78 = .ok (.goto 4, 3) := by decide +kernel
theorem dX7_shift_81 : decode cX7_shift 81 = .ok (.iconst 0, 1) := by decide +kernel
theorem dX7_shift_82 : decode cX7_shift 82 = .ok (.bastore, 1) := by decide +kernel
theorem dX7_shift_83 : decode cX7_shift 83 = .ok (.iinc 3 1, 3) := by decide +kernel
theorem dX7_shift_86 : decode cX7_shift 86 = .ok (.goto (-51), 3) := by decide +kernel
theorem dX7_shift_89 : decode cX7_shift 89 = .ok (.aload_n 0, 1) := by decide +kernel
theorem dX7_shift_90 : decode cX7_shift 90 = .ok (.iload_n 1, 1) := by decide +kernel
theorem dX7_shift_91 : decode cX7_shift 91 = .ok (.invokevirtual 174, 3) := by decide +kernel
theorem dX7_shift_94 : decode cX7_shift 94 = .ok (.ireturn, 1) := by decide +kernel
theorem dX7_isPrime_0 : decode cX7_isPrime 0 = .ok (.iconst 2, 1) := by decide +kernel
theorem dX7_isPrime_1 : decode cX7_isPrime 1 = .ok (.istore_n 1, 1) := by decide +kernel
theorem dX7_isPrime_2 : decode cX7_isPrime 2 = .ok (.iload_n 1, 1) := by decide +kernel
theorem dX7_isPrime_3 : decode cX7_isPrime 3 = .ok (.iload_n 0, 1) := by decide +kernel
theorem dX7_isPrime_4 : decode cX7_isPrime 4 = .ok (.if_icmp .ge 17, 3) := by decide +kernel
theorem dX7_isPrime_7 : decode cX7_isPrime 7 = .ok (.iload_n 0, 1) := by decide +kernel
theorem dX7_isPrime_8 : decode cX7_isPrime 8 = .ok (.iload_n 1, 1) := by decide +kernel
theorem dX7_isPrime_9 : decode cX7_isPrime 9 = .ok (.irem, 1) := by decide +kernel
theorem dX7_isPrime_10 : decode cX7_isPrime 10 = .ok (.ifCond .ne 5, 3) := by decide +kernel
theorem dX7_isPrime_13 : decode cX7_isPrime 13 = .ok (.iconst 0, 1) := by decide +kernel
theorem dX7_isPrime_14 : decode cX7_isPrime 14 = .ok (.ireturn, 1) := by decide +kernel
theorem dX7_isPrime_15 : decode cX7_isPrime 15 = .ok (.iinc 1 1, 3) := by decide +kernel
theorem dX7_isPrime_18 : decode cX7_isPrime 18 = .ok (.goto (-16), 3) := by decide +kernel
theorem dX7_isPrime_21 : decode cX7_isPrime 21 = .ok (.iload_n 0, 1) := by decide +kernel
theorem dX7_isPrime_22 : decode cX7_isPrime 22 = .ok (.iconst 1, 1) := by decide +kernel
theorem dX7_isPrime_23 : decode cX7_isPrime 23 = .ok (.if_icmp .le 7, 3) := by decide +kernel
theorem dX7_isPrime_26 : decode cX7_isPrime 26 = .ok (.iconst 1, 1) := by decide +kernel
theorem dX7_isPrime_27 : decode cX7_isPrime 27 = .ok (.goto 4, 3) := by decide +kernel
theorem dX7_isPrime_30 : decode cX7_isPrime 30 = .ok (.iconst 0, 1) := by decide +kernel
theorem dX7_isPrime_31 : decode cX7_isPrime 31 = .ok (.ireturn, 1) := by decide +kernel
set_option maxRecDepth 20000 in
theorem ggX7_sieve_X7_noSet : GoodIn wsX7_sieve wsX7_noSet := goodIn_r _ [7, 8, 9, 6, 10, 11, 12, 13, 14, 1, 22, 23, 24, 25, 26, 27, 28, 29, 30, 31, 32, 33, 34, 35, 36, 37, 38, 39, 40, 41, 42] (by decide +kernel) (by decide +kernel)
set_option maxRecDepth 20000 in
theorem gX7_sieve_X7_noSet : GoodIn wsX7_sieve (wsV RX7 56 RX7 yX7_noSet wsX7_noSet) := goodIn_app (goodIn_of _ (by decide +kernel)) ggX7_sieve_X7_noSet
set_option maxRecDepth 20000 in
theorem ggX7_sieve_X7_in : GoodIn wsX7_sieve wsX7_in := goodIn_r _ [10] (by decide +kernel) (by decide +kernel)
set_option maxRecDepth 20000 in
theorem gX7_sieve_X7_in : GoodIn wsX7_sieve (va_wsS RX7 48 yX7_in wsX7_in) := goodIn_app (goodIn_of _ (by decide +kernel)) ggX7_sieve_X7_in
set_option maxRecDepth 20000 in
theorem ggX7_sieve_X7_fails : GoodIn wsX7_sieve wsX7_fails := goodIn_r _ [14, 1, 22, 23, 24, 25, 26, 27, 28, 29, 30, 31, 32, 33, 34, 35, 36, 37, 38, 39, 40, 41, 42] (by decide +kernel) (by decide +kernel)
set_option maxRecDepth 20000 in
theorem gX7_sieve_X7_fails : GoodIn wsX7_sieve (wsV RX7 52 RX7 yX7_fails wsX7_fails) := goodIn_app (goodIn_of _ (by decide +kernel)) ggX7_sieve_X7_fails
set_option maxRecDepth 20000 in
theorem ggX7_sieve_X7_isPrime : GoodIn wsX7_sieve wsX7_isPrime := goodIn_r _ [17] (by decide +kernel) (by decide +kernel)
set_option maxRecDepth 20000 in
theorem gX7_sieve_X7_isPrime : GoodIn wsX7_sieve (va_wsS RX7 177 yX7_isPrime wsX7_isPrime) := goodIn_app (goodIn_of _ (by decide +kernel)) ggX7_sieve_X7_isPrime
set_option maxRecDepth 20000 in
theorem ggX7_sieve_X7_many : GoodIn wsX7_sieve wsX7_many := goodIn_r _ [21, 2, 22, 23, 24, 25, 26, 27, 28, 29, 30, 31, 32, 33, 34, 35, 36, 37, 38, 39, 40, 41, 42] (by decide +kernel) (by decide +kernel)
set_option maxRecDepth 20000 in
theorem gX7_sieve_X7_many : GoodIn wsX7_sieve (wsV RX7 168 RX7 yX7_many wsX7_many) := goodIn_app (goodIn_of _ (by decide +kernel)) ggX7_sieve_X7_many
theorem dX7_sieve_0 : decode cX7_sieve 0 = .ok (.aload_n 0, 1) := by decide +kernel
theorem dX7_sieve_1 : decode cX7_sieve 1 = .ok (.iconst 0, 1) := by decide +kernel
theorem dX7_sieve_2 : decode cX7_sieve 2 = .ok (.putfield 1, 3) := by decide +kernel
theorem dX7_sieve_5 : decode cX7_sieve 5 = .ok (.aload_n 0, 1) := by decide +kernel
theorem dX7_sieve_6 : decode cX7_sieve 6 = .ok (.iload_n 1, 1) := by decide +kernel
theorem dX7_sieve_7 : decode cX7_sieve 7 = .ok (.invokevirtual 56, 3) := by decide +kernel
theorem dX7_sieve_10 : decode cX7_sieve 10 = .ok (.ifCond .ne 19, 3) := by decide +kernel
theorem dX7_sieve_13 : decode cX7_sieve 13 = .ok (.aload_n 0, 1) := by decide +kernel
theorem dX7_sieve_14 : decode cX7_sieve 14 = .ok (.iload_n 2, 1) := by decide +kernel
theorem dX7_sieve_15 : decode cX7_sieve 15 = .ok (.iconst 0, 1) := by decide +kernel
theorem dX7_sieve_16 : decode cX7_sieve 16 = .ok (.sipush 1024, 3) := by decide +kernel
theorem dX7_sieve_19 : decode cX7_sieve 19 = .ok (.invokestatic 48, 3) := by decide +kernel
theorem dX7_sieve_22 : decode cX7_sieve 22 = .ok (.iconst 1, 1) := by decide +kernel
theorem dX7_sieve_23 : decode cX7_sieve 23 = .ok (.invokevirtual 52, 3) := by decide +kernel
theorem dX7_sieve_26 : decode cX7_sieve 26 = .ok (.ifCond .eq 5, 3) := by decide +kernel
theorem dX7_sieve_29 : decode cX7_sieve 29 = .ok (.iconst 0, 1) := by decide +kernel
theorem dX7_sieve_30 : decode cX7_sieve 30 = .ok (.ireturn, 1) := by decide +kernel
theorem dX7_sieve_31 : decode cX7_sieve 31 = .ok (.iconst 0, 1) := by decide +kernel
theorem dX7_sieve_32 : decode cX7_sieve 32 = .ok (.istore_n 3, 1) := by decide +kernel
theorem dX7_sieve_33 : decode cX7_sieve 33 = .ok (.iload_n 3, 1) := by decide +kernel
theorem dX7_sieve_34 : decode cX7_sieve 34 = .ok (.sipush 1024, 3) := by decide +kernel
theorem dX7_sieve_37 : decode cX7_sieve 37 = .ok (.if_icmp .ge 38, 3) := by decide +kernel
theorem dX7_sieve_40 : decode cX7_sieve 40 = .ok (.aload_n 0, 1) := by decide +kernel
theorem dX7_sieve_41 : decode cX7_sieve 41 = .ok (.getfield 13, 3) := by decide +kernel
theorem dX7_sieve_44 : decode cX7_sieve 44 = .ok (.sipush 1024, 3) := by decide +kernel
theorem dX7_sieve_47 : decode cX7_sieve 47 = .ok (.iload_n 1, 1) := by decide +kernel
theorem dX7_sieve_48 : decode cX7_sieve 48 = .ok (.imul, 1) := by decide +kernel
theorem dX7_sieve_49 : decode cX7_sieve 49 = .ok (.iload_n 3, 1) := by decide +kernel
theorem dX7_sieve_50 : decode cX7_sieve 50 = .ok (.iadd, 1) := by decide +kernel
theorem dX7_sieve_51 : decode cX7_sieve 51 = .ok (.iload_n 3, 1) := by decide +kernel
theorem dX7_sieve_52 : decode cX7_sieve 52 = .ok (.iload_n 2, 1) := by decide +kernel
theorem dX7_sieve_53 : decode cX7_sieve 53 = .ok (.if_icmp .ge 14, 3) := by decide +kernel
theorem dX7_sieve_56 : decode cX7_sieve 56 = .ok (.iload_n 3, 1) := by decide +kernel
theorem dX7_sieve_57 : decode cX7_sieve 57 = .ok (.invokestatic 177, 3) := by decide +kernel
theorem dX7_sieve_60 : decode cX7_sieve 60 = .ok (.ifCond .eq 7, 3) := by decide +kernel
theorem dX7_sieve_63 : decode cX7_sieve 63 = .ok (.iconst 1, 1) := by decide +kernel
theorem dX7_sieve_64 : decode cX7_sieve 64 = .ok (.goto 4, 3) := by decide +kernel
theorem dX7_sieve_67 : decode cX7_sieve 67 = .ok (.iconst 0, 1) := by decide +kernel
theorem dX7_sieve_68 : decode cX7_sieve 68 = .ok (.bastore, 1) := by decide +kernel
theorem dX7_sieve_69 : decode cX7_sieve 69 = .ok (.iinc 3 1, 3) := by decide +kernel
theorem dX7_sieve_72 : decode cX7_sieve 72 = .ok (.goto (-39), 3) := by decide +kernel
theorem dX7_sieve_75 : decode cX7_sieve 75 = .ok (.aload_n 0, 1) := by decide +kernel
theorem dX7_sieve_76 : decode cX7_sieve 76 = .ok (.iload_n 1, 1) := by decide +kernel
theorem dX7_sieve_77 : decode cX7_sieve 77 = .ok (.invokevirtual 168, 3) := by decide +kernel
theorem dX7_sieve_80 : decode cX7_sieve 80 = .ok (.ireturn, 1) := by decide +kernel
theorem dX7_lengthOf_0 : decode cX7_lengthOf 0 = .ok (.sipush 1024, 3) := by decide +kernel
theorem dX7_lengthOf_3 : decode cX7_lengthOf 3 = .ok (.istore_n 2, 1) := by decide +kernel
theorem dX7_lengthOf_4 : decode cX7_lengthOf 4 = .ok (.iload_n 2, 1) := by decide +kernel
theorem dX7_lengthOf_5 : decode cX7_lengthOf 5 = .ok (.ifCond .le 26, 3) := by decide +kernel
theorem dX7_lengthOf_8 : decode cX7_lengthOf 8 = .ok (.aload_n 0, 1) := by decide +kernel
theorem dX7_lengthOf_9 : decode cX7_lengthOf 9 = .ok (.getfield 13, 3) := by decide +kernel
theorem dX7_lengthOf_12 : decode cX7_lengthOf 12 = .ok (.sipush 1024, 3) := by decide +kernel
theorem dX7_lengthOf_15 : decode cX7_lengthOf 15 = .ok (.iload_n 1, 1) := by decide +kernel
theorem dX7_lengthOf_16 : decode cX7_lengthOf 16 = .ok (.imul, 1) := by decide +kernel
theorem dX7_lengthOf_17 : decode cX7_lengthOf 17 = .ok (.iload_n 2, 1) := by decide +kernel
theorem dX7_lengthOf_18 : decode cX7_lengthOf 18 = .ok (.iadd, 1) := by decide +kernel
theorem dX7_lengthOf_19 : decode cX7_lengthOf 19 = .ok (.iconst 1, 1) := by decide +kernel
theorem dX7_lengthOf_20 : decode cX7_lengthOf 20 = .ok (.isub, 1) := by decide +kernel
theorem dX7_lengthOf_21 : decode cX7_lengthOf 21 = .ok (.baload, 1) := by decide +kernel
theorem dX7_lengthOf_22 : decode cX7_lengthOf 22 = .ok (.ifCond .ne 9, 3) := by decide +kernel
theorem dX7_lengthOf_25 : decode cX7_lengthOf 25 = .ok (.iinc 2 (-1), 3) := by decide +kernel
theorem dX7_lengthOf_28 : decode cX7_lengthOf 28 = .ok (.goto (-24), 3) := by decide +kernel
theorem dX7_lengthOf_31 : decode cX7_lengthOf 31 = .ok (.iload_n 2, 1) := by decide +kernel
theorem dX7_lengthOf_32 : decode cX7_lengthOf 32 = .ok (.ireturn, 1) := by decide +kernel
theorem dX7_tellsWord_0 : decode cX7_tellsWord 0 = .ok (.iconst 0, 1) := by decide +kernel
theorem dX7_tellsWord_1 : decode cX7_tellsWord 1 = .ok (.istore 5, 2) := by decide +kernel
theorem dX7_tellsWord_3 : decode cX7_tellsWord 3 = .ok (.iload 5, 2) := by decide +kernel
theorem dX7_tellsWord_5 : decode cX7_tellsWord 5 = .ok (.bipush 64, 2) := by decide +kernel
theorem dX7_tellsWord_7 : decode cX7_tellsWord 7 = .ok (.if_icmp .ge 43, 3) := by decide +kernel
theorem dX7_tellsWord_10 : decode cX7_tellsWord 10 = .ok (.aload_n 0, 1) := by decide +kernel
theorem dX7_tellsWord_11 : decode cX7_tellsWord 11 = .ok (.getfield 13, 3) := by decide +kernel
theorem dX7_tellsWord_14 : decode cX7_tellsWord 14 = .ok (.sipush 1024, 3) := by decide +kernel
theorem dX7_tellsWord_17 : decode cX7_tellsWord 17 = .ok (.iload_n 1, 1) := by decide +kernel
theorem dX7_tellsWord_18 : decode cX7_tellsWord 18 = .ok (.imul, 1) := by decide +kernel
theorem dX7_tellsWord_19 : decode cX7_tellsWord 19 = .ok (.bipush 64, 2) := by decide +kernel
theorem dX7_tellsWord_21 : decode cX7_tellsWord 21 = .ok (.iload_n 2, 1) := by decide +kernel
theorem dX7_tellsWord_22 : decode cX7_tellsWord 22 = .ok (.imul, 1) := by decide +kernel
theorem dX7_tellsWord_23 : decode cX7_tellsWord 23 = .ok (.iadd, 1) := by decide +kernel
theorem dX7_tellsWord_24 : decode cX7_tellsWord 24 = .ok (.iload 5, 2) := by decide +kernel
theorem dX7_tellsWord_26 : decode cX7_tellsWord 26 = .ok (.iadd, 1) := by decide +kernel
theorem dX7_tellsWord_27 : decode cX7_tellsWord 27 = .ok (.lload_n 3, 1) := by decide +kernel
theorem dX7_tellsWord_28 : decode cX7_tellsWord 28 = .ok (.iload 5, 2) := by decide +kernel
theorem dX7_tellsWord_30 : decode cX7_tellsWord 30 = .ok (.lshr, 1) := by decide +kernel
theorem dX7_tellsWord_31 : decode cX7_tellsWord 31 = .ok (.lconst 1, 1) := by decide +kernel
theorem dX7_tellsWord_32 : decode cX7_tellsWord 32 = .ok (.land, 1) := by decide +kernel
theorem dX7_tellsWord_33 : decode cX7_tellsWord 33 = .ok (.lconst 1, 1) := by decide +kernel
theorem dX7_tellsWord_34 : decode cX7_tellsWord 34 = .ok (.lcmp, 1) := by decide +kernel
theorem dX7_tellsWord_35 : decode cX7_tellsWord 35 = .ok (.ifCond .ne 7, 3) := by decide +kernel
theorem dX7_tellsWord_38 : decode cX7_tellsWord 38 = .ok (.iconst 1, 1) := by decide +kernel
theorem dX7_tellsWord_39 : decode cX7_tellsWord 39 = .ok (.goto 4, 3) := by decide +kernel
theorem dX7_tellsWord_42 : decode cX7_tellsWord 42 = .ok (.iconst 0, 1) := by decide +kernel
theorem dX7_tellsWord_43 : decode cX7_tellsWord 43 = .ok (.bastore, 1) := by decide +kernel
theorem dX7_tellsWord_44 : decode cX7_tellsWord 44 = .ok (.iinc 5 1, 3) := by decide +kernel
theorem dX7_tellsWord_47 : decode cX7_tellsWord 47 = .ok (.goto (-44), 3) := by decide +kernel
theorem dX7_tellsWord_50 : decode cX7_tellsWord 50 = .ok (.return_, 1) := by decide +kernel
set_option maxRecDepth 20000 in
theorem ggX7_loadWords_X7_noSet : GoodIn wsX7_loadWords wsX7_noSet := goodIn_r _ [6, 7, 8, 5, 9, 10, 11, 12, 13, 1, 27, 28, 29, 30, 31, 32, 33, 34, 35, 36, 37, 38, 39, 40, 41, 42, 43, 44, 45, 46, 47] (by decide +kernel) (by decide +kernel)
set_option maxRecDepth 20000 in
theorem gX7_loadWords_X7_noSet : GoodIn wsX7_loadWords (wsV RX7 56 RX7 yX7_noSet wsX7_noSet) := goodIn_app (goodIn_of _ (by decide +kernel)) ggX7_loadWords_X7_noSet
set_option maxRecDepth 20000 in
theorem ggX7_loadWords_X7_empties : GoodIn wsX7_loadWords wsX7_empties := goodIn_r _ [17, 18, 27, 28, 29, 30, 31, 32, 33, 34, 35, 36, 37, 38, 39, 40, 41, 42, 43, 44, 45, 46, 47] (by decide +kernel) (by decide +kernel)
set_option maxRecDepth 20000 in
theorem gX7_loadWords_X7_empties : GoodIn wsX7_loadWords (wsV RX7 136 RX7 yX7_empties wsX7_empties) := goodIn_app (goodIn_of _ (by decide +kernel)) ggX7_loadWords_X7_empties
set_option maxRecDepth 20000 in
theorem ggX7_loadWords_X7_tellsWord : GoodIn wsX7_loadWords wsX7_tellsWord := goodIn_r _ [22, 18, 27, 28, 29, 30, 31, 32, 33, 34, 35, 36, 37, 38, 39, 40, 41, 42, 43, 44, 45, 46, 47] (by decide +kernel) (by decide +kernel)
set_option maxRecDepth 20000 in
theorem gX7_loadWords_X7_tellsWord : GoodIn wsX7_loadWords (wsV RX7 180 RX7 yX7_tellsWord wsX7_tellsWord) := goodIn_app (goodIn_of _ (by decide +kernel)) ggX7_loadWords_X7_tellsWord
set_option maxRecDepth 20000 in
theorem ggX7_loadWords_X7_lengthOf : GoodIn wsX7_loadWords wsX7_lengthOf := goodIn_r _ [26, 18, 27, 28, 29, 30, 31, 32, 33, 34, 35, 36, 37, 38, 39, 40, 41, 42, 43, 44, 45, 46, 47] (by decide +kernel) (by decide +kernel)
set_option maxRecDepth 20000 in
theorem gX7_loadWords_X7_lengthOf : GoodIn wsX7_loadWords (wsV RX7 184 RX7 yX7_lengthOf wsX7_lengthOf) := goodIn_app (goodIn_of _ (by decide +kernel)) ggX7_loadWords_X7_lengthOf
theorem dX7_loadWords_0 : decode cX7_loadWords 0 = .ok (.aload_n 0, 1) := by decide +kernel
theorem dX7_loadWords_1 : decode cX7_loadWords 1 = .ok (.iconst 0, 1) := by decide +kernel
theorem dX7_loadWords_2 : decode cX7_loadWords 2 = .ok (.putfield 1, 3) := by decide +kernel
theorem dX7_loadWords_5 : decode cX7_loadWords 5 = .ok (.aload_n 0, 1) := by decide +kernel
theorem dX7_loadWords_6 : decode cX7_loadWords 6 = .ok (.iload_n 1, 1) := by decide +kernel
theorem dX7_loadWords_7 : decode cX7_loadWords 7 = .ok (.invokevirtual 56, 3) := by decide +kernel
theorem dX7_loadWords_10 : decode cX7_loadWords 10 = .ok (.ifCond .eq 5, 3) := by decide +kernel
theorem dX7_loadWords_13 : decode cX7_loadWords 13 = .ok (.iconst 0, 1) := by decide +kernel
theorem dX7_loadWords_14 : decode cX7_loadWords 14 = .ok (.ireturn, 1) := by decide +kernel
theorem dX7_loadWords_15 : decode cX7_loadWords 15 = .ok (.aload_n 0, 1) := by decide +kernel
theorem dX7_loadWords_16 : decode cX7_loadWords 16 = .ok (.iload_n 1, 1) := by decide +kernel
theorem dX7_loadWords_17 : decode cX7_loadWords 17 = .ok (.invokevirtual 136, 3) := by decide +kernel
theorem dX7_loadWords_20 : decode cX7_loadWords 20 = .ok (.aload_n 0, 1) := by decide +kernel
theorem dX7_loadWords_21 : decode cX7_loadWords 21 = .ok (.iload_n 1, 1) := by decide +kernel
theorem dX7_loadWords_22 : decode cX7_loadWords 22 = .ok (.iconst 0, 1) := by decide +kernel
theorem dX7_loadWords_23 : decode cX7_loadWords 23 = .ok (.lload_n 2, 1) := by decide +kernel
theorem dX7_loadWords_24 : decode cX7_loadWords 24 = .ok (.invokevirtual 180, 3) := by decide +kernel
theorem dX7_loadWords_27 : decode cX7_loadWords 27 = .ok (.aload_n 0, 1) := by decide +kernel
theorem dX7_loadWords_28 : decode cX7_loadWords 28 = .ok (.iload_n 1, 1) := by decide +kernel
theorem dX7_loadWords_29 : decode cX7_loadWords 29 = .ok (.iconst 1, 1) := by decide +kernel
theorem dX7_loadWords_30 : decode cX7_loadWords 30 = .ok (.lload 4, 2) := by decide +kernel
theorem dX7_loadWords_32 : decode cX7_loadWords 32 = .ok (.invokevirtual 180, 3) := by decide +kernel
theorem dX7_loadWords_35 : decode cX7_loadWords 35 = .ok (.aload_n 0, 1) := by decide +kernel
theorem dX7_loadWords_36 : decode cX7_loadWords 36 = .ok (.iload_n 1, 1) := by decide +kernel
theorem dX7_loadWords_37 : decode cX7_loadWords 37 = .ok (.iconst 2, 1) := by decide +kernel
theorem dX7_loadWords_38 : decode cX7_loadWords 38 = .ok (.lload 6, 2) := by decide +kernel
theorem dX7_loadWords_40 : decode cX7_loadWords 40 = .ok (.invokevirtual 180, 3) := by decide +kernel
theorem dX7_loadWords_43 : decode cX7_loadWords 43 = .ok (.aload_n 0, 1) := by decide +kernel
theorem dX7_loadWords_44 : decode cX7_loadWords 44 = .ok (.iload_n 1, 1) := by decide +kernel
theorem dX7_loadWords_45 : decode cX7_loadWords 45 = .ok (.invokevirtual 184, 3) := by decide +kernel
theorem dX7_loadWords_48 : decode cX7_loadWords 48 = .ok (.ireturn, 1) := by decide +kernel
set_option maxRecDepth 20000 in
theorem ggX7_loadTape_X7_noSet : GoodIn wsX7_loadTape wsX7_noSet := goodIn_r _ [9, 10, 11, 8, 12, 13, 14, 15, 16, 1, 25, 26, 27, 28, 29, 30, 31, 32, 33, 34, 35, 36, 37, 38, 39, 40, 41, 42, 43, 44, 45] (by decide +kernel) (by decide +kernel)
set_option maxRecDepth 20000 in
theorem gX7_loadTape_X7_noSet : GoodIn wsX7_loadTape (wsV RX7 56 RX7 yX7_noSet wsX7_noSet) := goodIn_app (goodIn_of _ (by decide +kernel)) ggX7_loadTape_X7_noSet
set_option maxRecDepth 20000 in
theorem ggX7_loadTape_X7_fails : GoodIn wsX7_loadTape wsX7_fails := goodIn_r _ [16, 1, 25, 26, 27, 28, 29, 30, 31, 32, 33, 34, 35, 36, 37, 38, 39, 40, 41, 42, 43, 44, 45] (by decide +kernel) (by decide +kernel)
set_option maxRecDepth 20000 in
theorem gX7_loadTape_X7_fails : GoodIn wsX7_loadTape (wsV RX7 52 RX7 yX7_fails wsX7_fails) := goodIn_app (goodIn_of _ (by decide +kernel)) ggX7_loadTape_X7_fails
set_option maxRecDepth 20000 in
theorem ggX7_loadTape_X7_empties : GoodIn wsX7_loadTape wsX7_empties := goodIn_r _ [20, 3, 25, 26, 27, 28, 29, 30, 31, 32, 33, 34, 35, 36, 37, 38, 39, 40, 41, 42, 43, 44, 45] (by decide +kernel) (by decide +kernel)
set_option maxRecDepth 20000 in
theorem gX7_loadTape_X7_empties : GoodIn wsX7_loadTape (wsV RX7 136 RX7 yX7_empties wsX7_empties) := goodIn_app (goodIn_of _ (by decide +kernel)) ggX7_loadTape_X7_empties
set_option maxRecDepth 20000 in
theorem ggX7_loadTape_X7_lengthOf : GoodIn wsX7_loadTape wsX7_lengthOf := goodIn_r _ [24, 3, 25, 26, 27, 28, 29, 30, 31, 32, 33, 34, 35, 36, 37, 38, 39, 40, 41, 42, 43, 44, 45] (by decide +kernel) (by decide +kernel)
set_option maxRecDepth 20000 in
theorem gX7_loadTape_X7_lengthOf : GoodIn wsX7_loadTape (wsV RX7 184 RX7 yX7_lengthOf wsX7_lengthOf) := goodIn_app (goodIn_of _ (by decide +kernel)) ggX7_loadTape_X7_lengthOf
theorem dX7_loadTape_0 : decode cX7_loadTape 0 = .ok (.aload_n 0, 1) := by decide +kernel
theorem dX7_loadTape_1 : decode cX7_loadTape 1 = .ok (.iconst 0, 1) := by decide +kernel
theorem dX7_loadTape_2 : decode cX7_loadTape 2 = .ok (.putfield 1, 3) := by decide +kernel
theorem dX7_loadTape_5 : decode cX7_loadTape 5 = .ok (.aload_n 0, 1) := by decide +kernel
theorem dX7_loadTape_6 : decode cX7_loadTape 6 = .ok (.iload_n 1, 1) := by decide +kernel
theorem dX7_loadTape_7 : decode cX7_loadTape 7 = .ok (.invokevirtual 56, 3) := by decide +kernel
theorem dX7_loadTape_10 : decode cX7_loadTape 10 = .ok (.ifCond .ne 29, 3) := by decide +kernel
theorem dX7_loadTape_13 : decode cX7_loadTape 13 = .ok (.aload_n 0, 1) := by decide +kernel
theorem dX7_loadTape_14 : decode cX7_loadTape 14 = .ok (.bipush 8, 2) := by decide +kernel
theorem dX7_loadTape_16 : decode cX7_loadTape 16 = .ok (.aload_n 0, 1) := by decide +kernel
theorem dX7_loadTape_17 : decode cX7_loadTape 17 = .ok (.getfield 67, 3) := by decide +kernel
theorem dX7_loadTape_20 : decode cX7_loadTape 20 = .ok (.imul, 1) := by decide +kernel
theorem dX7_loadTape_21 : decode cX7_loadTape 21 = .ok (.sipush 1024, 3) := by decide +kernel
theorem dX7_loadTape_24 : decode cX7_loadTape 24 = .ok (.if_icmp .gt 7, 3) := by decide +kernel
theorem dX7_loadTape_27 : decode cX7_loadTape 27 = .ok (.iconst 1, 1) := by decide +kernel
theorem dX7_loadTape_28 : decode cX7_loadTape 28 = .ok (.goto 4, 3) := by decide +kernel
theorem dX7_loadTape_31 : decode cX7_loadTape 31 = .ok (.iconst 0, 1) := by decide +kernel
theorem dX7_loadTape_32 : decode cX7_loadTape 32 = .ok (.iconst 2, 1) := by decide +kernel
theorem dX7_loadTape_33 : decode cX7_loadTape 33 = .ok (.invokevirtual 52, 3) := by decide +kernel
theorem dX7_loadTape_36 : decode cX7_loadTape 36 = .ok (.ifCond .eq 5, 3) := by decide +kernel
theorem dX7_loadTape_39 : decode cX7_loadTape 39 = .ok (.iconst 0, 1) := by decide +kernel
theorem dX7_loadTape_40 : decode cX7_loadTape 40 = .ok (.ireturn, 1) := by decide +kernel
theorem dX7_loadTape_41 : decode cX7_loadTape 41 = .ok (.aload_n 0, 1) := by decide +kernel
theorem dX7_loadTape_42 : decode cX7_loadTape 42 = .ok (.iload_n 1, 1) := by decide +kernel
theorem dX7_loadTape_43 : decode cX7_loadTape 43 = .ok (.invokevirtual 136, 3) := by decide +kernel
theorem dX7_loadTape_46 : decode cX7_loadTape 46 = .ok (.iconst 0, 1) := by decide +kernel
theorem dX7_loadTape_47 : decode cX7_loadTape 47 = .ok (.istore_n 2, 1) := by decide +kernel
theorem dX7_loadTape_48 : decode cX7_loadTape 48 = .ok (.iload_n 2, 1) := by decide +kernel
theorem dX7_loadTape_49 : decode cX7_loadTape 49 = .ok (.bipush 8, 2) := by decide +kernel
theorem dX7_loadTape_51 : decode cX7_loadTape 51 = .ok (.aload_n 0, 1) := by decide +kernel
theorem dX7_loadTape_52 : decode cX7_loadTape 52 = .ok (.getfield 67, 3) := by decide +kernel
theorem dX7_loadTape_55 : decode cX7_loadTape 55 = .ok (.imul, 1) := by decide +kernel
theorem dX7_loadTape_56 : decode cX7_loadTape 56 = .ok (.if_icmp .ge 46, 3) := by decide +kernel
theorem dX7_loadTape_59 : decode cX7_loadTape 59 = .ok (.aload_n 0, 1) := by decide +kernel
theorem dX7_loadTape_60 : decode cX7_loadTape 60 = .ok (.getfield 13, 3) := by decide +kernel
theorem dX7_loadTape_63 : decode cX7_loadTape 63 = .ok (.sipush 1024, 3) := by decide +kernel
theorem dX7_loadTape_66 : decode cX7_loadTape 66 = .ok (.iload_n 1, 1) := by decide +kernel
theorem dX7_loadTape_67 : decode cX7_loadTape 67 = .ok (.imul, 1) := by decide +kernel
theorem dX7_loadTape_68 : decode cX7_loadTape 68 = .ok (.iload_n 2, 1) := by decide +kernel
theorem dX7_loadTape_69 : decode cX7_loadTape 69 = .ok (.iadd, 1) := by decide +kernel
theorem dX7_loadTape_70 : decode cX7_loadTape 70 = .ok (.aload_n 0, 1) := by decide +kernel
theorem dX7_loadTape_71 : decode cX7_loadTape 71 = .ok (.getfield 17, 3) := by decide +kernel
theorem dX7_loadTape_74 : decode cX7_loadTape 74 = .ok (.iload_n 2, 1) := by decide +kernel
theorem dX7_loadTape_75 : decode cX7_loadTape 75 = .ok (.bipush 8, 2) := by decide +kernel
theorem dX7_loadTape_77 : decode cX7_loadTape 77 = .ok (.idiv, 1) := by decide +kernel
theorem dX7_loadTape_78 : decode cX7_loadTape 78 = .ok (.iaload, 1) := by decide +kernel
theorem dX7_loadTape_79 : decode cX7_loadTape 79 = .ok (.iload_n 2, 1) := by decide +kernel
theorem dX7_loadTape_80 : decode cX7_loadTape 80 = .ok (.bipush 8, 2) := by decide +kernel
theorem dX7_loadTape_82 : decode cX7_loadTape 82 = .ok (.irem, 1) := by decide +kernel
theorem dX7_loadTape_83 : decode cX7_loadTape 83 = .ok (.ishr, 1) := by decide +kernel
theorem dX7_loadTape_84 : decode cX7_loadTape 84 = .ok (.iconst 1, 1) := by decide +kernel
theorem dX7_loadTape_85 : decode cX7_loadTape 85 = .ok (.iand, 1) := by decide +kernel
theorem dX7_loadTape_86 : decode cX7_loadTape 86 = .ok (.iconst 1, 1) := by decide +kernel
theorem dX7_loadTape_87 : decode cX7_loadTape 87 = .ok (.if_icmp .ne 7, 3) := by decide +kernel
theorem dX7_loadTape_90 : decode cX7_loadTape 90 = .ok (.iconst 1, 1) := by decide +kernel
theorem dX7_loadTape_91 : decode cX7_loadTape 91 = .ok (.goto 4, 3) := by decide +kernel
theorem dX7_loadTape_94 : decode cX7_loadTape 94 = .ok (.iconst 0, 1) := by decide +kernel
theorem dX7_loadTape_95 : decode cX7_loadTape 95 = .ok (.bastore, 1) := by decide +kernel
theorem dX7_loadTape_96 : decode cX7_loadTape 96 = .ok (.iinc 2 1, 3) := by decide +kernel
theorem dX7_loadTape_99 : decode cX7_loadTape 99 = .ok (.goto (-51), 3) := by decide +kernel
theorem dX7_loadTape_102 : decode cX7_loadTape 102 = .ok (.aload_n 0, 1) := by decide +kernel
theorem dX7_loadTape_103 : decode cX7_loadTape 103 = .ok (.iconst 0, 1) := by decide +kernel
theorem dX7_loadTape_104 : decode cX7_loadTape 104 = .ok (.putfield 67, 3) := by decide +kernel
theorem dX7_loadTape_107 : decode cX7_loadTape 107 = .ok (.aload_n 0, 1) := by decide +kernel
theorem dX7_loadTape_108 : decode cX7_loadTape 108 = .ok (.iload_n 1, 1) := by decide +kernel
theorem dX7_loadTape_109 : decode cX7_loadTape 109 = .ok (.invokevirtual 184, 3) := by decide +kernel
theorem dX7_loadTape_112 : decode cX7_loadTape 112 = .ok (.ireturn, 1) := by decide +kernel
set_option maxRecDepth 20000 in
theorem ggX7_wordCount_X7_noSet : GoodIn wsX7_wordCount wsX7_noSet := goodIn_r _ [6, 7, 8, 5, 9, 10, 11, 12, 13, 1, 19, 20, 21, 22, 23, 24, 25, 26, 27, 28, 29, 30, 31, 32, 33, 34, 35, 36, 37, 38, 39] (by decide +kernel) (by decide +kernel)
set_option maxRecDepth 20000 in
theorem gX7_wordCount_X7_noSet : GoodIn wsX7_wordCount (wsV RX7 56 RX7 yX7_noSet wsX7_noSet) := goodIn_app (goodIn_of _ (by decide +kernel)) ggX7_wordCount_X7_noSet
set_option maxRecDepth 20000 in
theorem ggX7_wordCount_X7_lengthOf : GoodIn wsX7_wordCount wsX7_lengthOf := goodIn_r _ [17, 18, 19, 20, 21, 22, 23, 24, 25, 26, 27, 28, 29, 30, 31, 32, 33, 34, 35, 36, 37, 38, 39] (by decide +kernel) (by decide +kernel)
set_option maxRecDepth 20000 in
theorem gX7_wordCount_X7_lengthOf : GoodIn wsX7_wordCount (wsV RX7 184 RX7 yX7_lengthOf wsX7_lengthOf) := goodIn_app (goodIn_of _ (by decide +kernel)) ggX7_wordCount_X7_lengthOf
theorem dX7_wordCount_0 : decode cX7_wordCount 0 = .ok (.aload_n 0, 1) := by decide +kernel
theorem dX7_wordCount_1 : decode cX7_wordCount 1 = .ok (.iconst 0, 1) := by decide +kernel
theorem dX7_wordCount_2 : decode cX7_wordCount 2 = .ok (.putfield 1, 3) := by decide +kernel
theorem dX7_wordCount_5 : decode cX7_wordCount 5 = .ok (.aload_n 0, 1) := by decide +kernel
theorem dX7_wordCount_6 : decode cX7_wordCount 6 = .ok (.iload_n 1, 1) := by decide +kernel
theorem dX7_wordCount_7 : decode cX7_wordCount 7 = .ok (.invokevirtual 56, 3) := by decide +kernel
theorem dX7_wordCount_10 : decode cX7_wordCount 10 = .ok (.ifCond .eq 7, 3) := by decide +kernel
theorem dX7_wordCount_13 : decode cX7_wordCount 13 = .ok (.iconst 0, 1) := by decide +kernel
theorem dX7_wordCount_14 : decode cX7_wordCount 14 = .ok (.goto 14, 3) := by decide +kernel
theorem dX7_wordCount_17 : decode cX7_wordCount 17 = .ok (.aload_n 0, 1) := by decide +kernel
theorem dX7_wordCount_18 : decode cX7_wordCount 18 = .ok (.iload_n 1, 1) := by decide +kernel
theorem dX7_wordCount_19 : decode cX7_wordCount 19 = .ok (.invokevirtual 184, 3) := by decide +kernel
theorem dX7_wordCount_22 : decode cX7_wordCount 22 = .ok (.bipush 63, 2) := by decide +kernel
theorem dX7_wordCount_24 : decode cX7_wordCount 24 = .ok (.iadd, 1) := by decide +kernel
theorem dX7_wordCount_25 : decode cX7_wordCount 25 = .ok (.bipush 64, 2) := by decide +kernel
theorem dX7_wordCount_27 : decode cX7_wordCount 27 = .ok (.idiv, 1) := by decide +kernel
theorem dX7_wordCount_28 : decode cX7_wordCount 28 = .ok (.ireturn, 1) := by decide +kernel
theorem dX7_told_0 : decode cX7_told 0 = .ok (.lconst 0, 1) := by decide +kernel
theorem dX7_told_1 : decode cX7_told 1 = .ok (.lstore 4, 2) := by decide +kernel
theorem dX7_told_3 : decode cX7_told 3 = .ok (.iload_n 3, 1) := by decide +kernel
theorem dX7_told_4 : decode cX7_told 4 = .ok (.iconst 1, 1) := by decide +kernel
theorem dX7_told_5 : decode cX7_told 5 = .ok (.isub, 1) := by decide +kernel
theorem dX7_told_6 : decode cX7_told 6 = .ok (.istore 6, 2) := by decide +kernel
theorem dX7_told_8 : decode cX7_told 8 = .ok (.iload 6, 2) := by decide +kernel
theorem dX7_told_10 : decode cX7_told 10 = .ok (.ifCond .lt 41, 3) := by decide +kernel
theorem dX7_told_13 : decode cX7_told 13 = .ok (.ldc2_w 187, 3) := by decide +kernel
theorem dX7_told_16 : decode cX7_told 16 = .ok (.lload 4, 2) := by decide +kernel
theorem dX7_told_18 : decode cX7_told 18 = .ok (.lmul, 1) := by decide +kernel
theorem dX7_told_19 : decode cX7_told 19 = .ok (.aload_n 0, 1) := by decide +kernel
theorem dX7_told_20 : decode cX7_told 20 = .ok (.getfield 13, 3) := by decide +kernel
theorem dX7_told_23 : decode cX7_told 23 = .ok (.sipush 1024, 3) := by decide +kernel
theorem dX7_told_26 : decode cX7_told 26 = .ok (.iload_n 1, 1) := by decide +kernel
theorem dX7_told_27 : decode cX7_told 27 = .ok (.imul, 1) := by decide +kernel
theorem dX7_told_28 : decode cX7_told 28 = .ok (.iload_n 2, 1) := by decide +kernel
theorem dX7_told_29 : decode cX7_told 29 = .ok (.iadd, 1) := by decide +kernel
theorem dX7_told_30 : decode cX7_told 30 = .ok (.iload 6, 2) := by decide +kernel
theorem dX7_told_32 : decode cX7_told 32 = .ok (.iadd, 1) := by decide +kernel
theorem dX7_told_33 : decode cX7_told 33 = .ok (.baload, 1) := by decide +kernel
theorem dX7_told_34 : decode cX7_told 34 = .ok (.ifCond .eq 7, 3) := by decide +kernel
theorem dX7_told_37 : decode cX7_told 37 = .ok (.lconst 1, 1) := by decide +kernel
theorem dX7_told_38 : decode cX7_told 38 = .ok (.goto 4, 3) := by decide +kernel
theorem dX7_told_41 : decode cX7_told 41 = .ok (.lconst 0, 1) := by decide +kernel
theorem dX7_told_42 : decode cX7_told 42 = .ok (.ladd, 1) := by decide +kernel
theorem dX7_told_43 : decode cX7_told 43 = .ok (.lstore 4, 2) := by decide +kernel
theorem dX7_told_45 : decode cX7_told 45 = .ok (.iinc 6 (-1), 3) := by decide +kernel
theorem dX7_told_48 : decode cX7_told 48 = .ok (.goto (-40), 3) := by decide +kernel
theorem dX7_told_51 : decode cX7_told 51 = .ok (.lload 4, 2) := by decide +kernel
theorem dX7_told_53 : decode cX7_told 53 = .ok (.lreturn, 1) := by decide +kernel
set_option maxRecDepth 20000 in
theorem ggX7_wordAt_X7_noSet : GoodIn wsX7_wordAt wsX7_noSet := goodIn_r _ [6, 7, 8, 5, 9, 10, 11, 12, 13, 1, 24, 25, 26, 27, 28, 29, 30, 31, 32, 33, 34, 35, 36, 37, 38, 39, 40, 41, 42, 43, 44] (by decide +kernel) (by decide +kernel)
set_option maxRecDepth 20000 in
theorem gX7_wordAt_X7_noSet : GoodIn wsX7_wordAt (wsV RX7 56 RX7 yX7_noSet wsX7_noSet) := goodIn_app (goodIn_of _ (by decide +kernel)) ggX7_wordAt_X7_noSet
set_option maxRecDepth 20000 in
theorem ggX7_wordAt_X7_lengthOf : GoodIn wsX7_wordAt wsX7_lengthOf := goodIn_r _ [17, 18, 24, 25, 26, 27, 28, 29, 30, 31, 32, 33, 34, 35, 36, 37, 38, 39, 40, 41, 42, 43, 44] (by decide +kernel) (by decide +kernel)
set_option maxRecDepth 20000 in
theorem gX7_wordAt_X7_lengthOf : GoodIn wsX7_wordAt (wsV RX7 184 RX7 yX7_lengthOf wsX7_lengthOf) := goodIn_app (goodIn_of _ (by decide +kernel)) ggX7_wordAt_X7_lengthOf
set_option maxRecDepth 20000 in
theorem ggX7_wordAt_X7_in : GoodIn wsX7_wordAt wsX7_in := goodIn_r _ [9] (by decide +kernel) (by decide +kernel)
set_option maxRecDepth 20000 in
theorem gX7_wordAt_X7_in : GoodIn wsX7_wordAt (va_wsS RX7 48 yX7_in wsX7_in) := goodIn_app (goodIn_of _ (by decide +kernel)) ggX7_wordAt_X7_in
set_option maxRecDepth 20000 in
theorem ggX7_wordAt_X7_fails : GoodIn wsX7_wordAt wsX7_fails := goodIn_r _ [13, 1, 24, 25, 26, 27, 28, 29, 30, 31, 32, 33, 34, 35, 36, 37, 38, 39, 40, 41, 42, 43, 44] (by decide +kernel) (by decide +kernel)
set_option maxRecDepth 20000 in
theorem gX7_wordAt_X7_fails : GoodIn wsX7_wordAt (wsV RX7 52 RX7 yX7_fails wsX7_fails) := goodIn_app (goodIn_of _ (by decide +kernel)) ggX7_wordAt_X7_fails
set_option maxRecDepth 20000 in
theorem ggX7_wordAt_X7_told : GoodIn wsX7_wordAt wsX7_told := goodIn_r _ [22, 23, 18, 24, 25, 26, 27, 28, 29, 30, 31, 32, 33, 34, 35, 36, 37, 38, 39, 40, 41, 42, 43, 44] (by decide +kernel) (by decide +kernel)
set_option maxRecDepth 20000 in
theorem gX7_wordAt_X7_told : GoodIn wsX7_wordAt (wsV RX7 189 RX7 yX7_told wsX7_told) := goodIn_app (goodIn_of _ (by decide +kernel)) ggX7_wordAt_X7_told
theorem dX7_wordAt_0 : decode cX7_wordAt 0 = .ok (.aload_n 0, 1) := by decide +kernel
theorem dX7_wordAt_1 : decode cX7_wordAt 1 = .ok (.iconst 0, 1) := by decide +kernel
theorem dX7_wordAt_2 : decode cX7_wordAt 2 = .ok (.putfield 1, 3) := by decide +kernel
theorem dX7_wordAt_5 : decode cX7_wordAt 5 = .ok (.aload_n 0, 1) := by decide +kernel
theorem dX7_wordAt_6 : decode cX7_wordAt 6 = .ok (.iload_n 1, 1) := by decide +kernel
theorem dX7_wordAt_7 : decode cX7_wordAt 7 = .ok (.invokevirtual 56, 3) := by decide +kernel
theorem dX7_wordAt_10 : decode cX7_wordAt 10 = .ok (.ifCond .ne 29, 3) := by decide +kernel
theorem dX7_wordAt_13 : decode cX7_wordAt 13 = .ok (.aload_n 0, 1) := by decide +kernel
theorem dX7_wordAt_14 : decode cX7_wordAt 14 = .ok (.iload_n 2, 1) := by decide +kernel
theorem dX7_wordAt_15 : decode cX7_wordAt 15 = .ok (.iconst 0, 1) := by decide +kernel
theorem dX7_wordAt_16 : decode cX7_wordAt 16 = .ok (.aload_n 0, 1) := by decide +kernel
theorem dX7_wordAt_17 : decode cX7_wordAt 17 = .ok (.iload_n 1, 1) := by decide +kernel
theorem dX7_wordAt_18 : decode cX7_wordAt 18 = .ok (.invokevirtual 184, 3) := by decide +kernel
theorem dX7_wordAt_21 : decode cX7_wordAt 21 = .ok (.bipush 63, 2) := by decide +kernel
theorem dX7_wordAt_23 : decode cX7_wordAt 23 = .ok (.iadd, 1) := by decide +kernel
theorem dX7_wordAt_24 : decode cX7_wordAt 24 = .ok (.bipush 64, 2) := by decide +kernel
theorem dX7_wordAt_26 : decode cX7_wordAt 26 = .ok (.idiv, 1) := by decide +kernel
theorem dX7_wordAt_27 : decode cX7_wordAt 27 = .ok (.iconst 1, 1) := by decide +kernel
theorem dX7_wordAt_28 : decode cX7_wordAt 28 = .ok (.isub, 1) := by decide +kernel
theorem dX7_wordAt_29 : decode cX7_wordAt 29 = .ok (.invokestatic 48, 3) := by decide +kernel
theorem dX7_wordAt_32 : decode cX7_wordAt 32 = .ok (.iconst 2, 1) := by decide +kernel
theorem dX7_wordAt_33 : decode cX7_wordAt 33 = .ok (.invokevirtual 52, 3) := by decide +kernel
theorem dX7_wordAt_36 : decode cX7_wordAt 36 = .ok (.ifCond .eq 5, 3) := by decide +kernel
theorem dX7_wordAt_39 : decode cX7_wordAt 39 = .ok (.lconst 0, 1) := by decide +kernel
theorem dX7_wordAt_40 : decode cX7_wordAt 40 = .ok (.lreturn, 1) := by decide +kernel
theorem dX7_wordAt_41 : decode cX7_wordAt 41 = .ok (.aload_n 0, 1) := by decide +kernel
theorem dX7_wordAt_42 : decode cX7_wordAt 42 = .ok (.iload_n 1, 1) := by decide +kernel
theorem dX7_wordAt_43 : decode cX7_wordAt 43 = .ok (.bipush 64, 2) := by decide +kernel
theorem dX7_wordAt_45 : decode cX7_wordAt 45 = .ok (.iload_n 2, 1) := by decide +kernel
theorem dX7_wordAt_46 : decode cX7_wordAt 46 = .ok (.imul, 1) := by decide +kernel
theorem dX7_wordAt_47 : decode cX7_wordAt 47 = .ok (.bipush 64, 2) := by decide +kernel
theorem dX7_wordAt_49 : decode cX7_wordAt 49 = .ok (.invokevirtual 189, 3) := by decide +kernel
theorem dX7_wordAt_52 : decode cX7_wordAt 52 = .ok (.lreturn, 1) := by decide +kernel
set_option maxRecDepth 20000 in
theorem ggX7_byteCount_X7_noSet : GoodIn wsX7_byteCount wsX7_noSet := goodIn_r _ [6, 7, 8, 5, 9, 10, 11, 12, 13, 1, 19, 20, 21, 22, 23, 24, 25, 26, 27, 28, 29, 30, 31, 32, 33, 34, 35, 36, 37, 38, 39] (by decide +kernel) (by decide +kernel)
set_option maxRecDepth 20000 in
theorem gX7_byteCount_X7_noSet : GoodIn wsX7_byteCount (wsV RX7 56 RX7 yX7_noSet wsX7_noSet) := goodIn_app (goodIn_of _ (by decide +kernel)) ggX7_byteCount_X7_noSet
set_option maxRecDepth 20000 in
theorem ggX7_byteCount_X7_lengthOf : GoodIn wsX7_byteCount wsX7_lengthOf := goodIn_r _ [17, 18, 19, 20, 21, 22, 23, 24, 25, 26, 27, 28, 29, 30, 31, 32, 33, 34, 35, 36, 37, 38, 39] (by decide +kernel) (by decide +kernel)
set_option maxRecDepth 20000 in
theorem gX7_byteCount_X7_lengthOf : GoodIn wsX7_byteCount (wsV RX7 184 RX7 yX7_lengthOf wsX7_lengthOf) := goodIn_app (goodIn_of _ (by decide +kernel)) ggX7_byteCount_X7_lengthOf
theorem dX7_byteCount_0 : decode cX7_byteCount 0 = .ok (.aload_n 0, 1) := by decide +kernel
theorem dX7_byteCount_1 : decode cX7_byteCount 1 = .ok (.iconst 0, 1) := by decide +kernel
theorem dX7_byteCount_2 : decode cX7_byteCount 2 = .ok (.putfield 1, 3) := by decide +kernel
theorem dX7_byteCount_5 : decode cX7_byteCount 5 = .ok (.aload_n 0, 1) := by decide +kernel
theorem dX7_byteCount_6 : decode cX7_byteCount 6 = .ok (.iload_n 1, 1) := by decide +kernel
theorem dX7_byteCount_7 : decode cX7_byteCount 7 = .ok (.invokevirtual 56, 3) := by decide +kernel
theorem dX7_byteCount_10 : decode cX7_byteCount 10 = .ok (.ifCond .eq 7, 3) := by decide +kernel
theorem dX7_byteCount_13 : decode cX7_byteCount 13 = .ok (.iconst 0, 1) := by decide +kernel
theorem dX7_byteCount_14 : decode cX7_byteCount 14 = .ok (.goto 14, 3) := by decide +kernel
theorem dX7_byteCount_17 : decode cX7_byteCount 17 = .ok (.aload_n 0, 1) := by decide +kernel
theorem dX7_byteCount_18 : decode cX7_byteCount 18 = .ok (.iload_n 1, 1) := by decide +kernel
theorem dX7_byteCount_19 : decode cX7_byteCount 19 = .ok (.invokevirtual 184, 3) := by decide +kernel
theorem dX7_byteCount_22 : decode cX7_byteCount 22 = .ok (.bipush 7, 2) := by decide +kernel
theorem dX7_byteCount_24 : decode cX7_byteCount 24 = .ok (.iadd, 1) := by decide +kernel
theorem dX7_byteCount_25 : decode cX7_byteCount 25 = .ok (.bipush 8, 2) := by decide +kernel
theorem dX7_byteCount_27 : decode cX7_byteCount 27 = .ok (.idiv, 1) := by decide +kernel
theorem dX7_byteCount_28 : decode cX7_byteCount 28 = .ok (.ireturn, 1) := by decide +kernel
set_option maxRecDepth 20000 in
theorem ggX7_byteAt_X7_noSet : GoodIn wsX7_byteAt wsX7_noSet := goodIn_r _ [6, 7, 8, 5, 9, 10, 11, 12, 13, 1, 24, 25, 26, 27, 28, 29, 30, 31, 32, 33, 34, 35, 36, 37, 38, 39, 40, 41, 42, 43, 44] (by decide +kernel) (by decide +kernel)
set_option maxRecDepth 20000 in
theorem gX7_byteAt_X7_noSet : GoodIn wsX7_byteAt (wsV RX7 56 RX7 yX7_noSet wsX7_noSet) := goodIn_app (goodIn_of _ (by decide +kernel)) ggX7_byteAt_X7_noSet
set_option maxRecDepth 20000 in
theorem ggX7_byteAt_X7_lengthOf : GoodIn wsX7_byteAt wsX7_lengthOf := goodIn_r _ [17, 18, 24, 25, 26, 27, 28, 29, 30, 31, 32, 33, 34, 35, 36, 37, 38, 39, 40, 41, 42, 43, 44] (by decide +kernel) (by decide +kernel)
set_option maxRecDepth 20000 in
theorem gX7_byteAt_X7_lengthOf : GoodIn wsX7_byteAt (wsV RX7 184 RX7 yX7_lengthOf wsX7_lengthOf) := goodIn_app (goodIn_of _ (by decide +kernel)) ggX7_byteAt_X7_lengthOf
set_option maxRecDepth 20000 in
theorem ggX7_byteAt_X7_in : GoodIn wsX7_byteAt wsX7_in := goodIn_r _ [9] (by decide +kernel) (by decide +kernel)
set_option maxRecDepth 20000 in
theorem gX7_byteAt_X7_in : GoodIn wsX7_byteAt (va_wsS RX7 48 yX7_in wsX7_in) := goodIn_app (goodIn_of _ (by decide +kernel)) ggX7_byteAt_X7_in
set_option maxRecDepth 20000 in
theorem ggX7_byteAt_X7_fails : GoodIn wsX7_byteAt wsX7_fails := goodIn_r _ [13, 1, 24, 25, 26, 27, 28, 29, 30, 31, 32, 33, 34, 35, 36, 37, 38, 39, 40, 41, 42, 43, 44] (by decide +kernel) (by decide +kernel)
set_option maxRecDepth 20000 in
theorem gX7_byteAt_X7_fails : GoodIn wsX7_byteAt (wsV RX7 52 RX7 yX7_fails wsX7_fails) := goodIn_app (goodIn_of _ (by decide +kernel)) ggX7_byteAt_X7_fails
set_option maxRecDepth 20000 in
theorem ggX7_byteAt_X7_told : GoodIn wsX7_byteAt wsX7_told := goodIn_r _ [22, 23, 18, 24, 25, 26, 27, 28, 29, 30, 31, 32, 33, 34, 35, 36, 37, 38, 39, 40, 41, 42, 43, 44] (by decide +kernel) (by decide +kernel)
set_option maxRecDepth 20000 in
theorem gX7_byteAt_X7_told : GoodIn wsX7_byteAt (wsV RX7 189 RX7 yX7_told wsX7_told) := goodIn_app (goodIn_of _ (by decide +kernel)) ggX7_byteAt_X7_told
theorem dX7_byteAt_0 : decode cX7_byteAt 0 = .ok (.aload_n 0, 1) := by decide +kernel
theorem dX7_byteAt_1 : decode cX7_byteAt 1 = .ok (.iconst 0, 1) := by decide +kernel
theorem dX7_byteAt_2 : decode cX7_byteAt 2 = .ok (.putfield 1, 3) := by decide +kernel
theorem dX7_byteAt_5 : decode cX7_byteAt 5 = .ok (.aload_n 0, 1) := by decide +kernel
theorem dX7_byteAt_6 : decode cX7_byteAt 6 = .ok (.iload_n 1, 1) := by decide +kernel
theorem dX7_byteAt_7 : decode cX7_byteAt 7 = .ok (.invokevirtual 56, 3) := by decide +kernel
theorem dX7_byteAt_10 : decode cX7_byteAt 10 = .ok (.ifCond .ne 29, 3) := by decide +kernel
theorem dX7_byteAt_13 : decode cX7_byteAt 13 = .ok (.aload_n 0, 1) := by decide +kernel
theorem dX7_byteAt_14 : decode cX7_byteAt 14 = .ok (.iload_n 2, 1) := by decide +kernel
theorem dX7_byteAt_15 : decode cX7_byteAt 15 = .ok (.iconst 0, 1) := by decide +kernel
theorem dX7_byteAt_16 : decode cX7_byteAt 16 = .ok (.aload_n 0, 1) := by decide +kernel
theorem dX7_byteAt_17 : decode cX7_byteAt 17 = .ok (.iload_n 1, 1) := by decide +kernel
theorem dX7_byteAt_18 : decode cX7_byteAt 18 = .ok (.invokevirtual 184, 3) := by decide +kernel
theorem dX7_byteAt_21 : decode cX7_byteAt 21 = .ok (.bipush 7, 2) := by decide +kernel
theorem dX7_byteAt_23 : decode cX7_byteAt 23 = .ok (.iadd, 1) := by decide +kernel
theorem dX7_byteAt_24 : decode cX7_byteAt 24 = .ok (.bipush 8, 2) := by decide +kernel
theorem dX7_byteAt_26 : decode cX7_byteAt 26 = .ok (.idiv, 1) := by decide +kernel
theorem dX7_byteAt_27 : decode cX7_byteAt 27 = .ok (.iconst 1, 1) := by decide +kernel
theorem dX7_byteAt_28 : decode cX7_byteAt 28 = .ok (.isub, 1) := by decide +kernel
theorem dX7_byteAt_29 : decode cX7_byteAt 29 = .ok (.invokestatic 48, 3) := by decide +kernel
theorem dX7_byteAt_32 : decode cX7_byteAt 32 = .ok (.iconst 2, 1) := by decide +kernel
theorem dX7_byteAt_33 : decode cX7_byteAt 33 = .ok (.invokevirtual 52, 3) := by decide +kernel
theorem dX7_byteAt_36 : decode cX7_byteAt 36 = .ok (.ifCond .eq 5, 3) := by decide +kernel
theorem dX7_byteAt_39 : decode cX7_byteAt 39 = .ok (.iconst 0, 1) := by decide +kernel
theorem dX7_byteAt_40 : decode cX7_byteAt 40 = .ok (.ireturn, 1) := by decide +kernel
theorem dX7_byteAt_41 : decode cX7_byteAt 41 = .ok (.aload_n 0, 1) := by decide +kernel
theorem dX7_byteAt_42 : decode cX7_byteAt 42 = .ok (.iload_n 1, 1) := by decide +kernel
theorem dX7_byteAt_43 : decode cX7_byteAt 43 = .ok (.bipush 8, 2) := by decide +kernel
theorem dX7_byteAt_45 : decode cX7_byteAt 45 = .ok (.iload_n 2, 1) := by decide +kernel
theorem dX7_byteAt_46 : decode cX7_byteAt 46 = .ok (.imul, 1) := by decide +kernel
theorem dX7_byteAt_47 : decode cX7_byteAt 47 = .ok (.bipush 8, 2) := by decide +kernel
theorem dX7_byteAt_49 : decode cX7_byteAt 49 = .ok (.invokevirtual 189, 3) := by decide +kernel
theorem dX7_byteAt_52 : decode cX7_byteAt 52 = .ok (.l2i, 1) := by decide +kernel
theorem dX7_byteAt_53 : decode cX7_byteAt 53 = .ok (.ireturn, 1) := by decide +kernel
set_option maxRecDepth 20000 in
theorem ggX7_fingerprint_X7_noSet : GoodIn wsX7_fingerprint wsX7_noSet := goodIn_r _ [7, 8, 9, 6, 10, 11, 12, 13, 14, 1, 21, 22, 23, 24, 25, 26, 27, 28, 29, 30, 31, 32, 33, 34, 35, 36, 37, 38, 39, 40, 41] (by decide +kernel) (by decide +kernel)
set_option maxRecDepth 20000 in
theorem gX7_fingerprint_X7_noSet : GoodIn wsX7_fingerprint (wsV RX7 56 RX7 yX7_noSet wsX7_noSet) := goodIn_app (goodIn_of _ (by decide +kernel)) ggX7_fingerprint_X7_noSet
set_option maxRecDepth 20000 in
theorem ggX7_fingerprint_X7_told : GoodIn wsX7_fingerprint wsX7_told := goodIn_r _ [18, 19, 20, 21, 22, 23, 24, 25, 26, 27, 28, 29, 30, 31, 32, 33, 34, 35, 36, 37, 38, 39, 40, 41] (by decide +kernel) (by decide +kernel)
set_option maxRecDepth 20000 in
theorem gX7_fingerprint_X7_told : GoodIn wsX7_fingerprint (wsV RX7 189 RX7 yX7_told wsX7_told) := goodIn_app (goodIn_of _ (by decide +kernel)) ggX7_fingerprint_X7_told
theorem dX7_fingerprint_0 : decode cX7_fingerprint 0 = .ok (.aload_n 0, 1) := by decide +kernel
theorem dX7_fingerprint_1 : decode cX7_fingerprint 1 = .ok (.iconst 0, 1) := by decide +kernel
theorem dX7_fingerprint_2 : decode cX7_fingerprint 2 = .ok (.putfield 1, 3) := by decide +kernel
theorem dX7_fingerprint_5 : decode cX7_fingerprint 5 = .ok (.aload_n 0, 1) := by decide +kernel
theorem dX7_fingerprint_6 : decode cX7_fingerprint 6 = .ok (.iload_n 1, 1) := by decide +kernel
theorem dX7_fingerprint_7 : decode cX7_fingerprint 7 = .ok (.invokevirtual 56, 3) := by decide +kernel
theorem dX7_fingerprint_10 : decode cX7_fingerprint 10 = .ok (.ifCond .eq 5, 3) := by decide +kernel
theorem dX7_fingerprint_13 : decode cX7_fingerprint 13 = .ok (.iconst 0, 1) := by decide +kernel
theorem dX7_fingerprint_14 : decode cX7_fingerprint 14 = .ok (.ireturn, 1) := by decide +kernel
theorem dX7_fingerprint_15 : decode cX7_fingerprint 15 = .ok (.ldc2_w 193, 3) := by decide +kernel
theorem dX7_fingerprint_18 : decode cX7_fingerprint 18 = .ok (.lstore_n 2, 1) := by decide +kernel
theorem dX7_fingerprint_19 : decode cX7_fingerprint 19 = .ok (.bipush 15, 2) := by decide +kernel
theorem dX7_fingerprint_21 : decode cX7_fingerprint 21 = .ok (.istore 4, 2) := by decide +kernel
theorem dX7_fingerprint_23 : decode cX7_fingerprint 23 = .ok (.iload 4, 2) := by decide +kernel
theorem dX7_fingerprint_25 : decode cX7_fingerprint 25 = .ok (.ifCond .lt 30, 3) := by decide +kernel
theorem dX7_fingerprint_28 : decode cX7_fingerprint 28 = .ok (.lload_n 2, 1) := by decide +kernel
theorem dX7_fingerprint_29 : decode cX7_fingerprint 29 = .ok (.aload_n 0, 1) := by decide +kernel
theorem dX7_fingerprint_30 : decode cX7_fingerprint 30 = .ok (.iload_n 1, 1) := by decide +kernel
theorem dX7_fingerprint_31 : decode cX7_fingerprint 31 = .ok (.bipush 64, 2) := by decide +kernel
theorem dX7_fingerprint_33 : decode cX7_fingerprint 33 = .ok (.iload 4, 2) := by decide +kernel
theorem dX7_fingerprint_35 : decode cX7_fingerprint 35 = .ok (.imul, 1) := by decide +kernel
theorem dX7_fingerprint_36 : decode cX7_fingerprint 36 = .ok (.bipush 64, 2) := by decide +kernel
theorem dX7_fingerprint_38 : decode cX7_fingerprint 38 = .ok (.invokevirtual 189, 3) := by decide +kernel
theorem dX7_fingerprint_41 : decode cX7_fingerprint 41 = .ok (.iload 4, 2) := by decide +kernel
theorem dX7_fingerprint_43 : decode cX7_fingerprint 43 = .ok (.iconst 1, 1) := by decide +kernel
theorem dX7_fingerprint_44 : decode cX7_fingerprint 44 = .ok (.iadd, 1) := by decide +kernel
theorem dX7_fingerprint_45 : decode cX7_fingerprint 45 = .ok (.i2l, 1) := by decide +kernel
theorem dX7_fingerprint_46 : decode cX7_fingerprint 46 = .ok (.lmul, 1) := by decide +kernel
theorem dX7_fingerprint_47 : decode cX7_fingerprint 47 = .ok (.lxor, 1) := by decide +kernel
theorem dX7_fingerprint_48 : decode cX7_fingerprint 48 = .ok (.lstore_n 2, 1) := by decide +kernel
theorem dX7_fingerprint_49 : decode cX7_fingerprint 49 = .ok (.iinc 4 (-1), 3) := by decide +kernel
theorem dX7_fingerprint_52 : decode cX7_fingerprint 52 = .ok (.goto (-29), 3) := by decide +kernel
theorem dX7_fingerprint_55 : decode cX7_fingerprint 55 = .ok (.lload_n 2, 1) := by decide +kernel
theorem dX7_fingerprint_56 : decode cX7_fingerprint 56 = .ok (.bipush 32, 2) := by decide +kernel
theorem dX7_fingerprint_58 : decode cX7_fingerprint 58 = .ok (.lshr, 1) := by decide +kernel
theorem dX7_fingerprint_59 : decode cX7_fingerprint 59 = .ok (.lload_n 2, 1) := by decide +kernel
theorem dX7_fingerprint_60 : decode cX7_fingerprint 60 = .ok (.lxor, 1) := by decide +kernel
theorem dX7_fingerprint_61 : decode cX7_fingerprint 61 = .ok (.l2i, 1) := by decide +kernel
theorem dX7_fingerprint_62 : decode cX7_fingerprint 62 = .ok (.ireturn, 1) := by decide +kernel
set_option maxRecDepth 20000 in
theorem ggX7_has_X7_noSet : GoodIn wsX7_has wsX7_noSet := goodIn_r _ [6, 7, 8, 5, 9, 10, 11, 12, 13, 1, 24, 25, 26, 27, 28, 29, 30, 31, 32, 33, 34, 35, 36, 37, 38, 39, 40, 41, 42, 43, 44] (by decide +kernel) (by decide +kernel)
set_option maxRecDepth 20000 in
theorem gX7_has_X7_noSet : GoodIn wsX7_has (wsV RX7 56 RX7 yX7_noSet wsX7_noSet) := goodIn_app (goodIn_of _ (by decide +kernel)) ggX7_has_X7_noSet
set_option maxRecDepth 20000 in
theorem ggX7_has_X7_isBelow : GoodIn wsX7_has wsX7_isBelow := goodIn_r _ [17, 1, 18, 24, 25, 26, 27, 28, 29, 30, 31, 32, 33, 34, 35, 36, 37, 38, 39, 40, 41, 42, 43, 44] (by decide +kernel) (by decide +kernel)
set_option maxRecDepth 20000 in
theorem gX7_has_X7_isBelow : GoodIn wsX7_has (wsV RX7 149 RX7 yX7_isBelow wsX7_isBelow) := goodIn_app (goodIn_of _ (by decide +kernel)) ggX7_has_X7_isBelow
set_option maxRecDepth 20000 in
theorem ggX7_has_X7_isIn : GoodIn wsX7_has wsX7_isIn := goodIn_r _ [22, 23, 24, 25, 26, 27, 28, 29, 30, 31, 32, 33, 34, 35, 36, 37, 38, 39, 40, 41, 42, 43, 44] (by decide +kernel) (by decide +kernel)
set_option maxRecDepth 20000 in
theorem gX7_has_X7_isIn : GoodIn wsX7_has (wsV RX7 155 RX7 yX7_isIn wsX7_isIn) := goodIn_app (goodIn_of _ (by decide +kernel)) ggX7_has_X7_isIn
theorem dX7_has_0 : decode cX7_has 0 = .ok (.aload_n 0, 1) := by decide +kernel
theorem dX7_has_1 : decode cX7_has 1 = .ok (.iconst 0, 1) := by decide +kernel
theorem dX7_has_2 : decode cX7_has 2 = .ok (.putfield 1, 3) := by decide +kernel
theorem dX7_has_5 : decode cX7_has 5 = .ok (.aload_n 0, 1) := by decide +kernel
theorem dX7_has_6 : decode cX7_has 6 = .ok (.iload_n 1, 1) := by decide +kernel
theorem dX7_has_7 : decode cX7_has 7 = .ok (.invokevirtual 56, 3) := by decide +kernel
theorem dX7_has_10 : decode cX7_has 10 = .ok (.ifCond .ne 25, 3) := by decide +kernel
theorem dX7_has_13 : decode cX7_has 13 = .ok (.aload_n 0, 1) := by decide +kernel
theorem dX7_has_14 : decode cX7_has 14 = .ok (.iload_n 2, 1) := by decide +kernel
theorem dX7_has_15 : decode cX7_has 15 = .ok (.iconst 0, 1) := by decide +kernel
theorem dX7_has_16 : decode cX7_has 16 = .ok (.invokevirtual 149, 3) := by decide +kernel
theorem dX7_has_19 : decode cX7_has 19 = .ok (.ifCond .ne 16, 3) := by decide +kernel
theorem dX7_has_22 : decode cX7_has 22 = .ok (.aload_n 0, 1) := by decide +kernel
theorem dX7_has_23 : decode cX7_has 23 = .ok (.iload_n 1, 1) := by decide +kernel
theorem dX7_has_24 : decode cX7_has 24 = .ok (.iload_n 2, 1) := by decide +kernel
theorem dX7_has_25 : decode cX7_has 25 = .ok (.invokevirtual 155, 3) := by decide +kernel
theorem dX7_has_28 : decode cX7_has 28 = .ok (.ifCond .eq 7, 3) := by decide +kernel
theorem dX7_has_31 : decode cX7_has 31 = .ok (.iconst 1, 1) := by decide +kernel
theorem dX7_has_32 : decode cX7_has 32 = .ok (.goto 4, 3) := by decide +kernel
theorem dX7_has_35 : decode cX7_has 35 = .ok (.iconst 0, 1) := by decide +kernel
theorem dX7_has_36 : decode cX7_has 36 = .ok (.ireturn, 1) := by decide +kernel
set_option maxRecDepth 20000 in
theorem ggX7_count_X7_noSet : GoodIn wsX7_count wsX7_noSet := goodIn_r _ [6, 7, 8, 5, 9, 10, 11, 12, 13, 1, 19, 20, 21, 22, 23, 24, 25, 26, 27, 28, 29, 30, 31, 32, 33, 34, 35, 36, 37, 38, 39] (by decide +kernel) (by decide +kernel)
set_option maxRecDepth 20000 in
theorem gX7_count_X7_noSet : GoodIn wsX7_count (wsV RX7 56 RX7 yX7_noSet wsX7_noSet) := goodIn_app (goodIn_of _ (by decide +kernel)) ggX7_count_X7_noSet
set_option maxRecDepth 20000 in
theorem ggX7_count_X7_many : GoodIn wsX7_count wsX7_many := goodIn_r _ [17, 18, 19, 20, 21, 22, 23, 24, 25, 26, 27, 28, 29, 30, 31, 32, 33, 34, 35, 36, 37, 38, 39] (by decide +kernel) (by decide +kernel)
set_option maxRecDepth 20000 in
theorem gX7_count_X7_many : GoodIn wsX7_count (wsV RX7 168 RX7 yX7_many wsX7_many) := goodIn_app (goodIn_of _ (by decide +kernel)) ggX7_count_X7_many
theorem dX7_count_0 : decode cX7_count 0 = .ok (.aload_n 0, 1) := by decide +kernel
theorem dX7_count_1 : decode cX7_count 1 = .ok (.iconst 0, 1) := by decide +kernel
theorem dX7_count_2 : decode cX7_count 2 = .ok (.putfield 1, 3) := by decide +kernel
theorem dX7_count_5 : decode cX7_count 5 = .ok (.aload_n 0, 1) := by decide +kernel
theorem dX7_count_6 : decode cX7_count 6 = .ok (.iload_n 1, 1) := by decide +kernel
theorem dX7_count_7 : decode cX7_count 7 = .ok (.invokevirtual 56, 3) := by decide +kernel
theorem dX7_count_10 : decode cX7_count 10 = .ok (.ifCond .eq 7, 3) := by decide +kernel
theorem dX7_count_13 : decode cX7_count 13 = .ok (.iconst 0, 1) := by decide +kernel
theorem dX7_count_14 : decode cX7_count 14 = .ok (.goto 8, 3) := by decide +kernel
theorem dX7_count_17 : decode cX7_count 17 = .ok (.aload_n 0, 1) := by decide +kernel
theorem dX7_count_18 : decode cX7_count 18 = .ok (.iload_n 1, 1) := by decide +kernel
theorem dX7_count_19 : decode cX7_count 19 = .ok (.invokevirtual 168, 3) := by decide +kernel
theorem dX7_count_22 : decode cX7_count 22 = .ok (.ireturn, 1) := by decide +kernel
theorem dX7_manyIn_0 : decode cX7_manyIn 0 = .ok (.iconst 0, 1) := by decide +kernel
theorem dX7_manyIn_1 : decode cX7_manyIn 1 = .ok (.istore 4, 2) := by decide +kernel
theorem dX7_manyIn_3 : decode cX7_manyIn 3 = .ok (.iload_n 2, 1) := by decide +kernel
theorem dX7_manyIn_4 : decode cX7_manyIn 4 = .ok (.istore 5, 2) := by decide +kernel
theorem dX7_manyIn_6 : decode cX7_manyIn 6 = .ok (.iload 5, 2) := by decide +kernel
theorem dX7_manyIn_8 : decode cX7_manyIn 8 = .ok (.iload_n 3, 1) := by decide +kernel
theorem dX7_manyIn_9 : decode cX7_manyIn 9 = .ok (.if_icmp .ge 43, 3) := by decide +kernel
theorem dX7_manyIn_12 : decode cX7_manyIn 12 = .ok (.iload 5, 2) := by decide +kernel
theorem dX7_manyIn_14 : decode cX7_manyIn 14 = .ok (.sipush 1024, 3) := by decide +kernel
theorem dX7_manyIn_17 : decode cX7_manyIn 17 = .ok (.if_icmp .ge 35, 3) := by decide +kernel
theorem dX7_manyIn_20 : decode cX7_manyIn 20 = .ok (.iload 4, 2) := by decide +kernel
theorem dX7_manyIn_22 : decode cX7_manyIn 22 = .ok (.aload_n 0, 1) := by decide +kernel
theorem dX7_manyIn_23 : decode cX7_manyIn 23 = .ok (.getfield 13, 3) := by decide +kernel
theorem dX7_manyIn_26 : decode cX7_manyIn 26 = .ok (.sipush 1024, 3) := by decide +kernel
theorem dX7_manyIn_29 : decode cX7_manyIn 29 = .ok (.iload_n 1, 1) := by decide +kernel
theorem dX7_manyIn_30 : decode cX7_manyIn 30 = .ok (.imul, 1) := by decide +kernel
theorem dX7_manyIn_31 : decode cX7_manyIn 31 = .ok (.iload 5, 2) := by decide +kernel
theorem dX7_manyIn_33 : decode cX7_manyIn 33 = .ok (.iadd, 1) := by decide +kernel
theorem dX7_manyIn_34 : decode cX7_manyIn 34 = .ok (.baload, 1) := by decide +kernel
theorem dX7_manyIn_35 : decode cX7_manyIn 35 = .ok (.ifCond .eq 7, 3) := by decide +kernel
theorem dX7_manyIn_38 : decode cX7_manyIn 38 = .ok (.iconst 1, 1) := by decide +kernel
theorem dX7_manyIn_39 : decode cX7_manyIn 39 = .ok (.goto 4, 3) := by decide +kernel
theorem dX7_manyIn_42 : decode cX7_manyIn 42 = .ok (.iconst 0, 1) := by decide +kernel
theorem dX7_manyIn_43 : decode cX7_manyIn 43 = .ok (.iadd, 1) := by decide +kernel
theorem dX7_manyIn_44 : decode cX7_manyIn 44 = .ok (.istore 4, 2) := by decide +kernel
theorem dX7_manyIn_46 : decode cX7_manyIn 46 = .ok (.iinc 5 1, 3) := by decide +kernel
theorem dX7_manyIn_49 : decode cX7_manyIn 49 = .ok (.goto (-43), 3) := by decide +kernel
theorem dX7_manyIn_52 : decode cX7_manyIn 52 = .ok (.iload 4, 2) := by decide +kernel
theorem dX7_manyIn_54 : decode cX7_manyIn 54 = .ok (.ireturn, 1) := by decide +kernel
set_option maxRecDepth 20000 in
theorem ggX7_countIn_X7_noSet : GoodIn wsX7_countIn wsX7_noSet := goodIn_r _ [6, 7, 8, 5, 9, 10, 11, 12, 13, 1, 27, 28, 29, 30, 31, 32, 33, 34, 35, 36, 37, 38, 39, 40, 41, 42, 43, 44, 45, 46, 47] (by decide +kernel) (by decide +kernel)
set_option maxRecDepth 20000 in
theorem gX7_countIn_X7_noSet : GoodIn wsX7_countIn (wsV RX7 56 RX7 yX7_noSet wsX7_noSet) := goodIn_app (goodIn_of _ (by decide +kernel)) ggX7_countIn_X7_noSet
set_option maxRecDepth 20000 in
theorem ggX7_countIn_X7_noRange : GoodIn wsX7_countIn wsX7_noRange := goodIn_r _ [17, 1, 18, 19, 20, 5, 21, 27, 28, 29, 30, 31, 32, 33, 34, 35, 36, 37, 38, 39, 40, 41, 42, 43, 44, 45, 46, 47] (by decide +kernel) (by decide +kernel)
set_option maxRecDepth 20000 in
theorem gX7_countIn_X7_noRange : GoodIn wsX7_countIn (wsV RX7 158 RX7 yX7_noRange wsX7_noRange) := goodIn_app (goodIn_of _ (by decide +kernel)) ggX7_countIn_X7_noRange
set_option maxRecDepth 20000 in
theorem ggX7_countIn_X7_manyIn : GoodIn wsX7_countIn wsX7_manyIn := goodIn_r _ [25, 26, 27, 28, 29, 30, 31, 32, 33, 34, 35, 36, 37, 38, 39, 40, 41, 42, 43, 44, 45, 46, 47] (by decide +kernel) (by decide +kernel)
set_option maxRecDepth 20000 in
theorem gX7_countIn_X7_manyIn : GoodIn wsX7_countIn (wsV RX7 195 RX7 yX7_manyIn wsX7_manyIn) := goodIn_app (goodIn_of _ (by decide +kernel)) ggX7_countIn_X7_manyIn
theorem dX7_countIn_0 : decode cX7_countIn 0 = .ok (.aload_n 0, 1) := by decide +kernel
theorem dX7_countIn_1 : decode cX7_countIn 1 = .ok (.iconst 0, 1) := by decide +kernel
theorem dX7_countIn_2 : decode cX7_countIn 2 = .ok (.putfield 1, 3) := by decide +kernel
theorem dX7_countIn_5 : decode cX7_countIn 5 = .ok (.aload_n 0, 1) := by decide +kernel
theorem dX7_countIn_6 : decode cX7_countIn 6 = .ok (.iload_n 1, 1) := by decide +kernel
theorem dX7_countIn_7 : decode cX7_countIn 7 = .ok (.invokevirtual 56, 3) := by decide +kernel
theorem dX7_countIn_10 : decode cX7_countIn 10 = .ok (.ifCond .ne 12, 3) := by decide +kernel
theorem dX7_countIn_13 : decode cX7_countIn 13 = .ok (.aload_n 0, 1) := by decide +kernel
theorem dX7_countIn_14 : decode cX7_countIn 14 = .ok (.iload_n 2, 1) := by decide +kernel
theorem dX7_countIn_15 : decode cX7_countIn 15 = .ok (.iload_n 3, 1) := by decide +kernel
theorem dX7_countIn_16 : decode cX7_countIn 16 = .ok (.invokevirtual 158, 3) := by decide +kernel
theorem dX7_countIn_19 : decode cX7_countIn 19 = .ok (.ifCond .eq 7, 3) := by decide +kernel
theorem dX7_countIn_22 : decode cX7_countIn 22 = .ok (.iconst 0, 1) := by decide +kernel
theorem dX7_countIn_23 : decode cX7_countIn 23 = .ok (.goto 10, 3) := by decide +kernel
theorem dX7_countIn_26 : decode cX7_countIn 26 = .ok (.aload_n 0, 1) := by decide +kernel
theorem dX7_countIn_27 : decode cX7_countIn 27 = .ok (.iload_n 1, 1) := by decide +kernel
theorem dX7_countIn_28 : decode cX7_countIn 28 = .ok (.iload_n 2, 1) := by decide +kernel
theorem dX7_countIn_29 : decode cX7_countIn 29 = .ok (.iload_n 3, 1) := by decide +kernel
theorem dX7_countIn_30 : decode cX7_countIn 30 = .ok (.invokevirtual 195, 3) := by decide +kernel
theorem dX7_countIn_33 : decode cX7_countIn 33 = .ok (.ireturn, 1) := by decide +kernel
set_option maxRecDepth 20000 in
theorem ggX7_length_X7_noSet : GoodIn wsX7_length wsX7_noSet := goodIn_r _ [6, 7, 8, 5, 9, 10, 11, 12, 13, 1, 19, 20, 21, 22, 23, 24, 25, 26, 27, 28, 29, 30, 31, 32, 33, 34, 35, 36, 37, 38, 39] (by decide +kernel) (by decide +kernel)
set_option maxRecDepth 20000 in
theorem gX7_length_X7_noSet : GoodIn wsX7_length (wsV RX7 56 RX7 yX7_noSet wsX7_noSet) := goodIn_app (goodIn_of _ (by decide +kernel)) ggX7_length_X7_noSet
set_option maxRecDepth 20000 in
theorem ggX7_length_X7_lengthOf : GoodIn wsX7_length wsX7_lengthOf := goodIn_r _ [17, 18, 19, 20, 21, 22, 23, 24, 25, 26, 27, 28, 29, 30, 31, 32, 33, 34, 35, 36, 37, 38, 39] (by decide +kernel) (by decide +kernel)
set_option maxRecDepth 20000 in
theorem gX7_length_X7_lengthOf : GoodIn wsX7_length (wsV RX7 184 RX7 yX7_lengthOf wsX7_lengthOf) := goodIn_app (goodIn_of _ (by decide +kernel)) ggX7_length_X7_lengthOf
theorem dX7_length_0 : decode cX7_length 0 = .ok (.aload_n 0, 1) := by decide +kernel
theorem dX7_length_1 : decode cX7_length 1 = .ok (.iconst 0, 1) := by decide +kernel
theorem dX7_length_2 : decode cX7_length 2 = .ok (.putfield 1, 3) := by decide +kernel
theorem dX7_length_5 : decode cX7_length 5 = .ok (.aload_n 0, 1) := by decide +kernel
theorem dX7_length_6 : decode cX7_length 6 = .ok (.iload_n 1, 1) := by decide +kernel
theorem dX7_length_7 : decode cX7_length 7 = .ok (.invokevirtual 56, 3) := by decide +kernel
theorem dX7_length_10 : decode cX7_length 10 = .ok (.ifCond .eq 7, 3) := by decide +kernel
theorem dX7_length_13 : decode cX7_length 13 = .ok (.iconst 0, 1) := by decide +kernel
theorem dX7_length_14 : decode cX7_length 14 = .ok (.goto 8, 3) := by decide +kernel
theorem dX7_length_17 : decode cX7_length 17 = .ok (.aload_n 0, 1) := by decide +kernel
theorem dX7_length_18 : decode cX7_length 18 = .ok (.iload_n 1, 1) := by decide +kernel
theorem dX7_length_19 : decode cX7_length 19 = .ok (.invokevirtual 184, 3) := by decide +kernel
theorem dX7_length_22 : decode cX7_length 22 = .ok (.ireturn, 1) := by decide +kernel
set_option maxRecDepth 20000 in
theorem ggX7_isEmpty_X7_noSet : GoodIn wsX7_isEmpty wsX7_noSet := goodIn_r _ [6, 7, 8, 5, 9, 10, 11, 12, 13, 1, 19, 20, 21, 22, 23, 24, 25, 26, 27, 28, 29, 30, 31, 32, 33, 34, 35, 36, 37, 38, 39] (by decide +kernel) (by decide +kernel)
set_option maxRecDepth 20000 in
theorem gX7_isEmpty_X7_noSet : GoodIn wsX7_isEmpty (wsV RX7 56 RX7 yX7_noSet wsX7_noSet) := goodIn_app (goodIn_of _ (by decide +kernel)) ggX7_isEmpty_X7_noSet
set_option maxRecDepth 20000 in
theorem ggX7_isEmpty_X7_lengthOf : GoodIn wsX7_isEmpty wsX7_lengthOf := goodIn_r _ [17, 18, 19, 20, 21, 22, 23, 24, 25, 26, 27, 28, 29, 30, 31, 32, 33, 34, 35, 36, 37, 38, 39] (by decide +kernel) (by decide +kernel)
set_option maxRecDepth 20000 in
theorem gX7_isEmpty_X7_lengthOf : GoodIn wsX7_isEmpty (wsV RX7 184 RX7 yX7_lengthOf wsX7_lengthOf) := goodIn_app (goodIn_of _ (by decide +kernel)) ggX7_isEmpty_X7_lengthOf
theorem dX7_isEmpty_0 : decode cX7_isEmpty 0 = .ok (.aload_n 0, 1) := by decide +kernel
theorem dX7_isEmpty_1 : decode cX7_isEmpty 1 = .ok (.iconst 0, 1) := by decide +kernel
theorem dX7_isEmpty_2 : decode cX7_isEmpty 2 = .ok (.putfield 1, 3) := by decide +kernel
theorem dX7_isEmpty_5 : decode cX7_isEmpty 5 = .ok (.aload_n 0, 1) := by decide +kernel
theorem dX7_isEmpty_6 : decode cX7_isEmpty 6 = .ok (.iload_n 1, 1) := by decide +kernel
theorem dX7_isEmpty_7 : decode cX7_isEmpty 7 = .ok (.invokevirtual 56, 3) := by decide +kernel
theorem dX7_isEmpty_10 : decode cX7_isEmpty 10 = .ok (.ifCond .ne 15, 3) := by decide +kernel
theorem dX7_isEmpty_13 : decode cX7_isEmpty 13 = .ok (.aload_n 0, 1) := by decide +kernel
theorem dX7_isEmpty_14 : decode cX7_isEmpty 14 = .ok (.iload_n 1, 1) := by decide +kernel
theorem dX7_isEmpty_15 : decode cX7_isEmpty 15 = .ok (.invokevirtual 184, 3) := by decide +kernel
theorem dX7_isEmpty_18 : decode cX7_isEmpty 18 = .ok (.ifCond .ne 7, 3) := by decide +kernel
theorem dX7_isEmpty_21 : decode cX7_isEmpty 21 = .ok (.iconst 1, 1) := by decide +kernel
theorem dX7_isEmpty_22 : decode cX7_isEmpty 22 = .ok (.goto 4, 3) := by decide +kernel
theorem dX7_isEmpty_25 : decode cX7_isEmpty 25 = .ok (.iconst 0, 1) := by decide +kernel
theorem dX7_isEmpty_26 : decode cX7_isEmpty 26 = .ok (.ireturn, 1) := by decide +kernel
set_option maxRecDepth 20000 in
theorem ggX7_isRoomy_X7_noSet : GoodIn wsX7_isRoomy wsX7_noSet := goodIn_r _ [6, 7, 8, 5, 9, 10, 11, 12, 13, 1, 14, 15, 16, 17, 18, 19, 20, 21, 22, 23, 24, 25, 26, 27, 28, 29, 30, 31, 32, 33, 34] (by decide +kernel) (by decide +kernel)
set_option maxRecDepth 20000 in
theorem gX7_isRoomy_X7_noSet : GoodIn wsX7_isRoomy (wsV RX7 56 RX7 yX7_noSet wsX7_noSet) := goodIn_app (goodIn_of _ (by decide +kernel)) ggX7_isRoomy_X7_noSet
theorem dX7_isRoomy_0 : decode cX7_isRoomy 0 = .ok (.aload_n 0, 1) := by decide +kernel
theorem dX7_isRoomy_1 : decode cX7_isRoomy 1 = .ok (.iconst 0, 1) := by decide +kernel
theorem dX7_isRoomy_2 : decode cX7_isRoomy 2 = .ok (.putfield 1, 3) := by decide +kernel
theorem dX7_isRoomy_5 : decode cX7_isRoomy 5 = .ok (.aload_n 0, 1) := by decide +kernel
theorem dX7_isRoomy_6 : decode cX7_isRoomy 6 = .ok (.iload_n 1, 1) := by decide +kernel
theorem dX7_isRoomy_7 : decode cX7_isRoomy 7 = .ok (.invokevirtual 56, 3) := by decide +kernel
theorem dX7_isRoomy_10 : decode cX7_isRoomy 10 = .ok (.ifCond .ne 7, 3) := by decide +kernel
theorem dX7_isRoomy_13 : decode cX7_isRoomy 13 = .ok (.iconst 1, 1) := by decide +kernel
theorem dX7_isRoomy_14 : decode cX7_isRoomy 14 = .ok (.goto 4, 3) := by decide +kernel
theorem dX7_isRoomy_17 : decode cX7_isRoomy 17 = .ok (.iconst 0, 1) := by decide +kernel
theorem dX7_isRoomy_18 : decode cX7_isRoomy 18 = .ok (.ireturn, 1) := by decide +kernel
set_option maxRecDepth 20000 in
theorem ggX7_next_X7_noSet : GoodIn wsX7_next wsX7_noSet := goodIn_r _ [7, 8, 9, 6, 10, 11, 12, 13, 14, 1, 20, 21, 22, 23, 24, 25, 26, 27, 28, 29, 30, 31, 32, 33, 34, 35, 36, 37, 38, 39, 40] (by decide +kernel) (by decide +kernel)
set_option maxRecDepth 20000 in
theorem gX7_next_X7_noSet : GoodIn wsX7_next (wsV RX7 56 RX7 yX7_noSet wsX7_noSet) := goodIn_app (goodIn_of _ (by decide +kernel)) ggX7_next_X7_noSet
set_option maxRecDepth 20000 in
theorem ggX7_next_X7_isBelow : GoodIn wsX7_next wsX7_isBelow := goodIn_r _ [18, 1, 19, 20, 21, 22, 23, 24, 25, 26, 27, 28, 29, 30, 31, 32, 33, 34, 35, 36, 37, 38, 39, 40] (by decide +kernel) (by decide +kernel)
set_option maxRecDepth 20000 in
theorem gX7_next_X7_isBelow : GoodIn wsX7_next (wsV RX7 149 RX7 yX7_isBelow wsX7_isBelow) := goodIn_app (goodIn_of _ (by decide +kernel)) ggX7_next_X7_isBelow
theorem dX7_next_0 : decode cX7_next 0 = .ok (.aload_n 0, 1) := by decide +kernel
theorem dX7_next_1 : decode cX7_next 1 = .ok (.iconst 0, 1) := by decide +kernel
theorem dX7_next_2 : decode cX7_next 2 = .ok (.putfield 1, 3) := by decide +kernel
theorem dX7_next_5 : decode cX7_next 5 = .ok (.aload_n 0, 1) := by decide +kernel
theorem dX7_next_6 : decode cX7_next 6 = .ok (.iload_n 1, 1) := by decide +kernel
theorem dX7_next_7 : decode cX7_next 7 = .ok (.invokevirtual 56, 3) := by decide +kernel
theorem dX7_next_10 : decode cX7_next 10 = .ok (.ifCond .ne 12, 3) := by decide +kernel
theorem dX7_next_13 : decode cX7_next 13 = .ok (.aload_n 0, 1) := by decide +kernel
theorem dX7_next_14 : decode cX7_next 14 = .ok (.iload_n 2, 1) := by decide +kernel
theorem dX7_next_15 : decode cX7_next 15 = .ok (.iconst 0, 1) := by decide +kernel
theorem dX7_next_16 : decode cX7_next 16 = .ok (.invokevirtual 149, 3) := by decide +kernel
theorem dX7_next_19 : decode cX7_next 19 = .ok (.ifCond .eq 5, 3) := by decide +kernel
theorem dX7_next_22 : decode cX7_next 22 = .ok (.iconst 0, 1) := by decide +kernel
theorem dX7_next_23 : decode cX7_next 23 = .ok (.ireturn, 1) := by decide +kernel
theorem dX7_next_24 : decode cX7_next 24 = .ok (.iload_n 2, 1) := by decide +kernel
theorem dX7_next_25 : decode cX7_next 25 = .ok (.istore_n 3, 1) := by decide +kernel
theorem dX7_next_26 : decode cX7_next 26 = .ok (.iload_n 3, 1) := by decide +kernel
theorem dX7_next_27 : decode cX7_next 27 = .ok (.sipush 1024, 3) := by decide +kernel
theorem dX7_next_30 : decode cX7_next 30 = .ok (.if_icmp .ge 26, 3) := by decide +kernel
theorem dX7_next_33 : decode cX7_next 33 = .ok (.aload_n 0, 1) := by decide +kernel
theorem dX7_next_34 : decode cX7_next 34 = .ok (.getfield 13, 3) := by decide +kernel
theorem dX7_next_37 : decode cX7_next 37 = .ok (.sipush 1024, 3) := by decide +kernel
theorem dX7_next_40 : decode cX7_next 40 = .ok (.iload_n 1, 1) := by decide +kernel
theorem dX7_next_41 : decode cX7_next 41 = .ok (.imul, 1) := by decide +kernel
theorem dX7_next_42 : decode cX7_next 42 = .ok (.iload_n 3, 1) := by decide +kernel
theorem dX7_next_43 : decode cX7_next 43 = .ok (.iadd, 1) := by decide +kernel
theorem dX7_next_44 : decode cX7_next 44 = .ok (.baload, 1) := by decide +kernel
theorem dX7_next_45 : decode cX7_next 45 = .ok (.ifCond .eq 5, 3) := by decide +kernel
theorem dX7_next_48 : decode cX7_next 48 = .ok (.iload_n 3, 1) := by decide +kernel
theorem dX7_next_49 : decode cX7_next 49 = .ok (.ireturn, 1) := by decide +kernel
theorem dX7_next_50 : decode cX7_next 50 = .ok (.iinc 3 1, 3) := by decide +kernel
theorem dX7_next_53 : decode cX7_next 53 = .ok (.goto (-27), 3) := by decide +kernel
theorem dX7_next_56 : decode cX7_next 56 = .ok (.iconst (-1), 1) := by decide +kernel
theorem dX7_next_57 : decode cX7_next 57 = .ok (.ireturn, 1) := by decide +kernel
set_option maxRecDepth 20000 in
theorem ggX7_nextMissing_X7_noSet : GoodIn wsX7_nextMissing wsX7_noSet := goodIn_r _ [6, 7, 8, 5, 9, 10, 11, 12, 13, 1, 24, 25, 26, 27, 28, 29, 30, 31, 32, 33, 34, 35, 36, 37, 38, 39, 40, 41, 42, 43, 44] (by decide +kernel) (by decide +kernel)
set_option maxRecDepth 20000 in
theorem gX7_nextMissing_X7_noSet : GoodIn wsX7_nextMissing (wsV RX7 56 RX7 yX7_noSet wsX7_noSet) := goodIn_app (goodIn_of _ (by decide +kernel)) ggX7_nextMissing_X7_noSet
set_option maxRecDepth 20000 in
theorem ggX7_nextMissing_X7_isBelow : GoodIn wsX7_nextMissing wsX7_isBelow := goodIn_r _ [17, 1, 18, 24, 25, 26, 27, 28, 29, 30, 31, 32, 33, 34, 35, 36, 37, 38, 39, 40, 41, 42, 43, 44] (by decide +kernel) (by decide +kernel)
set_option maxRecDepth 20000 in
theorem gX7_nextMissing_X7_isBelow : GoodIn wsX7_nextMissing (wsV RX7 149 RX7 yX7_isBelow wsX7_isBelow) := goodIn_app (goodIn_of _ (by decide +kernel)) ggX7_nextMissing_X7_isBelow
set_option maxRecDepth 20000 in
theorem ggX7_nextMissing_X7_isIn : GoodIn wsX7_nextMissing wsX7_isIn := goodIn_r _ [22, 23, 24, 25, 26, 27, 28, 29, 30, 31, 32, 33, 34, 35, 36, 37, 38, 39, 40, 41, 42, 43, 44] (by decide +kernel) (by decide +kernel)
set_option maxRecDepth 20000 in
theorem gX7_nextMissing_X7_isIn : GoodIn wsX7_nextMissing (wsV RX7 155 RX7 yX7_isIn wsX7_isIn) := goodIn_app (goodIn_of _ (by decide +kernel)) ggX7_nextMissing_X7_isIn
theorem dX7_nextMissing_0 : decode cX7_nextMissing 0 = .ok (.aload_n 0, 1) := by decide +kernel
theorem dX7_nextMissing_1 : decode cX7_nextMissing 1 = .ok (.iconst 0, 1) := by decide +kernel
theorem dX7_nextMissing_2 : decode cX7_nextMissing 2 = .ok (.putfield 1, 3) := by decide +kernel
theorem dX7_nextMissing_5 : decode cX7_nextMissing 5 = .ok (.aload_n 0, 1) := by decide +kernel
theorem dX7_nextMissing_6 : decode cX7_nextMissing 6 = .ok (.iload_n 1, 1) := by decide +kernel
theorem dX7_nextMissing_7 : decode cX7_nextMissing 7 = .ok (.invokevirtual 56, 3) := by decide +kernel
theorem dX7_nextMissing_10 : decode cX7_nextMissing 10 = .ok (.ifCond .ne 12, 3) := by decide +kernel
theorem dX7_nextMissing_13 : decode cX7_nextMissing 13 = .ok (.aload_n 0, 1) := by decide +kernel
theorem dX7_nextMissing_14 : decode cX7_nextMissing 14 = .ok (.iload_n 2, 1) := by decide +kernel
theorem dX7_nextMissing_15 : decode cX7_nextMissing 15 = .ok (.iconst 0, 1) := by decide +kernel
theorem dX7_nextMissing_16 : decode cX7_nextMissing 16 = .ok (.invokevirtual 149, 3) := by decide +kernel
theorem dX7_nextMissing_19 : decode cX7_nextMissing 19 = .ok (.ifCond .eq 5, 3) := by decide +kernel
theorem dX7_nextMissing_22 : decode cX7_nextMissing 22 = .ok (.iconst 0, 1) := by decide +kernel
theorem dX7_nextMissing_23 : decode cX7_nextMissing 23 = .ok (.ireturn, 1) := by decide +kernel
theorem dX7_nextMissing_24 : decode cX7_nextMissing 24 = .ok (.iload_n 2, 1) := by decide +kernel
theorem dX7_nextMissing_25 : decode cX7_nextMissing 25 = .ok (.istore_n 3, 1) := by decide +kernel
theorem dX7_nextMissing_26 : decode cX7_nextMissing 26 = .ok (.aload_n 0, 1) := by decide +kernel
theorem dX7_nextMissing_27 : decode cX7_nextMissing 27 = .ok (.iload_n 1, 1) := by decide +kernel
theorem dX7_nextMissing_28 : decode cX7_nextMissing 28 = .ok (.iload_n 3, 1) := by decide +kernel
theorem dX7_nextMissing_29 : decode cX7_nextMissing 29 = .ok (.invokevirtual 155, 3) := by decide +kernel
theorem dX7_nextMissing_32 : decode cX7_nextMissing 32 = .ok (.ifCond .eq 9, 3) := by decide +kernel
theorem dX7_nextMissing_35 : decode cX7_nextMissing 35 = .ok (.iinc 3 1, 3) := by decide +kernel
theorem dX7_nextMissing_38 : decode cX7_nextMissing 38 = .ok (.goto (-12), 3) := by decide +kernel
theorem dX7_nextMissing_41 : decode cX7_nextMissing 41 = .ok (.iload_n 3, 1) := by decide +kernel
theorem dX7_nextMissing_42 : decode cX7_nextMissing 42 = .ok (.ireturn, 1) := by decide +kernel
set_option maxRecDepth 20000 in
theorem ggX7_previous_X7_noSet : GoodIn wsX7_previous wsX7_noSet := goodIn_r _ [7, 8, 9, 6, 10, 11, 12, 13, 14, 1, 20, 21, 22, 23, 24, 25, 26, 27, 28, 29, 30, 31, 32, 33, 34, 35, 36, 37, 38, 39, 40] (by decide +kernel) (by decide +kernel)
set_option maxRecDepth 20000 in
theorem gX7_previous_X7_noSet : GoodIn wsX7_previous (wsV RX7 56 RX7 yX7_noSet wsX7_noSet) := goodIn_app (goodIn_of _ (by decide +kernel)) ggX7_previous_X7_noSet
set_option maxRecDepth 20000 in
theorem ggX7_previous_X7_isBelow : GoodIn wsX7_previous wsX7_isBelow := goodIn_r _ [18, 1, 19, 20, 21, 22, 23, 24, 25, 26, 27, 28, 29, 30, 31, 32, 33, 34, 35, 36, 37, 38, 39, 40] (by decide +kernel) (by decide +kernel)
set_option maxRecDepth 20000 in
theorem gX7_previous_X7_isBelow : GoodIn wsX7_previous (wsV RX7 149 RX7 yX7_isBelow wsX7_isBelow) := goodIn_app (goodIn_of _ (by decide +kernel)) ggX7_previous_X7_isBelow
theorem dX7_previous_0 : decode cX7_previous 0 = .ok (.aload_n 0, 1) := by decide +kernel
theorem dX7_previous_1 : decode cX7_previous 1 = .ok (.iconst 0, 1) := by decide +kernel
theorem dX7_previous_2 : decode cX7_previous 2 = .ok (.putfield 1, 3) := by decide +kernel
theorem dX7_previous_5 : decode cX7_previous 5 = .ok (.aload_n 0, 1) := by decide +kernel
theorem dX7_previous_6 : decode cX7_previous 6 = .ok (.iload_n 1, 1) := by decide +kernel
theorem dX7_previous_7 : decode cX7_previous 7 = .ok (.invokevirtual 56, 3) := by decide +kernel
theorem dX7_previous_10 : decode cX7_previous 10 = .ok (.ifCond .ne 12, 3) := by decide +kernel
theorem dX7_previous_13 : decode cX7_previous 13 = .ok (.aload_n 0, 1) := by decide +kernel
theorem dX7_previous_14 : decode cX7_previous 14 = .ok (.iload_n 2, 1) := by decide +kernel
theorem dX7_previous_15 : decode cX7_previous 15 = .ok (.iconst (-1), 1) := by decide +kernel
theorem dX7_previous_16 : decode cX7_previous 16 = .ok (.invokevirtual 149, 3) := by decide +kernel
theorem dX7_previous_19 : decode cX7_previous 19 = .ok (.ifCond .eq 5, 3) := by decide +kernel
theorem dX7_previous_22 : decode cX7_previous 22 = .ok (.iconst 0, 1) := by decide +kernel
theorem dX7_previous_23 : decode cX7_previous 23 = .ok (.ireturn, 1) := by decide +kernel
theorem dX7_previous_24 : decode cX7_previous 24 = .ok (.iload_n 2, 1) := by decide +kernel
theorem dX7_previous_25 : decode cX7_previous 25 = .ok (.sipush 1024, 3) := by decide +kernel
theorem dX7_previous_28 : decode cX7_previous 28 = .ok (.if_icmp .ge 7, 3) := by decide +kernel
theorem dX7_previous_31 : decode cX7_previous 31 = .ok (.iload_n 2, 1) := by decide +kernel
theorem dX7_previous_32 : decode cX7_previous 32 = .ok (.goto 6, 3) := by decide +kernel
theorem dX7_previous_35 : decode cX7_previous 35 = .ok (.sipush 1023, 3) := by decide +kernel
theorem dX7_previous_38 : decode cX7_previous 38 = .ok (.istore_n 3, 1) := by decide +kernel
theorem dX7_previous_39 : decode cX7_previous 39 = .ok (.iload_n 3, 1) := by decide +kernel
theorem dX7_previous_40 : decode cX7_previous 40 = .ok (.ifCond .lt 24, 3) := by decide +kernel
theorem dX7_previous_43 : decode cX7_previous 43 = .ok (.aload_n 0, 1) := by decide +kernel
theorem dX7_previous_44 : decode cX7_previous 44 = .ok (.getfield 13, 3) := by decide +kernel
theorem dX7_previous_47 : decode cX7_previous 47 = .ok (.sipush 1024, 3) := by decide +kernel
theorem dX7_previous_50 : decode cX7_previous 50 = .ok (.iload_n 1, 1) := by decide +kernel
theorem dX7_previous_51 : decode cX7_previous 51 = .ok (.imul, 1) := by decide +kernel
theorem dX7_previous_52 : decode cX7_previous 52 = .ok (.iload_n 3, 1) := by decide +kernel
theorem dX7_previous_53 : decode cX7_previous 53 = .ok (.iadd, 1) := by decide +kernel
theorem dX7_previous_54 : decode cX7_previous 54 = .ok (.baload, 1) := by decide +kernel
theorem dX7_previous_55 : decode cX7_previous 55 = .ok (.ifCond .ne 9, 3) := by decide +kernel
theorem dX7_previous_58 : decode cX7_previous 58 = .ok (.iinc 3 (-1), 3) := by decide +kernel
theorem dX7_previous_61 : decode cX7_previous 61 = .ok (.goto (-22), 3) := by decide +kernel
theorem dX7_previous_64 : decode cX7_previous 64 = .ok (.iload_n 3, 1) := by decide +kernel
theorem dX7_previous_65 : decode cX7_previous 65 = .ok (.ireturn, 1) := by decide +kernel
set_option maxRecDepth 20000 in
theorem ggX7_previousMissing_X7_noSet : GoodIn wsX7_previousMissing wsX7_noSet := goodIn_r _ [6, 7, 8, 5, 9, 10, 11, 12, 13, 1, 24, 25, 26, 27, 28, 29, 30, 31, 32, 33, 34, 35, 36, 37, 38, 39, 40, 41, 42, 43, 44] (by decide +kernel) (by decide +kernel)
set_option maxRecDepth 20000 in
theorem gX7_previousMissing_X7_noSet : GoodIn wsX7_previousMissing (wsV RX7 56 RX7 yX7_noSet wsX7_noSet) := goodIn_app (goodIn_of _ (by decide +kernel)) ggX7_previousMissing_X7_noSet
set_option maxRecDepth 20000 in
theorem ggX7_previousMissing_X7_isBelow : GoodIn wsX7_previousMissing wsX7_isBelow := goodIn_r _ [17, 1, 18, 24, 25, 26, 27, 28, 29, 30, 31, 32, 33, 34, 35, 36, 37, 38, 39, 40, 41, 42, 43, 44] (by decide +kernel) (by decide +kernel)
set_option maxRecDepth 20000 in
theorem gX7_previousMissing_X7_isBelow : GoodIn wsX7_previousMissing (wsV RX7 149 RX7 yX7_isBelow wsX7_isBelow) := goodIn_app (goodIn_of _ (by decide +kernel)) ggX7_previousMissing_X7_isBelow
set_option maxRecDepth 20000 in
theorem ggX7_previousMissing_X7_isIn : GoodIn wsX7_previousMissing wsX7_isIn := goodIn_r _ [22, 23, 24, 25, 26, 27, 28, 29, 30, 31, 32, 33, 34, 35, 36, 37, 38, 39, 40, 41, 42, 43, 44] (by decide +kernel) (by decide +kernel)
set_option maxRecDepth 20000 in
theorem gX7_previousMissing_X7_isIn : GoodIn wsX7_previousMissing (wsV RX7 155 RX7 yX7_isIn wsX7_isIn) := goodIn_app (goodIn_of _ (by decide +kernel)) ggX7_previousMissing_X7_isIn
theorem dX7_previousMissing_0 : decode cX7_previousMissing 0 = .ok (.aload_n 0, 1) := by decide +kernel
theorem dX7_previousMissing_1 : decode cX7_previousMissing 1 = .ok (.iconst 0, 1) := by decide +kernel
theorem dX7_previousMissing_2 : decode cX7_previousMissing 2 = .ok (.putfield 1, 3) := by decide +kernel
theorem dX7_previousMissing_5 : decode cX7_previousMissing 5 = .ok (.aload_n 0, 1) := by decide +kernel
theorem dX7_previousMissing_6 : decode cX7_previousMissing 6 = .ok (.iload_n 1, 1) := by decide +kernel
theorem dX7_previousMissing_7 : decode cX7_previousMissing 7 = .ok (.invokevirtual 56, 3) := by decide +kernel
theorem dX7_previousMissing_10 : decode cX7_previousMissing 10 = .ok (.ifCond .ne 12, 3) := by decide +kernel
theorem dX7_previousMissing_13 : decode cX7_previousMissing 13 = .ok (.aload_n 0, 1) := by decide +kernel
theorem dX7_previousMissing_14 : decode cX7_previousMissing 14 = .ok (.iload_n 2, 1) := by decide +kernel
theorem dX7_previousMissing_15 : decode cX7_previousMissing 15 = .ok (.iconst (-1), 1) := by decide +kernel
theorem dX7_previousMissing_16 : decode cX7_previousMissing 16 = .ok (.invokevirtual 149, 3) := by decide +kernel
theorem dX7_previousMissing_19 : decode cX7_previousMissing 19 = .ok (.ifCond .eq 5, 3) := by decide +kernel
theorem dX7_previousMissing_22 : decode cX7_previousMissing 22 = .ok (.iconst 0, 1) := by decide +kernel
theorem dX7_previousMissing_23 : decode cX7_previousMissing 23 = .ok (.ireturn, 1) := by decide +kernel
theorem dX7_previousMissing_24 : decode cX7_previousMissing 24 = .ok (.iload_n 2, 1) := by decide +kernel
theorem dX7_previousMissing_25 : decode cX7_previousMissing 25 = .ok (.istore_n 3, 1) := by decide +kernel
theorem dX7_previousMissing_26 : decode cX7_previousMissing 26 = .ok (.iload_n 3, 1) := by decide +kernel
theorem dX7_previousMissing_27 : decode cX7_previousMissing 27 = .ok (.ifCond .lt 18, 3) := by decide +kernel
theorem dX7_previousMissing_30 : decode cX7_previousMissing 30 = .ok (.aload_n 0, 1) := by decide +kernel
theorem dX7_previousMissing_31 : decode cX7_previousMissing 31 = .ok (.iload_n 1, 1) := by decide +kernel
theorem dX7_previousMissing_32 : decode cX7_previousMissing 32 = .ok (.iload_n 3, 1) := by decide +kernel
theorem dX7_previousMissing_33 : decode cX7_previousMissing 33 = .ok (.invokevirtual 155, 3) := by decide +kernel
theorem dX7_previousMissing_36 : decode cX7_previousMissing 36 = .ok (.ifCond .eq 9, 3) := by decide +kernel
theorem dX7_previousMissing_39 : decode cX7_previousMissing 39 = .ok (.iinc 3 (-1), 3) := by decide +kernel
theorem dX7_previousMissing_42 : decode cX7_previousMissing 42 = .ok (.goto (-16), 3) := by decide +kernel
theorem dX7_previousMissing_45 : decode cX7_previousMissing 45 = .ok (.iload_n 3, 1) := by decide +kernel
theorem dX7_previousMissing_46 : decode cX7_previousMissing 46 = .ok (.ireturn, 1) := by decide +kernel
set_option maxRecDepth 20000 in
theorem ggX7_memberAt_X7_noSet : GoodIn wsX7_memberAt wsX7_noSet := goodIn_r _ [7, 8, 9, 6, 10, 11, 12, 13, 14, 1, 15, 16, 17, 18, 19, 20, 21, 22, 23, 24, 25, 26, 27, 28, 29, 30, 31, 32, 33, 34, 35] (by decide +kernel) (by decide +kernel)
set_option maxRecDepth 20000 in
theorem gX7_memberAt_X7_noSet : GoodIn wsX7_memberAt (wsV RX7 56 RX7 yX7_noSet wsX7_noSet) := goodIn_app (goodIn_of _ (by decide +kernel)) ggX7_memberAt_X7_noSet
theorem dX7_memberAt_0 : decode cX7_memberAt 0 = .ok (.aload_n 0, 1) := by decide +kernel
theorem dX7_memberAt_1 : decode cX7_memberAt 1 = .ok (.iconst 0, 1) := by decide +kernel
theorem dX7_memberAt_2 : decode cX7_memberAt 2 = .ok (.putfield 1, 3) := by decide +kernel
theorem dX7_memberAt_5 : decode cX7_memberAt 5 = .ok (.aload_n 0, 1) := by decide +kernel
theorem dX7_memberAt_6 : decode cX7_memberAt 6 = .ok (.iload_n 1, 1) := by decide +kernel
theorem dX7_memberAt_7 : decode cX7_memberAt 7 = .ok (.invokevirtual 56, 3) := by decide +kernel
theorem dX7_memberAt_10 : decode cX7_memberAt 10 = .ok (.ifCond .eq 5, 3) := by decide +kernel
theorem dX7_memberAt_13 : decode cX7_memberAt 13 = .ok (.iconst 0, 1) := by decide +kernel
theorem dX7_memberAt_14 : decode cX7_memberAt 14 = .ok (.ireturn, 1) := by decide +kernel
theorem dX7_memberAt_15 : decode cX7_memberAt 15 = .ok (.iload_n 2, 1) := by decide +kernel
theorem dX7_memberAt_16 : decode cX7_memberAt 16 = .ok (.istore_n 3, 1) := by decide +kernel
theorem dX7_memberAt_17 : decode cX7_memberAt 17 = .ok (.iconst 0, 1) := by decide +kernel
theorem dX7_memberAt_18 : decode cX7_memberAt 18 = .ok (.istore 4, 2) := by decide +kernel
theorem dX7_memberAt_20 : decode cX7_memberAt 20 = .ok (.iload 4, 2) := by decide +kernel
theorem dX7_memberAt_22 : decode cX7_memberAt 22 = .ok (.sipush 1024, 3) := by decide +kernel
theorem dX7_memberAt_25 : decode cX7_memberAt 25 = .ok (.if_icmp .ge 42, 3) := by decide +kernel
theorem dX7_memberAt_28 : decode cX7_memberAt 28 = .ok (.iload_n 3, 1) := by decide +kernel
theorem dX7_memberAt_29 : decode cX7_memberAt 29 = .ok (.ifCond .lt 38, 3) := by decide +kernel
theorem dX7_memberAt_32 : decode cX7_memberAt 32 = .ok (.aload_n 0, 1) := by decide +kernel
theorem dX7_memberAt_33 : decode cX7_memberAt 33 = .ok (.getfield 13, 3) := by decide +kernel
theorem dX7_memberAt_36 : decode cX7_memberAt 36 = .ok (.sipush 1024, 3) := by decide +kernel
theorem dX7_memberAt_39 : decode cX7_memberAt 39 = .ok (.iload_n 1, 1) := by decide +kernel
theorem dX7_memberAt_40 : decode cX7_memberAt 40 = .ok (.imul, 1) := by decide +kernel
theorem dX7_memberAt_41 : decode cX7_memberAt 41 = .ok (.iload 4, 2) := by decide +kernel
theorem dX7_memberAt_43 : decode cX7_memberAt 43 = .ok (.iadd, 1) := by decide +kernel
theorem dX7_memberAt_44 : decode cX7_memberAt 44 = .ok (.baload, 1) := by decide +kernel
theorem dX7_memberAt_45 : decode cX7_memberAt 45 = .ok (.ifCond .ne 6, 3) := by decide +kernel
theorem dX7_memberAt_48 : decode cX7_memberAt 48 = .ok (.goto 13, 3) := by decide +kernel
theorem dX7_memberAt_51 : decode cX7_memberAt 51 = .ok (.iload_n 3, 1) := by decide +kernel
theorem dX7_memberAt_52 : decode cX7_memberAt 52 = .ok (.ifCond .ne 6, 3) := by decide +kernel
theorem dX7_memberAt_55 : decode cX7_memberAt 55 = .ok (.iload 4, 2) := by decide +kernel
theorem dX7_memberAt_57 : decode cX7_memberAt 57 = .ok (.ireturn, 1) := by decide +kernel
theorem dX7_memberAt_58 : decode cX7_memberAt 58 = .ok (.iinc 3 (-1), 3) := by decide +kernel
theorem dX7_memberAt_61 : decode cX7_memberAt 61 = .ok (.iinc 4 1, 3) := by decide +kernel
theorem dX7_memberAt_64 : decode cX7_memberAt 64 = .ok (.goto (-44), 3) := by decide +kernel
theorem dX7_memberAt_67 : decode cX7_memberAt 67 = .ok (.iconst (-1), 1) := by decide +kernel
theorem dX7_memberAt_68 : decode cX7_memberAt 68 = .ok (.ireturn, 1) := by decide +kernel
set_option maxRecDepth 20000 in
theorem ggX7_sum_X7_noSet : GoodIn wsX7_sum wsX7_noSet := goodIn_r _ [7, 8, 9, 6, 10, 11, 12, 13, 14, 1, 15, 16, 17, 18, 19, 20, 21, 22, 23, 24, 25, 26, 27, 28, 29, 30, 31, 32, 33, 34, 35] (by decide +kernel) (by decide +kernel)
set_option maxRecDepth 20000 in
theorem gX7_sum_X7_noSet : GoodIn wsX7_sum (wsV RX7 56 RX7 yX7_noSet wsX7_noSet) := goodIn_app (goodIn_of _ (by decide +kernel)) ggX7_sum_X7_noSet
theorem dX7_sum_0 : decode cX7_sum 0 = .ok (.aload_n 0, 1) := by decide +kernel
theorem dX7_sum_1 : decode cX7_sum 1 = .ok (.iconst 0, 1) := by decide +kernel
theorem dX7_sum_2 : decode cX7_sum 2 = .ok (.putfield 1, 3) := by decide +kernel
theorem dX7_sum_5 : decode cX7_sum 5 = .ok (.aload_n 0, 1) := by decide +kernel
theorem dX7_sum_6 : decode cX7_sum 6 = .ok (.iload_n 1, 1) := by decide +kernel
theorem dX7_sum_7 : decode cX7_sum 7 = .ok (.invokevirtual 56, 3) := by decide +kernel
theorem dX7_sum_10 : decode cX7_sum 10 = .ok (.ifCond .eq 5, 3) := by decide +kernel
theorem dX7_sum_13 : decode cX7_sum 13 = .ok (.lconst 0, 1) := by decide +kernel
theorem dX7_sum_14 : decode cX7_sum 14 = .ok (.lreturn, 1) := by decide +kernel
theorem dX7_sum_15 : decode cX7_sum 15 = .ok (.lconst 0, 1) := by decide +kernel
theorem dX7_sum_16 : decode cX7_sum 16 = .ok (.lstore_n 2, 1) := by decide +kernel
theorem dX7_sum_17 : decode cX7_sum 17 = .ok (.iconst 0, 1) := by decide +kernel
theorem dX7_sum_18 : decode cX7_sum 18 = .ok (.istore 4, 2) := by decide +kernel
theorem dX7_sum_20 : decode cX7_sum 20 = .ok (.iload 4, 2) := by decide +kernel
theorem dX7_sum_22 : decode cX7_sum 22 = .ok (.sipush 1024, 3) := by decide +kernel
theorem dX7_sum_25 : decode cX7_sum 25 = .ok (.if_icmp .ge 35, 3) := by decide +kernel
theorem dX7_sum_28 : decode cX7_sum 28 = .ok (.lload_n 2, 1) := by decide +kernel
theorem dX7_sum_29 : decode cX7_sum 29 = .ok (.aload_n 0, 1) := by decide +kernel
theorem dX7_sum_30 : decode cX7_sum 30 = .ok (.getfield 13, 3) := by decide +kernel
theorem dX7_sum_33 : decode cX7_sum 33 = .ok (.sipush 1024, 3) := by decide +kernel
theorem dX7_sum_36 : decode cX7_sum 36 = .ok (.iload_n 1, 1) := by decide +kernel
theorem dX7_sum_37 : decode cX7_sum 37 = .ok (.imul, 1) := by decide +kernel
theorem dX7_sum_38 : decode cX7_sum 38 = .ok (.iload 4, 2) := by decide +kernel
theorem dX7_sum_40 : decode cX7_sum 40 = .ok (.iadd, 1) := by decide +kernel
theorem dX7_sum_41 : decode cX7_sum 41 = .ok (.baload, 1) := by decide +kernel
theorem dX7_sum_42 : decode cX7_sum 42 = .ok (.ifCond .eq 9, 3) := by decide +kernel
theorem dX7_sum_45 : decode cX7_sum 45 = .ok (.iload 4, 2) := by decide +kernel
theorem dX7_sum_47 : decode cX7_sum 47 = .ok (.i2l, 1) := by decide +kernel
theorem dX7_sum_48 : decode cX7_sum 48 = .ok (.goto 4, 3) := by decide +kernel
theorem dX7_sum_51 : decode cX7_sum 51 = .ok (.lconst 0, 1) := by decide +kernel
theorem dX7_sum_52 : decode cX7_sum 52 = .ok (.ladd, 1) := by decide +kernel
theorem dX7_sum_53 : decode cX7_sum 53 = .ok (.lstore_n 2, 1) := by decide +kernel
theorem dX7_sum_54 : decode cX7_sum 54 = .ok (.iinc 4 1, 3) := by decide +kernel
theorem dX7_sum_57 : decode cX7_sum 57 = .ok (.goto (-37), 3) := by decide +kernel
theorem dX7_sum_60 : decode cX7_sum 60 = .ok (.lload_n 2, 1) := by decide +kernel
theorem dX7_sum_61 : decode cX7_sum 61 = .ok (.lreturn, 1) := by decide +kernel
theorem dX7_begins_0 : decode cX7_begins 0 = .ok (.aload_n 0, 1) := by decide +kernel
theorem dX7_begins_1 : decode cX7_begins 1 = .ok (.getfield 13, 3) := by decide +kernel
theorem dX7_begins_4 : decode cX7_begins 4 = .ok (.sipush 1024, 3) := by decide +kernel
theorem dX7_begins_7 : decode cX7_begins 7 = .ok (.iload_n 1, 1) := by decide +kernel
theorem dX7_begins_8 : decode cX7_begins 8 = .ok (.imul, 1) := by decide +kernel
theorem dX7_begins_9 : decode cX7_begins 9 = .ok (.iload_n 2, 1) := by decide +kernel
theorem dX7_begins_10 : decode cX7_begins 10 = .ok (.iadd, 1) := by decide +kernel
theorem dX7_begins_11 : decode cX7_begins 11 = .ok (.baload, 1) := by decide +kernel
theorem dX7_begins_12 : decode cX7_begins 12 = .ok (.ifCond .eq 28, 3) := by decide +kernel
theorem dX7_begins_15 : decode cX7_begins 15 = .ok (.iload_n 2, 1) := by decide +kernel
theorem dX7_begins_16 : decode cX7_begins 16 = .ok (.ifCond .eq 20, 3) := by decide +kernel
theorem dX7_begins_19 : decode cX7_begins 19 = .ok (.aload_n 0, 1) := by decide +kernel
theorem dX7_begins_20 : decode cX7_begins 20 = .ok (.getfield 13, 3) := by decide +kernel
theorem dX7_begins_23 : decode cX7_begins 23 = .ok (.sipush 1024, 3) := by decide +kernel
theorem dX7_begins_26 : decode cX7_begins 26 = .ok (.iload_n 1, 1) := by decide +kernel
theorem dX7_begins_27 : decode cX7_begins 27 = .ok (.imul, 1) := by decide +kernel
theorem dX7_begins_28 : decode cX7_begins 28 = .ok (.iload_n 2, 1) := by decide +kernel
theorem dX7_begins_29 : decode cX7_begins 29 = .ok (.iadd, 1) := by decide +kernel
theorem dX7_begins_30 : decode cX7_begins 30 = .ok (.iconst 1, 1) := by decide +kernel
theorem dX7_begins_31 : decode cX7_begins 31 = .ok (.isub, 1) := by decide +kernel
theorem dX7_begins_32 : decode cX7_begins 32 = .ok (.baload, 1) := by decide +kernel
theorem dX7_begins_33 : decode cX7_begins 33 = .ok (.ifCond .ne 7, 3) := by decide +kernel
theorem dX7_begins_36 : decode cX7_begins 36 = .ok (.iconst 1, 1) := by decide +kernel
theorem dX7_begins_37 : decode cX7_begins 37 = .ok (.goto 4, 3) := by decide +kernel
theorem dX7_begins_40 : decode cX7_begins 40 = .ok (.iconst 0, 1) := by decide +kernel
theorem dX7_begins_41 : decode cX7_begins 41 = .ok (.ireturn, 1) := by decide +kernel
set_option maxRecDepth 20000 in
theorem ggX7_runs_X7_noSet : GoodIn wsX7_runs wsX7_noSet := goodIn_r _ [6, 7, 8, 5, 9, 10, 11, 12, 13, 1, 19, 20, 21, 22, 23, 24, 25, 26, 27, 28, 29, 30, 31, 32, 33, 34, 35, 36, 37, 38, 39] (by decide +kernel) (by decide +kernel)
set_option maxRecDepth 20000 in
theorem gX7_runs_X7_noSet : GoodIn wsX7_runs (wsV RX7 56 RX7 yX7_noSet wsX7_noSet) := goodIn_app (goodIn_of _ (by decide +kernel)) ggX7_runs_X7_noSet
set_option maxRecDepth 20000 in
theorem ggX7_runs_X7_begins : GoodIn wsX7_runs wsX7_begins := goodIn_r _ [17, 18, 19, 20, 21, 22, 23, 24, 25, 26, 27, 28, 29, 30, 31, 32, 33, 34, 35, 36, 37, 38, 39] (by decide +kernel) (by decide +kernel)
set_option maxRecDepth 20000 in
theorem gX7_runs_X7_begins : GoodIn wsX7_runs (wsV RX7 198 RX7 yX7_begins wsX7_begins) := goodIn_app (goodIn_of _ (by decide +kernel)) ggX7_runs_X7_begins
theorem dX7_runs_0 : decode cX7_runs 0 = .ok (.aload_n 0, 1) := by decide +kernel
theorem dX7_runs_1 : decode cX7_runs 1 = .ok (.iconst 0, 1) := by decide +kernel
theorem dX7_runs_2 : decode cX7_runs 2 = .ok (.putfield 1, 3) := by decide +kernel
theorem dX7_runs_5 : decode cX7_runs 5 = .ok (.aload_n 0, 1) := by decide +kernel
theorem dX7_runs_6 : decode cX7_runs 6 = .ok (.iload_n 1, 1) := by decide +kernel
theorem dX7_runs_7 : decode cX7_runs 7 = .ok (.invokevirtual 56, 3) := by decide +kernel
theorem dX7_runs_10 : decode cX7_runs 10 = .ok (.ifCond .eq 5, 3) := by decide +kernel
theorem dX7_runs_13 : decode cX7_runs 13 = .ok (.iconst 0, 1) := by decide +kernel
theorem dX7_runs_14 : decode cX7_runs 14 = .ok (.ireturn, 1) := by decide +kernel
theorem dX7_runs_15 : decode cX7_runs 15 = .ok (.iconst 0, 1) := by decide +kernel
theorem dX7_runs_16 : decode cX7_runs 16 = .ok (.istore_n 2, 1) := by decide +kernel
theorem dX7_runs_17 : decode cX7_runs 17 = .ok (.iconst 0, 1) := by decide +kernel
theorem dX7_runs_18 : decode cX7_runs 18 = .ok (.istore_n 3, 1) := by decide +kernel
theorem dX7_runs_19 : decode cX7_runs 19 = .ok (.iload_n 3, 1) := by decide +kernel
theorem dX7_runs_20 : decode cX7_runs 20 = .ok (.sipush 1024, 3) := by decide +kernel
theorem dX7_runs_23 : decode cX7_runs 23 = .ok (.if_icmp .ge 26, 3) := by decide +kernel
theorem dX7_runs_26 : decode cX7_runs 26 = .ok (.iload_n 2, 1) := by decide +kernel
theorem dX7_runs_27 : decode cX7_runs 27 = .ok (.aload_n 0, 1) := by decide +kernel
theorem dX7_runs_28 : decode cX7_runs 28 = .ok (.iload_n 1, 1) := by decide +kernel
theorem dX7_runs_29 : decode cX7_runs 29 = .ok (.iload_n 3, 1) := by decide +kernel
theorem dX7_runs_30 : decode cX7_runs 30 = .ok (.invokevirtual 198, 3) := by decide +kernel
theorem dX7_runs_33 : decode cX7_runs 33 = .ok (.ifCond .eq 7, 3) := by decide +kernel
theorem dX7_runs_36 : decode cX7_runs 36 = .ok (.iconst 1, 1) := by decide +kernel
theorem dX7_runs_37 : decode cX7_runs 37 = .ok (.goto 4, 3) := by decide +kernel
theorem dX7_runs_40 : decode cX7_runs 40 = .ok (.iconst 0, 1) := by decide +kernel
theorem dX7_runs_41 : decode cX7_runs 41 = .ok (.iadd, 1) := by decide +kernel
theorem dX7_runs_42 : decode cX7_runs 42 = .ok (.istore_n 2, 1) := by decide +kernel
theorem dX7_runs_43 : decode cX7_runs 43 = .ok (.iinc 3 1, 3) := by decide +kernel
theorem dX7_runs_46 : decode cX7_runs 46 = .ok (.goto (-27), 3) := by decide +kernel
theorem dX7_runs_49 : decode cX7_runs 49 = .ok (.iload_n 2, 1) := by decide +kernel
theorem dX7_runs_50 : decode cX7_runs 50 = .ok (.ireturn, 1) := by decide +kernel
set_option maxRecDepth 20000 in
theorem ggX7_longestRun_X7_noSet : GoodIn wsX7_longestRun wsX7_noSet := goodIn_r _ [6, 7, 8, 5, 9, 10, 11, 12, 13, 1, 23, 24, 25, 26, 27, 28, 29, 30, 31, 32, 33, 34, 35, 36, 37, 38, 39, 40, 41, 42, 43] (by decide +kernel) (by decide +kernel)
set_option maxRecDepth 20000 in
theorem gX7_longestRun_X7_noSet : GoodIn wsX7_longestRun (wsV RX7 56 RX7 yX7_noSet wsX7_noSet) := goodIn_app (goodIn_of _ (by decide +kernel)) ggX7_longestRun_X7_noSet
set_option maxRecDepth 20000 in
theorem ggX7_longestRun_X7_begins : GoodIn wsX7_longestRun wsX7_begins := goodIn_r _ [17, 18, 23, 24, 25, 26, 27, 28, 29, 30, 31, 32, 33, 34, 35, 36, 37, 38, 39, 40, 41, 42, 43] (by decide +kernel) (by decide +kernel)
set_option maxRecDepth 20000 in
theorem gX7_longestRun_X7_begins : GoodIn wsX7_longestRun (wsV RX7 198 RX7 yX7_begins wsX7_begins) := goodIn_app (goodIn_of _ (by decide +kernel)) ggX7_longestRun_X7_begins
set_option maxRecDepth 20000 in
theorem ggX7_longestRun_X7_isIn : GoodIn wsX7_longestRun wsX7_isIn := goodIn_r _ [22, 18, 23, 24, 25, 26, 27, 28, 29, 30, 31, 32, 33, 34, 35, 36, 37, 38, 39, 40, 41, 42, 43] (by decide +kernel) (by decide +kernel)
set_option maxRecDepth 20000 in
theorem gX7_longestRun_X7_isIn : GoodIn wsX7_longestRun (wsV RX7 155 RX7 yX7_isIn wsX7_isIn) := goodIn_app (goodIn_of _ (by decide +kernel)) ggX7_longestRun_X7_isIn
theorem dX7_longestRun_0 : decode cX7_longestRun 0 = .ok (.aload_n 0, 1) := by decide +kernel
theorem dX7_longestRun_1 : decode cX7_longestRun 1 = .ok (.iconst 0, 1) := by decide +kernel
theorem dX7_longestRun_2 : decode cX7_longestRun 2 = .ok (.putfield 1, 3) := by decide +kernel
theorem dX7_longestRun_5 : decode cX7_longestRun 5 = .ok (.aload_n 0, 1) := by decide +kernel
theorem dX7_longestRun_6 : decode cX7_longestRun 6 = .ok (.iload_n 1, 1) := by decide +kernel
theorem dX7_longestRun_7 : decode cX7_longestRun 7 = .ok (.invokevirtual 56, 3) := by decide +kernel
theorem dX7_longestRun_10 : decode cX7_longestRun 10 = .ok (.ifCond .eq 5, 3) := by decide +kernel
theorem dX7_longestRun_13 : decode cX7_longestRun 13 = .ok (.iconst 0, 1) := by decide +kernel
theorem dX7_longestRun_14 : decode cX7_longestRun 14 = .ok (.ireturn, 1) := by decide +kernel
theorem dX7_longestRun_15 : decode cX7_longestRun 15 = .ok (.iconst (-1), 1) := by decide +kernel
theorem dX7_longestRun_16 : decode cX7_longestRun 16 = .ok (.istore_n 2, 1) := by decide +kernel
theorem dX7_longestRun_17 : decode cX7_longestRun 17 = .ok (.iconst 0, 1) := by decide +kernel
theorem dX7_longestRun_18 : decode cX7_longestRun 18 = .ok (.istore_n 3, 1) := by decide +kernel
theorem dX7_longestRun_19 : decode cX7_longestRun 19 = .ok (.iconst 0, 1) := by decide +kernel
theorem dX7_longestRun_20 : decode cX7_longestRun 20 = .ok (.istore 4, 2) := by decide +kernel
theorem dX7_longestRun_22 : decode cX7_longestRun 22 = .ok (.iload 4, 2) := by decide +kernel
theorem dX7_longestRun_24 : decode cX7_longestRun 24 = .ok (.sipush 1024, 3) := by decide +kernel
theorem dX7_longestRun_27 : decode cX7_longestRun 27 = .ok (.if_icmp .ge 56, 3) := by decide +kernel
theorem dX7_longestRun_30 : decode cX7_longestRun 30 = .ok (.iconst 0, 1) := by decide +kernel
theorem dX7_longestRun_31 : decode cX7_longestRun 31 = .ok (.istore 5, 2) := by decide +kernel
theorem dX7_longestRun_33 : decode cX7_longestRun 33 = .ok (.aload_n 0, 1) := by decide +kernel
theorem dX7_longestRun_34 : decode cX7_longestRun 34 = .ok (.iload_n 1, 1) := by decide +kernel
theorem dX7_longestRun_35 : decode cX7_longestRun 35 = .ok (.iload 4, 2) := by decide +kernel
theorem dX7_longestRun_37 : decode cX7_longestRun 37 = .ok (.invokevirtual 198, 3) := by decide +kernel
theorem dX7_longestRun_40 : decode cX7_longestRun 40 = .ok (.ifCond .eq 22, 3) := by decide +kernel
theorem dX7_longestRun_43 : decode cX7_longestRun 43 = .ok (.aload_n 0, 1) := by decide +kernel
theorem dX7_longestRun_44 : decode cX7_longestRun 44 = .ok (.iload_n 1, 1) := by decide +kernel
theorem dX7_longestRun_45 : decode cX7_longestRun 45 = .ok (.iload 4, 2) := by decide +kernel
theorem dX7_longestRun_47 : decode cX7_longestRun 47 = .ok (.iload 5, 2) := by decide +kernel
theorem dX7_longestRun_49 : decode cX7_longestRun 49 = .ok (.iadd, 1) := by decide +kernel
theorem dX7_longestRun_50 : decode cX7_longestRun 50 = .ok (.invokevirtual 155, 3) := by decide +kernel
theorem dX7_longestRun_53 : decode cX7_longestRun 53 = .ok (.ifCond .eq 9, 3) := by decide +kernel
theorem dX7_longestRun_56 : decode cX7_longestRun 56 = .ok (.iinc 5 1, 3) := by decide +kernel
theorem dX7_longestRun_59 : decode cX7_longestRun 59 = .ok (.goto (-26), 3) := by decide +kernel
theorem dX7_longestRun_62 : decode cX7_longestRun 62 = .ok (.iload 5, 2) := by decide +kernel
theorem dX7_longestRun_64 : decode cX7_longestRun 64 = .ok (.iload_n 3, 1) := by decide +kernel
theorem dX7_longestRun_65 : decode cX7_longestRun 65 = .ok (.if_icmp .gt 6, 3) := by decide +kernel
theorem dX7_longestRun_68 : decode cX7_longestRun 68 = .ok (.goto 9, 3) := by decide +kernel
theorem dX7_longestRun_71 : decode cX7_longestRun 71 = .ok (.iload 5, 2) := by decide +kernel
theorem dX7_longestRun_73 : decode cX7_longestRun 73 = .ok (.istore_n 3, 1) := by decide +kernel
theorem dX7_longestRun_74 : decode cX7_longestRun 74 = .ok (.iload 4, 2) := by decide +kernel
theorem dX7_longestRun_76 : decode cX7_longestRun 76 = .ok (.istore_n 2, 1) := by decide +kernel
theorem dX7_longestRun_77 : decode cX7_longestRun 77 = .ok (.iinc 4 1, 3) := by decide +kernel
theorem dX7_longestRun_80 : decode cX7_longestRun 80 = .ok (.goto (-58), 3) := by decide +kernel
theorem dX7_longestRun_83 : decode cX7_longestRun 83 = .ok (.iload_n 2, 1) := by decide +kernel
theorem dX7_longestRun_84 : decode cX7_longestRun 84 = .ok (.ireturn, 1) := by decide +kernel
theorem dX7_manyAs_0 : decode cX7_manyAs 0 = .ok (.iconst 0, 1) := by decide +kernel
theorem dX7_manyAs_1 : decode cX7_manyAs 1 = .ok (.istore 5, 2) := by decide +kernel
theorem dX7_manyAs_3 : decode cX7_manyAs 3 = .ok (.iconst 0, 1) := by decide +kernel
theorem dX7_manyAs_4 : decode cX7_manyAs 4 = .ok (.istore 6, 2) := by decide +kernel
theorem dX7_manyAs_6 : decode cX7_manyAs 6 = .ok (.iload 6, 2) := by decide +kernel
theorem dX7_manyAs_8 : decode cX7_manyAs 8 = .ok (.sipush 1024, 3) := by decide +kernel
theorem dX7_manyAs_11 : decode cX7_manyAs 11 = .ok (.if_icmp .ge 54, 3) := by decide +kernel
theorem dX7_manyAs_14 : decode cX7_manyAs 14 = .ok (.iload 5, 2) := by decide +kernel
theorem dX7_manyAs_16 : decode cX7_manyAs 16 = .ok (.aload_n 0, 1) := by decide +kernel
theorem dX7_manyAs_17 : decode cX7_manyAs 17 = .ok (.getfield 13, 3) := by decide +kernel
theorem dX7_manyAs_20 : decode cX7_manyAs 20 = .ok (.sipush 1024, 3) := by decide +kernel
theorem dX7_manyAs_23 : decode cX7_manyAs 23 = .ok (.iload_n 1, 1) := by decide +kernel
theorem dX7_manyAs_24 : decode cX7_manyAs 24 = .ok (.imul, 1) := by decide +kernel
theorem dX7_manyAs_25 : decode cX7_manyAs 25 = .ok (.iload 6, 2) := by decide +kernel
theorem dX7_manyAs_27 : decode cX7_manyAs 27 = .ok (.iadd, 1) := by decide +kernel
theorem dX7_manyAs_28 : decode cX7_manyAs 28 = .ok (.baload, 1) := by decide +kernel
theorem dX7_manyAs_29 : decode cX7_manyAs 29 = .ok (.iload_n 3, 1) := by decide +kernel
theorem dX7_manyAs_30 : decode cX7_manyAs 30 = .ok (.if_icmp .ne 25, 3) := by decide +kernel
theorem dX7_manyAs_33 : decode cX7_manyAs 33 = .ok (.aload_n 0, 1) := by decide +kernel
theorem dX7_manyAs_34 : decode cX7_manyAs 34 = .ok (.getfield 13, 3) := by decide +kernel
theorem dX7_manyAs_37 : decode cX7_manyAs 37 = .ok (.sipush 1024, 3) := by decide +kernel
theorem dX7_manyAs_40 : decode cX7_manyAs 40 = .ok (.iload_n 2, 1) := by decide +kernel
theorem dX7_manyAs_41 : decode cX7_manyAs 41 = .ok (.imul, 1) := by decide +kernel
theorem dX7_manyAs_42 : decode cX7_manyAs 42 = .ok (.iload 6, 2) := by decide +kernel
theorem dX7_manyAs_44 : decode cX7_manyAs 44 = .ok (.iadd, 1) := by decide +kernel
theorem dX7_manyAs_45 : decode cX7_manyAs 45 = .ok (.baload, 1) := by decide +kernel
theorem dX7_manyAs_46 : decode cX7_manyAs 46 = .ok (.iload 4, 2) := by decide +kernel
theorem dX7_manyAs_48 : decode cX7_manyAs 48 = .ok (.if_icmp .ne 7, 3) := by decide +kernel
theorem dX7_manyAs_51 : decode cX7_manyAs 51 = .ok (.iconst 1, 1) := by decide +kernel
theorem dX7_manyAs_52 : decode cX7_manyAs 52 = .ok (.goto 4, 3) := by decide +kernel
theorem dX7_manyAs_55 : decode cX7_manyAs 55 = .ok (.iconst 0, 1) := by decide +kernel
theorem dX7_manyAs_56 : decode cX7_manyAs 56 = .ok (.iadd, 1) := by decide +kernel
theorem dX7_manyAs_57 : decode cX7_manyAs 57 = .ok (.istore 5, 2) := by decide +kernel
theorem dX7_manyAs_59 : decode cX7_manyAs 59 = .ok (.iinc 6 1, 3) := by decide +kernel
theorem dX7_manyAs_62 : decode cX7_manyAs 62 = .ok (.goto (-56), 3) := by decide +kernel
theorem dX7_manyAs_65 : decode cX7_manyAs 65 = .ok (.iload 5, 2) := by decide +kernel
theorem dX7_manyAs_67 : decode cX7_manyAs 67 = .ok (.ireturn, 1) := by decide +kernel
set_option maxRecDepth 20000 in
theorem ggX7_areEqual_X7_noSets : GoodIn wsX7_areEqual wsX7_noSets := goodIn_r _ [6, 7, 8, 9, 5, 10, 11, 12, 13, 14, 15, 16, 17, 1, 23, 24, 25, 26, 27, 28, 29, 30, 31, 32, 33, 34, 35, 36, 37, 38, 39, 40, 41, 42, 43] (by decide +kernel) (by decide +kernel)
set_option maxRecDepth 20000 in
theorem gX7_areEqual_X7_noSets : GoodIn wsX7_areEqual (wsV RX7 171 RX7 yX7_noSets wsX7_noSets) := goodIn_app (goodIn_of _ (by decide +kernel)) ggX7_areEqual_X7_noSets
set_option maxRecDepth 20000 in
theorem ggX7_areEqual_X7_manyAs : GoodIn wsX7_areEqual wsX7_manyAs := goodIn_r _ [21, 22, 23, 24, 25, 26, 27, 28, 29, 30, 31, 32, 33, 34, 35, 36, 37, 38, 39, 40, 41, 42, 43] (by decide +kernel) (by decide +kernel)
set_option maxRecDepth 20000 in
theorem gX7_areEqual_X7_manyAs : GoodIn wsX7_areEqual (wsV RX7 201 RX7 yX7_manyAs wsX7_manyAs) := goodIn_app (goodIn_of _ (by decide +kernel)) ggX7_areEqual_X7_manyAs
theorem dX7_areEqual_0 : decode cX7_areEqual 0 = .ok (.aload_n 0, 1) := by decide +kernel
theorem dX7_areEqual_1 : decode cX7_areEqual 1 = .ok (.iconst 0, 1) := by decide +kernel
theorem dX7_areEqual_2 : decode cX7_areEqual 2 = .ok (.putfield 1, 3) := by decide +kernel
theorem dX7_areEqual_5 : decode cX7_areEqual 5 = .ok (.aload_n 0, 1) := by decide +kernel
theorem dX7_areEqual_6 : decode cX7_areEqual 6 = .ok (.iload_n 1, 1) := by decide +kernel
theorem dX7_areEqual_7 : decode cX7_areEqual 7 = .ok (.iload_n 2, 1) := by decide +kernel
theorem dX7_areEqual_8 : decode cX7_areEqual 8 = .ok (.invokevirtual 171, 3) := by decide +kernel
theorem dX7_areEqual_11 : decode cX7_areEqual 11 = .ok (.ifCond .ne 27, 3) := by decide +kernel
theorem dX7_areEqual_14 : decode cX7_areEqual 14 = .ok (.aload_n 0, 1) := by decide +kernel
theorem dX7_areEqual_15 : decode cX7_areEqual 15 = .ok (.iload_n 1, 1) := by decide +kernel
theorem dX7_areEqual_16 : decode cX7_areEqual 16 = .ok (.iload_n 2, 1) := by decide +kernel
theorem dX7_areEqual_17 : decode cX7_areEqual 17 = .ok (.iconst 1, 1) := by decide +kernel
theorem dX7_areEqual_18 : decode cX7_areEqual 18 = .ok (.iconst 0, 1) := by decide +kernel
theorem dX7_areEqual_19 : decode cX7_areEqual 19 = .ok (.invokevirtual 201, 3) := by decide +kernel
theorem dX7_areEqual_22 : decode cX7_areEqual 22 = .ok (.aload_n 0, 1) := by decide +kernel
theorem dX7_areEqual_23 : decode cX7_areEqual 23 = .ok (.iload_n 1, 1) := by decide +kernel
theorem dX7_areEqual_24 : decode cX7_areEqual 24 = .ok (.iload_n 2, 1) := by decide +kernel
theorem dX7_areEqual_25 : decode cX7_areEqual 25 = .ok (.iconst 0, 1) := by decide +kernel
theorem dX7_areEqual_26 : decode cX7_areEqual 26 = .ok (.iconst 1, 1) := by decide +kernel
theorem dX7_areEqual_27 : decode cX7_areEqual 27 = .ok (.invokevirtual 201, 3) := by decide +kernel
theorem dX7_areEqual_30 : decode cX7_areEqual 30 = .ok (.iadd, 1) := by decide +kernel
theorem dX7_areEqual_31 : decode cX7_areEqual 31 = .ok (.ifCond .ne 7, 3) := by decide +kernel
theorem dX7_areEqual_34 : decode cX7_areEqual 34 = .ok (.iconst 1, 1) := by decide +kernel
theorem dX7_areEqual_35 : decode cX7_areEqual 35 = .ok (.goto 4, 3) := by decide +kernel
theorem dX7_areEqual_38 : decode cX7_areEqual 38 = .ok (.iconst 0, 1) := by decide +kernel
theorem dX7_areEqual_39 : decode cX7_areEqual 39 = .ok (.ireturn, 1) := by decide +kernel
set_option maxRecDepth 20000 in
theorem ggX7_meet_X7_noSets : GoodIn wsX7_meet wsX7_noSets := goodIn_r _ [6, 7, 8, 9, 5, 10, 11, 12, 13, 14, 15, 16, 17, 1, 23, 24, 25, 26, 27, 28, 29, 30, 31, 32, 33, 34, 35, 36, 37, 38, 39, 40, 41, 42, 43] (by decide +kernel) (by decide +kernel)
set_option maxRecDepth 20000 in
theorem gX7_meet_X7_noSets : GoodIn wsX7_meet (wsV RX7 171 RX7 yX7_noSets wsX7_noSets) := goodIn_app (goodIn_of _ (by decide +kernel)) ggX7_meet_X7_noSets
set_option maxRecDepth 20000 in
theorem ggX7_meet_X7_manyAs : GoodIn wsX7_meet wsX7_manyAs := goodIn_r _ [21, 22, 23, 24, 25, 26, 27, 28, 29, 30, 31, 32, 33, 34, 35, 36, 37, 38, 39, 40, 41, 42, 43] (by decide +kernel) (by decide +kernel)
set_option maxRecDepth 20000 in
theorem gX7_meet_X7_manyAs : GoodIn wsX7_meet (wsV RX7 201 RX7 yX7_manyAs wsX7_manyAs) := goodIn_app (goodIn_of _ (by decide +kernel)) ggX7_meet_X7_manyAs
theorem dX7_meet_0 : decode cX7_meet 0 = .ok (.aload_n 0, 1) := by decide +kernel
theorem dX7_meet_1 : decode cX7_meet 1 = .ok (.iconst 0, 1) := by decide +kernel
theorem dX7_meet_2 : decode cX7_meet 2 = .ok (.putfield 1, 3) := by decide +kernel
theorem dX7_meet_5 : decode cX7_meet 5 = .ok (.aload_n 0, 1) := by decide +kernel
theorem dX7_meet_6 : decode cX7_meet 6 = .ok (.iload_n 1, 1) := by decide +kernel
theorem dX7_meet_7 : decode cX7_meet 7 = .ok (.iload_n 2, 1) := by decide +kernel
theorem dX7_meet_8 : decode cX7_meet 8 = .ok (.invokevirtual 171, 3) := by decide +kernel
theorem dX7_meet_11 : decode cX7_meet 11 = .ok (.ifCond .ne 18, 3) := by decide +kernel
theorem dX7_meet_14 : decode cX7_meet 14 = .ok (.aload_n 0, 1) := by decide +kernel
theorem dX7_meet_15 : decode cX7_meet 15 = .ok (.iload_n 1, 1) := by decide +kernel
theorem dX7_meet_16 : decode cX7_meet 16 = .ok (.iload_n 2, 1) := by decide +kernel
theorem dX7_meet_17 : decode cX7_meet 17 = .ok (.iconst 1, 1) := by decide +kernel
theorem dX7_meet_18 : decode cX7_meet 18 = .ok (.iconst 1, 1) := by decide +kernel
theorem dX7_meet_19 : decode cX7_meet 19 = .ok (.invokevirtual 201, 3) := by decide +kernel
theorem dX7_meet_22 : decode cX7_meet 22 = .ok (.ifCond .le 7, 3) := by decide +kernel
theorem dX7_meet_25 : decode cX7_meet 25 = .ok (.iconst 1, 1) := by decide +kernel
theorem dX7_meet_26 : decode cX7_meet 26 = .ok (.goto 4, 3) := by decide +kernel
theorem dX7_meet_29 : decode cX7_meet 29 = .ok (.iconst 0, 1) := by decide +kernel
theorem dX7_meet_30 : decode cX7_meet 30 = .ok (.ireturn, 1) := by decide +kernel
set_option maxRecDepth 20000 in
theorem ggX7_isWithin_X7_noSets : GoodIn wsX7_isWithin wsX7_noSets := goodIn_r _ [6, 7, 8, 9, 5, 10, 11, 12, 13, 14, 15, 16, 17, 1, 23, 24, 25, 26, 27, 28, 29, 30, 31, 32, 33, 34, 35, 36, 37, 38, 39, 40, 41, 42, 43] (by decide +kernel) (by decide +kernel)
set_option maxRecDepth 20000 in
theorem gX7_isWithin_X7_noSets : GoodIn wsX7_isWithin (wsV RX7 171 RX7 yX7_noSets wsX7_noSets) := goodIn_app (goodIn_of _ (by decide +kernel)) ggX7_isWithin_X7_noSets
set_option maxRecDepth 20000 in
theorem ggX7_isWithin_X7_manyAs : GoodIn wsX7_isWithin wsX7_manyAs := goodIn_r _ [21, 22, 23, 24, 25, 26, 27, 28, 29, 30, 31, 32, 33, 34, 35, 36, 37, 38, 39, 40, 41, 42, 43] (by decide +kernel) (by decide +kernel)
set_option maxRecDepth 20000 in
theorem gX7_isWithin_X7_manyAs : GoodIn wsX7_isWithin (wsV RX7 201 RX7 yX7_manyAs wsX7_manyAs) := goodIn_app (goodIn_of _ (by decide +kernel)) ggX7_isWithin_X7_manyAs
theorem dX7_isWithin_0 : decode cX7_isWithin 0 = .ok (.aload_n 0, 1) := by decide +kernel
theorem dX7_isWithin_1 : decode cX7_isWithin 1 = .ok (.iconst 0, 1) := by decide +kernel
theorem dX7_isWithin_2 : decode cX7_isWithin 2 = .ok (.putfield 1, 3) := by decide +kernel
theorem dX7_isWithin_5 : decode cX7_isWithin 5 = .ok (.aload_n 0, 1) := by decide +kernel
theorem dX7_isWithin_6 : decode cX7_isWithin 6 = .ok (.iload_n 1, 1) := by decide +kernel
theorem dX7_isWithin_7 : decode cX7_isWithin 7 = .ok (.iload_n 2, 1) := by decide +kernel
theorem dX7_isWithin_8 : decode cX7_isWithin 8 = .ok (.invokevirtual 171, 3) := by decide +kernel
theorem dX7_isWithin_11 : decode cX7_isWithin 11 = .ok (.ifCond .ne 18, 3) := by decide +kernel
theorem dX7_isWithin_14 : decode cX7_isWithin 14 = .ok (.aload_n 0, 1) := by decide +kernel
theorem dX7_isWithin_15 : decode cX7_isWithin 15 = .ok (.iload_n 1, 1) := by decide +kernel
theorem dX7_isWithin_16 : decode cX7_isWithin 16 = .ok (.iload_n 2, 1) := by decide +kernel
theorem dX7_isWithin_17 : decode cX7_isWithin 17 = .ok (.iconst 1, 1) := by decide +kernel
theorem dX7_isWithin_18 : decode cX7_isWithin 18 = .ok (.iconst 0, 1) := by decide +kernel
theorem dX7_isWithin_19 : decode cX7_isWithin 19 = .ok (.invokevirtual 201, 3) := by decide +kernel
theorem dX7_isWithin_22 : decode cX7_isWithin 22 = .ok (.ifCond .ne 7, 3) := by decide +kernel
theorem dX7_isWithin_25 : decode cX7_isWithin 25 = .ok (.iconst 1, 1) := by decide +kernel
theorem dX7_isWithin_26 : decode cX7_isWithin 26 = .ok (.goto 4, 3) := by decide +kernel
theorem dX7_isWithin_29 : decode cX7_isWithin 29 = .ok (.iconst 0, 1) := by decide +kernel
theorem dX7_isWithin_30 : decode cX7_isWithin 30 = .ok (.ireturn, 1) := by decide +kernel
set_option maxRecDepth 20000 in
theorem ggX7_unionCount_X7_noSets : GoodIn wsX7_unionCount wsX7_noSets := goodIn_r _ [6, 7, 8, 9, 5, 10, 11, 12, 13, 14, 15, 16, 17, 1, 23, 24, 25, 26, 27, 28, 29, 30, 31, 32, 33, 34, 35, 36, 37, 38, 39, 40, 41, 42, 43] (by decide +kernel) (by decide +kernel)
set_option maxRecDepth 20000 in
theorem gX7_unionCount_X7_noSets : GoodIn wsX7_unionCount (wsV RX7 171 RX7 yX7_noSets wsX7_noSets) := goodIn_app (goodIn_of _ (by decide +kernel)) ggX7_unionCount_X7_noSets
set_option maxRecDepth 20000 in
theorem ggX7_unionCount_X7_manyAs : GoodIn wsX7_unionCount wsX7_manyAs := goodIn_r _ [21, 22, 23, 24, 25, 26, 27, 28, 29, 30, 31, 32, 33, 34, 35, 36, 37, 38, 39, 40, 41, 42, 43] (by decide +kernel) (by decide +kernel)
set_option maxRecDepth 20000 in
theorem gX7_unionCount_X7_manyAs : GoodIn wsX7_unionCount (wsV RX7 201 RX7 yX7_manyAs wsX7_manyAs) := goodIn_app (goodIn_of _ (by decide +kernel)) ggX7_unionCount_X7_manyAs
theorem dX7_unionCount_0 : decode cX7_unionCount 0 = .ok (.aload_n 0, 1) := by decide +kernel
theorem dX7_unionCount_1 : decode cX7_unionCount 1 = .ok (.iconst 0, 1) := by decide +kernel
theorem dX7_unionCount_2 : decode cX7_unionCount 2 = .ok (.putfield 1, 3) := by decide +kernel
theorem dX7_unionCount_5 : decode cX7_unionCount 5 = .ok (.aload_n 0, 1) := by decide +kernel
theorem dX7_unionCount_6 : decode cX7_unionCount 6 = .ok (.iload_n 1, 1) := by decide +kernel
theorem dX7_unionCount_7 : decode cX7_unionCount 7 = .ok (.iload_n 2, 1) := by decide +kernel
theorem dX7_unionCount_8 : decode cX7_unionCount 8 = .ok (.invokevirtual 171, 3) := by decide +kernel
theorem dX7_unionCount_11 : decode cX7_unionCount 11 = .ok (.ifCond .eq 7, 3) := by decide +kernel
theorem dX7_unionCount_14 : decode cX7_unionCount 14 = .ok (.iconst 0, 1) := by decide +kernel
theorem dX7_unionCount_15 : decode cX7_unionCount 15 = .ok (.goto 15, 3) := by decide +kernel
theorem dX7_unionCount_18 : decode cX7_unionCount 18 = .ok (.sipush 1024, 3) := by decide +kernel
theorem dX7_unionCount_21 : decode cX7_unionCount 21 = .ok (.aload_n 0, 1) := by decide +kernel
theorem dX7_unionCount_22 : decode cX7_unionCount 22 = .ok (.iload_n 1, 1) := by decide +kernel
theorem dX7_unionCount_23 : decode cX7_unionCount 23 = .ok (.iload_n 2, 1) := by decide +kernel
theorem dX7_unionCount_24 : decode cX7_unionCount 24 = .ok (.iconst 0, 1) := by decide +kernel
theorem dX7_unionCount_25 : decode cX7_unionCount 25 = .ok (.iconst 0, 1) := by decide +kernel
theorem dX7_unionCount_26 : decode cX7_unionCount 26 = .ok (.invokevirtual 201, 3) := by decide +kernel
theorem dX7_unionCount_29 : decode cX7_unionCount 29 = .ok (.isub, 1) := by decide +kernel
theorem dX7_unionCount_30 : decode cX7_unionCount 30 = .ok (.ireturn, 1) := by decide +kernel
set_option maxRecDepth 20000 in
theorem ggX7_distance_X7_noSets : GoodIn wsX7_distance wsX7_noSets := goodIn_r _ [6, 7, 8, 9, 5, 10, 11, 12, 13, 14, 15, 16, 17, 1, 23, 24, 25, 26, 27, 28, 29, 30, 31, 32, 33, 34, 35, 36, 37, 38, 39, 40, 41, 42, 43] (by decide +kernel) (by decide +kernel)
set_option maxRecDepth 20000 in
theorem gX7_distance_X7_noSets : GoodIn wsX7_distance (wsV RX7 171 RX7 yX7_noSets wsX7_noSets) := goodIn_app (goodIn_of _ (by decide +kernel)) ggX7_distance_X7_noSets
set_option maxRecDepth 20000 in
theorem ggX7_distance_X7_manyAs : GoodIn wsX7_distance wsX7_manyAs := goodIn_r _ [21, 22, 23, 24, 25, 26, 27, 28, 29, 30, 31, 32, 33, 34, 35, 36, 37, 38, 39, 40, 41, 42, 43] (by decide +kernel) (by decide +kernel)
set_option maxRecDepth 20000 in
theorem gX7_distance_X7_manyAs : GoodIn wsX7_distance (wsV RX7 201 RX7 yX7_manyAs wsX7_manyAs) := goodIn_app (goodIn_of _ (by decide +kernel)) ggX7_distance_X7_manyAs
theorem dX7_distance_0 : decode cX7_distance 0 = .ok (.aload_n 0, 1) := by decide +kernel
theorem dX7_distance_1 : decode cX7_distance 1 = .ok (.iconst 0, 1) := by decide +kernel
theorem dX7_distance_2 : decode cX7_distance 2 = .ok (.putfield 1, 3) := by decide +kernel
theorem dX7_distance_5 : decode cX7_distance 5 = .ok (.aload_n 0, 1) := by decide +kernel
theorem dX7_distance_6 : decode cX7_distance 6 = .ok (.iload_n 1, 1) := by decide +kernel
theorem dX7_distance_7 : decode cX7_distance 7 = .ok (.iload_n 2, 1) := by decide +kernel
theorem dX7_distance_8 : decode cX7_distance 8 = .ok (.invokevirtual 171, 3) := by decide +kernel
theorem dX7_distance_11 : decode cX7_distance 11 = .ok (.ifCond .eq 7, 3) := by decide +kernel
theorem dX7_distance_14 : decode cX7_distance 14 = .ok (.iconst 0, 1) := by decide +kernel
theorem dX7_distance_15 : decode cX7_distance 15 = .ok (.goto 20, 3) := by decide +kernel
theorem dX7_distance_18 : decode cX7_distance 18 = .ok (.aload_n 0, 1) := by decide +kernel
theorem dX7_distance_19 : decode cX7_distance 19 = .ok (.iload_n 1, 1) := by decide +kernel
theorem dX7_distance_20 : decode cX7_distance 20 = .ok (.iload_n 2, 1) := by decide +kernel
theorem dX7_distance_21 : decode cX7_distance 21 = .ok (.iconst 1, 1) := by decide +kernel
theorem dX7_distance_22 : decode cX7_distance 22 = .ok (.iconst 0, 1) := by decide +kernel
theorem dX7_distance_23 : decode cX7_distance 23 = .ok (.invokevirtual 201, 3) := by decide +kernel
theorem dX7_distance_26 : decode cX7_distance 26 = .ok (.aload_n 0, 1) := by decide +kernel
theorem dX7_distance_27 : decode cX7_distance 27 = .ok (.iload_n 1, 1) := by decide +kernel
theorem dX7_distance_28 : decode cX7_distance 28 = .ok (.iload_n 2, 1) := by decide +kernel
theorem dX7_distance_29 : decode cX7_distance 29 = .ok (.iconst 0, 1) := by decide +kernel
theorem dX7_distance_30 : decode cX7_distance 30 = .ok (.iconst 1, 1) := by decide +kernel
theorem dX7_distance_31 : decode cX7_distance 31 = .ok (.invokevirtual 201, 3) := by decide +kernel
theorem dX7_distance_34 : decode cX7_distance 34 = .ok (.iadd, 1) := by decide +kernel
theorem dX7_distance_35 : decode cX7_distance 35 = .ok (.ireturn, 1) := by decide +kernel
set_option maxRecDepth 20000 in
theorem ggX7_firstCommon_X7_noSets : GoodIn wsX7_firstCommon wsX7_noSets := goodIn_r _ [7, 8, 9, 10, 6, 11, 12, 13, 14, 15, 16, 17, 18, 1, 19, 20, 21, 22, 23, 24, 25, 26, 27, 28, 29, 30, 31, 32, 33, 34, 35, 36, 37, 38, 39] (by decide +kernel) (by decide +kernel)
set_option maxRecDepth 20000 in
theorem gX7_firstCommon_X7_noSets : GoodIn wsX7_firstCommon (wsV RX7 171 RX7 yX7_noSets wsX7_noSets) := goodIn_app (goodIn_of _ (by decide +kernel)) ggX7_firstCommon_X7_noSets
theorem dX7_firstCommon_0 : decode cX7_firstCommon 0 = .ok (.aload_n 0, 1) := by decide +kernel
theorem dX7_firstCommon_1 : decode cX7_firstCommon 1 = .ok (.iconst 0, 1) := by decide +kernel
theorem dX7_firstCommon_2 : decode cX7_firstCommon 2 = .ok (.putfield 1, 3) := by decide +kernel
theorem dX7_firstCommon_5 : decode cX7_firstCommon 5 = .ok (.aload_n 0, 1) := by decide +kernel
theorem dX7_firstCommon_6 : decode cX7_firstCommon 6 = .ok (.iload_n 1, 1) := by decide +kernel
theorem dX7_firstCommon_7 : decode cX7_firstCommon 7 = .ok (.iload_n 2, 1) := by decide +kernel
theorem dX7_firstCommon_8 : decode cX7_firstCommon 8 = .ok (.invokevirtual 171, 3) := by decide +kernel
theorem dX7_firstCommon_11 : decode cX7_firstCommon 11 = .ok (.ifCond .eq 5, 3) := by decide +kernel
theorem dX7_firstCommon_14 : decode cX7_firstCommon 14 = .ok (.iconst 0, 1) := by decide +kernel
theorem dX7_firstCommon_15 : decode cX7_firstCommon 15 = .ok (.ireturn, 1) := by decide +kernel
theorem dX7_firstCommon_16 : decode cX7_firstCommon 16 = .ok (.iconst 0, 1) := by decide +kernel
theorem dX7_firstCommon_17 : decode cX7_firstCommon 17 = .ok (.istore_n 3, 1) := by decide +kernel
theorem dX7_firstCommon_18 : decode cX7_firstCommon 18 = .ok (.iload_n 3, 1) := by decide +kernel
theorem dX7_firstCommon_19 : decode cX7_firstCommon 19 = .ok (.sipush 1024, 3) := by decide +kernel
theorem dX7_firstCommon_22 : decode cX7_firstCommon 22 = .ok (.if_icmp .ge 41, 3) := by decide +kernel
theorem dX7_firstCommon_25 : decode cX7_firstCommon 25 = .ok (.aload_n 0, 1) := by decide +kernel
theorem dX7_firstCommon_26 : decode cX7_firstCommon 26 = .ok (.getfield 13, 3) := by decide +kernel
theorem dX7_firstCommon_29 : decode cX7_firstCommon 29 = .ok (.sipush 1024, 3) := by decide +kernel
theorem dX7_firstCommon_32 : decode cX7_firstCommon 32 = .ok (.iload_n 1, 1) := by decide +kernel
theorem dX7_firstCommon_33 : decode cX7_firstCommon 33 = .ok (.imul, 1) := by decide +kernel
theorem dX7_firstCommon_34 : decode cX7_firstCommon 34 = .ok (.iload_n 3, 1) := by decide +kernel
theorem dX7_firstCommon_35 : decode cX7_firstCommon 35 = .ok (.iadd, 1) := by decide +kernel
theorem dX7_firstCommon_36 : decode cX7_firstCommon 36 = .ok (.baload, 1) := by decide +kernel
theorem dX7_firstCommon_37 : decode cX7_firstCommon 37 = .ok (.ifCond .eq 20, 3) := by decide +kernel
theorem dX7_firstCommon_40 : decode cX7_firstCommon 40 = .ok (.aload_n 0, 1) := by decide +kernel
theorem dX7_firstCommon_41 : decode cX7_firstCommon 41 = .ok (.getfield 13, 3) := by decide +kernel
theorem dX7_firstCommon_44 : decode cX7_firstCommon 44 = .ok (.sipush 1024, 3) := by decide +kernel
theorem dX7_firstCommon_47 : decode cX7_firstCommon 47 = .ok (.iload_n 2, 1) := by decide +kernel
theorem dX7_firstCommon_48 : decode cX7_firstCommon 48 = .ok (.imul, 1) := by decide +kernel
theorem dX7_firstCommon_49 : decode cX7_firstCommon 49 = .ok (.iload_n 3, 1) := by decide +kernel
theorem dX7_firstCommon_50 : decode cX7_firstCommon 50 = .ok (.iadd, 1) := by decide +kernel
theorem dX7_firstCommon_51 : decode cX7_firstCommon 51 = .ok (.baload, 1) := by decide +kernel
theorem dX7_firstCommon_52 : decode cX7_firstCommon 52 = .ok (.ifCond .eq 5, 3) := by decide +kernel
theorem dX7_firstCommon_55 : decode cX7_firstCommon 55 = .ok (.iload_n 3, 1) := by decide +kernel
theorem dX7_firstCommon_56 : decode cX7_firstCommon 56 = .ok (.ireturn, 1) := by decide +kernel
theorem dX7_firstCommon_57 : decode cX7_firstCommon 57 = .ok (.iinc 3 1, 3) := by decide +kernel
theorem dX7_firstCommon_60 : decode cX7_firstCommon 60 = .ok (.goto (-42), 3) := by decide +kernel
theorem dX7_firstCommon_63 : decode cX7_firstCommon 63 = .ok (.iconst (-1), 1) := by decide +kernel
theorem dX7_firstCommon_64 : decode cX7_firstCommon 64 = .ok (.ireturn, 1) := by decide +kernel
theorem dX7_writes_0 : decode cX7_writes 0 = .ok (.aload_n 0, 1) := by decide +kernel
theorem dX7_writes_1 : decode cX7_writes 1 = .ok (.getfield 45, 3) := by decide +kernel
theorem dX7_writes_4 : decode cX7_writes 4 = .ok (.aload_n 0, 1) := by decide +kernel
theorem dX7_writes_5 : decode cX7_writes 5 = .ok (.getfield 205, 3) := by decide +kernel
theorem dX7_writes_8 : decode cX7_writes 8 = .ok (.iload_n 1, 1) := by decide +kernel
theorem dX7_writes_9 : decode cX7_writes 9 = .ok (.iastore, 1) := by decide +kernel
theorem dX7_writes_10 : decode cX7_writes 10 = .ok (.aload_n 0, 1) := by decide +kernel
theorem dX7_writes_11 : decode cX7_writes 11 = .ok (.dup, 1) := by decide +kernel
theorem dX7_writes_12 : decode cX7_writes 12 = .ok (.getfield 205, 3) := by decide +kernel
theorem dX7_writes_15 : decode cX7_writes 15 = .ok (.iconst 1, 1) := by decide +kernel
theorem dX7_writes_16 : decode cX7_writes 16 = .ok (.iadd, 1) := by decide +kernel
theorem dX7_writes_17 : decode cX7_writes 17 = .ok (.putfield 205, 3) := by decide +kernel
theorem dX7_writes_20 : decode cX7_writes 20 = .ok (.return_, 1) := by decide +kernel
set_option maxRecDepth 20000 in
theorem ggX7_writesNumber_X7_writes : GoodIn wsX7_writesNumber wsX7_writes := goodIn_r _ [5, 6, 7, 8, 9, 10, 11, 12, 13, 14, 15, 16, 17, 18, 19, 20, 21, 22, 23, 24, 25, 26, 27, 28] (by decide +kernel) (by decide +kernel)
set_option maxRecDepth 20000 in
theorem gX7_writesNumber_X7_writes : GoodIn wsX7_writesNumber (wsV RX7 208 RX7 yX7_writes wsX7_writes) := goodIn_app (goodIn_of _ (by decide +kernel)) ggX7_writesNumber_X7_writes
theorem dX7_writesNumber_0 : decode cX7_writesNumber 0 = .ok (.iconst 1, 1) := by decide +kernel
theorem dX7_writesNumber_1 : decode cX7_writesNumber 1 = .ok (.istore_n 2, 1) := by decide +kernel
theorem dX7_writesNumber_2 : decode cX7_writesNumber 2 = .ok (.iload_n 1, 1) := by decide +kernel
theorem dX7_writesNumber_3 : decode cX7_writesNumber 3 = .ok (.iload_n 2, 1) := by decide +kernel
theorem dX7_writesNumber_4 : decode cX7_writesNumber 4 = .ok (.idiv, 1) := by decide +kernel
theorem dX7_writesNumber_5 : decode cX7_writesNumber 5 = .ok (.bipush 9, 2) := by decide +kernel
theorem dX7_writesNumber_7 : decode cX7_writesNumber 7 = .ok (.if_icmp .le 11, 3) := by decide +kernel
theorem dX7_writesNumber_10 : decode cX7_writesNumber 10 = .ok (.iload_n 2, 1) := by decide +kernel
theorem dX7_writesNumber_11 : decode cX7_writesNumber 11 = .ok (.bipush 10, 2) := by decide +kernel
theorem dX7_writesNumber_13 : decode cX7_writesNumber 13 = .ok (.imul, 1) := by decide +kernel
theorem dX7_writesNumber_14 : decode cX7_writesNumber 14 = .ok (.istore_n 2, 1) := by decide +kernel
theorem dX7_writesNumber_15 : decode cX7_writesNumber 15 = .ok (.goto (-13), 3) := by decide +kernel
theorem dX7_writesNumber_18 : decode cX7_writesNumber 18 = .ok (.iload_n 2, 1) := by decide +kernel
theorem dX7_writesNumber_19 : decode cX7_writesNumber 19 = .ok (.istore_n 3, 1) := by decide +kernel
theorem dX7_writesNumber_20 : decode cX7_writesNumber 20 = .ok (.iload_n 3, 1) := by decide +kernel
theorem dX7_writesNumber_21 : decode cX7_writesNumber 21 = .ok (.ifCond .le 24, 3) := by decide +kernel
theorem dX7_writesNumber_24 : decode cX7_writesNumber 24 = .ok (.aload_n 0, 1) := by decide +kernel
theorem dX7_writesNumber_25 : decode cX7_writesNumber 25 = .ok (.bipush 48, 2) := by decide +kernel
theorem dX7_writesNumber_27 : decode cX7_writesNumber 27 = .ok (.iload_n 1, 1) := by decide +kernel
theorem dX7_writesNumber_28 : decode cX7_writesNumber 28 = .ok (.iload_n 3, 1) := by decide +kernel
theorem dX7_writesNumber_29 : decode cX7_writesNumber 29 = .ok (.idiv, 1) := by decide +kernel
theorem dX7_writesNumber_30 : decode cX7_writesNumber 30 = .ok (.bipush 10, 2) := by decide +kernel
theorem dX7_writesNumber_32 : decode cX7_writesNumber 32 = .ok (.irem, 1) := by decide +kernel
theorem dX7_writesNumber_33 : decode cX7_writesNumber 33 = .ok (.iadd, 1) := by decide +kernel
theorem dX7_writesNumber_34 : decode cX7_writesNumber 34 = .ok (.invokevirtual 208, 3) := by decide +kernel
theorem dX7_writesNumber_37 : decode cX7_writesNumber 37 = .ok (.iload_n 3, 1) := by decide +kernel
theorem dX7_writesNumber_38 : decode cX7_writesNumber 38 = .ok (.bipush 10, 2) := by decide +kernel
theorem dX7_writesNumber_40 : decode cX7_writesNumber 40 = .ok (.idiv, 1) := by decide +kernel
theorem dX7_writesNumber_41 : decode cX7_writesNumber 41 = .ok (.istore_n 3, 1) := by decide +kernel
theorem dX7_writesNumber_42 : decode cX7_writesNumber 42 = .ok (.goto (-22), 3) := by decide +kernel
theorem dX7_writesNumber_45 : decode cX7_writesNumber 45 = .ok (.return_, 1) := by decide +kernel
set_option maxRecDepth 20000 in
theorem ggX7_write_X7_noSet : GoodIn wsX7_write wsX7_noSet := goodIn_r _ [8, 9, 10, 7, 11, 12, 13, 14, 15, 1, 25, 26, 27, 28, 29, 30, 31, 32, 33, 34, 35, 36, 37, 38, 39, 40, 41, 42, 43, 44, 45] (by decide +kernel) (by decide +kernel)
set_option maxRecDepth 20000 in
theorem gX7_write_X7_noSet : GoodIn wsX7_write (wsV RX7 56 RX7 yX7_noSet wsX7_noSet) := goodIn_app (goodIn_of _ (by decide +kernel)) ggX7_write_X7_noSet
set_option maxRecDepth 20000 in
theorem ggX7_write_X7_writes : GoodIn wsX7_write wsX7_writes := goodIn_r _ [19, 20, 2, 25, 26, 27, 28, 29, 30, 31, 32, 33, 34, 35, 36, 37, 38, 39, 40, 41, 42, 43, 44, 45] (by decide +kernel) (by decide +kernel)
set_option maxRecDepth 20000 in
theorem gX7_write_X7_writes : GoodIn wsX7_write (wsV RX7 208 RX7 yX7_writes wsX7_writes) := goodIn_app (goodIn_of _ (by decide +kernel)) ggX7_write_X7_writes
set_option maxRecDepth 20000 in
theorem ggX7_write_X7_writesNumber : GoodIn wsX7_write wsX7_writesNumber := goodIn_r _ [24, 16, 17, 18, 7, 19, 20, 2, 25, 26, 27, 28, 29, 30, 31, 32, 33, 34, 35, 36, 37, 38, 39, 40, 41, 42, 43, 44, 45] (by decide +kernel) (by decide +kernel)
set_option maxRecDepth 20000 in
theorem gX7_write_X7_writesNumber : GoodIn wsX7_write (wsV RX7 211 RX7 yX7_writesNumber wsX7_writesNumber) := goodIn_app (goodIn_of _ (by decide +kernel)) ggX7_write_X7_writesNumber
theorem dX7_write_0 : decode cX7_write 0 = .ok (.aload_n 0, 1) := by decide +kernel
theorem dX7_write_1 : decode cX7_write 1 = .ok (.iconst 0, 1) := by decide +kernel
theorem dX7_write_2 : decode cX7_write 2 = .ok (.putfield 1, 3) := by decide +kernel
theorem dX7_write_5 : decode cX7_write 5 = .ok (.aload_n 0, 1) := by decide +kernel
theorem dX7_write_6 : decode cX7_write 6 = .ok (.iload_n 1, 1) := by decide +kernel
theorem dX7_write_7 : decode cX7_write 7 = .ok (.invokevirtual 56, 3) := by decide +kernel
theorem dX7_write_10 : decode cX7_write 10 = .ok (.ifCond .eq 5, 3) := by decide +kernel
theorem dX7_write_13 : decode cX7_write 13 = .ok (.iconst 0, 1) := by decide +kernel
theorem dX7_write_14 : decode cX7_write 14 = .ok (.ireturn, 1) := by decide +kernel
theorem dX7_write_15 : decode cX7_write 15 = .ok (.aload_n 0, 1) := by decide +kernel
theorem dX7_write_16 : decode cX7_write 16 = .ok (.iconst 0, 1) := by decide +kernel
theorem dX7_write_17 : decode cX7_write 17 = .ok (.putfield 205, 3) := by decide +kernel
theorem dX7_write_20 : decode cX7_write 20 = .ok (.aload_n 0, 1) := by decide +kernel
theorem dX7_write_21 : decode cX7_write 21 = .ok (.bipush 123, 2) := by decide +kernel
theorem dX7_write_23 : decode cX7_write 23 = .ok (.invokevirtual 208, 3) := by decide +kernel
theorem dX7_write_26 : decode cX7_write 26 = .ok (.iconst 0, 1) := by decide +kernel
theorem dX7_write_27 : decode cX7_write 27 = .ok (.istore_n 2, 1) := by decide +kernel
theorem dX7_write_28 : decode cX7_write 28 = .ok (.iload_n 2, 1) := by decide +kernel
theorem dX7_write_29 : decode cX7_write 29 = .ok (.sipush 1024, 3) := by decide +kernel
theorem dX7_write_32 : decode cX7_write 32 = .ok (.if_icmp .ge 52, 3) := by decide +kernel
theorem dX7_write_35 : decode cX7_write 35 = .ok (.aload_n 0, 1) := by decide +kernel
theorem dX7_write_36 : decode cX7_write 36 = .ok (.getfield 13, 3) := by decide +kernel
theorem dX7_write_39 : decode cX7_write 39 = .ok (.sipush 1024, 3) := by decide +kernel
theorem dX7_write_42 : decode cX7_write 42 = .ok (.iload_n 1, 1) := by decide +kernel
theorem dX7_write_43 : decode cX7_write 43 = .ok (.imul, 1) := by decide +kernel
theorem dX7_write_44 : decode cX7_write 44 = .ok (.iload_n 2, 1) := by decide +kernel
theorem dX7_write_45 : decode cX7_write 45 = .ok (.iadd, 1) := by decide +kernel
theorem dX7_write_46 : decode cX7_write 46 = .ok (.baload, 1) := by decide +kernel
theorem dX7_write_47 : decode cX7_write 47 = .ok (.ifCond .ne 6, 3) := by decide +kernel
theorem dX7_write_50 : decode cX7_write 50 = .ok (.goto 28, 3) := by decide +kernel
theorem dX7_write_53 : decode cX7_write 53 = .ok (.aload_n 0, 1) := by decide +kernel
theorem dX7_write_54 : decode cX7_write 54 = .ok (.getfield 205, 3) := by decide +kernel
theorem dX7_write_57 : decode cX7_write 57 = .ok (.iconst 1, 1) := by decide +kernel
theorem dX7_write_58 : decode cX7_write 58 = .ok (.if_icmp .le 15, 3) := by decide +kernel
theorem dX7_write_61 : decode cX7_write 61 = .ok (.aload_n 0, 1) := by decide +kernel
theorem dX7_write_62 : decode cX7_write 62 = .ok (.bipush 44, 2) := by decide +kernel
theorem dX7_write_64 : decode cX7_write 64 = .ok (.invokevirtual 208, 3) := by decide +kernel
theorem dX7_write_67 : decode cX7_write 67 = .ok (.aload_n 0, 1) := by decide +kernel
theorem dX7_write_68 : decode cX7_write 68 = .ok (.bipush 32, 2) := by decide +kernel
theorem dX7_write_70 : decode cX7_write 70 = .ok (.invokevirtual 208, 3) := by decide +kernel
theorem dX7_write_73 : decode cX7_write 73 = .ok (.aload_n 0, 1) := by decide +kernel
theorem dX7_write_74 : decode cX7_write 74 = .ok (.iload_n 2, 1) := by decide +kernel
theorem dX7_write_75 : decode cX7_write 75 = .ok (.invokevirtual 211, 3) := by decide +kernel
theorem dX7_write_78 : decode cX7_write 78 = .ok (.iinc 2 1, 3) := by decide +kernel
theorem dX7_write_81 : decode cX7_write 81 = .ok (.goto (-53), 3) := by decide +kernel
theorem dX7_write_84 : decode cX7_write 84 = .ok (.aload_n 0, 1) := by decide +kernel
theorem dX7_write_85 : decode cX7_write 85 = .ok (.bipush 125, 2) := by decide +kernel
theorem dX7_write_87 : decode cX7_write 87 = .ok (.invokevirtual 208, 3) := by decide +kernel
theorem dX7_write_90 : decode cX7_write 90 = .ok (.aload_n 0, 1) := by decide +kernel
theorem dX7_write_91 : decode cX7_write 91 = .ok (.getfield 205, 3) := by decide +kernel
theorem dX7_write_94 : decode cX7_write 94 = .ok (.ireturn, 1) := by decide +kernel
set_option maxRecDepth 20000 in
theorem ggX7_writtenAt_X7_in : GoodIn wsX7_writtenAt wsX7_in := goodIn_r _ [7] (by decide +kernel) (by decide +kernel)
set_option maxRecDepth 20000 in
theorem gX7_writtenAt_X7_in : GoodIn wsX7_writtenAt (va_wsS RX7 48 yX7_in wsX7_in) := goodIn_app (goodIn_of _ (by decide +kernel)) ggX7_writtenAt_X7_in
set_option maxRecDepth 20000 in
theorem ggX7_writtenAt_X7_fails : GoodIn wsX7_writtenAt wsX7_fails := goodIn_r _ [11, 1, 12, 13, 14, 15, 16, 17, 18, 19, 20, 21, 22, 23, 24, 25, 26, 27, 28, 29, 30, 31, 32] (by decide +kernel) (by decide +kernel)
set_option maxRecDepth 20000 in
theorem gX7_writtenAt_X7_fails : GoodIn wsX7_writtenAt (wsV RX7 52 RX7 yX7_fails wsX7_fails) := goodIn_app (goodIn_of _ (by decide +kernel)) ggX7_writtenAt_X7_fails
theorem dX7_writtenAt_0 : decode cX7_writtenAt 0 = .ok (.aload_n 0, 1) := by decide +kernel
theorem dX7_writtenAt_1 : decode cX7_writtenAt 1 = .ok (.iconst 0, 1) := by decide +kernel
theorem dX7_writtenAt_2 : decode cX7_writtenAt 2 = .ok (.putfield 1, 3) := by decide +kernel
theorem dX7_writtenAt_5 : decode cX7_writtenAt 5 = .ok (.aload_n 0, 1) := by decide +kernel
theorem dX7_writtenAt_6 : decode cX7_writtenAt 6 = .ok (.iload_n 1, 1) := by decide +kernel
theorem dX7_writtenAt_7 : decode cX7_writtenAt 7 = .ok (.iconst 0, 1) := by decide +kernel
theorem dX7_writtenAt_8 : decode cX7_writtenAt 8 = .ok (.aload_n 0, 1) := by decide +kernel
theorem dX7_writtenAt_9 : decode cX7_writtenAt 9 = .ok (.getfield 205, 3) := by decide +kernel
theorem dX7_writtenAt_12 : decode cX7_writtenAt 12 = .ok (.iconst 1, 1) := by decide +kernel
theorem dX7_writtenAt_13 : decode cX7_writtenAt 13 = .ok (.isub, 1) := by decide +kernel
theorem dX7_writtenAt_14 : decode cX7_writtenAt 14 = .ok (.invokestatic 48, 3) := by decide +kernel
theorem dX7_writtenAt_17 : decode cX7_writtenAt 17 = .ok (.iconst 1, 1) := by decide +kernel
theorem dX7_writtenAt_18 : decode cX7_writtenAt 18 = .ok (.invokevirtual 52, 3) := by decide +kernel
theorem dX7_writtenAt_21 : decode cX7_writtenAt 21 = .ok (.ifCond .eq 7, 3) := by decide +kernel
theorem dX7_writtenAt_24 : decode cX7_writtenAt 24 = .ok (.iconst 0, 1) := by decide +kernel
theorem dX7_writtenAt_25 : decode cX7_writtenAt 25 = .ok (.goto 9, 3) := by decide +kernel
theorem dX7_writtenAt_28 : decode cX7_writtenAt 28 = .ok (.aload_n 0, 1) := by decide +kernel
theorem dX7_writtenAt_29 : decode cX7_writtenAt 29 = .ok (.getfield 45, 3) := by decide +kernel
theorem dX7_writtenAt_32 : decode cX7_writtenAt 32 = .ok (.iload_n 1, 1) := by decide +kernel
theorem dX7_writtenAt_33 : decode cX7_writtenAt 33 = .ok (.iaload, 1) := by decide +kernel
theorem dX7_writtenAt_34 : decode cX7_writtenAt 34 = .ok (.ireturn, 1) := by decide +kernel
theorem dX7_refusals_0 : decode cX7_refusals 0 = .ok (.aload_n 0, 1) := by decide +kernel
theorem dX7_refusals_1 : decode cX7_refusals 1 = .ok (.iconst 0, 1) := by decide +kernel
theorem dX7_refusals_2 : decode cX7_refusals 2 = .ok (.putfield 1, 3) := by decide +kernel
theorem dX7_refusals_5 : decode cX7_refusals 5 = .ok (.aload_n 0, 1) := by decide +kernel
theorem dX7_refusals_6 : decode cX7_refusals 6 = .ok (.getfield 60, 3) := by decide +kernel
theorem dX7_refusals_9 : decode cX7_refusals 9 = .ok (.ireturn, 1) := by decide +kernel
set_option maxRecDepth 20000 in
theorem ggX7_meanCount_X7_many : GoodIn wsX7_meanCount wsX7_many := goodIn_r _ [7, 8, 9, 10, 11, 12, 13, 14, 15, 16, 17, 18, 19, 20, 21, 22, 23, 24, 25, 26, 27, 28, 29] (by decide +kernel) (by decide +kernel)
set_option maxRecDepth 20000 in
theorem gX7_meanCount_X7_many : GoodIn wsX7_meanCount (wsV RX7 168 RX7 yX7_many wsX7_many) := goodIn_app (goodIn_of _ (by decide +kernel)) ggX7_meanCount_X7_many
theorem dX7_meanCount_0 : decode cX7_meanCount 0 = .ok (.aload_n 0, 1) := by decide +kernel
theorem dX7_meanCount_1 : decode cX7_meanCount 1 = .ok (.iconst 0, 1) := by decide +kernel
theorem dX7_meanCount_2 : decode cX7_meanCount 2 = .ok (.putfield 1, 3) := by decide +kernel
theorem dX7_meanCount_5 : decode cX7_meanCount 5 = .ok (.iconst 0, 1) := by decide +kernel
theorem dX7_meanCount_6 : decode cX7_meanCount 6 = .ok (.istore_n 1, 1) := by decide +kernel
theorem dX7_meanCount_7 : decode cX7_meanCount 7 = .ok (.iconst 0, 1) := by decide +kernel
theorem dX7_meanCount_8 : decode cX7_meanCount 8 = .ok (.istore_n 2, 1) := by decide +kernel
theorem dX7_meanCount_9 : decode cX7_meanCount 9 = .ok (.iload_n 2, 1) := by decide +kernel
theorem dX7_meanCount_10 : decode cX7_meanCount 10 = .ok (.bipush 8, 2) := by decide +kernel
theorem dX7_meanCount_12 : decode cX7_meanCount 12 = .ok (.if_icmp .ge 17, 3) := by decide +kernel
theorem dX7_meanCount_15 : decode cX7_meanCount 15 = .ok (.iload_n 1, 1) := by decide +kernel
theorem dX7_meanCount_16 : decode cX7_meanCount 16 = .ok (.aload_n 0, 1) := by decide +kernel
theorem dX7_meanCount_17 : decode cX7_meanCount 17 = .ok (.iload_n 2, 1) := by decide +kernel
theorem dX7_meanCount_18 : decode cX7_meanCount 18 = .ok (.invokevirtual 168, 3) := by decide +kernel
theorem dX7_meanCount_21 : decode cX7_meanCount 21 = .ok (.iadd, 1) := by decide +kernel
theorem dX7_meanCount_22 : decode cX7_meanCount 22 = .ok (.istore_n 1, 1) := by decide +kernel
theorem dX7_meanCount_23 : decode cX7_meanCount 23 = .ok (.iinc 2 1, 3) := by decide +kernel
theorem dX7_meanCount_26 : decode cX7_meanCount 26 = .ok (.goto (-17), 3) := by decide +kernel
theorem dX7_meanCount_29 : decode cX7_meanCount 29 = .ok (.iload_n 1, 1) := by decide +kernel
theorem dX7_meanCount_30 : decode cX7_meanCount 30 = .ok (.i2d, 1) := by decide +kernel
theorem dX7_meanCount_31 : decode cX7_meanCount 31 = .ok (.ldc2_w 214, 3) := by decide +kernel
theorem dX7_meanCount_34 : decode cX7_meanCount 34 = .ok (.ddiv, 1) := by decide +kernel
theorem dX7_meanCount_35 : decode cX7_meanCount 35 = .ok (.dreturn, 1) := by decide +kernel
set_option maxRecDepth 20000 in
theorem ggX7_share_X7_noSet : GoodIn wsX7_share wsX7_noSet := goodIn_r _ [6, 7, 8, 5, 9, 10, 11, 12, 13, 1, 19, 20, 21, 22, 23, 24, 25, 26, 27, 28, 29, 30, 31, 32, 33, 34, 35, 36, 37, 38, 39] (by decide +kernel) (by decide +kernel)
set_option maxRecDepth 20000 in
theorem gX7_share_X7_noSet : GoodIn wsX7_share (wsV RX7 56 RX7 yX7_noSet wsX7_noSet) := goodIn_app (goodIn_of _ (by decide +kernel)) ggX7_share_X7_noSet
set_option maxRecDepth 20000 in
theorem ggX7_share_X7_in : GoodIn wsX7_share wsX7_in := goodIn_r _ [9] (by decide +kernel) (by decide +kernel)
set_option maxRecDepth 20000 in
theorem gX7_share_X7_in : GoodIn wsX7_share (va_wsS RX7 48 yX7_in wsX7_in) := goodIn_app (goodIn_of _ (by decide +kernel)) ggX7_share_X7_in
set_option maxRecDepth 20000 in
theorem ggX7_share_X7_fails : GoodIn wsX7_share wsX7_fails := goodIn_r _ [13, 1, 19, 20, 21, 22, 23, 24, 25, 26, 27, 28, 29, 30, 31, 32, 33, 34, 35, 36, 37, 38, 39] (by decide +kernel) (by decide +kernel)
set_option maxRecDepth 20000 in
theorem gX7_share_X7_fails : GoodIn wsX7_share (wsV RX7 52 RX7 yX7_fails wsX7_fails) := goodIn_app (goodIn_of _ (by decide +kernel)) ggX7_share_X7_fails
set_option maxRecDepth 20000 in
theorem ggX7_share_X7_manyIn : GoodIn wsX7_share wsX7_manyIn := goodIn_r _ [17, 18, 19, 20, 21, 22, 23, 24, 25, 26, 27, 28, 29, 30, 31, 32, 33, 34, 35, 36, 37, 38, 39] (by decide +kernel) (by decide +kernel)
set_option maxRecDepth 20000 in
theorem gX7_share_X7_manyIn : GoodIn wsX7_share (wsV RX7 195 RX7 yX7_manyIn wsX7_manyIn) := goodIn_app (goodIn_of _ (by decide +kernel)) ggX7_share_X7_manyIn
theorem dX7_share_0 : decode cX7_share 0 = .ok (.aload_n 0, 1) := by decide +kernel
theorem dX7_share_1 : decode cX7_share 1 = .ok (.iconst 0, 1) := by decide +kernel
theorem dX7_share_2 : decode cX7_share 2 = .ok (.putfield 1, 3) := by decide +kernel
theorem dX7_share_5 : decode cX7_share 5 = .ok (.aload_n 0, 1) := by decide +kernel
theorem dX7_share_6 : decode cX7_share 6 = .ok (.iload_n 1, 1) := by decide +kernel
theorem dX7_share_7 : decode cX7_share 7 = .ok (.invokevirtual 56, 3) := by decide +kernel
theorem dX7_share_10 : decode cX7_share 10 = .ok (.ifCond .ne 19, 3) := by decide +kernel
theorem dX7_share_13 : decode cX7_share 13 = .ok (.aload_n 0, 1) := by decide +kernel
theorem dX7_share_14 : decode cX7_share 14 = .ok (.iload_n 2, 1) := by decide +kernel
theorem dX7_share_15 : decode cX7_share 15 = .ok (.iconst 1, 1) := by decide +kernel
theorem dX7_share_16 : decode cX7_share 16 = .ok (.sipush 1024, 3) := by decide +kernel
theorem dX7_share_19 : decode cX7_share 19 = .ok (.invokestatic 48, 3) := by decide +kernel
theorem dX7_share_22 : decode cX7_share 22 = .ok (.iconst 1, 1) := by decide +kernel
theorem dX7_share_23 : decode cX7_share 23 = .ok (.invokevirtual 52, 3) := by decide +kernel
theorem dX7_share_26 : decode cX7_share 26 = .ok (.ifCond .eq 5, 3) := by decide +kernel
theorem dX7_share_29 : decode cX7_share 29 = .ok (.fconst 0, 1) := by decide +kernel
theorem dX7_share_30 : decode cX7_share 30 = .ok (.freturn, 1) := by decide +kernel
theorem dX7_share_31 : decode cX7_share 31 = .ok (.aload_n 0, 1) := by decide +kernel
theorem dX7_share_32 : decode cX7_share 32 = .ok (.iload_n 1, 1) := by decide +kernel
theorem dX7_share_33 : decode cX7_share 33 = .ok (.iconst 0, 1) := by decide +kernel
theorem dX7_share_34 : decode cX7_share 34 = .ok (.iload_n 2, 1) := by decide +kernel
theorem dX7_share_35 : decode cX7_share 35 = .ok (.invokevirtual 195, 3) := by decide +kernel
theorem dX7_share_38 : decode cX7_share 38 = .ok (.i2f, 1) := by decide +kernel
theorem dX7_share_39 : decode cX7_share 39 = .ok (.iload_n 2, 1) := by decide +kernel
theorem dX7_share_40 : decode cX7_share 40 = .ok (.i2f, 1) := by decide +kernel
theorem dX7_share_41 : decode cX7_share 41 = .ok (.fdiv, 1) := by decide +kernel
theorem dX7_share_42 : decode cX7_share 42 = .ok (.freturn, 1) := by decide +kernel
set_option maxRecDepth 20000 in
theorem ggX7_errors_X7_manyAs : GoodIn wsX7_errors wsX7_manyAs := goodIn_r _ [6, 7, 12, 13, 14, 15, 16, 17, 18, 19, 20, 21, 22, 23, 24, 25, 26, 27, 28, 29, 30, 31, 32] (by decide +kernel) (by decide +kernel)
set_option maxRecDepth 20000 in
theorem gX7_errors_X7_manyAs : GoodIn wsX7_errors (wsV RX7 201 RX7 yX7_manyAs wsX7_manyAs) := goodIn_app (goodIn_of _ (by decide +kernel)) ggX7_errors_X7_manyAs
set_option maxRecDepth 20000 in
theorem ggX7_errors_X7_many : GoodIn wsX7_errors wsX7_many := goodIn_r _ [11, 7, 12, 13, 14, 15, 16, 17, 18, 19, 20, 21, 22, 23, 24, 25, 26, 27, 28, 29, 30, 31, 32] (by decide +kernel) (by decide +kernel)
set_option maxRecDepth 20000 in
theorem gX7_errors_X7_many : GoodIn wsX7_errors (wsV RX7 168 RX7 yX7_many wsX7_many) := goodIn_app (goodIn_of _ (by decide +kernel)) ggX7_errors_X7_many
theorem dX7_errors_0 : decode cX7_errors 0 = .ok (.aload_n 0, 1) := by decide +kernel
theorem dX7_errors_1 : decode cX7_errors 1 = .ok (.iconst 0, 1) := by decide +kernel
theorem dX7_errors_2 : decode cX7_errors 2 = .ok (.putfield 1, 3) := by decide +kernel
theorem dX7_errors_5 : decode cX7_errors 5 = .ok (.iconst 0, 1) := by decide +kernel
theorem dX7_errors_6 : decode cX7_errors 6 = .ok (.istore_n 1, 1) := by decide +kernel
theorem dX7_errors_7 : decode cX7_errors 7 = .ok (.iconst 0, 1) := by decide +kernel
theorem dX7_errors_8 : decode cX7_errors 8 = .ok (.istore_n 2, 1) := by decide +kernel
theorem dX7_errors_9 : decode cX7_errors 9 = .ok (.iload_n 2, 1) := by decide +kernel
theorem dX7_errors_10 : decode cX7_errors 10 = .ok (.bipush 8, 2) := by decide +kernel
theorem dX7_errors_12 : decode cX7_errors 12 = .ok (.if_icmp .ge 72, 3) := by decide +kernel
theorem dX7_errors_15 : decode cX7_errors 15 = .ok (.iload_n 2, 1) := by decide +kernel
theorem dX7_errors_16 : decode cX7_errors 16 = .ok (.iconst 1, 1) := by decide +kernel
theorem dX7_errors_17 : decode cX7_errors 17 = .ok (.iadd, 1) := by decide +kernel
theorem dX7_errors_18 : decode cX7_errors 18 = .ok (.istore_n 3, 1) := by decide +kernel
theorem dX7_errors_19 : decode cX7_errors 19 = .ok (.iload_n 3, 1) := by decide +kernel
theorem dX7_errors_20 : decode cX7_errors 20 = .ok (.bipush 8, 2) := by decide +kernel
theorem dX7_errors_22 : decode cX7_errors 22 = .ok (.if_icmp .ge 56, 3) := by decide +kernel
theorem dX7_errors_25 : decode cX7_errors 25 = .ok (.sipush 1024, 3) := by decide +kernel
theorem dX7_errors_28 : decode cX7_errors 28 = .ok (.aload_n 0, 1) := by decide +kernel
theorem dX7_errors_29 : decode cX7_errors 29 = .ok (.iload_n 2, 1) := by decide +kernel
theorem dX7_errors_30 : decode cX7_errors 30 = .ok (.iload_n 3, 1) := by decide +kernel
theorem dX7_errors_31 : decode cX7_errors 31 = .ok (.iconst 0, 1) := by decide +kernel
theorem dX7_errors_32 : decode cX7_errors 32 = .ok (.iconst 0, 1) := by decide +kernel
theorem dX7_errors_33 : decode cX7_errors 33 = .ok (.invokevirtual 201, 3) := by decide +kernel
theorem dX7_errors_36 : decode cX7_errors 36 = .ok (.isub, 1) := by decide +kernel
theorem dX7_errors_37 : decode cX7_errors 37 = .ok (.istore 4, 2) := by decide +kernel
theorem dX7_errors_39 : decode cX7_errors 39 = .ok (.iload_n 1, 1) := by decide +kernel
theorem dX7_errors_40 : decode cX7_errors 40 = .ok (.aload_n 0, 1) := by decide +kernel
theorem dX7_errors_41 : decode cX7_errors 41 = .ok (.iload_n 2, 1) := by decide +kernel
theorem dX7_errors_42 : decode cX7_errors 42 = .ok (.invokevirtual 168, 3) := by decide +kernel
theorem dX7_errors_45 : decode cX7_errors 45 = .ok (.aload_n 0, 1) := by decide +kernel
theorem dX7_errors_46 : decode cX7_errors 46 = .ok (.iload_n 3, 1) := by decide +kernel
theorem dX7_errors_47 : decode cX7_errors 47 = .ok (.invokevirtual 168, 3) := by decide +kernel
theorem dX7_errors_50 : decode cX7_errors 50 = .ok (.iadd, 1) := by decide +kernel
theorem dX7_errors_51 : decode cX7_errors 51 = .ok (.aload_n 0, 1) := by decide +kernel
theorem dX7_errors_52 : decode cX7_errors 52 = .ok (.iload_n 2, 1) := by decide +kernel
theorem dX7_errors_53 : decode cX7_errors 53 = .ok (.iload_n 3, 1) := by decide +kernel
theorem dX7_errors_54 : decode cX7_errors 54 = .ok (.iconst 1, 1) := by decide +kernel
theorem dX7_errors_55 : decode cX7_errors 55 = .ok (.iconst 1, 1) := by decide +kernel
theorem dX7_errors_56 : decode cX7_errors 56 = .ok (.invokevirtual 201, 3) := by decide +kernel
theorem dX7_errors_59 : decode cX7_errors 59 = .ok (.isub, 1) := by decide +kernel
theorem dX7_errors_60 : decode cX7_errors 60 = .ok (.iload 4, 2) := by decide +kernel
theorem dX7_errors_62 : decode cX7_errors 62 = .ok (.if_icmp .ne 7, 3) := by decide +kernel
theorem dX7_errors_65 : decode cX7_errors 65 = .ok (.iconst 0, 1) := by decide +kernel
theorem dX7_errors_66 : decode cX7_errors 66 = .ok (.goto 4, 3) := by decide +kernel
theorem dX7_errors_69 : decode cX7_errors 69 = .ok (.iconst 1, 1) := by decide +kernel
theorem dX7_errors_70 : decode cX7_errors 70 = .ok (.iadd, 1) := by decide +kernel
theorem dX7_errors_71 : decode cX7_errors 71 = .ok (.istore_n 1, 1) := by decide +kernel
theorem dX7_errors_72 : decode cX7_errors 72 = .ok (.iinc 3 1, 3) := by decide +kernel
theorem dX7_errors_75 : decode cX7_errors 75 = .ok (.goto (-56), 3) := by decide +kernel
theorem dX7_errors_78 : decode cX7_errors 78 = .ok (.iinc 2 1, 3) := by decide +kernel
theorem dX7_errors_81 : decode cX7_errors 81 = .ok (.goto (-72), 3) := by decide +kernel
theorem dX7_errors_84 : decode cX7_errors 84 = .ok (.iload_n 1, 1) := by decide +kernel
theorem dX7_errors_85 : decode cX7_errors 85 = .ok (.ireturn, 1) := by decide +kernel
