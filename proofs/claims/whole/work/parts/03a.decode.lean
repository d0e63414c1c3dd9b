theorem dX0_init_0 : decode cX0_init 0 = .ok (.aload_n 0, 1) := by decide +kernel
theorem dX0_init_1 : decode cX0_init 1 = .ok (.invokespecial 1, 3) := by decide +kernel
theorem dX0_init_4 : decode cX0_init 4 = .ok (.aload_n 0, 1) := by decide +kernel
theorem dX0_init_5 : decode cX0_init 5 = .ok (.new 7, 3) := by decide +kernel
theorem dX0_init_8 : decode cX0_init 8 = .ok (.dup, 1) := by decide +kernel
theorem dX0_init_9 : decode cX0_init 9 = .ok (.invokespecial 9, 3) := by decide +kernel
theorem dX0_init_12 : decode cX0_init 12 = .ok (.putfield 10, 3) := by decide +kernel
theorem dX0_init_15 : decode cX0_init 15 = .ok (.return_, 1) := by decide +kernel
theorem dX1_init_0 : decode cX1_init 0 = .ok (.aload_n 0, 1) := by decide +kernel
theorem dX1_init_1 : decode cX1_init 1 = .ok (.invokespecial 3, 3) := by decide +kernel
theorem dX1_init_4 : decode cX1_init 4 = .ok (.aload_n 0, 1) := by decide +kernel
theorem dX1_init_5 : decode cX1_init 5 = .ok (.bipush 20, 2) := by decide +kernel
theorem dX1_init_7 : decode cX1_init 7 = .ok (.newarray .int, 2) := by decide +kernel
theorem dX1_init_9 : decode cX1_init 9 = .ok (.putfield 9, 3) := by decide +kernel
theorem dX1_init_12 : decode cX1_init 12 = .ok (.aload_n 0, 1) := by decide +kernel
theorem dX1_init_13 : decode cX1_init 13 = .ok (.bipush 20, 2) := by decide +kernel
theorem dX1_init_15 : decode cX1_init 15 = .ok (.newarray .int, 2) := by decide +kernel
theorem dX1_init_17 : decode cX1_init 17 = .ok (.putfield 15, 3) := by decide +kernel
theorem dX1_init_20 : decode cX1_init 20 = .ok (.return_, 1) := by decide +kernel
set_option maxRecDepth 20000 in
theorem ggX1_add_X10_set : GoodIn wsX1_add wsX10_set := goodIn_r _ [6] (by decide +kernel) (by decide +kernel)
set_option maxRecDepth 20000 in
theorem gX1_add_X10_set_n22 : GoodIn wsX1_add (wsX10_set) := ggX1_add_X10_set
theorem dX1_add_0 : decode cX1_add 0 = .ok (.aload_n 0, 1) := by decide +kernel
theorem dX1_add_1 : decode cX1_add 1 = .ok (.getfield 18, 3) := by decide +kernel
theorem dX1_add_4 : decode cX1_add 4 = .ok (.bipush 20, 2) := by decide +kernel
theorem dX1_add_6 : decode cX1_add 6 = .ok (.if_icmp .lt 5, 3) := by decide +kernel
theorem dX1_add_9 : decode cX1_add 9 = .ok (.iconst 0, 1) := by decide +kernel
theorem dX1_add_10 : decode cX1_add 10 = .ok (.ireturn, 1) := by decide +kernel
theorem dX1_add_11 : decode cX1_add 11 = .ok (.aload_n 0, 1) := by decide +kernel
theorem dX1_add_12 : decode cX1_add 12 = .ok (.getfield 9, 3) := by decide +kernel
theorem dX1_add_15 : decode cX1_add 15 = .ok (.aload_n 0, 1) := by decide +kernel
theorem dX1_add_16 : decode cX1_add 16 = .ok (.getfield 18, 3) := by decide +kernel
theorem dX1_add_19 : decode cX1_add 19 = .ok (.iload_n 1, 1) := by decide +kernel
theorem dX1_add_20 : decode cX1_add 20 = .ok (.invokestatic 22, 3) := by decide +kernel
theorem dX1_add_23 : decode cX1_add 23 = .ok (.aload_n 0, 1) := by decide +kernel
theorem dX1_add_24 : decode cX1_add 24 = .ok (.getfield 15, 3) := by decide +kernel
theorem dX1_add_27 : decode cX1_add 27 = .ok (.aload_n 0, 1) := by decide +kernel
theorem dX1_add_28 : decode cX1_add 28 = .ok (.getfield 18, 3) := by decide +kernel
theorem dX1_add_31 : decode cX1_add 31 = .ok (.iload_n 2, 1) := by decide +kernel
theorem dX1_add_32 : decode cX1_add 32 = .ok (.invokestatic 22, 3) := by decide +kernel
theorem dX1_add_35 : decode cX1_add 35 = .ok (.aload_n 0, 1) := by decide +kernel
theorem dX1_add_36 : decode cX1_add 36 = .ok (.dup, 1) := by decide +kernel
theorem dX1_add_37 : decode cX1_add 37 = .ok (.getfield 18, 3) := by decide +kernel
theorem dX1_add_40 : decode cX1_add 40 = .ok (.iconst 1, 1) := by decide +kernel
theorem dX1_add_41 : decode cX1_add 41 = .ok (.iadd, 1) := by decide +kernel
theorem dX1_add_42 : decode cX1_add 42 = .ok (.putfield 18, 3) := by decide +kernel
theorem dX1_add_45 : decode cX1_add 45 = .ok (.iconst 1, 1) := by decide +kernel
theorem dX1_add_46 : decode cX1_add 46 = .ok (.ireturn, 1) := by decide +kernel
set_option maxRecDepth 20000 in
theorem ggX1_fitLine_X10_at : GoodIn wsX1_fitLine wsX10_at := goodIn_r _ [8] (by decide +kernel) (by decide +kernel)
set_option maxRecDepth 20000 in
theorem gX1_fitLine_X10_at_n26 : GoodIn wsX1_fitLine (wsX10_at) := ggX1_fitLine_X10_at
theorem dX1_fitLine_0 : decode cX1_fitLine 0 = .ok (.lconst 0, 1) := by decide +kernel
theorem dX1_fitLine_1 : decode cX1_fitLine 1 = .ok (.lstore_n 3, 1) := by decide +kernel
theorem dX1_fitLine_2 : decode cX1_fitLine 2 = .ok (.lconst 0, 1) := by decide +kernel
theorem dX1_fitLine_3 : decode cX1_fitLine 3 = .ok (.lstore 5, 2) := by decide +kernel
theorem dX1_fitLine_5 : decode cX1_fitLine 5 = .ok (.lconst 0, 1) := by decide +kernel
theorem dX1_fitLine_6 : decode cX1_fitLine 6 = .ok (.lstore 7, 2) := by decide +kernel
theorem dX1_fitLine_8 : decode cX1_fitLine 8 = .ok (.lconst 0, 1) := by decide +kernel
theorem dX1_fitLine_9 : decode cX1_fitLine 9 = .ok (.lstore 9, 2) := by decide +kernel
theorem dX1_fitLine_11 : decode cX1_fitLine 11 = .ok (.iconst 0, 1) := by decide +kernel
theorem dX1_fitLine_12 : decode cX1_fitLine 12 = .ok (.istore 11, 2) := by decide +kernel
theorem dX1_fitLine_14 : decode cX1_fitLine 14 = .ok (.iload 11, 2) := by decide +kernel
theorem dX1_fitLine_16 : decode cX1_fitLine 16 = .ok (.aload_n 0, 1) := by decide +kernel
theorem dX1_fitLine_17 : decode cX1_fitLine 17 = .ok (.getfield 18, 3) := by decide +kernel
theorem dX1_fitLine_20 : decode cX1_fitLine 20 = .ok (.if_icmp .ge 87, 3) := by decide +kernel
theorem dX1_fitLine_23 : decode cX1_fitLine 23 = .ok (.lload_n 3, 1) := by decide +kernel
theorem dX1_fitLine_24 : decode cX1_fitLine 24 = .ok (.aload_n 0, 1) := by decide +kernel
theorem dX1_fitLine_25 : decode cX1_fitLine 25 = .ok (.getfield 9, 3) := by decide +kernel
theorem dX1_fitLine_28 : decode cX1_fitLine 28 = .ok (.iload 11, 2) := by decide +kernel
theorem dX1_fitLine_30 : decode cX1_fitLine 30 = .ok (.invokestatic 26, 3) := by decide +kernel
theorem dX1_fitLine_33 : decode cX1_fitLine 33 = .ok (.i2l, 1) := by decide +kernel
theorem dX1_fitLine_34 : decode cX1_fitLine 34 = .ok (.ladd, 1) := by decide +kernel
theorem dX1_fitLine_35 : decode cX1_fitLine 35 = .ok (.lstore_n 3, 1) := by decide +kernel
theorem dX1_fitLine_36 : decode cX1_fitLine 36 = .ok (.lload 5, 2) := by decide +kernel
theorem dX1_fitLine_38 : decode cX1_fitLine 38 = .ok (.aload_n 0, 1) := by decide +kernel
theorem dX1_fitLine_39 : decode cX1_fitLine 39 = .ok (.getfield 15, 3) := by decide +kernel
theorem dX1_fitLine_42 : decode cX1_fitLine 42 = .ok (.iload 11, 2) := by decide +kernel
theorem dX1_fitLine_44 : decode cX1_fitLine 44 = .ok (.invokestatic 26, 3) := by decide +kernel
theorem dX1_fitLine_47 : decode cX1_fitLine 47 = .ok (.i2l, 1) := by decide +kernel
theorem dX1_fitLine_48 : decode cX1_fitLine 48 = .ok (.ladd, 1) := by decide +kernel
theorem dX1_fitLine_49 : decode cX1_fitLine 49 = .ok (.lstore 5, 2) := by decide +kernel
theorem dX1_fitLine_51 : decode cX1_fitLine 51 = .ok (.lload 7, 2) := by decide +kernel
theorem dX1_fitLine_53 : decode cX1_fitLine 53 = .ok (.aload_n 0, 1) := by decide +kernel
theorem dX1_fitLine_54 : decode cX1_fitLine 54 = .ok (.getfield 9, 3) := by decide +kernel
theorem dX1_fitLine_57 : decode cX1_fitLine 57 = .ok (.iload 11, 2) := by decide +kernel
theorem dX1_fitLine_59 : decode cX1_fitLine 59 = .ok (.invokestatic 26, 3) := by decide +kernel
theorem dX1_fitLine_62 : decode cX1_fitLine 62 = .ok (.aload_n 0, 1) := by decide +kernel
theorem dX1_fitLine_63 : decode cX1_fitLine 63 = .ok (.getfield 9, 3) := by decide +kernel
theorem dX1_fitLine_66 : decode cX1_fitLine 66 = .ok (.iload 11, 2) := by decide +kernel
theorem dX1_fitLine_68 : decode cX1_fitLine 68 = .ok (.invokestatic 26, 3) := by decide +kernel
theorem dX1_fitLine_71 : decode cX1_fitLine 71 = .ok (.imul, 1) := by decide +kernel
theorem dX1_fitLine_72 : decode cX1_fitLine 72 = .ok (.i2l, 1) := by decide +kernel
theorem dX1_fitLine_73 : decode cX1_fitLine 73 = .ok (.ladd, 1) := by decide +kernel
theorem dX1_fitLine_74 : decode cX1_fitLine 74 = .ok (.lstore 7, 2) := by decide +kernel
theorem dX1_fitLine_76 : decode cX1_fitLine 76 = .ok (.lload 9, 2) := by decide +kernel
theorem dX1_fitLine_78 : decode cX1_fitLine 78 = .ok (.aload_n 0, 1) := by decide +kernel
theorem dX1_fitLine_79 : decode cX1_fitLine 79 = .ok (.getfield 9, 3) := by decide +kernel
theorem dX1_fitLine_82 : decode cX1_fitLine 82 = .ok (.iload 11, 2) := by decide +kernel
theorem dX1_fitLine_84 : decode cX1_fitLine 84 = .ok (.invokestatic 26, 3) := by decide +kernel
theorem dX1_fitLine_87 : decode cX1_fitLine 87 = .ok (.aload_n 0, 1) := by decide +kernel
theorem dX1_fitLine_88 : decode cX1_fitLine 88 = .ok (.getfield 15, 3) := by decide +kernel
theorem dX1_fitLine_91 : decode cX1_fitLine 91 = .ok (.iload 11, 2) := by decide +kernel
theorem dX1_fitLine_93 : decode cX1_fitLine 93 = .ok (.invokestatic 26, 3) := by decide +kernel
theorem dX1_fitLine_96 : decode cX1_fitLine 96 = .ok (.imul, 1) := by decide +kernel
theorem dX1_fitLine_97 : decode cX1_fitLine 97 = .ok (.i2l, 1) := by decide +kernel
theorem dX1_fitLine_98 : decode cX1_fitLine 98 = .ok (.ladd, 1) := by decide +kernel
theorem dX1_fitLine_99 : decode cX1_fitLine 99 = .ok (.lstore 9, 2) := by decide +kernel
theorem dX1_fitLine_101 : decode cX1_fitLine 101 = .ok (.iinc 11 1, 3) := by decide +kernel
theorem dX1_fitLine_104 : decode cX1_fitLine 104 = .ok (.goto (-90), 3) := by decide +kernel
theorem dX1_fitLine_107 : decode cX1_fitLine 107 = .ok (.aload_n 0, 1) := by decide +kernel
theorem dX1_fitLine_108 : decode cX1_fitLine 108 = .ok (.aload_n 0, 1) := by decide +kernel
theorem dX1_fitLine_109 : decode cX1_fitLine 109 = .ok (.getfield 18, 3) := by decide +kernel
theorem dX1_fitLine_112 : decode cX1_fitLine 112 = .ok (.i2l, 1) := by decide +kernel
theorem dX1_fitLine_113 : decode cX1_fitLine 113 = .ok (.lload 7, 2) := by decide +kernel
theorem dX1_fitLine_115 : decode cX1_fitLine 115 = .ok (.lmul, 1) := by decide +kernel
theorem dX1_fitLine_116 : decode cX1_fitLine 116 = .ok (.lload_n 3, 1) := by decide +kernel
theorem dX1_fitLine_117 : decode cX1_fitLine 117 = .ok (.lload_n 3, 1) := by decide +kernel
theorem dX1_fitLine_118 : decode cX1_fitLine 118 = .ok (.lmul, 1) := by decide +kernel
theorem dX1_fitLine_119 : decode cX1_fitLine 119 = .ok (.lsub, 1) := by decide +kernel
theorem dX1_fitLine_120 : decode cX1_fitLine 120 = .ok (.putfield 30, 3) := by decide +kernel
theorem dX1_fitLine_123 : decode cX1_fitLine 123 = .ok (.aload_n 0, 1) := by decide +kernel
theorem dX1_fitLine_124 : decode cX1_fitLine 124 = .ok (.getfield 18, 3) := by decide +kernel
theorem dX1_fitLine_127 : decode cX1_fitLine 127 = .ok (.i2l, 1) := by decide +kernel
theorem dX1_fitLine_128 : decode cX1_fitLine 128 = .ok (.lload 9, 2) := by decide +kernel
theorem dX1_fitLine_130 : decode cX1_fitLine 130 = .ok (.lmul, 1) := by decide +kernel
theorem dX1_fitLine_131 : decode cX1_fitLine 131 = .ok (.lload_n 3, 1) := by decide +kernel
theorem dX1_fitLine_132 : decode cX1_fitLine 132 = .ok (.lload 5, 2) := by decide +kernel
theorem dX1_fitLine_134 : decode cX1_fitLine 134 = .ok (.lmul, 1) := by decide +kernel
theorem dX1_fitLine_135 : decode cX1_fitLine 135 = .ok (.lsub, 1) := by decide +kernel
theorem dX1_fitLine_136 : decode cX1_fitLine 136 = .ok (.lstore 11, 2) := by decide +kernel
theorem dX1_fitLine_138 : decode cX1_fitLine 138 = .ok (.aload_n 0, 1) := by decide +kernel
theorem dX1_fitLine_139 : decode cX1_fitLine 139 = .ok (.iload_n 2, 1) := by decide +kernel
theorem dX1_fitLine_140 : decode cX1_fitLine 140 = .ok (.ifCond .eq 22, 3) := by decide +kernel
theorem dX1_fitLine_143 : decode cX1_fitLine 143 = .ok (.lload 5, 2) := by decide +kernel
theorem dX1_fitLine_145 : decode cX1_fitLine 145 = .ok (.lload 7, 2) := by decide +kernel
theorem dX1_fitLine_147 : decode cX1_fitLine 147 = .ok (.lmul, 1) := by decide +kernel
theorem dX1_fitLine_148 : decode cX1_fitLine 148 = .ok (.lload_n 3, 1) := by decide +kernel
theorem dX1_fitLine_149 : decode cX1_fitLine 149 = .ok (.lload 9, 2) := by decide +kernel
theorem dX1_fitLine_151 : decode cX1_fitLine 151 = .ok (.lmul, 1) := by decide +kernel
theorem dX1_fitLine_152 : decode cX1_fitLine 152 = .ok (.lsub, 1) := by decide +kernel
theorem dX1_fitLine_153 : decode cX1_fitLine 153 = .ok (.lload 11, 2) := by decide +kernel
theorem dX1_fitLine_155 : decode cX1_fitLine 155 = .ok (.iload_n 1, 1) := by decide +kernel
theorem dX1_fitLine_156 : decode cX1_fitLine 156 = .ok (.i2l, 1) := by decide +kernel
theorem dX1_fitLine_157 : decode cX1_fitLine 157 = .ok (.lmul, 1) := by decide +kernel
theorem dX1_fitLine_158 : decode cX1_fitLine 158 = .ok (.ladd, 1) := by decide +kernel
theorem dX1_fitLine_159 : decode cX1_fitLine 159 = .ok (.goto 5, 3) := by decide +kernel
theorem dX1_fitLine_162 : decode cX1_fitLine 162 = .ok (.lload 11, 2) := by decide +kernel
theorem dX1_fitLine_164 : decode cX1_fitLine 164 = .ok (.putfield 34, 3) := by decide +kernel
theorem dX1_fitLine_167 : decode cX1_fitLine 167 = .ok (.aload_n 0, 1) := by decide +kernel
theorem dX1_fitLine_168 : decode cX1_fitLine 168 = .ok (.getfield 30, 3) := by decide +kernel
theorem dX1_fitLine_171 : decode cX1_fitLine 171 = .ok (.lconst 0, 1) := by decide +kernel
theorem dX1_fitLine_172 : decode cX1_fitLine 172 = .ok (.lcmp, 1) := by decide +kernel
theorem dX1_fitLine_173 : decode cX1_fitLine 173 = .ok (.ifCond .le 7, 3) := by decide +kernel
theorem dX1_fitLine_176 : decode cX1_fitLine 176 = .ok (.iconst 1, 1) := by decide +kernel
theorem dX1_fitLine_177 : decode cX1_fitLine 177 = .ok (.goto 4, 3) := by decide +kernel
theorem dX1_fitLine_180 : decode cX1_fitLine 180 = .ok (.iconst 0, 1) := by decide +kernel
theorem dX1_fitLine_181 : decode cX1_fitLine 181 = .ok (.ireturn, 1) := by decide +kernel
set_option maxRecDepth 20000 in
theorem ggX1_leastTerm_X10_divisorOf : GoodIn wsX1_leastTerm wsX10_divisorOf := goodIn_r _ [10] (by decide +kernel) (by decide +kernel)
set_option maxRecDepth 20000 in
theorem gX1_leastTerm_X10_divisorOf_n43 : GoodIn wsX1_leastTerm (wsX10_divisorOf) := ggX1_leastTerm_X10_divisorOf
theorem dX1_leastTerm_0 : decode cX1_leastTerm 0 = .ok (.aload_n 0, 1) := by decide +kernel
theorem dX1_leastTerm_1 : decode cX1_leastTerm 1 = .ok (.getfield 34, 3) := by decide +kernel
theorem dX1_leastTerm_4 : decode cX1_leastTerm 4 = .ok (.invokestatic 37, 3) := by decide +kernel
theorem dX1_leastTerm_7 : decode cX1_leastTerm 7 = .ok (.aload_n 0, 1) := by decide +kernel
theorem dX1_leastTerm_8 : decode cX1_leastTerm 8 = .ok (.getfield 30, 3) := by decide +kernel
theorem dX1_leastTerm_11 : decode cX1_leastTerm 11 = .ok (.invokestatic 43, 3) := by decide +kernel
theorem dX1_leastTerm_14 : decode cX1_leastTerm 14 = .ok (.lstore_n 2, 1) := by decide +kernel
theorem dX1_leastTerm_15 : decode cX1_leastTerm 15 = .ok (.lload_n 2, 1) := by decide +kernel
theorem dX1_leastTerm_16 : decode cX1_leastTerm 16 = .ok (.lconst 1, 1) := by decide +kernel
theorem dX1_leastTerm_17 : decode cX1_leastTerm 17 = .ok (.lcmp, 1) := by decide +kernel
theorem dX1_leastTerm_18 : decode cX1_leastTerm 18 = .ok (.ifCond .ge 6, 3) := by decide +kernel
theorem dX1_leastTerm_21 : decode cX1_leastTerm 21 = .ok (.ldc 47, 2) := by decide +kernel
theorem dX1_leastTerm_23 : decode cX1_leastTerm 23 = .ok (.ireturn, 1) := by decide +kernel
theorem dX1_leastTerm_24 : decode cX1_leastTerm 24 = .ok (.iload_n 1, 1) := by decide +kernel
theorem dX1_leastTerm_25 : decode cX1_leastTerm 25 = .ok (.ifCond .ne 10, 3) := by decide +kernel
theorem dX1_leastTerm_28 : decode cX1_leastTerm 28 = .ok (.aload_n 0, 1) := by decide +kernel
theorem dX1_leastTerm_29 : decode cX1_leastTerm 29 = .ok (.getfield 34, 3) := by decide +kernel
theorem dX1_leastTerm_32 : decode cX1_leastTerm 32 = .ok (.goto 7, 3) := by decide +kernel
theorem dX1_leastTerm_35 : decode cX1_leastTerm 35 = .ok (.aload_n 0, 1) := by decide +kernel
theorem dX1_leastTerm_36 : decode cX1_leastTerm 36 = .ok (.getfield 30, 3) := by decide +kernel
theorem dX1_leastTerm_39 : decode cX1_leastTerm 39 = .ok (.lload_n 2, 1) := by decide +kernel
theorem dX1_leastTerm_40 : decode cX1_leastTerm 40 = .ok (.ldiv, 1) := by decide +kernel
theorem dX1_leastTerm_41 : decode cX1_leastTerm 41 = .ok (.l2i, 1) := by decide +kernel
theorem dX1_leastTerm_42 : decode cX1_leastTerm 42 = .ok (.ireturn, 1) := by decide +kernel
theorem dX2_init_0 : decode cX2_init 0 = .ok (.aload_n 0, 1) := by decide +kernel
theorem dX2_init_1 : decode cX2_init 1 = .ok (.invokespecial 3, 3) := by decide +kernel
theorem dX2_init_4 : decode cX2_init 4 = .ok (.aload_n 0, 1) := by decide +kernel
theorem dX2_init_5 : decode cX2_init 5 = .ok (.aload_n 1, 1) := by decide +kernel
theorem dX2_init_6 : decode cX2_init 6 = .ok (.putfield 9, 3) := by decide +kernel
theorem dX2_init_9 : decode cX2_init 9 = .ok (.return_, 1) := by decide +kernel
theorem dX2_empty_0 : decode cX2_empty 0 = .ok (.aload_n 0, 1) := by decide +kernel
theorem dX2_empty_1 : decode cX2_empty 1 = .ok (.iconst 0, 1) := by decide +kernel
theorem dX2_empty_2 : decode cX2_empty 2 = .ok (.putfield 15, 3) := by decide +kernel
theorem dX2_empty_5 : decode cX2_empty 5 = .ok (.aload_n 0, 1) := by decide +kernel
theorem dX2_empty_6 : decode cX2_empty 6 = .ok (.iconst 0, 1) := by decide +kernel
theorem dX2_empty_7 : decode cX2_empty 7 = .ok (.putfield 19, 3) := by decide +kernel
theorem dX2_empty_10 : decode cX2_empty 10 = .ok (.aload_n 0, 1) := by decide +kernel
theorem dX2_empty_11 : decode cX2_empty 11 = .ok (.iconst 0, 1) := by decide +kernel
theorem dX2_empty_12 : decode cX2_empty 12 = .ok (.putfield 22, 3) := by decide +kernel
theorem dX2_empty_15 : decode cX2_empty 15 = .ok (.return_, 1) := by decide +kernel
set_option maxRecDepth 20000 in
theorem ggX2_run_X2_empty : GoodIn wsX2_run wsX2_empty := goodIn_r _ [9, 4, 3, 2, 38, 39, 40, 41] (by decide +kernel) (by decide +kernel)
set_option maxRecDepth 20000 in
theorem gX2_run_X2_empty : GoodIn wsX2_run (wsV RX2 25 RX2 yX2_empty wsX2_empty) := goodIn_app (goodIn_of _ (by decide +kernel)) ggX2_run_X2_empty
set_option maxRecDepth 20000 in
theorem ggX2_run_X3_renew : GoodIn wsX2_run wsX3_renew := goodIn_r _ [14, 15, 16, 17, 18, 42, 43, 44] (by decide +kernel) (by decide +kernel)
set_option maxRecDepth 20000 in
theorem gX2_run_X3_renew : GoodIn wsX2_run (wsV RX2 28 RX3 yX3_renew wsX3_renew) := goodIn_app (goodIn_of _ (by decide +kernel)) ggX2_run_X3_renew
set_option maxRecDepth 20000 in
theorem ggX2_run_X9_after : GoodIn wsX2_run wsX9_after := goodIn_r _ [23, 24, 25, 26, 27, 28, 29, 30, 31, 32, 33, 45, 46, 47, 48] (by decide +kernel) (by decide +kernel)
set_option maxRecDepth 20000 in
theorem gX2_run_X9_after : GoodIn wsX2_run (wsV RX2 34 RX9 yX9_after wsX9_after) := goodIn_app (goodIn_of _ (by decide +kernel)) ggX2_run_X9_after
set_option maxRecDepth 20000 in
theorem ggX2_run_X10_cellOf : GoodIn wsX2_run wsX10_cellOf := goodIn_r _ [31] (by decide +kernel) (by decide +kernel)
set_option maxRecDepth 20000 in
theorem gX2_run_X10_cellOf_n40 : GoodIn wsX2_run (wsX10_cellOf) := ggX2_run_X10_cellOf
set_option maxRecDepth 20000 in
theorem ggX2_run_X3_add : GoodIn wsX2_run wsX3_add := goodIn_r _ [37, 18, 15, 42, 43, 44] (by decide +kernel) (by decide +kernel)
set_option maxRecDepth 20000 in
theorem gX2_run_X3_add : GoodIn wsX2_run (wsV RX2 43 RX3 yX3_add wsX3_add) := goodIn_app (goodIn_of _ (by decide +kernel)) ggX2_run_X3_add
theorem dX2_run_0 : decode cX2_run 0 = .ok (.aload_n 0, 1) := by decide +kernel
theorem dX2_run_1 : decode cX2_run 1 = .ok (.invokevirtual 25, 3) := by decide +kernel
theorem dX2_run_4 : decode cX2_run 4 = .ok (.aload_n 0, 1) := by decide +kernel
theorem dX2_run_5 : decode cX2_run 5 = .ok (.getfield 9, 3) := by decide +kernel
theorem dX2_run_8 : decode cX2_run 8 = .ok (.iconst 1, 1) := by decide +kernel
theorem dX2_run_9 : decode cX2_run 9 = .ok (.invokevirtual 28, 3) := by decide +kernel
theorem dX2_run_12 : decode cX2_run 12 = .ok (.iload_n 2, 1) := by decide +kernel
theorem dX2_run_13 : decode cX2_run 13 = .ok (.istore_n 3, 1) := by decide +kernel
theorem dX2_run_14 : decode cX2_run 14 = .ok (.aload_n 1, 1) := by decide +kernel
theorem dX2_run_15 : decode cX2_run 15 = .ok (.iload_n 3, 1) := by decide +kernel
theorem dX2_run_16 : decode cX2_run 16 = .ok (.invokevirtual 34, 3) := by decide +kernel
theorem dX2_run_19 : decode cX2_run 19 = .ok (.istore 4, 2) := by decide +kernel
theorem dX2_run_21 : decode cX2_run 21 = .ok (.aload_n 0, 1) := by decide +kernel
theorem dX2_run_22 : decode cX2_run 22 = .ok (.dup, 1) := by decide +kernel
theorem dX2_run_23 : decode cX2_run 23 = .ok (.getfield 22, 3) := by decide +kernel
theorem dX2_run_26 : decode cX2_run 26 = .ok (.aload_n 0, 1) := by decide +kernel
theorem dX2_run_27 : decode cX2_run 27 = .ok (.getfield 9, 3) := by decide +kernel
theorem dX2_run_30 : decode cX2_run 30 = .ok (.iload_n 3, 1) := by decide +kernel
theorem dX2_run_31 : decode cX2_run 31 = .ok (.invokestatic 40, 3) := by decide +kernel
theorem dX2_run_34 : decode cX2_run 34 = .ok (.invokevirtual 43, 3) := by decide +kernel
theorem dX2_run_37 : decode cX2_run 37 = .ok (.iadd, 1) := by decide +kernel
theorem dX2_run_38 : decode cX2_run 38 = .ok (.putfield 22, 3) := by decide +kernel
theorem dX2_run_41 : decode cX2_run 41 = .ok (.aload_n 0, 1) := by decide +kernel
theorem dX2_run_42 : decode cX2_run 42 = .ok (.dup, 1) := by decide +kernel
theorem dX2_run_43 : decode cX2_run 43 = .ok (.getfield 19, 3) := by decide +kernel
theorem dX2_run_46 : decode cX2_run 46 = .ok (.iload 4, 2) := by decide +kernel
theorem dX2_run_48 : decode cX2_run 48 = .ok (.invokestatic 40, 3) := by decide +kernel
theorem dX2_run_51 : decode cX2_run 51 = .ok (.iload_n 3, 1) := by decide +kernel
theorem dX2_run_52 : decode cX2_run 52 = .ok (.invokestatic 40, 3) := by decide +kernel
theorem dX2_run_55 : decode cX2_run 55 = .ok (.if_icmp .ne 7, 3) := by decide +kernel
theorem dX2_run_58 : decode cX2_run 58 = .ok (.iconst 0, 1) := by decide +kernel
theorem dX2_run_59 : decode cX2_run 59 = .ok (.goto 4, 3) := by decide +kernel
theorem dX2_run_62 : decode cX2_run 62 = .ok (.iconst 1, 1) := by decide +kernel
theorem dX2_run_63 : decode cX2_run 63 = .ok (.iadd, 1) := by decide +kernel
theorem dX2_run_64 : decode cX2_run 64 = .ok (.putfield 19, 3) := by decide +kernel
theorem dX2_run_67 : decode cX2_run 67 = .ok (.aload_n 0, 1) := by decide +kernel
theorem dX2_run_68 : decode cX2_run 68 = .ok (.dup, 1) := by decide +kernel
theorem dX2_run_69 : decode cX2_run 69 = .ok (.getfield 15, 3) := by decide +kernel
theorem dX2_run_72 : decode cX2_run 72 = .ok (.iconst 1, 1) := by decide +kernel
theorem dX2_run_73 : decode cX2_run 73 = .ok (.iadd, 1) := by decide +kernel
theorem dX2_run_74 : decode cX2_run 74 = .ok (.putfield 15, 3) := by decide +kernel
theorem dX2_run_77 : decode cX2_run 77 = .ok (.iload 4, 2) := by decide +kernel
theorem dX2_run_79 : decode cX2_run 79 = .ok (.istore_n 3, 1) := by decide +kernel
theorem dX2_run_80 : decode cX2_run 80 = .ok (.iload_n 3, 1) := by decide +kernel
theorem dX2_run_81 : decode cX2_run 81 = .ok (.iload_n 2, 1) := by decide +kernel
theorem dX2_run_82 : decode cX2_run 82 = .ok (.if_icmp .eq 13, 3) := by decide +kernel
theorem dX2_run_85 : decode cX2_run 85 = .ok (.aload_n 0, 1) := by decide +kernel
theorem dX2_run_86 : decode cX2_run 86 = .ok (.getfield 15, 3) := by decide +kernel
theorem dX2_run_89 : decode cX2_run 89 = .ok (.sipush 18432, 3) := by decide +kernel
theorem dX2_run_92 : decode cX2_run 92 = .ok (.if_icmp .lt (-78), 3) := by decide +kernel
theorem dX2_run_95 : decode cX2_run 95 = .ok (.return_, 1) := by decide +kernel
theorem dX3_init_0 : decode cX3_init 0 = .ok (.aload_n 0, 1) := by decide +kernel
theorem dX3_init_1 : decode cX3_init 1 = .ok (.invokespecial 1, 3) := by decide +kernel
theorem dX3_init_4 : decode cX3_init 4 = .ok (.aload_n 0, 1) := by decide +kernel
theorem dX3_init_5 : decode cX3_init 5 = .ok (.iload_n 1, 1) := by decide +kernel
theorem dX3_init_6 : decode cX3_init 6 = .ok (.ifCond .le 7, 3) := by decide +kernel
theorem dX3_init_9 : decode cX3_init 9 = .ok (.iload_n 1, 1) := by decide +kernel
theorem dX3_init_10 : decode cX3_init 10 = .ok (.goto 4, 3) := by decide +kernel
theorem dX3_init_13 : decode cX3_init 13 = .ok (.iconst 1, 1) := by decide +kernel
theorem dX3_init_14 : decode cX3_init 14 = .ok (.newarray .int, 2) := by decide +kernel
theorem dX3_init_16 : decode cX3_init 16 = .ok (.putfield 7, 3) := by decide +kernel
theorem dX3_init_19 : decode cX3_init 19 = .ok (.return_, 1) := by decide +kernel
theorem dX3_renew_0 : decode cX3_renew 0 = .ok (.aload_n 0, 1) := by decide +kernel
theorem dX3_renew_1 : decode cX3_renew 1 = .ok (.dup, 1) := by decide +kernel
theorem dX3_renew_2 : decode cX3_renew 2 = .ok (.getfield 13, 3) := by decide +kernel
theorem dX3_renew_5 : decode cX3_renew 5 = .ok (.aload_n 0, 1) := by decide +kernel
theorem dX3_renew_6 : decode cX3_renew 6 = .ok (.getfield 17, 3) := by decide +kernel
theorem dX3_renew_9 : decode cX3_renew 9 = .ok (.iadd, 1) := by decide +kernel
theorem dX3_renew_10 : decode cX3_renew 10 = .ok (.putfield 13, 3) := by decide +kernel
theorem dX3_renew_13 : decode cX3_renew 13 = .ok (.aload_n 0, 1) := by decide +kernel
theorem dX3_renew_14 : decode cX3_renew 14 = .ok (.iload_n 1, 1) := by decide +kernel
theorem dX3_renew_15 : decode cX3_renew 15 = .ok (.putfield 17, 3) := by decide +kernel
theorem dX3_renew_18 : decode cX3_renew 18 = .ok (.aload_n 0, 1) := by decide +kernel
theorem dX3_renew_19 : decode cX3_renew 19 = .ok (.getfield 13, 3) := by decide +kernel
theorem dX3_renew_22 : decode cX3_renew 22 = .ok (.ldc 20, 2) := by decide +kernel
theorem dX3_renew_24 : decode cX3_renew 24 = .ok (.if_icmp .le 32, 3) := by decide +kernel
theorem dX3_renew_27 : decode cX3_renew 27 = .ok (.aload_n 0, 1) := by decide +kernel
theorem dX3_renew_28 : decode cX3_renew 28 = .ok (.iconst 0, 1) := by decide +kernel
theorem dX3_renew_29 : decode cX3_renew 29 = .ok (.putfield 13, 3) := by decide +kernel
theorem dX3_renew_32 : decode cX3_renew 32 = .ok (.iconst 0, 1) := by decide +kernel
theorem dX3_renew_33 : decode cX3_renew 33 = .ok (.istore_n 2, 1) := by decide +kernel
theorem dX3_renew_34 : decode cX3_renew 34 = .ok (.iload_n 2, 1) := by decide +kernel
theorem dX3_renew_35 : decode cX3_renew 35 = .ok (.aload_n 0, 1) := by decide +kernel
theorem dX3_renew_36 : decode cX3_renew 36 = .ok (.getfield 7, 3) := by decide +kernel
theorem dX3_renew_39 : decode cX3_renew 39 = .ok (.arraylength, 1) := by decide +kernel
theorem dX3_renew_40 : decode cX3_renew 40 = .ok (.if_icmp .ge 16, 3) := by decide +kernel
theorem dX3_renew_43 : decode cX3_renew 43 = .ok (.aload_n 0, 1) := by decide +kernel
theorem dX3_renew_44 : decode cX3_renew 44 = .ok (.getfield 7, 3) := by decide +kernel
theorem dX3_renew_47 : decode cX3_renew 47 = .ok (.iload_n 2, 1) := by decide +kernel
theorem dX3_renew_48 : decode cX3_renew 48 = .ok (.iconst 0, 1) := by decide +kernel
theorem dX3_renew_49 : decode cX3_renew 49 = .ok (.iastore, 1) := by decide +kernel
theorem dX3_renew_50 : decode cX3_renew 50 = .ok (.iinc 2 1, 3) := by decide +kernel
theorem dX3_renew_53 : decode cX3_renew 53 = .ok (.goto (-19), 3) := by decide +kernel
theorem dX3_renew_56 : decode cX3_renew 56 = .ok (.return_, 1) := by decide +kernel
set_option maxRecDepth 20000 in
theorem ggX3_get_X10_at : GoodIn wsX3_get wsX10_at := goodIn_r _ [9] (by decide +kernel) (by decide +kernel)
set_option maxRecDepth 20000 in
theorem gX3_get_X10_at_n21 : GoodIn wsX3_get (wsX10_at) := ggX3_get_X10_at
theorem dX3_get_0 : decode cX3_get 0 = .ok (.iconst 0, 1) := by decide +kernel
theorem dX3_get_1 : decode cX3_get 1 = .ok (.aload_n 0, 1) := by decide +kernel
theorem dX3_get_2 : decode cX3_get 2 = .ok (.getfield 7, 3) := by decide +kernel
theorem dX3_get_5 : decode cX3_get 5 = .ok (.iload_n 1, 1) := by decide +kernel
theorem dX3_get_6 : decode cX3_get 6 = .ok (.invokestatic 21, 3) := by decide +kernel
theorem dX3_get_9 : decode cX3_get 9 = .ok (.aload_n 0, 1) := by decide +kernel
theorem dX3_get_10 : decode cX3_get 10 = .ok (.getfield 13, 3) := by decide +kernel
theorem dX3_get_13 : decode cX3_get 13 = .ok (.isub, 1) := by decide +kernel
theorem dX3_get_14 : decode cX3_get 14 = .ok (.invokestatic 27, 3) := by decide +kernel
theorem dX3_get_17 : decode cX3_get 17 = .ok (.ireturn, 1) := by decide +kernel
set_option maxRecDepth 20000 in
theorem ggX3_set_X10_set : GoodIn wsX3_set wsX10_set := goodIn_r _ [5] (by decide +kernel) (by decide +kernel)
set_option maxRecDepth 20000 in
theorem gX3_set_X10_set_n33 : GoodIn wsX3_set (wsX10_set) := ggX3_set_X10_set
theorem dX3_set_0 : decode cX3_set 0 = .ok (.aload_n 0, 1) := by decide +kernel
theorem dX3_set_1 : decode cX3_set 1 = .ok (.getfield 7, 3) := by decide +kernel
theorem dX3_set_4 : decode cX3_set 4 = .ok (.iload_n 1, 1) := by decide +kernel
theorem dX3_set_5 : decode cX3_set 5 = .ok (.aload_n 0, 1) := by decide +kernel
theorem dX3_set_6 : decode cX3_set 6 = .ok (.getfield 13, 3) := by decide +kernel
theorem dX3_set_9 : decode cX3_set 9 = .ok (.iload_n 2, 1) := by decide +kernel
theorem dX3_set_10 : decode cX3_set 10 = .ok (.iadd, 1) := by decide +kernel
theorem dX3_set_11 : decode cX3_set 11 = .ok (.invokestatic 33, 3) := by decide +kernel
theorem dX3_set_14 : decode cX3_set 14 = .ok (.return_, 1) := by decide +kernel
theorem dX3_add_0 : decode cX3_add 0 = .ok (.iload_n 1, 1) := by decide +kernel
theorem dX3_add_1 : decode cX3_add 1 = .ok (.ifCond .lt 25, 3) := by decide +kernel
theorem dX3_add_4 : decode cX3_add 4 = .ok (.iload_n 1, 1) := by decide +kernel
theorem dX3_add_5 : decode cX3_add 5 = .ok (.aload_n 0, 1) := by decide +kernel
theorem dX3_add_6 : decode cX3_add 6 = .ok (.getfield 7, 3) := by decide +kernel
theorem dX3_add_9 : decode cX3_add 9 = .ok (.arraylength, 1) := by decide +kernel
theorem dX3_add_10 : decode cX3_add 10 = .ok (.if_icmp .ge 16, 3) := by decide +kernel
theorem dX3_add_13 : decode cX3_add 13 = .ok (.aload_n 0, 1) := by decide +kernel
theorem dX3_add_14 : decode cX3_add 14 = .ok (.getfield 7, 3) := by decide +kernel
theorem dX3_add_17 : decode cX3_add 17 = .ok (.iload_n 1, 1) := by decide +kernel
theorem dX3_add_18 : decode cX3_add 18 = .ok (.iaload, 1) := by decide +kernel
theorem dX3_add_19 : decode cX3_add 19 = .ok (.aload_n 0, 1) := by decide +kernel
theorem dX3_add_20 : decode cX3_add 20 = .ok (.getfield 13, 3) := by decide +kernel
theorem dX3_add_23 : decode cX3_add 23 = .ok (.if_icmp .le 5, 3) := by decide +kernel
theorem dX3_add_26 : decode cX3_add 26 = .ok (.iconst 0, 1) := by decide +kernel
theorem dX3_add_27 : decode cX3_add 27 = .ok (.ireturn, 1) := by decide +kernel
theorem dX3_add_28 : decode cX3_add 28 = .ok (.aload_n 0, 1) := by decide +kernel
theorem dX3_add_29 : decode cX3_add 29 = .ok (.getfield 7, 3) := by decide +kernel
theorem dX3_add_32 : decode cX3_add 32 = .ok (.iload_n 1, 1) := by decide +kernel
theorem dX3_add_33 : decode cX3_add 33 = .ok (.aload_n 0, 1) := by decide +kernel
theorem dX3_add_34 : decode cX3_add 34 = .ok (.getfield 13, 3) := by decide +kernel
theorem dX3_add_37 : decode cX3_add 37 = .ok (.iconst 1, 1) := by decide +kernel
theorem dX3_add_38 : decode cX3_add 38 = .ok (.iadd, 1) := by decide +kernel
theorem dX3_add_39 : decode cX3_add 39 = .ok (.iastore, 1) := by decide +kernel
theorem dX3_add_40 : decode cX3_add 40 = .ok (.iconst 1, 1) := by decide +kernel
theorem dX3_add_41 : decode cX3_add 41 = .ok (.ireturn, 1) := by decide +kernel
theorem dX4_init_0 : decode cX4_init 0 = .ok (.aload_n 0, 1) := by decide +kernel
theorem dX4_init_1 : decode cX4_init 1 = .ok (.invokespecial 3, 3) := by decide +kernel
theorem dX4_init_4 : decode cX4_init 4 = .ok (.return_, 1) := by decide +kernel
set_option maxRecDepth 20000 in
theorem ggX4_begin_X4_stand : GoodIn wsX4_begin wsX4_stand := goodIn_r _ [14, 15, 16, 17, 18, 29, 30, 31, 32, 33, 34, 35, 36, 37, 38] (by decide +kernel) (by decide +kernel)
set_option maxRecDepth 20000 in
theorem gX4_begin_X4_stand : GoodIn wsX4_begin (wsV RX4 18 RX4 yX4_stand wsX4_stand) := goodIn_app (goodIn_of _ (by decide +kernel)) ggX4_begin_X4_stand
theorem dX4_begin_0 : decode cX4_begin 0 = .ok (.aload_n 0, 1) := by decide +kernel
theorem dX4_begin_1 : decode cX4_begin 1 = .ok (.aload_n 1, 1) := by decide +kernel
theorem dX4_begin_2 : decode cX4_begin 2 = .ok (.getfield 9, 3) := by decide +kernel
theorem dX4_begin_5 : decode cX4_begin 5 = .ok (.aload_n 1, 1) := by decide +kernel
theorem dX4_begin_6 : decode cX4_begin 6 = .ok (.getfield 15, 3) := by decide +kernel
theorem dX4_begin_9 : decode cX4_begin 9 = .ok (.invokevirtual 18, 3) := by decide +kernel
theorem dX4_begin_12 : decode cX4_begin 12 = .ok (.aload_n 0, 1) := by decide +kernel
theorem dX4_begin_13 : decode cX4_begin 13 = .ok (.aload_n 1, 1) := by decide +kernel
theorem dX4_begin_14 : decode cX4_begin 14 = .ok (.getfield 24, 3) := by decide +kernel
theorem dX4_begin_17 : decode cX4_begin 17 = .ok (.putfield 27, 3) := by decide +kernel
theorem dX4_begin_20 : decode cX4_begin 20 = .ok (.aload_n 0, 1) := by decide +kernel
theorem dX4_begin_21 : decode cX4_begin 21 = .ok (.iconst 0, 1) := by decide +kernel
theorem dX4_begin_22 : decode cX4_begin 22 = .ok (.putfield 28, 3) := by decide +kernel
theorem dX4_begin_25 : decode cX4_begin 25 = .ok (.aload_n 0, 1) := by decide +kernel
theorem dX4_begin_26 : decode cX4_begin 26 = .ok (.iconst 0, 1) := by decide +kernel
theorem dX4_begin_27 : decode cX4_begin 27 = .ok (.putfield 31, 3) := by decide +kernel
theorem dX4_begin_30 : decode cX4_begin 30 = .ok (.aload_n 0, 1) := by decide +kernel
theorem dX4_begin_31 : decode cX4_begin 31 = .ok (.iconst 0, 1) := by decide +kernel
theorem dX4_begin_32 : decode cX4_begin 32 = .ok (.putfield 34, 3) := by decide +kernel
theorem dX4_begin_35 : decode cX4_begin 35 = .ok (.aload_n 0, 1) := by decide +kernel
theorem dX4_begin_36 : decode cX4_begin 36 = .ok (.iconst 0, 1) := by decide +kernel
theorem dX4_begin_37 : decode cX4_begin 37 = .ok (.putfield 37, 3) := by decide +kernel
theorem dX4_begin_40 : decode cX4_begin 40 = .ok (.aload_n 0, 1) := by decide +kernel
theorem dX4_begin_41 : decode cX4_begin 41 = .ok (.bipush (-9), 2) := by decide +kernel
theorem dX4_begin_43 : decode cX4_begin 43 = .ok (.putfield 40, 3) := by decide +kernel
theorem dX4_begin_46 : decode cX4_begin 46 = .ok (.return_, 1) := by decide +kernel
theorem dX4_stand_0 : decode cX4_stand 0 = .ok (.aload_n 0, 1) := by decide +kernel
theorem dX4_stand_1 : decode cX4_stand 1 = .ok (.iload_n 1, 1) := by decide +kernel
theorem dX4_stand_2 : decode cX4_stand 2 = .ok (.putfield 43, 3) := by decide +kernel
theorem dX4_stand_5 : decode cX4_stand 5 = .ok (.aload_n 0, 1) := by decide +kernel
theorem dX4_stand_6 : decode cX4_stand 6 = .ok (.iload_n 2, 1) := by decide +kernel
theorem dX4_stand_7 : decode cX4_stand 7 = .ok (.putfield 46, 3) := by decide +kernel
theorem dX4_stand_10 : decode cX4_stand 10 = .ok (.aload_n 0, 1) := by decide +kernel
theorem dX4_stand_11 : decode cX4_stand 11 = .ok (.iconst 0, 1) := by decide +kernel
theorem dX4_stand_12 : decode cX4_stand 12 = .ok (.putfield 49, 3) := by decide +kernel
theorem dX4_stand_15 : decode cX4_stand 15 = .ok (.aload_n 0, 1) := by decide +kernel
theorem dX4_stand_16 : decode cX4_stand 16 = .ok (.iconst 0, 1) := by decide +kernel
theorem dX4_stand_17 : decode cX4_stand 17 = .ok (.putfield 52, 3) := by decide +kernel
theorem dX4_stand_20 : decode cX4_stand 20 = .ok (.return_, 1) := by decide +kernel
set_option maxRecDepth 20000 in
theorem ggX4_copy_X4_stand : GoodIn wsX4_copy wsX4_stand := goodIn_r _ [15, 1, 2, 3, 4, 16, 17, 18, 19, 20, 21, 22, 23, 24, 25] (by decide +kernel) (by decide +kernel)
set_option maxRecDepth 20000 in
theorem gX4_copy_X4_stand : GoodIn wsX4_copy (wsV RX4 18 RX4 yX4_stand wsX4_stand) := goodIn_app (goodIn_of _ (by decide +kernel)) ggX4_copy_X4_stand
theorem dX4_copy_0 : decode cX4_copy 0 = .ok (.aload_n 0, 1) := by decide +kernel
theorem dX4_copy_1 : decode cX4_copy 1 = .ok (.aload_n 1, 1) := by decide +kernel
theorem dX4_copy_2 : decode cX4_copy 2 = .ok (.getfield 43, 3) := by decide +kernel
theorem dX4_copy_5 : decode cX4_copy 5 = .ok (.aload_n 1, 1) := by decide +kernel
theorem dX4_copy_6 : decode cX4_copy 6 = .ok (.getfield 46, 3) := by decide +kernel
theorem dX4_copy_9 : decode cX4_copy 9 = .ok (.invokevirtual 18, 3) := by decide +kernel
theorem dX4_copy_12 : decode cX4_copy 12 = .ok (.aload_n 0, 1) := by decide +kernel
theorem dX4_copy_13 : decode cX4_copy 13 = .ok (.aload_n 1, 1) := by decide +kernel
theorem dX4_copy_14 : decode cX4_copy 14 = .ok (.getfield 49, 3) := by decide +kernel
theorem dX4_copy_17 : decode cX4_copy 17 = .ok (.putfield 49, 3) := by decide +kernel
theorem dX4_copy_20 : decode cX4_copy 20 = .ok (.aload_n 0, 1) := by decide +kernel
theorem dX4_copy_21 : decode cX4_copy 21 = .ok (.aload_n 1, 1) := by decide +kernel
theorem dX4_copy_22 : decode cX4_copy 22 = .ok (.getfield 52, 3) := by decide +kernel
theorem dX4_copy_25 : decode cX4_copy 25 = .ok (.putfield 52, 3) := by decide +kernel
theorem dX4_copy_28 : decode cX4_copy 28 = .ok (.aload_n 0, 1) := by decide +kernel
theorem dX4_copy_29 : decode cX4_copy 29 = .ok (.aload_n 1, 1) := by decide +kernel
theorem dX4_copy_30 : decode cX4_copy 30 = .ok (.getfield 27, 3) := by decide +kernel
theorem dX4_copy_33 : decode cX4_copy 33 = .ok (.putfield 27, 3) := by decide +kernel
theorem dX4_copy_36 : decode cX4_copy 36 = .ok (.aload_n 0, 1) := by decide +kernel
theorem dX4_copy_37 : decode cX4_copy 37 = .ok (.aload_n 1, 1) := by decide +kernel
theorem dX4_copy_38 : decode cX4_copy 38 = .ok (.getfield 28, 3) := by decide +kernel
theorem dX4_copy_41 : decode cX4_copy 41 = .ok (.putfield 28, 3) := by decide +kernel
theorem dX4_copy_44 : decode cX4_copy 44 = .ok (.aload_n 0, 1) := by decide +kernel
theorem dX4_copy_45 : decode cX4_copy 45 = .ok (.aload_n 1, 1) := by decide +kernel
theorem dX4_copy_46 : decode cX4_copy 46 = .ok (.getfield 31, 3) := by decide +kernel
theorem dX4_copy_49 : decode cX4_copy 49 = .ok (.putfield 31, 3) := by decide +kernel
theorem dX4_copy_52 : decode cX4_copy 52 = .ok (.aload_n 0, 1) := by decide +kernel
theorem dX4_copy_53 : decode cX4_copy 53 = .ok (.aload_n 1, 1) := by decide +kernel
theorem dX4_copy_54 : decode cX4_copy 54 = .ok (.getfield 34, 3) := by decide +kernel
theorem dX4_copy_57 : decode cX4_copy 57 = .ok (.putfield 34, 3) := by decide +kernel
theorem dX4_copy_60 : decode cX4_copy 60 = .ok (.aload_n 0, 1) := by decide +kernel
theorem dX4_copy_61 : decode cX4_copy 61 = .ok (.aload_n 1, 1) := by decide +kernel
theorem dX4_copy_62 : decode cX4_copy 62 = .ok (.getfield 37, 3) := by decide +kernel
theorem dX4_copy_65 : decode cX4_copy 65 = .ok (.putfield 37, 3) := by decide +kernel
theorem dX4_copy_68 : decode cX4_copy 68 = .ok (.aload_n 0, 1) := by decide +kernel
theorem dX4_copy_69 : decode cX4_copy 69 = .ok (.aload_n 1, 1) := by decide +kernel
theorem dX4_copy_70 : decode cX4_copy 70 = .ok (.getfield 40, 3) := by decide +kernel
theorem dX4_copy_73 : decode cX4_copy 73 = .ok (.putfield 40, 3) := by decide +kernel
theorem dX4_copy_76 : decode cX4_copy 76 = .ok (.return_, 1) := by decide +kernel
set_option maxRecDepth 20000 in
theorem ggX4_state_X7_isWood : GoodIn wsX4_state wsX7_isWood := goodIn_r _ [7, 8, 9, 10, 6, 11, 12, 13, 14, 25, 26, 27, 28, 29, 30, 31, 32, 33, 34] (by decide +kernel) (by decide +kernel)
set_option maxRecDepth 20000 in
theorem gX4_state_X7_isWood : GoodIn wsX4_state (wsV RX4 55 RX7 yX7_isWood wsX7_isWood) := goodIn_app (goodIn_of _ (by decide +kernel)) ggX4_state_X7_isWood
theorem dX4_state_0 : decode cX4_state 0 = .ok (.aload_n 1, 1) := by decide +kernel
theorem dX4_state_1 : decode cX4_state 1 = .ok (.aload_n 0, 1) := by decide +kernel
theorem dX4_state_2 : decode cX4_state 2 = .ok (.getfield 43, 3) := by decide +kernel
theorem dX4_state_5 : decode cX4_state 5 = .ok (.invokevirtual 55, 3) := by decide +kernel
theorem dX4_state_8 : decode cX4_state 8 = .ok (.ifCond .ne 5, 3) := by decide +kernel
theorem dX4_state_11 : decode cX4_state 11 = .ok (.iconst 2, 1) := by decide +kernel
theorem dX4_state_12 : decode cX4_state 12 = .ok (.ireturn, 1) := by decide +kernel
theorem dX4_state_13 : decode cX4_state 13 = .ok (.aload_n 0, 1) := by decide +kernel
theorem dX4_state_14 : decode cX4_state 14 = .ok (.getfield 27, 3) := by decide +kernel
theorem dX4_state_17 : decode cX4_state 17 = .ok (.ifCond .ne 7, 3) := by decide +kernel
theorem dX4_state_20 : decode cX4_state 20 = .ok (.iconst 1, 1) := by decide +kernel
theorem dX4_state_21 : decode cX4_state 21 = .ok (.goto 4, 3) := by decide +kernel
theorem dX4_state_24 : decode cX4_state 24 = .ok (.iconst 0, 1) := by decide +kernel
theorem dX4_state_25 : decode cX4_state 25 = .ok (.ireturn, 1) := by decide +kernel
set_option maxRecDepth 20000 in
theorem ggX4_step_X7_turnsAt : GoodIn wsX4_step wsX7_turnsAt := goodIn_r _ [10, 11, 12, 13, 9, 14, 15, 16, 17, 18, 19, 20, 21, 22, 23, 24, 25, 26, 27, 28, 29, 30, 31, 32, 33, 34, 35, 36, 37, 38, 39, 40, 84, 85, 86, 87, 88, 89, 90, 91, 92, 93] (by decide +kernel) (by decide +kernel)
set_option maxRecDepth 20000 in
theorem gX4_step_X7_turnsAt : GoodIn wsX4_step (wsV RX4 62 RX7 yX7_turnsAt wsX7_turnsAt) := goodIn_app (goodIn_of _ (by decide +kernel)) ggX4_step_X7_turnsAt
set_option maxRecDepth 20000 in
theorem ggX4_step_X4_turnRight : GoodIn wsX4_step wsX4_turnRight := goodIn_r _ [45, 46, 47, 48, 4, 49, 50, 51, 52, 44, 53, 3, 54, 12, 13, 9, 14, 15, 16, 17, 18, 19, 20, 21, 22, 23, 24, 25, 26, 27, 55, 29, 30, 31, 32, 33, 34, 35, 36, 56, 57, 58, 59, 5, 60, 38, 39, 40, 74, 75, 76, 77, 78, 79, 80, 81, 82, 83, 84, 85, 86, 87, 88, 89, 90, 91, 92, 93] (by decide +kernel) (by decide +kernel)
set_option maxRecDepth 20000 in
theorem gX4_step_X4_turnRight : GoodIn wsX4_step (wsV RX4 66 RX4 yX4_turnRight wsX4_turnRight) := goodIn_app (goodIn_of _ (by decide +kernel)) ggX4_step_X4_turnRight
set_option maxRecDepth 20000 in
theorem ggX4_step_X4_moveOn : GoodIn wsX4_step wsX4_moveOn := goodIn_r _ [64, 65, 47, 3, 4, 66, 67, 68, 54, 12, 13, 9, 14, 15, 16, 17, 18, 19, 20, 21, 22, 23, 24, 25, 26, 27, 60, 38, 39, 40, 32, 33, 34, 35, 36, 69, 70, 71, 44, 72, 73, 74, 75, 76, 77, 78, 79, 80, 81, 82, 83, 84, 85, 86, 87, 88, 89, 90, 91, 92, 93] (by decide +kernel) (by decide +kernel)
set_option maxRecDepth 20000 in
theorem gX4_step_X4_moveOn : GoodIn wsX4_step (wsV RX4 70 RX4 yX4_moveOn wsX4_moveOn) := goodIn_app (goodIn_of _ (by decide +kernel)) ggX4_step_X4_moveOn
theorem dX4_step_0 : decode cX4_step 0 = .ok (.aload_n 0, 1) := by decide +kernel
theorem dX4_step_1 : decode cX4_step 1 = .ok (.dup, 1) := by decide +kernel
theorem dX4_step_2 : decode cX4_step 2 = .ok (.getfield 27, 3) := by decide +kernel
theorem dX4_step_5 : decode cX4_step 5 = .ok (.iconst 1, 1) := by decide +kernel
theorem dX4_step_6 : decode cX4_step 6 = .ok (.isub, 1) := by decide +kernel
theorem dX4_step_7 : decode cX4_step 7 = .ok (.putfield 27, 3) := by decide +kernel
theorem dX4_step_10 : decode cX4_step 10 = .ok (.aload_n 0, 1) := by decide +kernel
theorem dX4_step_11 : decode cX4_step 11 = .ok (.dup, 1) := by decide +kernel
theorem dX4_step_12 : decode cX4_step 12 = .ok (.getfield 28, 3) := by decide +kernel
theorem dX4_step_15 : decode cX4_step 15 = .ok (.iconst 1, 1) := by decide +kernel
theorem dX4_step_16 : decode cX4_step 16 = .ok (.iadd, 1) := by decide +kernel
theorem dX4_step_17 : decode cX4_step 17 = .ok (.putfield 28, 3) := by decide +kernel
theorem dX4_step_20 : decode cX4_step 20 = .ok (.aload_n 1, 1) := by decide +kernel
theorem dX4_step_21 : decode cX4_step 21 = .ok (.aload_n 0, 1) := by decide +kernel
theorem dX4_step_22 : decode cX4_step 22 = .ok (.getfield 43, 3) := by decide +kernel
theorem dX4_step_25 : decode cX4_step 25 = .ok (.aload_n 0, 1) := by decide +kernel
theorem dX4_step_26 : decode cX4_step 26 = .ok (.getfield 46, 3) := by decide +kernel
theorem dX4_step_29 : decode cX4_step 29 = .ok (.aload_n 1, 1) := by decide +kernel
theorem dX4_step_30 : decode cX4_step 30 = .ok (.getfield 59, 3) := by decide +kernel
theorem dX4_step_33 : decode cX4_step 33 = .ok (.invokevirtual 62, 3) := by decide +kernel
theorem dX4_step_36 : decode cX4_step 36 = .ok (.ifCond .eq 11, 3) := by decide +kernel
theorem dX4_step_39 : decode cX4_step 39 = .ok (.aload_n 0, 1) := by decide +kernel
theorem dX4_step_40 : decode cX4_step 40 = .ok (.aload_n 1, 1) := by decide +kernel
theorem dX4_step_41 : decode cX4_step 41 = .ok (.invokevirtual 66, 3) := by decide +kernel
theorem dX4_step_44 : decode cX4_step 44 = .ok (.goto 8, 3) := by decide +kernel
theorem dX4_step_47 : decode cX4_step 47 = .ok (.aload_n 0, 1) := by decide +kernel
theorem dX4_step_48 : decode cX4_step 48 = .ok (.aload_n 1, 1) := by decide +kernel
theorem dX4_step_49 : decode cX4_step 49 = .ok (.invokevirtual 70, 3) := by decide +kernel
theorem dX4_step_52 : decode cX4_step 52 = .ok (.return_, 1) := by decide +kernel
set_option maxRecDepth 20000 in
theorem ggX4_turnRight_X4_sortOfTurn : GoodIn wsX4_turnRight wsX4_sortOfTurn := goodIn_r _ [10, 11, 4, 2, 12, 13, 14, 15, 16, 17, 18, 19, 20, 21, 22, 23, 24, 25, 26, 27, 28, 29, 30, 31, 32, 33, 34, 35, 36, 37, 38, 39, 40, 41, 9, 42, 43, 44, 45, 46, 47, 48, 49, 50, 51, 52, 53, 54, 55, 56, 57, 58, 59, 60, 61, 62, 63, 64, 65, 66, 67] (by decide +kernel) (by decide +kernel)
set_option maxRecDepth 20000 in
theorem gX4_turnRight_X4_sortOfTurn : GoodIn wsX4_turnRight (wsV RX4 73 RX4 yX4_sortOfTurn wsX4_sortOfTurn) := goodIn_app (goodIn_of _ (by decide +kernel)) ggX4_turnRight_X4_sortOfTurn
theorem dX4_turnRight_0 : decode cX4_turnRight 0 = .ok (.aload_n 0, 1) := by decide +kernel
theorem dX4_turnRight_1 : decode cX4_turnRight 1 = .ok (.dup, 1) := by decide +kernel
theorem dX4_turnRight_2 : decode cX4_turnRight 2 = .ok (.getfield 34, 3) := by decide +kernel
theorem dX4_turnRight_5 : decode cX4_turnRight 5 = .ok (.iconst 1, 1) := by decide +kernel
theorem dX4_turnRight_6 : decode cX4_turnRight 6 = .ok (.iadd, 1) := by decide +kernel
theorem dX4_turnRight_7 : decode cX4_turnRight 7 = .ok (.putfield 34, 3) := by decide +kernel
theorem dX4_turnRight_10 : decode cX4_turnRight 10 = .ok (.aload_n 0, 1) := by decide +kernel
theorem dX4_turnRight_11 : decode cX4_turnRight 11 = .ok (.dup, 1) := by decide +kernel
theorem dX4_turnRight_12 : decode cX4_turnRight 12 = .ok (.getfield 52, 3) := by decide +kernel
theorem dX4_turnRight_15 : decode cX4_turnRight 15 = .ok (.iconst 1, 1) := by decide +kernel
theorem dX4_turnRight_16 : decode cX4_turnRight 16 = .ok (.iadd, 1) := by decide +kernel
theorem dX4_turnRight_17 : decode cX4_turnRight 17 = .ok (.putfield 52, 3) := by decide +kernel
theorem dX4_turnRight_20 : decode cX4_turnRight 20 = .ok (.aload_n 0, 1) := by decide +kernel
theorem dX4_turnRight_21 : decode cX4_turnRight 21 = .ok (.aload_n 0, 1) := by decide +kernel
theorem dX4_turnRight_22 : decode cX4_turnRight 22 = .ok (.aload_n 1, 1) := by decide +kernel
theorem dX4_turnRight_23 : decode cX4_turnRight 23 = .ok (.invokevirtual 73, 3) := by decide +kernel
theorem dX4_turnRight_26 : decode cX4_turnRight 26 = .ok (.putfield 40, 3) := by decide +kernel
theorem dX4_turnRight_29 : decode cX4_turnRight 29 = .ok (.aload_n 0, 1) := by decide +kernel
theorem dX4_turnRight_30 : decode cX4_turnRight 30 = .ok (.aload_n 0, 1) := by decide +kernel
theorem dX4_turnRight_31 : decode cX4_turnRight 31 = .ok (.getfield 46, 3) := by decide +kernel
theorem dX4_turnRight_34 : decode cX4_turnRight 34 = .ok (.aload_n 1, 1) := by decide +kernel
theorem dX4_turnRight_35 : decode cX4_turnRight 35 = .ok (.getfield 77, 3) := by decide +kernel
theorem dX4_turnRight_38 : decode cX4_turnRight 38 = .ok (.iadd, 1) := by decide +kernel
theorem dX4_turnRight_39 : decode cX4_turnRight 39 = .ok (.bipush 8, 2) := by decide +kernel
theorem dX4_turnRight_41 : decode cX4_turnRight 41 = .ok (.irem, 1) := by decide +kernel
theorem dX4_turnRight_42 : decode cX4_turnRight 42 = .ok (.putfield 46, 3) := by decide +kernel
theorem dX4_turnRight_45 : decode cX4_turnRight 45 = .ok (.return_, 1) := by decide +kernel
set_option maxRecDepth 20000 in
theorem ggX4_sortOfTurn_X7_off : GoodIn wsX4_sortOfTurn wsX7_off := goodIn_r _ [8, 9, 10, 11, 12, 13, 14, 15, 7, 16, 17, 18, 19, 20, 21, 51, 52, 53, 54, 55, 56, 57, 58, 59, 60] (by decide +kernel) (by decide +kernel)
set_option maxRecDepth 20000 in
theorem gX4_sortOfTurn_X7_off : GoodIn wsX4_sortOfTurn (wsV RX4 80 RX7 yX7_off wsX7_off) := goodIn_app (goodIn_of _ (by decide +kernel)) ggX4_sortOfTurn_X7_off
set_option maxRecDepth 20000 in
theorem ggX4_sortOfTurn_X7_hasBook : GoodIn wsX4_sortOfTurn wsX7_hasBook := goodIn_r _ [25, 26, 27, 28, 7, 29, 9, 17, 30, 51, 52, 53, 54, 55, 56, 57, 58, 59, 60] (by decide +kernel) (by decide +kernel)
set_option maxRecDepth 20000 in
theorem gX4_sortOfTurn_X7_hasBook : GoodIn wsX4_sortOfTurn (wsV RX4 84 RX7 yX7_hasBook wsX7_hasBook) := goodIn_app (goodIn_of _ (by decide +kernel)) ggX4_sortOfTurn_X7_hasBook
set_option maxRecDepth 20000 in
theorem ggX4_sortOfTurn_X4_woodBeside : GoodIn wsX4_sortOfTurn wsX4_woodBeside := goodIn_r _ [35, 1, 2, 36, 4, 5, 6, 7, 8, 9, 10, 11, 12, 13, 14, 15, 16, 17, 18, 19, 20, 21, 37, 38, 39, 40, 26, 27, 28, 29, 30, 41, 42, 43, 44, 45, 46, 47, 48, 49, 50, 51, 52, 53, 54, 55, 56, 57, 58, 59, 60] (by decide +kernel) (by decide +kernel)
set_option maxRecDepth 20000 in
theorem gX4_sortOfTurn_X4_woodBeside : GoodIn wsX4_sortOfTurn (wsV RX4 87 RX4 yX4_woodBeside wsX4_woodBeside) := goodIn_app (goodIn_of _ (by decide +kernel)) ggX4_sortOfTurn_X4_woodBeside
theorem dX4_sortOfTurn_0 : decode cX4_sortOfTurn 0 = .ok (.aload_n 1, 1) := by decide +kernel
theorem dX4_sortOfTurn_1 : decode cX4_sortOfTurn 1 = .ok (.aload_n 1, 1) := by decide +kernel
theorem dX4_sortOfTurn_2 : decode cX4_sortOfTurn 2 = .ok (.aload_n 0, 1) := by decide +kernel
theorem dX4_sortOfTurn_3 : decode cX4_sortOfTurn 3 = .ok (.getfield 43, 3) := by decide +kernel
theorem dX4_sortOfTurn_6 : decode cX4_sortOfTurn 6 = .ok (.aload_n 0, 1) := by decide +kernel
theorem dX4_sortOfTurn_7 : decode cX4_sortOfTurn 7 = .ok (.getfield 46, 3) := by decide +kernel
theorem dX4_sortOfTurn_10 : decode cX4_sortOfTurn 10 = .ok (.iconst 1, 1) := by decide +kernel
theorem dX4_sortOfTurn_11 : decode cX4_sortOfTurn 11 = .ok (.invokevirtual 80, 3) := by decide +kernel
theorem dX4_sortOfTurn_14 : decode cX4_sortOfTurn 14 = .ok (.invokevirtual 84, 3) := by decide +kernel
theorem dX4_sortOfTurn_17 : decode cX4_sortOfTurn 17 = .ok (.ifCond .eq 5, 3) := by decide +kernel
theorem dX4_sortOfTurn_20 : decode cX4_sortOfTurn 20 = .ok (.iconst 5, 1) := by decide +kernel
theorem dX4_sortOfTurn_21 : decode cX4_sortOfTurn 21 = .ok (.ireturn, 1) := by decide +kernel
theorem dX4_sortOfTurn_22 : decode cX4_sortOfTurn 22 = .ok (.aload_n 0, 1) := by decide +kernel
theorem dX4_sortOfTurn_23 : decode cX4_sortOfTurn 23 = .ok (.getfield 52, 3) := by decide +kernel
theorem dX4_sortOfTurn_26 : decode cX4_sortOfTurn 26 = .ok (.iconst 4, 1) := by decide +kernel
theorem dX4_sortOfTurn_27 : decode cX4_sortOfTurn 27 = .ok (.if_icmp .lt 5, 3) := by decide +kernel
theorem dX4_sortOfTurn_30 : decode cX4_sortOfTurn 30 = .ok (.iconst 4, 1) := by decide +kernel
theorem dX4_sortOfTurn_31 : decode cX4_sortOfTurn 31 = .ok (.ireturn, 1) := by decide +kernel
theorem dX4_sortOfTurn_32 : decode cX4_sortOfTurn 32 = .ok (.aload_n 0, 1) := by decide +kernel
theorem dX4_sortOfTurn_33 : decode cX4_sortOfTurn 33 = .ok (.getfield 46, 3) := by decide +kernel
theorem dX4_sortOfTurn_36 : decode cX4_sortOfTurn 36 = .ok (.iconst 2, 1) := by decide +kernel
theorem dX4_sortOfTurn_37 : decode cX4_sortOfTurn 37 = .ok (.irem, 1) := by decide +kernel
theorem dX4_sortOfTurn_38 : decode cX4_sortOfTurn 38 = .ok (.ifCond .ne 5, 3) := by decide +kernel
theorem dX4_sortOfTurn_41 : decode cX4_sortOfTurn 41 = .ok (.iconst 2, 1) := by decide +kernel
theorem dX4_sortOfTurn_42 : decode cX4_sortOfTurn 42 = .ok (.ireturn, 1) := by decide +kernel
theorem dX4_sortOfTurn_43 : decode cX4_sortOfTurn 43 = .ok (.aload_n 0, 1) := by decide +kernel
theorem dX4_sortOfTurn_44 : decode cX4_sortOfTurn 44 = .ok (.aload_n 1, 1) := by decide +kernel
theorem dX4_sortOfTurn_45 : decode cX4_sortOfTurn 45 = .ok (.iconst 1, 1) := by decide +kernel
theorem dX4_sortOfTurn_46 : decode cX4_sortOfTurn 46 = .ok (.invokevirtual 87, 3) := by decide +kernel
theorem dX4_sortOfTurn_49 : decode cX4_sortOfTurn 49 = .ok (.ifCond .ne 13, 3) := by decide +kernel
theorem dX4_sortOfTurn_52 : decode cX4_sortOfTurn 52 = .ok (.aload_n 0, 1) := by decide +kernel
theorem dX4_sortOfTurn_53 : decode cX4_sortOfTurn 53 = .ok (.aload_n 1, 1) := by decide +kernel
theorem dX4_sortOfTurn_54 : decode cX4_sortOfTurn 54 = .ok (.bipush 7, 2) := by decide +kernel
theorem dX4_sortOfTurn_56 : decode cX4_sortOfTurn 56 = .ok (.invokevirtual 87, 3) := by decide +kernel
theorem dX4_sortOfTurn_59 : decode cX4_sortOfTurn 59 = .ok (.ifCond .eq 7, 3) := by decide +kernel
theorem dX4_sortOfTurn_62 : decode cX4_sortOfTurn 62 = .ok (.iconst 1, 1) := by decide +kernel
theorem dX4_sortOfTurn_63 : decode cX4_sortOfTurn 63 = .ok (.goto 4, 3) := by decide +kernel
theorem dX4_sortOfTurn_66 : decode cX4_sortOfTurn 66 = .ok (.iconst 3, 1) := by decide +kernel
theorem dX4_sortOfTurn_67 : decode cX4_sortOfTurn 67 = .ok (.ireturn, 1) := by decide +kernel
set_option maxRecDepth 20000 in
theorem ggX4_woodBeside_X7_off : GoodIn wsX4_woodBeside wsX7_off := goodIn_r _ [8, 9, 10, 11, 12, 13, 14, 15, 7, 16, 17, 18, 19, 20, 21, 41, 42, 43, 44, 45, 46, 47, 48, 49, 50] (by decide +kernel) (by decide +kernel)
set_option maxRecDepth 20000 in
theorem gX4_woodBeside_X7_off : GoodIn wsX4_woodBeside (wsV RX4 80 RX7 yX7_off wsX7_off) := goodIn_app (goodIn_of _ (by decide +kernel)) ggX4_woodBeside_X7_off
set_option maxRecDepth 20000 in
theorem ggX4_woodBeside_X7_isWood : GoodIn wsX4_woodBeside wsX7_isWood := goodIn_r _ [25, 26, 27, 28, 7, 29, 9, 17, 30, 41, 42, 43, 44, 45, 46, 47, 48, 49, 50] (by decide +kernel) (by decide +kernel)
set_option maxRecDepth 20000 in
theorem gX4_woodBeside_X7_isWood : GoodIn wsX4_woodBeside (wsV RX4 55 RX7 yX7_isWood wsX7_isWood) := goodIn_app (goodIn_of _ (by decide +kernel)) ggX4_woodBeside_X7_isWood
theorem dX4_woodBeside_0 : decode cX4_woodBeside 0 = .ok (.aload_n 1, 1) := by decide +kernel
theorem dX4_woodBeside_1 : decode cX4_woodBeside 1 = .ok (.aload_n 1, 1) := by decide +kernel
theorem dX4_woodBeside_2 : decode cX4_woodBeside 2 = .ok (.aload_n 0, 1) := by decide +kernel
theorem dX4_woodBeside_3 : decode cX4_woodBeside 3 = .ok (.getfield 43, 3) := by decide +kernel
theorem dX4_woodBeside_6 : decode cX4_woodBeside 6 = .ok (.aload_n 0, 1) := by decide +kernel
theorem dX4_woodBeside_7 : decode cX4_woodBeside 7 = .ok (.getfield 46, 3) := by decide +kernel
theorem dX4_woodBeside_10 : decode cX4_woodBeside 10 = .ok (.iload_n 2, 1) := by decide +kernel
theorem dX4_woodBeside_11 : decode cX4_woodBeside 11 = .ok (.iadd, 1) := by decide +kernel
theorem dX4_woodBeside_12 : decode cX4_woodBeside 12 = .ok (.bipush 8, 2) := by decide +kernel
theorem dX4_woodBeside_14 : decode cX4_woodBeside 14 = .ok (.irem, 1) := by decide +kernel
theorem dX4_woodBeside_15 : decode cX4_woodBeside 15 = .ok (.aload_n 1, 1) := by decide +kernel
theorem dX4_woodBeside_16 : decode cX4_woodBeside 16 = .ok (.getfield 59, 3) := by decide +kernel
theorem dX4_woodBeside_19 : decode cX4_woodBeside 19 = .ok (.invokevirtual 80, 3) := by decide +kernel
theorem dX4_woodBeside_22 : decode cX4_woodBeside 22 = .ok (.invokevirtual 55, 3) := by decide +kernel
theorem dX4_woodBeside_25 : decode cX4_woodBeside 25 = .ok (.ireturn, 1) := by decide +kernel
set_option maxRecDepth 20000 in
theorem ggX4_moveOn_X7_off : GoodIn wsX4_moveOn wsX7_off := goodIn_r _ [12, 13, 14, 15, 16, 17, 18, 19, 11, 20, 21, 22, 23, 24, 25, 51, 52, 53, 54, 55, 56, 57, 58, 59, 60] (by decide +kernel) (by decide +kernel)
set_option maxRecDepth 20000 in
theorem gX4_moveOn_X7_off : GoodIn wsX4_moveOn (wsV RX4 80 RX7 yX7_off wsX7_off) := goodIn_app (goodIn_of _ (by decide +kernel)) ggX4_moveOn_X7_off
set_option maxRecDepth 20000 in
theorem ggX4_moveOn_X7_isWood : GoodIn wsX4_moveOn wsX7_isWood := goodIn_r _ [29, 30, 31, 32, 11, 33, 13, 21, 34, 51, 52, 53, 54, 55, 56, 57, 58, 59, 60] (by decide +kernel) (by decide +kernel)
set_option maxRecDepth 20000 in
theorem gX4_moveOn_X7_isWood : GoodIn wsX4_moveOn (wsV RX4 55 RX7 yX7_isWood wsX7_isWood) := goodIn_app (goodIn_of _ (by decide +kernel)) ggX4_moveOn_X7_isWood
set_option maxRecDepth 20000 in
theorem ggX4_moveOn_X4_bendFoot : GoodIn wsX4_moveOn wsX4_bendFoot := goodIn_r _ [39, 40, 4, 41, 42, 43, 44, 45, 46, 47, 48, 49, 50] (by decide +kernel) (by decide +kernel)
set_option maxRecDepth 20000 in
theorem gX4_moveOn_X4_bendFoot : GoodIn wsX4_moveOn (wsV RX4 94 RX4 yX4_bendFoot wsX4_bendFoot) := goodIn_app (goodIn_of _ (by decide +kernel)) ggX4_moveOn_X4_bendFoot
theorem dX4_moveOn_0 : decode cX4_moveOn 0 = .ok (.aload_n 0, 1) := by decide +kernel
theorem dX4_moveOn_1 : decode cX4_moveOn 1 = .ok (.dup, 1) := by decide +kernel
theorem dX4_moveOn_2 : decode cX4_moveOn 2 = .ok (.getfield 31, 3) := by decide +kernel
theorem dX4_moveOn_5 : decode cX4_moveOn 5 = .ok (.iconst 1, 1) := by decide +kernel
theorem dX4_moveOn_6 : decode cX4_moveOn 6 = .ok (.iadd, 1) := by decide +kernel
theorem dX4_moveOn_7 : decode cX4_moveOn 7 = .ok (.putfield 31, 3) := by decide +kernel
theorem dX4_moveOn_10 : decode cX4_moveOn 10 = .ok (.aload_n 0, 1) := by decide +kernel
theorem dX4_moveOn_11 : decode cX4_moveOn 11 = .ok (.iconst 0, 1) := by decide +kernel
theorem dX4_moveOn_12 : decode cX4_moveOn 12 = .ok (.putfield 52, 3) := by decide +kernel
theorem dX4_moveOn_15 : decode cX4_moveOn 15 = .ok (.aload_n 0, 1) := by decide +kernel
theorem dX4_moveOn_16 : decode cX4_moveOn 16 = .ok (.aload_n 1, 1) := by decide +kernel
theorem dX4_moveOn_17 : decode cX4_moveOn 17 = .ok (.aload_n 0, 1) := by decide +kernel
theorem dX4_moveOn_18 : decode cX4_moveOn 18 = .ok (.getfield 43, 3) := by decide +kernel
theorem dX4_moveOn_21 : decode cX4_moveOn 21 = .ok (.aload_n 0, 1) := by decide +kernel
theorem dX4_moveOn_22 : decode cX4_moveOn 22 = .ok (.getfield 46, 3) := by decide +kernel
theorem dX4_moveOn_25 : decode cX4_moveOn 25 = .ok (.iconst 1, 1) := by decide +kernel
theorem dX4_moveOn_26 : decode cX4_moveOn 26 = .ok (.invokevirtual 80, 3) := by decide +kernel
theorem dX4_moveOn_29 : decode cX4_moveOn 29 = .ok (.putfield 43, 3) := by decide +kernel
theorem dX4_moveOn_32 : decode cX4_moveOn 32 = .ok (.aload_n 1, 1) := by decide +kernel
theorem dX4_moveOn_33 : decode cX4_moveOn 33 = .ok (.aload_n 0, 1) := by decide +kernel
theorem dX4_moveOn_34 : decode cX4_moveOn 34 = .ok (.getfield 43, 3) := by decide +kernel
theorem dX4_moveOn_37 : decode cX4_moveOn 37 = .ok (.invokevirtual 55, 3) := by decide +kernel
theorem dX4_moveOn_40 : decode cX4_moveOn 40 = .ok (.ifCond .ne 4, 3) := by decide +kernel
theorem dX4_moveOn_43 : decode cX4_moveOn 43 = .ok (.return_, 1) := by decide +kernel
theorem dX4_moveOn_44 : decode cX4_moveOn 44 = .ok (.aload_n 1, 1) := by decide +kernel
theorem dX4_moveOn_45 : decode cX4_moveOn 45 = .ok (.getfield 91, 3) := by decide +kernel
theorem dX4_moveOn_48 : decode cX4_moveOn 48 = .ok (.ifCond .le 11, 3) := by decide +kernel
theorem dX4_moveOn_51 : decode cX4_moveOn 51 = .ok (.aload_n 0, 1) := by decide +kernel
theorem dX4_moveOn_52 : decode cX4_moveOn 52 = .ok (.aload_n 1, 1) := by decide +kernel
theorem dX4_moveOn_53 : decode cX4_moveOn 53 = .ok (.getfield 91, 3) := by decide +kernel
theorem dX4_moveOn_56 : decode cX4_moveOn 56 = .ok (.invokevirtual 94, 3) := by decide +kernel
theorem dX4_moveOn_59 : decode cX4_moveOn 59 = .ok (.aload_n 0, 1) := by decide +kernel
theorem dX4_moveOn_60 : decode cX4_moveOn 60 = .ok (.getfield 43, 3) := by decide +kernel
theorem dX4_moveOn_63 : decode cX4_moveOn 63 = .ok (.aload_n 1, 1) := by decide +kernel
theorem dX4_moveOn_64 : decode cX4_moveOn 64 = .ok (.getfield 98, 3) := by decide +kernel
theorem dX4_moveOn_67 : decode cX4_moveOn 67 = .ok (.if_icmp .ne 13, 3) := by decide +kernel
theorem dX4_moveOn_70 : decode cX4_moveOn 70 = .ok (.aload_n 0, 1) := by decide +kernel
theorem dX4_moveOn_71 : decode cX4_moveOn 71 = .ok (.dup, 1) := by decide +kernel
theorem dX4_moveOn_72 : decode cX4_moveOn 72 = .ok (.getfield 37, 3) := by decide +kernel
theorem dX4_moveOn_75 : decode cX4_moveOn 75 = .ok (.iconst 1, 1) := by decide +kernel
theorem dX4_moveOn_76 : decode cX4_moveOn 76 = .ok (.iadd, 1) := by decide +kernel
theorem dX4_moveOn_77 : decode cX4_moveOn 77 = .ok (.putfield 37, 3) := by decide +kernel
theorem dX4_moveOn_80 : decode cX4_moveOn 80 = .ok (.return_, 1) := by decide +kernel
theorem dX4_bendFoot_0 : decode cX4_bendFoot 0 = .ok (.aload_n 0, 1) := by decide +kernel
theorem dX4_bendFoot_1 : decode cX4_bendFoot 1 = .ok (.dup, 1) := by decide +kernel
theorem dX4_bendFoot_2 : decode cX4_bendFoot 2 = .ok (.getfield 49, 3) := by decide +kernel
theorem dX4_bendFoot_5 : decode cX4_bendFoot 5 = .ok (.iconst 1, 1) := by decide +kernel
theorem dX4_bendFoot_6 : decode cX4_bendFoot 6 = .ok (.iadd, 1) := by decide +kernel
theorem dX4_bendFoot_7 : decode cX4_bendFoot 7 = .ok (.putfield 49, 3) := by decide +kernel
theorem dX4_bendFoot_10 : decode cX4_bendFoot 10 = .ok (.aload_n 0, 1) := by decide +kernel
theorem dX4_bendFoot_11 : decode cX4_bendFoot 11 = .ok (.getfield 49, 3) := by decide +kernel
theorem dX4_bendFoot_14 : decode cX4_bendFoot 14 = .ok (.iload_n 1, 1) := by decide +kernel
theorem dX4_bendFoot_15 : decode cX4_bendFoot 15 = .ok (.if_icmp .lt 21, 3) := by decide +kernel
theorem dX4_bendFoot_18 : decode cX4_bendFoot 18 = .ok (.aload_n 0, 1) := by decide +kernel
theorem dX4_bendFoot_19 : decode cX4_bendFoot 19 = .ok (.iconst 0, 1) := by decide +kernel
theorem dX4_bendFoot_20 : decode cX4_bendFoot 20 = .ok (.putfield 49, 3) := by decide +kernel
theorem dX4_bendFoot_23 : decode cX4_bendFoot 23 = .ok (.aload_n 0, 1) := by decide +kernel
theorem dX4_bendFoot_24 : decode cX4_bendFoot 24 = .ok (.aload_n 0, 1) := by decide +kernel
theorem dX4_bendFoot_25 : decode cX4_bendFoot 25 = .ok (.getfield 46, 3) := by decide +kernel
theorem dX4_bendFoot_28 : decode cX4_bendFoot 28 = .ok (.iconst 1, 1) := by decide +kernel
theorem dX4_bendFoot_29 : decode cX4_bendFoot 29 = .ok (.iadd, 1) := by decide +kernel
theorem dX4_bendFoot_30 : decode cX4_bendFoot 30 = .ok (.bipush 8, 2) := by decide +kernel
theorem dX4_bendFoot_32 : decode cX4_bendFoot 32 = .ok (.irem, 1) := by decide +kernel
theorem dX4_bendFoot_33 : decode cX4_bendFoot 33 = .ok (.putfield 46, 3) := by decide +kernel
theorem dX4_bendFoot_36 : decode cX4_bendFoot 36 = .ok (.return_, 1) := by decide +kernel
theorem dX5_init_0 : decode cX5_init 0 = .ok (.aload_n 0, 1) := by decide +kernel
theorem dX5_init_1 : decode cX5_init 1 = .ok (.invokespecial 3, 3) := by decide +kernel
theorem dX5_init_4 : decode cX5_init 4 = .ok (.aload_n 0, 1) := by decide +kernel
theorem dX5_init_5 : decode cX5_init 5 = .ok (.iconst 4, 1) := by decide +kernel
theorem dX5_init_6 : decode cX5_init 6 = .ok (.newarray .int, 2) := by decide +kernel
theorem dX5_init_8 : decode cX5_init 8 = .ok (.putfield 9, 3) := by decide +kernel
theorem dX5_init_11 : decode cX5_init 11 = .ok (.aload_n 0, 1) := by decide +kernel
theorem dX5_init_12 : decode cX5_init 12 = .ok (.aload_n 1, 1) := by decide +kernel
theorem dX5_init_13 : decode cX5_init 13 = .ok (.putfield 15, 3) := by decide +kernel
theorem dX5_init_16 : decode cX5_init 16 = .ok (.return_, 1) := by decide +kernel
set_option maxRecDepth 20000 in
theorem ggX5_readInto_X7_reset : GoodIn wsX5_readInto wsX7_reset := goodIn_r _ [10, 11, 12, 13, 14, 15, 16, 17, 18, 19, 20, 176, 177, 178, 179, 180, 181, 182, 183, 184, 185] (by decide +kernel) (by decide +kernel)
set_option maxRecDepth 20000 in
theorem gX5_readInto_X7_reset : GoodIn wsX5_readInto (wsV RX5 19 RX7 yX7_reset wsX7_reset) := goodIn_app (goodIn_of _ (by decide +kernel)) ggX5_readInto_X7_reset
set_option maxRecDepth 20000 in
theorem ggX5_readInto_X8_rewind : GoodIn wsX5_readInto wsX8_rewind := goodIn_r _ [25, 26, 27, 28, 29, 24, 30, 31, 32, 33, 34, 35, 36, 37, 38, 39, 40, 41, 42, 43, 44, 45, 46, 47, 48, 49, 50, 51, 52, 53, 54, 55, 56, 57, 58, 59, 60, 61, 62, 63, 64, 65, 66, 67, 68, 69, 70, 71, 72, 73, 74, 75, 76, 77, 78, 79, 80, 81, 82, 83, 84, 85, 86, 87, 88, 89, 90, 91, 92, 93, 94, 95, 96, 97, 98, 99, 100, 101, 102, 103, 104, 105, 106, 107, 108, 109, 110, 111, 112, 170, 171, 172, 173, 174, 175] (by decide +kernel) (by decide +kernel)
set_option maxRecDepth 20000 in
theorem gX5_readInto_X8_rewind : GoodIn wsX5_readInto (wsV RX5 31 RX8 yX8_rewind wsX8_rewind) := goodIn_app (goodIn_of _ (by decide +kernel)) ggX5_readInto_X8_rewind
set_option maxRecDepth 20000 in
theorem ggX5_readInto_X5_readItem : GoodIn wsX5_readInto wsX5_readItem := goodIn_r _ [117, 3, 4, 118, 2, 119, 120, 121, 122, 116, 123, 1, 124, 28, 29, 24, 30, 26, 31, 32, 33, 34, 35, 36, 37, 38, 39, 40, 41, 42, 43, 44, 45, 46, 47, 48, 49, 50, 51, 52, 53, 54, 55, 56, 57, 58, 59, 60, 61, 62, 63, 64, 65, 66, 67, 68, 69, 70, 71, 72, 73, 74, 75, 76, 77, 78, 79, 80, 81, 82, 83, 84, 85, 86, 87, 88, 89, 90, 91, 92, 93, 94, 95, 96, 97, 98, 99, 100, 101, 102, 103, 104, 105, 106, 107, 108, 109, 110, 111, 112, 125, 126, 127, 128, 129, 130, 131, 132, 133, 134, 135, 136, 137, 138, 139, 140, 141, 142, 143, 144, 145, 146, 147, 148, 149, 150, 151, 152, 153, 154, 155, 9, 156, 12, 11, 13, 157, 158, 159, 160, 161, 162, 163, 164, 165, 166, 167, 168, 169, 170, 171, 172, 173, 174, 175, 176, 177, 178, 179, 180, 181, 182, 183, 184, 185] (by decide +kernel) (by decide +kernel)
set_option maxRecDepth 20000 in
theorem gX5_readInto_X5_readItem : GoodIn wsX5_readInto (wsV RX5 39 RX5 yX5_readItem wsX5_readItem) := goodIn_app (goodIn_of _ (by decide +kernel)) ggX5_readInto_X5_readItem
theorem dX5_readInto_0 : decode cX5_readInto 0 = .ok (.aload_n 1, 1) := by decide +kernel
theorem dX5_readInto_1 : decode cX5_readInto 1 = .ok (.invokevirtual 19, 3) := by decide +kernel
theorem dX5_readInto_4 : decode cX5_readInto 4 = .ok (.aload_n 0, 1) := by decide +kernel
theorem dX5_readInto_5 : decode cX5_readInto 5 = .ok (.iconst 0, 1) := by decide +kernel
theorem dX5_readInto_6 : decode cX5_readInto 6 = .ok (.putfield 24, 3) := by decide +kernel
theorem dX5_readInto_9 : decode cX5_readInto 9 = .ok (.aload_n 0, 1) := by decide +kernel
theorem dX5_readInto_10 : decode cX5_readInto 10 = .ok (.iconst 0, 1) := by decide +kernel
theorem dX5_readInto_11 : decode cX5_readInto 11 = .ok (.putfield 28, 3) := by decide +kernel
theorem dX5_readInto_14 : decode cX5_readInto 14 = .ok (.aload_n 0, 1) := by decide +kernel
theorem dX5_readInto_15 : decode cX5_readInto 15 = .ok (.getfield 15, 3) := by decide +kernel
theorem dX5_readInto_18 : decode cX5_readInto 18 = .ok (.invokevirtual 31, 3) := by decide +kernel
theorem dX5_readInto_21 : decode cX5_readInto 21 = .ok (.iconst 0, 1) := by decide +kernel
theorem dX5_readInto_22 : decode cX5_readInto 22 = .ok (.istore_n 2, 1) := by decide +kernel
theorem dX5_readInto_23 : decode cX5_readInto 23 = .ok (.iload_n 2, 1) := by decide +kernel
theorem dX5_readInto_24 : decode cX5_readInto 24 = .ok (.sipush 300, 3) := by decide +kernel
theorem dX5_readInto_27 : decode cX5_readInto 27 = .ok (.if_icmp .gt 48, 3) := by decide +kernel
theorem dX5_readInto_30 : decode cX5_readInto 30 = .ok (.aload_n 0, 1) := by decide +kernel
theorem dX5_readInto_31 : decode cX5_readInto 31 = .ok (.getfield 15, 3) := by decide +kernel
theorem dX5_readInto_34 : decode cX5_readInto 34 = .ok (.getfield 36, 3) := by decide +kernel
theorem dX5_readInto_37 : decode cX5_readInto 37 = .ok (.ifCond .eq 38, 3) := by decide +kernel
theorem dX5_readInto_40 : decode cX5_readInto 40 = .ok (.aload_n 0, 1) := by decide +kernel
theorem dX5_readInto_41 : decode cX5_readInto 41 = .ok (.aload_n 1, 1) := by decide +kernel
theorem dX5_readInto_42 : decode cX5_readInto 42 = .ok (.invokevirtual 39, 3) := by decide +kernel
theorem dX5_readInto_45 : decode cX5_readInto 45 = .ok (.ifCond .ne 14, 3) := by decide +kernel
theorem dX5_readInto_48 : decode cX5_readInto 48 = .ok (.bipush (-10), 2) := by decide +kernel
theorem dX5_readInto_50 : decode cX5_readInto 50 = .ok (.aload_n 0, 1) := by decide +kernel
theorem dX5_readInto_51 : decode cX5_readInto 51 = .ok (.getfield 15, 3) := by decide +kernel
theorem dX5_readInto_54 : decode cX5_readInto 54 = .ok (.getfield 43, 3) := by decide +kernel
theorem dX5_readInto_57 : decode cX5_readInto 57 = .ok (.isub, 1) := by decide +kernel
theorem dX5_readInto_58 : decode cX5_readInto 58 = .ok (.ireturn, 1) := by decide +kernel
theorem dX5_readInto_59 : decode cX5_readInto 59 = .ok (.aload_n 0, 1) := by decide +kernel
theorem dX5_readInto_60 : decode cX5_readInto 60 = .ok (.dup, 1) := by decide +kernel
theorem dX5_readInto_61 : decode cX5_readInto 61 = .ok (.getfield 24, 3) := by decide +kernel
theorem dX5_readInto_64 : decode cX5_readInto 64 = .ok (.iconst 1, 1) := by decide +kernel
theorem dX5_readInto_65 : decode cX5_readInto 65 = .ok (.iadd, 1) := by decide +kernel
theorem dX5_readInto_66 : decode cX5_readInto 66 = .ok (.putfield 24, 3) := by decide +kernel
theorem dX5_readInto_69 : decode cX5_readInto 69 = .ok (.iinc 2 1, 3) := by decide +kernel
theorem dX5_readInto_72 : decode cX5_readInto 72 = .ok (.goto (-49), 3) := by decide +kernel
theorem dX5_readInto_75 : decode cX5_readInto 75 = .ok (.aload_n 0, 1) := by decide +kernel
theorem dX5_readInto_76 : decode cX5_readInto 76 = .ok (.getfield 24, 3) := by decide +kernel
theorem dX5_readInto_79 : decode cX5_readInto 79 = .ok (.ireturn, 1) := by decide +kernel
set_option maxRecDepth 20000 in
theorem ggX5_readItem_X5_mayStand : GoodIn wsX5_readItem wsX5_mayStand := goodIn_r _ [10, 11, 4, 145, 146, 147, 148] (by decide +kernel) (by decide +kernel)
set_option maxRecDepth 20000 in
theorem gX5_readItem_X5_mayStand : GoodIn wsX5_readItem (wsV RX5 49 RX5 yX5_mayStand wsX5_mayStand) := goodIn_app (goodIn_of _ (by decide +kernel)) ggX5_readItem_X5_mayStand
set_option maxRecDepth 20000 in
theorem ggX5_readItem_X8_next : GoodIn wsX5_readItem wsX8_next := goodIn_r _ [16, 17, 18, 19, 20, 21, 22, 23, 24, 25, 26, 15, 27, 28, 29, 30, 31, 32, 33, 34, 35, 36, 37, 38, 39, 40, 41, 42, 43, 44, 45, 46, 47, 48, 49, 50, 51, 52, 53, 54, 55, 56, 57, 58, 59, 60, 61, 62, 63, 64, 65, 66, 67, 68, 69, 70, 71, 72, 73, 74, 75, 76, 77, 78, 79, 80, 81, 82, 83, 84, 85, 86, 87, 88, 89, 90, 91, 92, 93, 94, 95, 96, 97, 98, 99, 149, 150, 151, 152, 153, 154] (by decide +kernel) (by decide +kernel)
set_option maxRecDepth 20000 in
theorem gX5_readItem_X8_next : GoodIn wsX5_readItem (wsV RX5 53 RX8 yX8_next wsX8_next) := goodIn_app (goodIn_of _ (by decide +kernel)) ggX5_readItem_X8_next
set_option maxRecDepth 20000 in
theorem ggX5_readItem_X5_numbersOf : GoodIn wsX5_readItem wsX5_numbersOf := goodIn_r _ [102] (by decide +kernel) (by decide +kernel)
set_option maxRecDepth 20000 in
theorem gX5_readItem_X5_numbersOf : GoodIn wsX5_readItem (va_wsS RX5 56 yX5_numbersOf wsX5_numbersOf) := goodIn_app (goodIn_of _ (by decide +kernel)) ggX5_readItem_X5_numbersOf
set_option maxRecDepth 20000 in
theorem ggX5_readItem_X5_isInside : GoodIn wsX5_readItem wsX5_isInside := goodIn_r _ [106, 107, 108, 5, 109, 110, 9, 111, 112, 113, 114, 22, 23, 24, 155, 156, 157, 158, 159, 160, 161, 162, 163, 164, 145, 146, 147, 148] (by decide +kernel) (by decide +kernel)
set_option maxRecDepth 20000 in
theorem gX5_readItem_X5_isInside : GoodIn wsX5_readItem (wsV RX5 60 RX5 yX5_isInside wsX5_isInside) := goodIn_app (goodIn_of _ (by decide +kernel)) ggX5_readItem_X5_isInside
set_option maxRecDepth 20000 in
theorem ggX5_readItem_X10_set : GoodIn wsX5_readItem wsX10_set := goodIn_r _ [116] (by decide +kernel) (by decide +kernel)
set_option maxRecDepth 20000 in
theorem gX5_readItem_X10_set_n64 : GoodIn wsX5_readItem (wsX10_set) := ggX5_readItem_X10_set
set_option maxRecDepth 20000 in
theorem ggX5_readItem_X5_tell : GoodIn wsX5_readItem wsX5_tell := goodIn_r _ [120, 5, 107, 108, 121, 122, 123, 124, 125, 126, 127, 22, 23, 24, 128, 129, 130, 131, 132, 133, 134, 135, 136, 137, 138, 139, 140, 141, 142, 143, 115, 116, 144, 145, 146, 147, 148, 155, 156, 157, 158, 159, 160, 161, 162, 163, 164] (by decide +kernel) (by decide +kernel)
set_option maxRecDepth 20000 in
theorem gX5_readItem_X5_tell : GoodIn wsX5_readItem (wsV RX5 68 RX5 yX5_tell wsX5_tell) := goodIn_app (goodIn_of _ (by decide +kernel)) ggX5_readItem_X5_tell
theorem dX5_readItem_0 : decode cX5_readItem 0 = .ok (.aload_n 0, 1) := by decide +kernel
theorem dX5_readItem_1 : decode cX5_readItem 1 = .ok (.getfield 15, 3) := by decide +kernel
theorem dX5_readItem_4 : decode cX5_readItem 4 = .ok (.getfield 36, 3) := by decide +kernel
theorem dX5_readItem_7 : decode cX5_readItem 7 = .ok (.iconst 1, 1) := by decide +kernel
theorem dX5_readItem_8 : decode cX5_readItem 8 = .ok (.if_icmp .ne 17, 3) := by decide +kernel
theorem dX5_readItem_11 : decode cX5_readItem 11 = .ok (.aload_n 0, 1) := by decide +kernel
theorem dX5_readItem_12 : decode cX5_readItem 12 = .ok (.aload_n 0, 1) := by decide +kernel
theorem dX5_readItem_13 : decode cX5_readItem 13 = .ok (.getfield 15, 3) := by decide +kernel
theorem dX5_readItem_16 : decode cX5_readItem 16 = .ok (.getfield 46, 3) := by decide +kernel
theorem dX5_readItem_19 : decode cX5_readItem 19 = .ok (.invokevirtual 49, 3) := by decide +kernel
theorem dX5_readItem_22 : decode cX5_readItem 22 = .ok (.ifCond .ne 5, 3) := by decide +kernel
theorem dX5_readItem_25 : decode cX5_readItem 25 = .ok (.iconst 0, 1) := by decide +kernel
theorem dX5_readItem_26 : decode cX5_readItem 26 = .ok (.ireturn, 1) := by decide +kernel
theorem dX5_readItem_27 : decode cX5_readItem 27 = .ok (.aload_n 0, 1) := by decide +kernel
theorem dX5_readItem_28 : decode cX5_readItem 28 = .ok (.getfield 15, 3) := by decide +kernel
theorem dX5_readItem_31 : decode cX5_readItem 31 = .ok (.getfield 46, 3) := by decide +kernel
theorem dX5_readItem_34 : decode cX5_readItem 34 = .ok (.istore_n 2, 1) := by decide +kernel
theorem dX5_readItem_35 : decode cX5_readItem 35 = .ok (.aload_n 0, 1) := by decide +kernel
theorem dX5_readItem_36 : decode cX5_readItem 36 = .ok (.dup, 1) := by decide +kernel
theorem dX5_readItem_37 : decode cX5_readItem 37 = .ok (.getfield 28, 3) := by decide +kernel
theorem dX5_readItem_40 : decode cX5_readItem 40 = .ok (.iconst 1, 1) := by decide +kernel
theorem dX5_readItem_41 : decode cX5_readItem 41 = .ok (.iload_n 2, 1) := by decide +kernel
theorem dX5_readItem_42 : decode cX5_readItem 42 = .ok (.ishl, 1) := by decide +kernel
theorem dX5_readItem_43 : decode cX5_readItem 43 = .ok (.ior, 1) := by decide +kernel
theorem dX5_readItem_44 : decode cX5_readItem 44 = .ok (.putfield 28, 3) := by decide +kernel
theorem dX5_readItem_47 : decode cX5_readItem 47 = .ok (.aload_n 0, 1) := by decide +kernel
theorem dX5_readItem_48 : decode cX5_readItem 48 = .ok (.getfield 15, 3) := by decide +kernel
theorem dX5_readItem_51 : decode cX5_readItem 51 = .ok (.invokevirtual 53, 3) := by decide +kernel
theorem dX5_readItem_54 : decode cX5_readItem 54 = .ok (.iconst 0, 1) := by decide +kernel
theorem dX5_readItem_55 : decode cX5_readItem 55 = .ok (.istore_n 3, 1) := by decide +kernel
theorem dX5_readItem_56 : decode cX5_readItem 56 = .ok (.iload_n 3, 1) := by decide +kernel
theorem dX5_readItem_57 : decode cX5_readItem 57 = .ok (.iload_n 2, 1) := by decide +kernel
theorem dX5_readItem_58 : decode cX5_readItem 58 = .ok (.invokestatic 56, 3) := by decide +kernel
theorem dX5_readItem_61 : decode cX5_readItem 61 = .ok (.if_icmp .ge 61, 3) := by decide +kernel
theorem dX5_readItem_64 : decode cX5_readItem 64 = .ok (.aload_n 0, 1) := by decide +kernel
theorem dX5_readItem_65 : decode cX5_readItem 65 = .ok (.getfield 15, 3) := by decide +kernel
theorem dX5_readItem_68 : decode cX5_readItem 68 = .ok (.getfield 36, 3) := by decide +kernel
theorem dX5_readItem_71 : decode cX5_readItem 71 = .ok (.iconst 2, 1) := by decide +kernel
theorem dX5_readItem_72 : decode cX5_readItem 72 = .ok (.if_icmp .ne 20, 3) := by decide +kernel
theorem dX5_readItem_75 : decode cX5_readItem 75 = .ok (.aload_n 0, 1) := by decide +kernel
theorem dX5_readItem_76 : decode cX5_readItem 76 = .ok (.aload_n 1, 1) := by decide +kernel
theorem dX5_readItem_77 : decode cX5_readItem 77 = .ok (.iload_n 2, 1) := by decide +kernel
theorem dX5_readItem_78 : decode cX5_readItem 78 = .ok (.iload_n 3, 1) := by decide +kernel
theorem dX5_readItem_79 : decode cX5_readItem 79 = .ok (.aload_n 0, 1) := by decide +kernel
theorem dX5_readItem_80 : decode cX5_readItem 80 = .ok (.getfield 15, 3) := by decide +kernel
theorem dX5_readItem_83 : decode cX5_readItem 83 = .ok (.getfield 46, 3) := by decide +kernel
theorem dX5_readItem_86 : decode cX5_readItem 86 = .ok (.invokevirtual 60, 3) := by decide +kernel
theorem dX5_readItem_89 : decode cX5_readItem 89 = .ok (.ifCond .ne 5, 3) := by decide +kernel
theorem dX5_readItem_92 : decode cX5_readItem 92 = .ok (.iconst 0, 1) := by decide +kernel
theorem dX5_readItem_93 : decode cX5_readItem 93 = .ok (.ireturn, 1) := by decide +kernel
theorem dX5_readItem_94 : decode cX5_readItem 94 = .ok (.aload_n 0, 1) := by decide +kernel
theorem dX5_readItem_95 : decode cX5_readItem 95 = .ok (.getfield 9, 3) := by decide +kernel
theorem dX5_readItem_98 : decode cX5_readItem 98 = .ok (.iload_n 3, 1) := by decide +kernel
theorem dX5_readItem_99 : decode cX5_readItem 99 = .ok (.aload_n 0, 1) := by decide +kernel
theorem dX5_readItem_100 : decode cX5_readItem 100 = .ok (.getfield 15, 3) := by decide +kernel
theorem dX5_readItem_103 : decode cX5_readItem 103 = .ok (.getfield 46, 3) := by decide +kernel
theorem dX5_readItem_106 : decode cX5_readItem 106 = .ok (.invokestatic 64, 3) := by decide +kernel
theorem dX5_readItem_109 : decode cX5_readItem 109 = .ok (.aload_n 0, 1) := by decide +kernel
theorem dX5_readItem_110 : decode cX5_readItem 110 = .ok (.getfield 15, 3) := by decide +kernel
theorem dX5_readItem_113 : decode cX5_readItem 113 = .ok (.invokevirtual 53, 3) := by decide +kernel
theorem dX5_readItem_116 : decode cX5_readItem 116 = .ok (.iinc 3 1, 3) := by decide +kernel
theorem dX5_readItem_119 : decode cX5_readItem 119 = .ok (.goto (-63), 3) := by decide +kernel
theorem dX5_readItem_122 : decode cX5_readItem 122 = .ok (.aload_n 0, 1) := by decide +kernel
theorem dX5_readItem_123 : decode cX5_readItem 123 = .ok (.getfield 15, 3) := by decide +kernel
theorem dX5_readItem_126 : decode cX5_readItem 126 = .ok (.getfield 36, 3) := by decide +kernel
theorem dX5_readItem_129 : decode cX5_readItem 129 = .ok (.iconst 3, 1) := by decide +kernel
theorem dX5_readItem_130 : decode cX5_readItem 130 = .ok (.if_icmp .eq 5, 3) := by decide +kernel
theorem dX5_readItem_133 : decode cX5_readItem 133 = .ok (.iconst 0, 1) := by decide +kernel
theorem dX5_readItem_134 : decode cX5_readItem 134 = .ok (.ireturn, 1) := by decide +kernel
theorem dX5_readItem_135 : decode cX5_readItem 135 = .ok (.aload_n 0, 1) := by decide +kernel
theorem dX5_readItem_136 : decode cX5_readItem 136 = .ok (.getfield 15, 3) := by decide +kernel
theorem dX5_readItem_139 : decode cX5_readItem 139 = .ok (.invokevirtual 53, 3) := by decide +kernel
theorem dX5_readItem_142 : decode cX5_readItem 142 = .ok (.aload_n 0, 1) := by decide +kernel
theorem dX5_readItem_143 : decode cX5_readItem 143 = .ok (.aload_n 1, 1) := by decide +kernel
theorem dX5_readItem_144 : decode cX5_readItem 144 = .ok (.iload_n 2, 1) := by decide +kernel
theorem dX5_readItem_145 : decode cX5_readItem 145 = .ok (.invokevirtual 68, 3) := by decide +kernel
theorem dX5_readItem_148 : decode cX5_readItem 148 = .ok (.iconst 1, 1) := by decide +kernel
theorem dX5_readItem_149 : decode cX5_readItem 149 = .ok (.ireturn, 1) := by decide +kernel
theorem dX5_mayStand_0 : decode cX5_mayStand 0 = .ok (.iload_n 1, 1) := by decide +kernel
theorem dX5_mayStand_1 : decode cX5_mayStand 1 = .ok (.tableswitch 42 0 2 #[27, 40, 40], 27) := by decide +kernel
theorem dX5_mayStand_28 : decode cX5_mayStand 28 = .ok (.aload_n 0, 1) := by decide +kernel
theorem dX5_mayStand_29 : decode cX5_mayStand 29 = .ok (.getfield 24, 3) := by decide +kernel
theorem dX5_mayStand_32 : decode cX5_mayStand 32 = .ok (.ifCond .ne 7, 3) := by decide +kernel
theorem dX5_mayStand_35 : decode cX5_mayStand 35 = .ok (.iconst 1, 1) := by decide +kernel
theorem dX5_mayStand_36 : decode cX5_mayStand 36 = .ok (.goto 4, 3) := by decide +kernel
theorem dX5_mayStand_39 : decode cX5_mayStand 39 = .ok (.iconst 0, 1) := by decide +kernel
theorem dX5_mayStand_40 : decode cX5_mayStand 40 = .ok (.ireturn, 1) := by decide +kernel
theorem dX5_mayStand_41 : decode cX5_mayStand 41 = .ok (.iconst 1, 1) := by decide +kernel
theorem dX5_mayStand_42 : decode cX5_mayStand 42 = .ok (.ireturn, 1) := by decide +kernel
theorem dX5_mayStand_43 : decode cX5_mayStand 43 = .ok (.aload_n 0, 1) := by decide +kernel
theorem dX5_mayStand_44 : decode cX5_mayStand 44 = .ok (.getfield 28, 3) := by decide +kernel
theorem dX5_mayStand_47 : decode cX5_mayStand 47 = .ok (.iload_n 1, 1) := by decide +kernel
theorem dX5_mayStand_48 : decode cX5_mayStand 48 = .ok (.ishr, 1) := by decide +kernel
theorem dX5_mayStand_49 : decode cX5_mayStand 49 = .ok (.iconst 1, 1) := by decide +kernel
theorem dX5_mayStand_50 : decode cX5_mayStand 50 = .ok (.iand, 1) := by decide +kernel
theorem dX5_mayStand_51 : decode cX5_mayStand 51 = .ok (.ifCond .ne 7, 3) := by decide +kernel
theorem dX5_mayStand_54 : decode cX5_mayStand 54 = .ok (.iconst 1, 1) := by decide +kernel
theorem dX5_mayStand_55 : decode cX5_mayStand 55 = .ok (.goto 4, 3) := by decide +kernel
theorem dX5_mayStand_58 : decode cX5_mayStand 58 = .ok (.iconst 0, 1) := by decide +kernel
theorem dX5_mayStand_59 : decode cX5_mayStand 59 = .ok (.ireturn, 1) := by decide +kernel
theorem dX5_numbersOf_0 : decode cX5_numbersOf 0 = .ok (.iload_n 0, 1) := by decide +kernel
theorem dX5_numbersOf_1 : decode cX5_numbersOf 1 = .ok (.lookupswitch 39 #[(0, 35), (3, 35), (5, 37)], 35) := by decide +kernel
theorem dX5_numbersOf_36 : decode cX5_numbersOf 36 = .ok (.iconst 2, 1) := by decide +kernel
theorem dX5_numbersOf_37 : decode cX5_numbersOf 37 = .ok (.ireturn, 1) := by decide +kernel
theorem dX5_numbersOf_38 : decode cX5_numbersOf 38 = .ok (.iconst 3, 1) := by decide +kernel
theorem dX5_numbersOf_39 : decode cX5_numbersOf 39 = .ok (.ireturn, 1) := by decide +kernel
theorem dX5_numbersOf_40 : decode cX5_numbersOf 40 = .ok (.iconst 4, 1) := by decide +kernel
theorem dX5_numbersOf_41 : decode cX5_numbersOf 41 = .ok (.ireturn, 1) := by decide +kernel
set_option maxRecDepth 20000 in
theorem ggX5_isInside_X5_leastOfToy : GoodIn wsX5_isInside wsX5_leastOfToy := goodIn_r _ [7] (by decide +kernel) (by decide +kernel)
set_option maxRecDepth 20000 in
theorem gX5_isInside_X5_leastOfToy : GoodIn wsX5_isInside (va_wsS RX5 72 yX5_leastOfToy wsX5_leastOfToy) := goodIn_app (goodIn_of _ (by decide +kernel)) ggX5_isInside_X5_leastOfToy
set_option maxRecDepth 20000 in
theorem ggX5_isInside_X5_mostOfToy : GoodIn wsX5_isInside wsX5_mostOfToy := goodIn_r _ [10] (by decide +kernel) (by decide +kernel)
set_option maxRecDepth 20000 in
theorem gX5_isInside_X5_mostOfToy : GoodIn wsX5_isInside (va_wsS RX5 75 yX5_mostOfToy wsX5_mostOfToy) := goodIn_app (goodIn_of _ (by decide +kernel)) ggX5_isInside_X5_mostOfToy
set_option maxRecDepth 20000 in
theorem ggX5_isInside_X10_at : GoodIn wsX5_isInside wsX10_at := goodIn_r _ [13] (by decide +kernel) (by decide +kernel)
set_option maxRecDepth 20000 in
theorem gX5_isInside_X10_at_n84 : GoodIn wsX5_isInside (wsX10_at) := ggX5_isInside_X10_at
theorem dX5_isInside_0 : decode cX5_isInside 0 = .ok (.iload_n 2, 1) := by decide +kernel
theorem dX5_isInside_1 : decode cX5_isInside 1 = .ok (.ifCond .ne 22, 3) := by decide +kernel
theorem dX5_isInside_4 : decode cX5_isInside 4 = .ok (.iload 4, 2) := by decide +kernel
theorem dX5_isInside_6 : decode cX5_isInside 6 = .ok (.iconst 3, 1) := by decide +kernel
theorem dX5_isInside_7 : decode cX5_isInside 7 = .ok (.if_icmp .lt 14, 3) := by decide +kernel
theorem dX5_isInside_10 : decode cX5_isInside 10 = .ok (.iload 4, 2) := by decide +kernel
theorem dX5_isInside_12 : decode cX5_isInside 12 = .ok (.bipush 16, 2) := by decide +kernel
theorem dX5_isInside_14 : decode cX5_isInside 14 = .ok (.if_icmp .gt 7, 3) := by decide +kernel
theorem dX5_isInside_17 : decode cX5_isInside 17 = .ok (.iconst 1, 1) := by decide +kernel
theorem dX5_isInside_18 : decode cX5_isInside 18 = .ok (.goto 4, 3) := by decide +kernel
theorem dX5_isInside_21 : decode cX5_isInside 21 = .ok (.iconst 0, 1) := by decide +kernel
theorem dX5_isInside_22 : decode cX5_isInside 22 = .ok (.ireturn, 1) := by decide +kernel
theorem dX5_isInside_23 : decode cX5_isInside 23 = .ok (.iload_n 2, 1) := by decide +kernel
theorem dX5_isInside_24 : decode cX5_isInside 24 = .ok (.iconst 4, 1) := by decide +kernel
theorem dX5_isInside_25 : decode cX5_isInside 25 = .ok (.if_icmp .ne 27, 3) := by decide +kernel
theorem dX5_isInside_28 : decode cX5_isInside 28 = .ok (.iload 4, 2) := by decide +kernel
theorem dX5_isInside_30 : decode cX5_isInside 30 = .ok (.iload_n 3, 1) := by decide +kernel
theorem dX5_isInside_31 : decode cX5_isInside 31 = .ok (.invokestatic 72, 3) := by decide +kernel
theorem dX5_isInside_34 : decode cX5_isInside 34 = .ok (.if_icmp .lt 16, 3) := by decide +kernel
theorem dX5_isInside_37 : decode cX5_isInside 37 = .ok (.iload 4, 2) := by decide +kernel
theorem dX5_isInside_39 : decode cX5_isInside 39 = .ok (.iload_n 3, 1) := by decide +kernel
theorem dX5_isInside_40 : decode cX5_isInside 40 = .ok (.invokestatic 75, 3) := by decide +kernel
theorem dX5_isInside_43 : decode cX5_isInside 43 = .ok (.if_icmp .gt 7, 3) := by decide +kernel
theorem dX5_isInside_46 : decode cX5_isInside 46 = .ok (.iconst 1, 1) := by decide +kernel
theorem dX5_isInside_47 : decode cX5_isInside 47 = .ok (.goto 4, 3) := by decide +kernel
theorem dX5_isInside_50 : decode cX5_isInside 50 = .ok (.iconst 0, 1) := by decide +kernel
theorem dX5_isInside_51 : decode cX5_isInside 51 = .ok (.ireturn, 1) := by decide +kernel
theorem dX5_isInside_52 : decode cX5_isInside 52 = .ok (.iload_n 3, 1) := by decide +kernel
theorem dX5_isInside_53 : decode cX5_isInside 53 = .ok (.tableswitch 107 0 2 #[27, 42, 57], 27) := by decide +kernel
theorem dX5_isInside_80 : decode cX5_isInside 80 = .ok (.iload 4, 2) := by decide +kernel
theorem dX5_isInside_82 : decode cX5_isInside 82 = .ok (.aload_n 1, 1) := by decide +kernel
theorem dX5_isInside_83 : decode cX5_isInside 83 = .ok (.getfield 78, 3) := by decide +kernel
theorem dX5_isInside_86 : decode cX5_isInside 86 = .ok (.if_icmp .ge 7, 3) := by decide +kernel
theorem dX5_isInside_89 : decode cX5_isInside 89 = .ok (.iconst 1, 1) := by decide +kernel
theorem dX5_isInside_90 : decode cX5_isInside 90 = .ok (.goto 4, 3) := by decide +kernel
theorem dX5_isInside_93 : decode cX5_isInside 93 = .ok (.iconst 0, 1) := by decide +kernel
theorem dX5_isInside_94 : decode cX5_isInside 94 = .ok (.ireturn, 1) := by decide +kernel
theorem dX5_isInside_95 : decode cX5_isInside 95 = .ok (.iload 4, 2) := by decide +kernel
theorem dX5_isInside_97 : decode cX5_isInside 97 = .ok (.aload_n 1, 1) := by decide +kernel
theorem dX5_isInside_98 : decode cX5_isInside 98 = .ok (.getfield 81, 3) := by decide +kernel
theorem dX5_isInside_101 : decode cX5_isInside 101 = .ok (.if_icmp .ge 7, 3) := by decide +kernel
theorem dX5_isInside_104 : decode cX5_isInside 104 = .ok (.iconst 1, 1) := by decide +kernel
theorem dX5_isInside_105 : decode cX5_isInside 105 = .ok (.goto 4, 3) := by decide +kernel
theorem dX5_isInside_108 : decode cX5_isInside 108 = .ok (.iconst 0, 1) := by decide +kernel
theorem dX5_isInside_109 : decode cX5_isInside 109 = .ok (.ireturn, 1) := by decide +kernel
theorem dX5_isInside_110 : decode cX5_isInside 110 = .ok (.iload_n 2, 1) := by decide +kernel
theorem dX5_isInside_111 : decode cX5_isInside 111 = .ok (.iconst 5, 1) := by decide +kernel
theorem dX5_isInside_112 : decode cX5_isInside 112 = .ok (.if_icmp .ne 18, 3) := by decide +kernel
theorem dX5_isInside_115 : decode cX5_isInside 115 = .ok (.iload 4, 2) := by decide +kernel
theorem dX5_isInside_117 : decode cX5_isInside 117 = .ok (.bipush 7, 2) := by decide +kernel
theorem dX5_isInside_119 : decode cX5_isInside 119 = .ok (.if_icmp .gt 7, 3) := by decide +kernel
theorem dX5_isInside_122 : decode cX5_isInside 122 = .ok (.iconst 1, 1) := by decide +kernel
theorem dX5_isInside_123 : decode cX5_isInside 123 = .ok (.goto 36, 3) := by decide +kernel
theorem dX5_isInside_126 : decode cX5_isInside 126 = .ok (.iconst 0, 1) := by decide +kernel
theorem dX5_isInside_127 : decode cX5_isInside 127 = .ok (.goto 32, 3) := by decide +kernel
theorem dX5_isInside_130 : decode cX5_isInside 130 = .ok (.iload 4, 2) := by decide +kernel
theorem dX5_isInside_132 : decode cX5_isInside 132 = .ok (.iconst 1, 1) := by decide +kernel
theorem dX5_isInside_133 : decode cX5_isInside 133 = .ok (.if_icmp .lt 25, 3) := by decide +kernel
theorem dX5_isInside_136 : decode cX5_isInside 136 = .ok (.aload_n 0, 1) := by decide +kernel
theorem dX5_isInside_137 : decode cX5_isInside 137 = .ok (.getfield 9, 3) := by decide +kernel
theorem dX5_isInside_140 : decode cX5_isInside 140 = .ok (.iconst 0, 1) := by decide +kernel
theorem dX5_isInside_141 : decode cX5_isInside 141 = .ok (.invokestatic 84, 3) := by decide +kernel
theorem dX5_isInside_144 : decode cX5_isInside 144 = .ok (.iload 4, 2) := by decide +kernel
theorem dX5_isInside_146 : decode cX5_isInside 146 = .ok (.iadd, 1) := by decide +kernel
theorem dX5_isInside_147 : decode cX5_isInside 147 = .ok (.aload_n 1, 1) := by decide +kernel
theorem dX5_isInside_148 : decode cX5_isInside 148 = .ok (.getfield 78, 3) := by decide +kernel
theorem dX5_isInside_151 : decode cX5_isInside 151 = .ok (.if_icmp .gt 7, 3) := by decide +kernel
theorem dX5_isInside_154 : decode cX5_isInside 154 = .ok (.iconst 1, 1) := by decide +kernel
theorem dX5_isInside_155 : decode cX5_isInside 155 = .ok (.goto 4, 3) := by decide +kernel
theorem dX5_isInside_158 : decode cX5_isInside 158 = .ok (.iconst 0, 1) := by decide +kernel
theorem dX5_isInside_159 : decode cX5_isInside 159 = .ok (.ireturn, 1) := by decide +kernel
theorem dX5_isInside_160 : decode cX5_isInside 160 = .ok (.iload 4, 2) := by decide +kernel
theorem dX5_isInside_162 : decode cX5_isInside 162 = .ok (.iconst 1, 1) := by decide +kernel
theorem dX5_isInside_163 : decode cX5_isInside 163 = .ok (.if_icmp .lt 25, 3) := by decide +kernel
theorem dX5_isInside_166 : decode cX5_isInside 166 = .ok (.aload_n 0, 1) := by decide +kernel
theorem dX5_isInside_167 : decode cX5_isInside 167 = .ok (.getfield 9, 3) := by decide +kernel
theorem dX5_isInside_170 : decode cX5_isInside 170 = .ok (.iconst 1, 1) := by decide +kernel
theorem dX5_isInside_171 : decode cX5_isInside 171 = .ok (.invokestatic 84, 3) := by decide +kernel
theorem dX5_isInside_174 : decode cX5_isInside 174 = .ok (.iload 4, 2) := by decide +kernel
theorem dX5_isInside_176 : decode cX5_isInside 176 = .ok (.iadd, 1) := by decide +kernel
theorem dX5_isInside_177 : decode cX5_isInside 177 = .ok (.aload_n 1, 1) := by decide +kernel
theorem dX5_isInside_178 : decode cX5_isInside 178 = .ok (.getfield 81, 3) := by decide +kernel
theorem dX5_isInside_181 : decode cX5_isInside 181 = .ok (.if_icmp .gt 7, 3) := by decide +kernel
theorem dX5_isInside_184 : decode cX5_isInside 184 = .ok (.iconst 1, 1) := by decide +kernel
theorem dX5_isInside_185 : decode cX5_isInside 185 = .ok (.goto 4, 3) := by decide +kernel
theorem dX5_isInside_188 : decode cX5_isInside 188 = .ok (.iconst 0, 1) := by decide +kernel
theorem dX5_isInside_189 : decode cX5_isInside 189 = .ok (.ireturn, 1) := by decide +kernel
theorem dX5_leastOfToy_0 : decode cX5_leastOfToy 0 = .ok (.iload_n 0, 1) := by decide +kernel
theorem dX5_leastOfToy_1 : decode cX5_leastOfToy 1 = .ok (.iconst 2, 1) := by decide +kernel
theorem dX5_leastOfToy_2 : decode cX5_leastOfToy 2 = .ok (.if_icmp .ge 7, 3) := by decide +kernel
theorem dX5_leastOfToy_5 : decode cX5_leastOfToy 5 = .ok (.iconst 1, 1) := by decide +kernel
theorem dX5_leastOfToy_6 : decode cX5_leastOfToy 6 = .ok (.goto 4, 3) := by decide +kernel
theorem dX5_leastOfToy_9 : decode cX5_leastOfToy 9 = .ok (.iconst 0, 1) := by decide +kernel
theorem dX5_leastOfToy_10 : decode cX5_leastOfToy 10 = .ok (.ireturn, 1) := by decide +kernel
theorem dX5_mostOfToy_0 : decode cX5_mostOfToy 0 = .ok (.iload_n 0, 1) := by decide +kernel
theorem dX5_mostOfToy_1 : decode cX5_mostOfToy 1 = .ok (.tableswitch 35 0 2 #[27, 29, 32], 27) := by decide +kernel
theorem dX5_mostOfToy_28 : decode cX5_mostOfToy 28 = .ok (.iconst 3, 1) := by decide +kernel
theorem dX5_mostOfToy_29 : decode cX5_mostOfToy 29 = .ok (.ireturn, 1) := by decide +kernel
theorem dX5_mostOfToy_30 : decode cX5_mostOfToy 30 = .ok (.bipush 7, 2) := by decide +kernel
theorem dX5_mostOfToy_32 : decode cX5_mostOfToy 32 = .ok (.ireturn, 1) := by decide +kernel
theorem dX5_mostOfToy_33 : decode cX5_mostOfToy 33 = .ok (.bipush 9, 2) := by decide +kernel
theorem dX5_mostOfToy_35 : decode cX5_mostOfToy 35 = .ok (.ireturn, 1) := by decide +kernel
theorem dX5_mostOfToy_36 : decode cX5_mostOfToy 36 = .ok (.sipush 999, 3) := by decide +kernel
theorem dX5_mostOfToy_39 : decode cX5_mostOfToy 39 = .ok (.ireturn, 1) := by decide +kernel
set_option maxRecDepth 20000 in
theorem ggX5_tell_X10_at : GoodIn wsX5_tell wsX10_at := goodIn_r _ [13] (by decide +kernel) (by decide +kernel)
set_option maxRecDepth 20000 in
theorem gX5_tell_X10_at_n84 : GoodIn wsX5_tell (wsX10_at) := ggX5_tell_X10_at
set_option maxRecDepth 20000 in
theorem ggX5_tell_X7_lay : GoodIn wsX5_tell wsX7_lay := goodIn_r _ [18, 19, 20, 21, 22, 23, 24, 17, 25, 26, 27, 28, 29, 30, 12, 31, 37, 38, 39, 40, 41, 42, 43, 44, 45, 46] (by decide +kernel) (by decide +kernel)
set_option maxRecDepth 20000 in
theorem gX5_tell_X7_lay : GoodIn wsX5_tell (wsV RX5 88 RX7 yX7_lay wsX7_lay) := goodIn_app (goodIn_of _ (by decide +kernel)) ggX5_tell_X7_lay
set_option maxRecDepth 20000 in
theorem ggX5_tell_X7_numberOf : GoodIn wsX5_tell wsX7_numberOf := goodIn_r _ [25, 20, 37, 38, 39, 40, 41, 42, 43, 44, 45, 46] (by decide +kernel) (by decide +kernel)
set_option maxRecDepth 20000 in
theorem gX5_tell_X7_numberOf : GoodIn wsX5_tell (wsV RX5 92 RX7 yX7_numberOf wsX7_numberOf) := goodIn_app (goodIn_of _ (by decide +kernel)) ggX5_tell_X7_numberOf
theorem dX5_tell_0 : decode cX5_tell 0 = .ok (.aload_n 0, 1) := by decide +kernel
theorem dX5_tell_1 : decode cX5_tell 1 = .ok (.getfield 9, 3) := by decide +kernel
theorem dX5_tell_4 : decode cX5_tell 4 = .ok (.iconst 0, 1) := by decide +kernel
theorem dX5_tell_5 : decode cX5_tell 5 = .ok (.invokestatic 84, 3) := by decide +kernel
theorem dX5_tell_8 : decode cX5_tell 8 = .ok (.istore_n 3, 1) := by decide +kernel
theorem dX5_tell_9 : decode cX5_tell 9 = .ok (.aload_n 0, 1) := by decide +kernel
theorem dX5_tell_10 : decode cX5_tell 10 = .ok (.getfield 9, 3) := by decide +kernel
theorem dX5_tell_13 : decode cX5_tell 13 = .ok (.iconst 1, 1) := by decide +kernel
theorem dX5_tell_14 : decode cX5_tell 14 = .ok (.invokestatic 84, 3) := by decide +kernel
theorem dX5_tell_17 : decode cX5_tell 17 = .ok (.istore 4, 2) := by decide +kernel
theorem dX5_tell_19 : decode cX5_tell 19 = .ok (.aload_n 0, 1) := by decide +kernel
theorem dX5_tell_20 : decode cX5_tell 20 = .ok (.getfield 9, 3) := by decide +kernel
theorem dX5_tell_23 : decode cX5_tell 23 = .ok (.iconst 2, 1) := by decide +kernel
theorem dX5_tell_24 : decode cX5_tell 24 = .ok (.invokestatic 84, 3) := by decide +kernel
theorem dX5_tell_27 : decode cX5_tell 27 = .ok (.istore 5, 2) := by decide +kernel
theorem dX5_tell_29 : decode cX5_tell 29 = .ok (.aload_n 0, 1) := by decide +kernel
theorem dX5_tell_30 : decode cX5_tell 30 = .ok (.getfield 9, 3) := by decide +kernel
theorem dX5_tell_33 : decode cX5_tell 33 = .ok (.iconst 3, 1) := by decide +kernel
theorem dX5_tell_34 : decode cX5_tell 34 = .ok (.invokestatic 84, 3) := by decide +kernel
theorem dX5_tell_37 : decode cX5_tell 37 = .ok (.istore 6, 2) := by decide +kernel
theorem dX5_tell_39 : decode cX5_tell 39 = .ok (.iload_n 2, 1) := by decide +kernel
theorem dX5_tell_40 : decode cX5_tell 40 = .ok (.tableswitch 120 0 4 #[36, 50, 65, 80, 94], 36) := by decide +kernel
theorem dX5_tell_76 : decode cX5_tell 76 = .ok (.aload_n 1, 1) := by decide +kernel
theorem dX5_tell_77 : decode cX5_tell 77 = .ok (.iload_n 3, 1) := by decide +kernel
theorem dX5_tell_78 : decode cX5_tell 78 = .ok (.putfield 78, 3) := by decide +kernel
theorem dX5_tell_81 : decode cX5_tell 81 = .ok (.aload_n 1, 1) := by decide +kernel
theorem dX5_tell_82 : decode cX5_tell 82 = .ok (.iload 4, 2) := by decide +kernel
theorem dX5_tell_84 : decode cX5_tell 84 = .ok (.putfield 81, 3) := by decide +kernel
theorem dX5_tell_87 : decode cX5_tell 87 = .ok (.goto 90, 3) := by decide +kernel
theorem dX5_tell_90 : decode cX5_tell 90 = .ok (.aload_n 1, 1) := by decide +kernel
theorem dX5_tell_91 : decode cX5_tell 91 = .ok (.iconst 1, 1) := by decide +kernel
theorem dX5_tell_92 : decode cX5_tell 92 = .ok (.iload_n 3, 1) := by decide +kernel
theorem dX5_tell_93 : decode cX5_tell 93 = .ok (.iload 4, 2) := by decide +kernel
theorem dX5_tell_95 : decode cX5_tell 95 = .ok (.iload 5, 2) := by decide +kernel
theorem dX5_tell_97 : decode cX5_tell 97 = .ok (.iload 6, 2) := by decide +kernel
theorem dX5_tell_99 : decode cX5_tell 99 = .ok (.invokevirtual 88, 3) := by decide +kernel
theorem dX5_tell_102 : decode cX5_tell 102 = .ok (.goto 75, 3) := by decide +kernel
theorem dX5_tell_105 : decode cX5_tell 105 = .ok (.aload_n 1, 1) := by decide +kernel
theorem dX5_tell_106 : decode cX5_tell 106 = .ok (.iconst 2, 1) := by decide +kernel
theorem dX5_tell_107 : decode cX5_tell 107 = .ok (.iload_n 3, 1) := by decide +kernel
theorem dX5_tell_108 : decode cX5_tell 108 = .ok (.iload 4, 2) := by decide +kernel
theorem dX5_tell_110 : decode cX5_tell 110 = .ok (.iload 5, 2) := by decide +kernel
theorem dX5_tell_112 : decode cX5_tell 112 = .ok (.iload 6, 2) := by decide +kernel
theorem dX5_tell_114 : decode cX5_tell 114 = .ok (.invokevirtual 88, 3) := by decide +kernel
theorem dX5_tell_117 : decode cX5_tell 117 = .ok (.goto 60, 3) := by decide +kernel
theorem dX5_tell_120 : decode cX5_tell 120 = .ok (.aload_n 1, 1) := by decide +kernel
theorem dX5_tell_121 : decode cX5_tell 121 = .ok (.aload_n 1, 1) := by decide +kernel
theorem dX5_tell_122 : decode cX5_tell 122 = .ok (.iload_n 3, 1) := by decide +kernel
theorem dX5_tell_123 : decode cX5_tell 123 = .ok (.iload 4, 2) := by decide +kernel
theorem dX5_tell_125 : decode cX5_tell 125 = .ok (.invokevirtual 92, 3) := by decide +kernel
theorem dX5_tell_128 : decode cX5_tell 128 = .ok (.putfield 96, 3) := by decide +kernel
theorem dX5_tell_131 : decode cX5_tell 131 = .ok (.goto 46, 3) := by decide +kernel
theorem dX5_tell_134 : decode cX5_tell 134 = .ok (.aload_n 1, 1) := by decide +kernel
theorem dX5_tell_135 : decode cX5_tell 135 = .ok (.iload_n 3, 1) := by decide +kernel
theorem dX5_tell_136 : decode cX5_tell 136 = .ok (.putfield 99, 3) := by decide +kernel
theorem dX5_tell_139 : decode cX5_tell 139 = .ok (.aload_n 1, 1) := by decide +kernel
theorem dX5_tell_140 : decode cX5_tell 140 = .ok (.iload 4, 2) := by decide +kernel
theorem dX5_tell_142 : decode cX5_tell 142 = .ok (.putfield 102, 3) := by decide +kernel
theorem dX5_tell_145 : decode cX5_tell 145 = .ok (.aload_n 1, 1) := by decide +kernel
theorem dX5_tell_146 : decode cX5_tell 146 = .ok (.iload 5, 2) := by decide +kernel
theorem dX5_tell_148 : decode cX5_tell 148 = .ok (.putfield 105, 3) := by decide +kernel
theorem dX5_tell_151 : decode cX5_tell 151 = .ok (.aload_n 1, 1) := by decide +kernel
theorem dX5_tell_152 : decode cX5_tell 152 = .ok (.iload 6, 2) := by decide +kernel
theorem dX5_tell_154 : decode cX5_tell 154 = .ok (.putfield 108, 3) := by decide +kernel
theorem dX5_tell_157 : decode cX5_tell 157 = .ok (.goto 20, 3) := by decide +kernel
theorem dX5_tell_160 : decode cX5_tell 160 = .ok (.aload_n 1, 1) := by decide +kernel
theorem dX5_tell_161 : decode cX5_tell 161 = .ok (.aload_n 1, 1) := by decide +kernel
theorem dX5_tell_162 : decode cX5_tell 162 = .ok (.iload_n 3, 1) := by decide +kernel
theorem dX5_tell_163 : decode cX5_tell 163 = .ok (.iload 4, 2) := by decide +kernel
theorem dX5_tell_165 : decode cX5_tell 165 = .ok (.invokevirtual 92, 3) := by decide +kernel
theorem dX5_tell_168 : decode cX5_tell 168 = .ok (.putfield 111, 3) := by decide +kernel
theorem dX5_tell_171 : decode cX5_tell 171 = .ok (.aload_n 1, 1) := by decide +kernel
theorem dX5_tell_172 : decode cX5_tell 172 = .ok (.iload 5, 2) := by decide +kernel
theorem dX5_tell_174 : decode cX5_tell 174 = .ok (.putfield 114, 3) := by decide +kernel
theorem dX5_tell_177 : decode cX5_tell 177 = .ok (.return_, 1) := by decide +kernel
theorem dX6_init_0 : decode cX6_init 0 = .ok (.aload_n 0, 1) := by decide +kernel
theorem dX6_init_1 : decode cX6_init 1 = .ok (.invokespecial 3, 3) := by decide +kernel
theorem dX6_init_4 : decode cX6_init 4 = .ok (.aload_n 0, 1) := by decide +kernel
theorem dX6_init_5 : decode cX6_init 5 = .ok (.sipush 256, 3) := by decide +kernel
theorem dX6_init_8 : decode cX6_init 8 = .ok (.newarray .int, 2) := by decide +kernel
theorem dX6_init_10 : decode cX6_init 10 = .ok (.putfield 9, 3) := by decide +kernel
theorem dX6_init_13 : decode cX6_init 13 = .ok (.aload_n 0, 1) := by decide +kernel
theorem dX6_init_14 : decode cX6_init 14 = .ok (.aload_n 1, 1) := by decide +kernel
theorem dX6_init_15 : decode cX6_init 15 = .ok (.putfield 15, 3) := by decide +kernel
theorem dX6_init_18 : decode cX6_init 18 = .ok (.aload_n 0, 1) := by decide +kernel
theorem dX6_init_19 : decode cX6_init 19 = .ok (.aload_n 2, 1) := by decide +kernel
theorem dX6_init_20 : decode cX6_init 20 = .ok (.putfield 19, 3) := by decide +kernel
theorem dX6_init_23 : decode cX6_init 23 = .ok (.aload_n 0, 1) := by decide +kernel
theorem dX6_init_24 : decode cX6_init 24 = .ok (.aload_n 3, 1) := by decide +kernel
theorem dX6_init_25 : decode cX6_init 25 = .ok (.putfield 22, 3) := by decide +kernel
theorem dX6_init_28 : decode cX6_init 28 = .ok (.return_, 1) := by decide +kernel
set_option maxRecDepth 20000 in
theorem ggX6_survey_X3_renew : GoodIn wsX6_survey wsX3_renew := goodIn_r _ [12, 13, 14, 15, 16, 100, 101, 102] (by decide +kernel) (by decide +kernel)
set_option maxRecDepth 20000 in
theorem gX6_survey_X3_renew : GoodIn wsX6_survey (wsV RX6 42 RX3 yX3_renew wsX3_renew) := goodIn_app (goodIn_of _ (by decide +kernel)) ggX6_survey_X3_renew
set_option maxRecDepth 20000 in
theorem ggX6_survey_X7_size : GoodIn wsX6_survey wsX7_size := goodIn_r _ [21, 22, 23, 103, 104, 105, 106, 107, 108, 109, 110, 111, 112] (by decide +kernel) (by decide +kernel)
set_option maxRecDepth 20000 in
theorem gX6_survey_X7_size : GoodIn wsX6_survey (wsV RX6 48 RX7 yX7_size wsX7_size) := goodIn_app (goodIn_of _ (by decide +kernel)) ggX6_survey_X7_size
set_option maxRecDepth 20000 in
theorem ggX6_survey_X7_kindOf : GoodIn wsX6_survey wsX7_kindOf := goodIn_r _ [27, 22, 23, 28, 103, 104, 105, 106, 107, 108, 109, 110, 111, 112] (by decide +kernel) (by decide +kernel)
set_option maxRecDepth 20000 in
theorem gX6_survey_X7_kindOf : GoodIn wsX6_survey (wsV RX6 54 RX7 yX7_kindOf wsX7_kindOf) := goodIn_app (goodIn_of _ (by decide +kernel)) ggX6_survey_X7_kindOf
set_option maxRecDepth 20000 in
theorem ggX6_survey_X10_standOf : GoodIn wsX6_survey wsX10_standOf := goodIn_r _ [31] (by decide +kernel) (by decide +kernel)
set_option maxRecDepth 20000 in
theorem gX6_survey_X10_standOf_n58 : GoodIn wsX6_survey (wsX10_standOf) := ggX6_survey_X10_standOf
set_option maxRecDepth 20000 in
theorem ggX6_survey_X6_judge : GoodIn wsX6_survey wsX6_judge := goodIn_r _ [36, 6, 37, 1, 2, 3, 38, 39, 40, 11, 41, 16, 13, 42, 43, 44, 45, 46, 30, 47, 48, 49, 50, 51, 52, 53, 54, 55, 56, 57, 58, 59, 60, 61, 62, 63, 29, 31, 64, 65, 66, 35, 67, 68, 4, 5, 69, 70, 7, 71, 72, 73, 74, 75, 76, 77, 78, 79, 80, 81, 82, 83, 84, 85, 9, 10, 12, 14, 15, 86, 87, 88, 89, 90, 91, 92, 93, 94, 95, 96, 97, 98, 99, 100, 101, 102, 113, 114, 115, 116, 117, 118, 119, 120] (by decide +kernel) (by decide +kernel)
set_option maxRecDepth 20000 in
theorem gX6_survey_X6_judge : GoodIn wsX6_survey (wsV RX6 62 RX6 yX6_judge wsX6_judge) := goodIn_app (goodIn_of _ (by decide +kernel)) ggX6_survey_X6_judge
theorem dX6_survey_0 : decode cX6_survey 0 = .ok (.aload_n 0, 1) := by decide +kernel
theorem dX6_survey_1 : decode cX6_survey 1 = .ok (.iconst 0, 1) := by decide +kernel
theorem dX6_survey_2 : decode cX6_survey 2 = .ok (.putfield 26, 3) := by decide +kernel
theorem dX6_survey_5 : decode cX6_survey 5 = .ok (.aload_n 0, 1) := by decide +kernel
theorem dX6_survey_6 : decode cX6_survey 6 = .ok (.iconst 0, 1) := by decide +kernel
theorem dX6_survey_7 : decode cX6_survey 7 = .ok (.putfield 30, 3) := by decide +kernel
theorem dX6_survey_10 : decode cX6_survey 10 = .ok (.aload_n 0, 1) := by decide +kernel
theorem dX6_survey_11 : decode cX6_survey 11 = .ok (.iconst 0, 1) := by decide +kernel
theorem dX6_survey_12 : decode cX6_survey 12 = .ok (.putfield 33, 3) := by decide +kernel
theorem dX6_survey_15 : decode cX6_survey 15 = .ok (.aload_n 0, 1) := by decide +kernel
theorem dX6_survey_16 : decode cX6_survey 16 = .ok (.iconst 0, 1) := by decide +kernel
theorem dX6_survey_17 : decode cX6_survey 17 = .ok (.putfield 36, 3) := by decide +kernel
theorem dX6_survey_20 : decode cX6_survey 20 = .ok (.aload_n 0, 1) := by decide +kernel
theorem dX6_survey_21 : decode cX6_survey 21 = .ok (.iconst 0, 1) := by decide +kernel
theorem dX6_survey_22 : decode cX6_survey 22 = .ok (.putfield 39, 3) := by decide +kernel
theorem dX6_survey_25 : decode cX6_survey 25 = .ok (.aload_n 0, 1) := by decide +kernel
theorem dX6_survey_26 : decode cX6_survey 26 = .ok (.getfield 15, 3) := by decide +kernel
theorem dX6_survey_29 : decode cX6_survey 29 = .ok (.iconst 4, 1) := by decide +kernel
theorem dX6_survey_30 : decode cX6_survey 30 = .ok (.invokevirtual 42, 3) := by decide +kernel
theorem dX6_survey_33 : decode cX6_survey 33 = .ok (.iconst 0, 1) := by decide +kernel
theorem dX6_survey_34 : decode cX6_survey 34 = .ok (.istore_n 3, 1) := by decide +kernel
theorem dX6_survey_35 : decode cX6_survey 35 = .ok (.iload_n 3, 1) := by decide +kernel
theorem dX6_survey_36 : decode cX6_survey 36 = .ok (.aload_n 0, 1) := by decide +kernel
theorem dX6_survey_37 : decode cX6_survey 37 = .ok (.getfield 9, 3) := by decide +kernel
theorem dX6_survey_40 : decode cX6_survey 40 = .ok (.arraylength, 1) := by decide +kernel
theorem dX6_survey_41 : decode cX6_survey 41 = .ok (.if_icmp .ge 16, 3) := by decide +kernel
theorem dX6_survey_44 : decode cX6_survey 44 = .ok (.aload_n 0, 1) := by decide +kernel
theorem dX6_survey_45 : decode cX6_survey 45 = .ok (.getfield 9, 3) := by decide +kernel
theorem dX6_survey_48 : decode cX6_survey 48 = .ok (.iload_n 3, 1) := by decide +kernel
theorem dX6_survey_49 : decode cX6_survey 49 = .ok (.iconst 0, 1) := by decide +kernel
theorem dX6_survey_50 : decode cX6_survey 50 = .ok (.iastore, 1) := by decide +kernel
theorem dX6_survey_51 : decode cX6_survey 51 = .ok (.iinc 3 1, 3) := by decide +kernel
theorem dX6_survey_54 : decode cX6_survey 54 = .ok (.goto (-19), 3) := by decide +kernel
theorem dX6_survey_57 : decode cX6_survey 57 = .ok (.iconst 0, 1) := by decide +kernel
theorem dX6_survey_58 : decode cX6_survey 58 = .ok (.istore_n 3, 1) := by decide +kernel
theorem dX6_survey_59 : decode cX6_survey 59 = .ok (.iload_n 3, 1) := by decide +kernel
theorem dX6_survey_60 : decode cX6_survey 60 = .ok (.aload_n 1, 1) := by decide +kernel
theorem dX6_survey_61 : decode cX6_survey 61 = .ok (.invokevirtual 48, 3) := by decide +kernel
theorem dX6_survey_64 : decode cX6_survey 64 = .ok (.if_icmp .ge 45, 3) := by decide +kernel
theorem dX6_survey_67 : decode cX6_survey 67 = .ok (.iconst 0, 1) := by decide +kernel
theorem dX6_survey_68 : decode cX6_survey 68 = .ok (.istore 4, 2) := by decide +kernel
theorem dX6_survey_70 : decode cX6_survey 70 = .ok (.iload 4, 2) := by decide +kernel
theorem dX6_survey_72 : decode cX6_survey 72 = .ok (.bipush 8, 2) := by decide +kernel
theorem dX6_survey_74 : decode cX6_survey 74 = .ok (.if_icmp .ge 29, 3) := by decide +kernel
theorem dX6_survey_77 : decode cX6_survey 77 = .ok (.aload_n 1, 1) := by decide +kernel
theorem dX6_survey_78 : decode cX6_survey 78 = .ok (.iload_n 3, 1) := by decide +kernel
theorem dX6_survey_79 : decode cX6_survey 79 = .ok (.invokevirtual 54, 3) := by decide +kernel
theorem dX6_survey_82 : decode cX6_survey 82 = .ok (.ifCond .ne 21, 3) := by decide +kernel
theorem dX6_survey_85 : decode cX6_survey 85 = .ok (.aload_n 0, 1) := by decide +kernel
theorem dX6_survey_86 : decode cX6_survey 86 = .ok (.aload_n 2, 1) := by decide +kernel
theorem dX6_survey_87 : decode cX6_survey 87 = .ok (.iload_n 3, 1) := by decide +kernel
theorem dX6_survey_88 : decode cX6_survey 88 = .ok (.iload 4, 2) := by decide +kernel
theorem dX6_survey_90 : decode cX6_survey 90 = .ok (.iconst 0, 1) := by decide +kernel
theorem dX6_survey_91 : decode cX6_survey 91 = .ok (.invokestatic 58, 3) := by decide +kernel
theorem dX6_survey_94 : decode cX6_survey 94 = .ok (.invokevirtual 62, 3) := by decide +kernel
theorem dX6_survey_97 : decode cX6_survey 97 = .ok (.iinc 4 1, 3) := by decide +kernel
theorem dX6_survey_100 : decode cX6_survey 100 = .ok (.goto (-30), 3) := by decide +kernel
theorem dX6_survey_103 : decode cX6_survey 103 = .ok (.iinc 3 1, 3) := by decide +kernel
theorem dX6_survey_106 : decode cX6_survey 106 = .ok (.goto (-47), 3) := by decide +kernel
theorem dX6_survey_109 : decode cX6_survey 109 = .ok (.return_, 1) := by decide +kernel
set_option maxRecDepth 20000 in
theorem ggX6_judge_X3_get : GoodIn wsX6_judge wsX3_get := goodIn_r _ [10, 11, 12, 13, 14, 15, 16, 17, 18, 19, 83, 84, 85] (by decide +kernel) (by decide +kernel)
set_option maxRecDepth 20000 in
theorem gX6_judge_X3_get : GoodIn wsX6_judge (wsV RX6 66 RX3 yX3_get wsX3_get) := goodIn_app (goodIn_of _ (by decide +kernel)) ggX6_judge_X3_get
set_option maxRecDepth 20000 in
theorem ggX6_judge_X3_set : GoodIn wsX6_judge wsX3_set := goodIn_r _ [23, 11, 12, 24, 18, 25, 83, 84, 85] (by decide +kernel) (by decide +kernel)
set_option maxRecDepth 20000 in
theorem gX6_judge_X3_set : GoodIn wsX6_judge (wsV RX6 69 RX3 yX3_set wsX3_set) := goodIn_app (goodIn_of _ (by decide +kernel)) ggX6_judge_X3_set
set_option maxRecDepth 20000 in
theorem ggX6_judge_X10_set : GoodIn wsX6_judge wsX10_set := goodIn_r _ [25] (by decide +kernel) (by decide +kernel)
set_option maxRecDepth 20000 in
theorem gX6_judge_X10_set_n73 : GoodIn wsX6_judge (wsX10_set) := ggX6_judge_X10_set
set_option maxRecDepth 20000 in
theorem ggX6_judge_X9_after : GoodIn wsX6_judge wsX9_after := goodIn_r _ [30, 31, 32, 33, 17, 18, 19, 34, 35, 36, 37, 86, 87, 88, 89] (by decide +kernel) (by decide +kernel)
set_option maxRecDepth 20000 in
theorem gX6_judge_X9_after : GoodIn wsX6_judge (wsV RX6 76 RX9 yX9_after wsX9_after) := goodIn_app (goodIn_of _ (by decide +kernel)) ggX6_judge_X9_after
set_option maxRecDepth 20000 in
theorem ggX6_judge_X6_addRound : GoodIn wsX6_judge wsX6_addRound := goodIn_r _ [42, 43, 44, 45, 46, 47, 14, 15, 16, 48, 49, 50, 51, 52, 53, 54, 55, 56, 57, 58, 59, 60, 61, 62, 63, 64, 65, 9, 66, 12, 67, 68, 11, 69, 27, 28, 29, 30, 31, 32, 33, 17, 18, 19, 34, 35, 36, 37, 70, 71, 72, 73, 24, 25, 26, 74, 75, 76, 77, 78, 79, 80, 81, 82, 90, 91, 92, 93, 83, 84, 85, 86, 87, 88, 89] (by decide +kernel) (by decide +kernel)
set_option maxRecDepth 20000 in
theorem gX6_judge_X6_addRound : GoodIn wsX6_judge (wsV RX6 81 RX6 yX6_addRound wsX6_addRound) := goodIn_app (goodIn_of _ (by decide +kernel)) ggX6_judge_X6_addRound
set_option maxRecDepth 20000 in
theorem ggX6_judge_X10_at : GoodIn wsX6_judge wsX10_at := goodIn_r _ [19] (by decide +kernel) (by decide +kernel)
set_option maxRecDepth 20000 in
theorem gX6_judge_X10_at_n85 : GoodIn wsX6_judge (wsX10_at) := ggX6_judge_X10_at
theorem dX6_judge_0 : decode cX6_judge 0 = .ok (.iload_n 2, 1) := by decide +kernel
theorem dX6_judge_1 : decode cX6_judge 1 = .ok (.istore_n 3, 1) := by decide +kernel
theorem dX6_judge_2 : decode cX6_judge 2 = .ok (.iconst 0, 1) := by decide +kernel
theorem dX6_judge_3 : decode cX6_judge 3 = .ok (.istore 4, 2) := by decide +kernel
theorem dX6_judge_5 : decode cX6_judge 5 = .ok (.iload 4, 2) := by decide +kernel
theorem dX6_judge_7 : decode cX6_judge 7 = .ok (.sipush 18432, 3) := by decide +kernel
theorem dX6_judge_10 : decode cX6_judge 10 = .ok (.if_icmp .ge 50, 3) := by decide +kernel
theorem dX6_judge_13 : decode cX6_judge 13 = .ok (.iload_n 3, 1) := by decide +kernel
theorem dX6_judge_14 : decode cX6_judge 14 = .ok (.iconst (-1), 1) := by decide +kernel
theorem dX6_judge_15 : decode cX6_judge 15 = .ok (.if_icmp .eq 45, 3) := by decide +kernel
theorem dX6_judge_18 : decode cX6_judge 18 = .ok (.aload_n 0, 1) := by decide +kernel
theorem dX6_judge_19 : decode cX6_judge 19 = .ok (.getfield 15, 3) := by decide +kernel
theorem dX6_judge_22 : decode cX6_judge 22 = .ok (.iload_n 3, 1) := by decide +kernel
theorem dX6_judge_23 : decode cX6_judge 23 = .ok (.invokevirtual 66, 3) := by decide +kernel
theorem dX6_judge_26 : decode cX6_judge 26 = .ok (.ifCond .ne 34, 3) := by decide +kernel
theorem dX6_judge_29 : decode cX6_judge 29 = .ok (.aload_n 0, 1) := by decide +kernel
theorem dX6_judge_30 : decode cX6_judge 30 = .ok (.getfield 15, 3) := by decide +kernel
theorem dX6_judge_33 : decode cX6_judge 33 = .ok (.iload_n 3, 1) := by decide +kernel
theorem dX6_judge_34 : decode cX6_judge 34 = .ok (.iconst 1, 1) := by decide +kernel
theorem dX6_judge_35 : decode cX6_judge 35 = .ok (.invokevirtual 69, 3) := by decide +kernel
theorem dX6_judge_38 : decode cX6_judge 38 = .ok (.aload_n 0, 1) := by decide +kernel
theorem dX6_judge_39 : decode cX6_judge 39 = .ok (.getfield 19, 3) := by decide +kernel
theorem dX6_judge_42 : decode cX6_judge 42 = .ok (.iload 4, 2) := by decide +kernel
theorem dX6_judge_44 : decode cX6_judge 44 = .ok (.iload_n 3, 1) := by decide +kernel
theorem dX6_judge_45 : decode cX6_judge 45 = .ok (.invokestatic 73, 3) := by decide +kernel
theorem dX6_judge_48 : decode cX6_judge 48 = .ok (.iinc 4 1, 3) := by decide +kernel
theorem dX6_judge_51 : decode cX6_judge 51 = .ok (.aload_n 1, 1) := by decide +kernel
theorem dX6_judge_52 : decode cX6_judge 52 = .ok (.iload_n 3, 1) := by decide +kernel
theorem dX6_judge_53 : decode cX6_judge 53 = .ok (.invokevirtual 76, 3) := by decide +kernel
theorem dX6_judge_56 : decode cX6_judge 56 = .ok (.istore_n 3, 1) := by decide +kernel
theorem dX6_judge_57 : decode cX6_judge 57 = .ok (.goto (-52), 3) := by decide +kernel
theorem dX6_judge_60 : decode cX6_judge 60 = .ok (.iload_n 3, 1) := by decide +kernel
theorem dX6_judge_61 : decode cX6_judge 61 = .ok (.iconst (-1), 1) := by decide +kernel
theorem dX6_judge_62 : decode cX6_judge 62 = .ok (.if_icmp .ne 7, 3) := by decide +kernel
theorem dX6_judge_65 : decode cX6_judge 65 = .ok (.iconst 2, 1) := by decide +kernel
theorem dX6_judge_66 : decode cX6_judge 66 = .ok (.goto 11, 3) := by decide +kernel
theorem dX6_judge_69 : decode cX6_judge 69 = .ok (.aload_n 0, 1) := by decide +kernel
theorem dX6_judge_70 : decode cX6_judge 70 = .ok (.getfield 15, 3) := by decide +kernel
theorem dX6_judge_73 : decode cX6_judge 73 = .ok (.iload_n 3, 1) := by decide +kernel
theorem dX6_judge_74 : decode cX6_judge 74 = .ok (.invokevirtual 66, 3) := by decide +kernel
theorem dX6_judge_77 : decode cX6_judge 77 = .ok (.istore 5, 2) := by decide +kernel
theorem dX6_judge_79 : decode cX6_judge 79 = .ok (.iload 5, 2) := by decide +kernel
theorem dX6_judge_81 : decode cX6_judge 81 = .ok (.iconst 1, 1) := by decide +kernel
theorem dX6_judge_82 : decode cX6_judge 82 = .ok (.if_icmp .ne 11, 3) := by decide +kernel
theorem dX6_judge_85 : decode cX6_judge 85 = .ok (.aload_n 0, 1) := by decide +kernel
theorem dX6_judge_86 : decode cX6_judge 86 = .ok (.aload_n 1, 1) := by decide +kernel
theorem dX6_judge_87 : decode cX6_judge 87 = .ok (.iload_n 3, 1) := by decide +kernel
theorem dX6_judge_88 : decode cX6_judge 88 = .ok (.invokevirtual 81, 3) := by decide +kernel
theorem dX6_judge_91 : decode cX6_judge 91 = .ok (.istore 5, 2) := by decide +kernel
theorem dX6_judge_93 : decode cX6_judge 93 = .ok (.iconst 0, 1) := by decide +kernel
theorem dX6_judge_94 : decode cX6_judge 94 = .ok (.istore 6, 2) := by decide +kernel
theorem dX6_judge_96 : decode cX6_judge 96 = .ok (.iload 6, 2) := by decide +kernel
theorem dX6_judge_98 : decode cX6_judge 98 = .ok (.iload 4, 2) := by decide +kernel
theorem dX6_judge_100 : decode cX6_judge 100 = .ok (.if_icmp .ge 27, 3) := by decide +kernel
theorem dX6_judge_103 : decode cX6_judge 103 = .ok (.aload_n 0, 1) := by decide +kernel
theorem dX6_judge_104 : decode cX6_judge 104 = .ok (.getfield 15, 3) := by decide +kernel
theorem dX6_judge_107 : decode cX6_judge 107 = .ok (.aload_n 0, 1) := by decide +kernel
theorem dX6_judge_108 : decode cX6_judge 108 = .ok (.getfield 19, 3) := by decide +kernel
theorem dX6_judge_111 : decode cX6_judge 111 = .ok (.iload 6, 2) := by decide +kernel
theorem dX6_judge_113 : decode cX6_judge 113 = .ok (.invokestatic 85, 3) := by decide +kernel
theorem dX6_judge_116 : decode cX6_judge 116 = .ok (.iload 5, 2) := by decide +kernel
theorem dX6_judge_118 : decode cX6_judge 118 = .ok (.invokevirtual 69, 3) := by decide +kernel
theorem dX6_judge_121 : decode cX6_judge 121 = .ok (.iinc 6 1, 3) := by decide +kernel
theorem dX6_judge_124 : decode cX6_judge 124 = .ok (.goto (-28), 3) := by decide +kernel
theorem dX6_judge_127 : decode cX6_judge 127 = .ok (.aload_n 0, 1) := by decide +kernel
theorem dX6_judge_128 : decode cX6_judge 128 = .ok (.dup, 1) := by decide +kernel
theorem dX6_judge_129 : decode cX6_judge 129 = .ok (.getfield 26, 3) := by decide +kernel
theorem dX6_judge_132 : decode cX6_judge 132 = .ok (.iconst 1, 1) := by decide +kernel
theorem dX6_judge_133 : decode cX6_judge 133 = .ok (.iadd, 1) := by decide +kernel
theorem dX6_judge_134 : decode cX6_judge 134 = .ok (.putfield 26, 3) := by decide +kernel
theorem dX6_judge_137 : decode cX6_judge 137 = .ok (.aload_n 0, 1) := by decide +kernel
theorem dX6_judge_138 : decode cX6_judge 138 = .ok (.dup, 1) := by decide +kernel
theorem dX6_judge_139 : decode cX6_judge 139 = .ok (.getfield 30, 3) := by decide +kernel
theorem dX6_judge_142 : decode cX6_judge 142 = .ok (.iload 5, 2) := by decide +kernel
theorem dX6_judge_144 : decode cX6_judge 144 = .ok (.iconst 2, 1) := by decide +kernel
theorem dX6_judge_145 : decode cX6_judge 145 = .ok (.if_icmp .ne 7, 3) := by decide +kernel
theorem dX6_judge_148 : decode cX6_judge 148 = .ok (.iconst 1, 1) := by decide +kernel
theorem dX6_judge_149 : decode cX6_judge 149 = .ok (.goto 4, 3) := by decide +kernel
theorem dX6_judge_152 : decode cX6_judge 152 = .ok (.iconst 0, 1) := by decide +kernel
theorem dX6_judge_153 : decode cX6_judge 153 = .ok (.iadd, 1) := by decide +kernel
theorem dX6_judge_154 : decode cX6_judge 154 = .ok (.putfield 30, 3) := by decide +kernel
theorem dX6_judge_157 : decode cX6_judge 157 = .ok (.aload_n 0, 1) := by decide +kernel
theorem dX6_judge_158 : decode cX6_judge 158 = .ok (.dup, 1) := by decide +kernel
theorem dX6_judge_159 : decode cX6_judge 159 = .ok (.getfield 33, 3) := by decide +kernel
theorem dX6_judge_162 : decode cX6_judge 162 = .ok (.iload 5, 2) := by decide +kernel
theorem dX6_judge_164 : decode cX6_judge 164 = .ok (.iconst 3, 1) := by decide +kernel
theorem dX6_judge_165 : decode cX6_judge 165 = .ok (.if_icmp .ne 7, 3) := by decide +kernel
theorem dX6_judge_168 : decode cX6_judge 168 = .ok (.iconst 1, 1) := by decide +kernel
theorem dX6_judge_169 : decode cX6_judge 169 = .ok (.goto 4, 3) := by decide +kernel
theorem dX6_judge_172 : decode cX6_judge 172 = .ok (.iconst 0, 1) := by decide +kernel
theorem dX6_judge_173 : decode cX6_judge 173 = .ok (.iadd, 1) := by decide +kernel
theorem dX6_judge_174 : decode cX6_judge 174 = .ok (.putfield 33, 3) := by decide +kernel
theorem dX6_judge_177 : decode cX6_judge 177 = .ok (.return_, 1) := by decide +kernel
set_option maxRecDepth 20000 in
theorem ggX6_addRound_X2_run : GoodIn wsX6_addRound wsX2_run := goodIn_r _ [15, 16, 17, 18, 19, 20, 21, 22, 14, 23, 24, 25, 26, 27, 28, 29, 30, 31, 32, 33, 34, 35, 36, 37, 38, 39, 40, 41, 42, 43, 44, 45, 46, 47, 48, 49, 50, 51, 64, 65, 66, 67, 68, 69, 70, 71, 72, 73, 74] (by decide +kernel) (by decide +kernel)
set_option maxRecDepth 20000 in
theorem gX6_addRound_X2_run : GoodIn wsX6_addRound (wsV RX6 89 RX2 yX2_run wsX2_run) := goodIn_app (goodIn_of _ (by decide +kernel)) ggX6_addRound_X2_run
set_option maxRecDepth 20000 in
theorem ggX6_addRound_X10_cellOf : GoodIn wsX6_addRound wsX10_cellOf := goodIn_r _ [45] (by decide +kernel) (by decide +kernel)
set_option maxRecDepth 20000 in
theorem gX6_addRound_X10_cellOf_n103 : GoodIn wsX6_addRound (wsX10_cellOf) := ggX6_addRound_X10_cellOf
set_option maxRecDepth 20000 in
theorem ggX6_addRound_X10_at : GoodIn wsX6_addRound wsX10_at := goodIn_r _ [43] (by decide +kernel) (by decide +kernel)
set_option maxRecDepth 20000 in
theorem gX6_addRound_X10_at_n85 : GoodIn wsX6_addRound (wsX10_at) := ggX6_addRound_X10_at
set_option maxRecDepth 20000 in
theorem ggX6_addRound_X10_set : GoodIn wsX6_addRound wsX10_set := goodIn_r _ [53] (by decide +kernel) (by decide +kernel)
set_option maxRecDepth 20000 in
theorem gX6_addRound_X10_set_n73 : GoodIn wsX6_addRound (wsX10_set) := ggX6_addRound_X10_set
set_option maxRecDepth 20000 in
theorem ggX6_addRound_X9_after : GoodIn wsX6_addRound wsX9_after := goodIn_r _ [37, 38, 39, 40, 41, 42, 43, 44, 45, 46, 47, 71, 72, 73, 74] (by decide +kernel) (by decide +kernel)
set_option maxRecDepth 20000 in
theorem gX6_addRound_X9_after : GoodIn wsX6_addRound (wsV RX6 76 RX9 yX9_after wsX9_after) := goodIn_app (goodIn_of _ (by decide +kernel)) ggX6_addRound_X9_after
theorem dX6_addRound_0 : decode cX6_addRound 0 = .ok (.aload_n 0, 1) := by decide +kernel
theorem dX6_addRound_1 : decode cX6_addRound 1 = .ok (.getfield 22, 3) := by decide +kernel
theorem dX6_addRound_4 : decode cX6_addRound 4 = .ok (.aload_n 1, 1) := by decide +kernel
theorem dX6_addRound_5 : decode cX6_addRound 5 = .ok (.iload_n 2, 1) := by decide +kernel
theorem dX6_addRound_6 : decode cX6_addRound 6 = .ok (.invokevirtual 89, 3) := by decide +kernel
theorem dX6_addRound_9 : decode cX6_addRound 9 = .ok (.aload_n 0, 1) := by decide +kernel
theorem dX6_addRound_10 : decode cX6_addRound 10 = .ok (.dup, 1) := by decide +kernel
theorem dX6_addRound_11 : decode cX6_addRound 11 = .ok (.getfield 36, 3) := by decide +kernel
theorem dX6_addRound_14 : decode cX6_addRound 14 = .ok (.iconst 1, 1) := by decide +kernel
theorem dX6_addRound_15 : decode cX6_addRound 15 = .ok (.iadd, 1) := by decide +kernel
theorem dX6_addRound_16 : decode cX6_addRound 16 = .ok (.putfield 36, 3) := by decide +kernel
theorem dX6_addRound_19 : decode cX6_addRound 19 = .ok (.aload_n 0, 1) := by decide +kernel
theorem dX6_addRound_20 : decode cX6_addRound 20 = .ok (.aload_n 0, 1) := by decide +kernel
theorem dX6_addRound_21 : decode cX6_addRound 21 = .ok (.getfield 39, 3) := by decide +kernel
theorem dX6_addRound_24 : decode cX6_addRound 24 = .ok (.aload_n 0, 1) := by decide +kernel
theorem dX6_addRound_25 : decode cX6_addRound 25 = .ok (.getfield 22, 3) := by decide +kernel
theorem dX6_addRound_28 : decode cX6_addRound 28 = .ok (.getfield 94, 3) := by decide +kernel
theorem dX6_addRound_31 : decode cX6_addRound 31 = .ok (.invokestatic 97, 3) := by decide +kernel
theorem dX6_addRound_34 : decode cX6_addRound 34 = .ok (.putfield 39, 3) := by decide +kernel
theorem dX6_addRound_37 : decode cX6_addRound 37 = .ok (.iload_n 2, 1) := by decide +kernel
theorem dX6_addRound_38 : decode cX6_addRound 38 = .ok (.istore_n 3, 1) := by decide +kernel
theorem dX6_addRound_39 : decode cX6_addRound 39 = .ok (.iconst 0, 1) := by decide +kernel
theorem dX6_addRound_40 : decode cX6_addRound 40 = .ok (.istore 4, 2) := by decide +kernel
theorem dX6_addRound_42 : decode cX6_addRound 42 = .ok (.iload 4, 2) := by decide +kernel
theorem dX6_addRound_44 : decode cX6_addRound 44 = .ok (.aload_n 0, 1) := by decide +kernel
theorem dX6_addRound_45 : decode cX6_addRound 45 = .ok (.getfield 22, 3) := by decide +kernel
theorem dX6_addRound_48 : decode cX6_addRound 48 = .ok (.getfield 94, 3) := by decide +kernel
theorem dX6_addRound_51 : decode cX6_addRound 51 = .ok (.if_icmp .ge 52, 3) := by decide +kernel
theorem dX6_addRound_54 : decode cX6_addRound 54 = .ok (.iload_n 3, 1) := by decide +kernel
theorem dX6_addRound_55 : decode cX6_addRound 55 = .ok (.invokestatic 103, 3) := by decide +kernel
theorem dX6_addRound_58 : decode cX6_addRound 58 = .ok (.istore 5, 2) := by decide +kernel
theorem dX6_addRound_60 : decode cX6_addRound 60 = .ok (.aload_n 0, 1) := by decide +kernel
theorem dX6_addRound_61 : decode cX6_addRound 61 = .ok (.getfield 9, 3) := by decide +kernel
theorem dX6_addRound_64 : decode cX6_addRound 64 = .ok (.iload 5, 2) := by decide +kernel
theorem dX6_addRound_66 : decode cX6_addRound 66 = .ok (.invokestatic 85, 3) := by decide +kernel
theorem dX6_addRound_69 : decode cX6_addRound 69 = .ok (.aload_n 0, 1) := by decide +kernel
theorem dX6_addRound_70 : decode cX6_addRound 70 = .ok (.getfield 36, 3) := by decide +kernel
theorem dX6_addRound_73 : decode cX6_addRound 73 = .ok (.iconst 1, 1) := by decide +kernel
theorem dX6_addRound_74 : decode cX6_addRound 74 = .ok (.isub, 1) := by decide +kernel
theorem dX6_addRound_75 : decode cX6_addRound 75 = .ok (.if_icmp .ne 16, 3) := by decide +kernel
theorem dX6_addRound_78 : decode cX6_addRound 78 = .ok (.aload_n 0, 1) := by decide +kernel
theorem dX6_addRound_79 : decode cX6_addRound 79 = .ok (.getfield 9, 3) := by decide +kernel
theorem dX6_addRound_82 : decode cX6_addRound 82 = .ok (.iload 5, 2) := by decide +kernel
theorem dX6_addRound_84 : decode cX6_addRound 84 = .ok (.aload_n 0, 1) := by decide +kernel
theorem dX6_addRound_85 : decode cX6_addRound 85 = .ok (.getfield 36, 3) := by decide +kernel
theorem dX6_addRound_88 : decode cX6_addRound 88 = .ok (.invokestatic 73, 3) := by decide +kernel
theorem dX6_addRound_91 : decode cX6_addRound 91 = .ok (.aload_n 1, 1) := by decide +kernel
theorem dX6_addRound_92 : decode cX6_addRound 92 = .ok (.iload_n 3, 1) := by decide +kernel
theorem dX6_addRound_93 : decode cX6_addRound 93 = .ok (.invokevirtual 76, 3) := by decide +kernel
theorem dX6_addRound_96 : decode cX6_addRound 96 = .ok (.istore_n 3, 1) := by decide +kernel
theorem dX6_addRound_97 : decode cX6_addRound 97 = .ok (.iinc 4 1, 3) := by decide +kernel
theorem dX6_addRound_100 : decode cX6_addRound 100 = .ok (.goto (-58), 3) := by decide +kernel
theorem dX6_addRound_103 : decode cX6_addRound 103 = .ok (.aload_n 0, 1) := by decide +kernel
theorem dX6_addRound_104 : decode cX6_addRound 104 = .ok (.getfield 22, 3) := by decide +kernel
theorem dX6_addRound_107 : decode cX6_addRound 107 = .ok (.getfield 106, 3) := by decide +kernel
theorem dX6_addRound_110 : decode cX6_addRound 110 = .ok (.ifCond .ne 7, 3) := by decide +kernel
theorem dX6_addRound_113 : decode cX6_addRound 113 = .ok (.iconst 3, 1) := by decide +kernel
theorem dX6_addRound_114 : decode cX6_addRound 114 = .ok (.goto 4, 3) := by decide +kernel
theorem dX6_addRound_117 : decode cX6_addRound 117 = .ok (.iconst 4, 1) := by decide +kernel
theorem dX6_addRound_118 : decode cX6_addRound 118 = .ok (.ireturn, 1) := by decide +kernel
set_option maxRecDepth 20000 in
theorem ggX6_leastShared_X7_size : GoodIn wsX6_leastShared wsX7_size := goodIn_r _ [7, 8, 9, 22, 23, 24, 25, 26, 27, 28, 29, 30, 31] (by decide +kernel) (by decide +kernel)
set_option maxRecDepth 20000 in
theorem gX6_leastShared_X7_size : GoodIn wsX6_leastShared (wsV RX6 48 RX7 yX7_size wsX7_size) := goodIn_app (goodIn_of _ (by decide +kernel)) ggX6_leastShared_X7_size
set_option maxRecDepth 20000 in
theorem ggX6_leastShared_X10_at : GoodIn wsX6_leastShared wsX10_at := goodIn_r _ [12] (by decide +kernel) (by decide +kernel)
set_option maxRecDepth 20000 in
theorem gX6_leastShared_X10_at_n85 : GoodIn wsX6_leastShared (wsX10_at) := ggX6_leastShared_X10_at
theorem dX6_leastShared_0 : decode cX6_leastShared 0 = .ok (.iconst 0, 1) := by decide +kernel
theorem dX6_leastShared_1 : decode cX6_leastShared 1 = .ok (.istore_n 2, 1) := by decide +kernel
theorem dX6_leastShared_2 : decode cX6_leastShared 2 = .ok (.iload_n 2, 1) := by decide +kernel
theorem dX6_leastShared_3 : decode cX6_leastShared 3 = .ok (.aload_n 1, 1) := by decide +kernel
theorem dX6_leastShared_4 : decode cX6_leastShared 4 = .ok (.invokevirtual 48, 3) := by decide +kernel
theorem dX6_leastShared_7 : decode cX6_leastShared 7 = .ok (.if_icmp .ge 33, 3) := by decide +kernel
theorem dX6_leastShared_10 : decode cX6_leastShared 10 = .ok (.aload_n 0, 1) := by decide +kernel
theorem dX6_leastShared_11 : decode cX6_leastShared 11 = .ok (.getfield 36, 3) := by decide +kernel
theorem dX6_leastShared_14 : decode cX6_leastShared 14 = .ok (.ifCond .le 26, 3) := by decide +kernel
theorem dX6_leastShared_17 : decode cX6_leastShared 17 = .ok (.aload_n 0, 1) := by decide +kernel
theorem dX6_leastShared_18 : decode cX6_leastShared 18 = .ok (.getfield 9, 3) := by decide +kernel
theorem dX6_leastShared_21 : decode cX6_leastShared 21 = .ok (.iload_n 2, 1) := by decide +kernel
theorem dX6_leastShared_22 : decode cX6_leastShared 22 = .ok (.invokestatic 85, 3) := by decide +kernel
theorem dX6_leastShared_25 : decode cX6_leastShared 25 = .ok (.aload_n 0, 1) := by decide +kernel
theorem dX6_leastShared_26 : decode cX6_leastShared 26 = .ok (.getfield 36, 3) := by decide +kernel
theorem dX6_leastShared_29 : decode cX6_leastShared 29 = .ok (.if_icmp .ne 5, 3) := by decide +kernel
theorem dX6_leastShared_32 : decode cX6_leastShared 32 = .ok (.iload_n 2, 1) := by decide +kernel
theorem dX6_leastShared_33 : decode cX6_leastShared 33 = .ok (.ireturn, 1) := by decide +kernel
theorem dX6_leastShared_34 : decode cX6_leastShared 34 = .ok (.iinc 2 1, 3) := by decide +kernel
theorem dX6_leastShared_37 : decode cX6_leastShared 37 = .ok (.goto (-35), 3) := by decide +kernel
theorem dX6_leastShared_40 : decode cX6_leastShared 40 = .ok (.bipush (-9), 2) := by decide +kernel
theorem dX6_leastShared_42 : decode cX6_leastShared 42 = .ok (.ireturn, 1) := by decide +kernel
set_option maxRecDepth 20000 in
theorem ggX6_ringing_X3_renew : GoodIn wsX6_ringing wsX3_renew := goodIn_r _ [7, 8, 9, 10, 11, 81, 82, 83] (by decide +kernel) (by decide +kernel)
set_option maxRecDepth 20000 in
theorem gX6_ringing_X3_renew : GoodIn wsX6_ringing (wsV RX6 42 RX3 yX3_renew wsX3_renew) := goodIn_app (goodIn_of _ (by decide +kernel)) ggX6_ringing_X3_renew
set_option maxRecDepth 20000 in
theorem ggX6_ringing_X7_size : GoodIn wsX6_ringing wsX7_size := goodIn_r _ [16, 17, 18, 71, 72, 73, 74, 75, 76, 77, 78, 79, 80] (by decide +kernel) (by decide +kernel)
set_option maxRecDepth 20000 in
theorem gX6_ringing_X7_size : GoodIn wsX6_ringing (wsV RX6 48 RX7 yX7_size wsX7_size) := goodIn_app (goodIn_of _ (by decide +kernel)) ggX6_ringing_X7_size
set_option maxRecDepth 20000 in
theorem ggX6_ringing_X7_kindOf : GoodIn wsX6_ringing wsX7_kindOf := goodIn_r _ [22, 17, 18, 23, 71, 72, 73, 74, 75, 76, 77, 78, 79, 80] (by decide +kernel) (by decide +kernel)
set_option maxRecDepth 20000 in
theorem gX6_ringing_X7_kindOf : GoodIn wsX6_ringing (wsV RX6 54 RX7 yX7_kindOf wsX7_kindOf) := goodIn_app (goodIn_of _ (by decide +kernel)) ggX6_ringing_X7_kindOf
set_option maxRecDepth 20000 in
theorem ggX6_ringing_X10_standOf : GoodIn wsX6_ringing wsX10_standOf := goodIn_r _ [26] (by decide +kernel) (by decide +kernel)
set_option maxRecDepth 20000 in
theorem gX6_ringing_X10_standOf_n58 : GoodIn wsX6_ringing (wsX10_standOf) := ggX6_ringing_X10_standOf
set_option maxRecDepth 20000 in
theorem ggX6_ringing_X6_stepsToBell : GoodIn wsX6_ringing wsX6_stepsToBell := goodIn_r _ [31, 1, 32, 33, 34, 35, 36, 37, 25, 38, 39, 40, 41, 6, 42, 11, 8, 43, 44, 45, 46, 47, 48, 49, 50, 51, 52, 53, 54, 55, 56, 57, 58, 59, 60, 61, 24, 26, 62, 63, 64, 65, 66, 67, 68, 69, 70, 81, 82, 83, 84, 85, 86, 87] (by decide +kernel) (by decide +kernel)
set_option maxRecDepth 20000 in
theorem gX6_ringing_X6_stepsToBell : GoodIn wsX6_ringing (wsV RX6 112 RX6 yX6_stepsToBell wsX6_stepsToBell) := goodIn_app (goodIn_of _ (by decide +kernel)) ggX6_ringing_X6_stepsToBell
theorem dX6_ringing_0 : decode cX6_ringing 0 = .ok (.aload_n 0, 1) := by decide +kernel
theorem dX6_ringing_1 : decode cX6_ringing 1 = .ok (.getfield 15, 3) := by decide +kernel
theorem dX6_ringing_4 : decode cX6_ringing 4 = .ok (.sipush 18434, 3) := by decide +kernel
theorem dX6_ringing_7 : decode cX6_ringing 7 = .ok (.invokevirtual 42, 3) := by decide +kernel
theorem dX6_ringing_10 : decode cX6_ringing 10 = .ok (.iconst 0, 1) := by decide +kernel
theorem dX6_ringing_11 : decode cX6_ringing 11 = .ok (.istore 4, 2) := by decide +kernel
theorem dX6_ringing_13 : decode cX6_ringing 13 = .ok (.iconst 0, 1) := by decide +kernel
theorem dX6_ringing_14 : decode cX6_ringing 14 = .ok (.istore 5, 2) := by decide +kernel
theorem dX6_ringing_16 : decode cX6_ringing 16 = .ok (.iload 5, 2) := by decide +kernel
theorem dX6_ringing_18 : decode cX6_ringing 18 = .ok (.aload_n 1, 1) := by decide +kernel
theorem dX6_ringing_19 : decode cX6_ringing 19 = .ok (.invokevirtual 48, 3) := by decide +kernel
theorem dX6_ringing_22 : decode cX6_ringing 22 = .ok (.if_icmp .ge 58, 3) := by decide +kernel
theorem dX6_ringing_25 : decode cX6_ringing 25 = .ok (.iconst 0, 1) := by decide +kernel
theorem dX6_ringing_26 : decode cX6_ringing 26 = .ok (.istore 6, 2) := by decide +kernel
theorem dX6_ringing_28 : decode cX6_ringing 28 = .ok (.iload 6, 2) := by decide +kernel
theorem dX6_ringing_30 : decode cX6_ringing 30 = .ok (.bipush 8, 2) := by decide +kernel
theorem dX6_ringing_32 : decode cX6_ringing 32 = .ok (.if_icmp .ge 42, 3) := by decide +kernel
theorem dX6_ringing_35 : decode cX6_ringing 35 = .ok (.aload_n 1, 1) := by decide +kernel
theorem dX6_ringing_36 : decode cX6_ringing 36 = .ok (.iload 5, 2) := by decide +kernel
theorem dX6_ringing_38 : decode cX6_ringing 38 = .ok (.invokevirtual 54, 3) := by decide +kernel
theorem dX6_ringing_41 : decode cX6_ringing 41 = .ok (.ifCond .ne 33, 3) := by decide +kernel
theorem dX6_ringing_44 : decode cX6_ringing 44 = .ok (.aload_n 0, 1) := by decide +kernel
theorem dX6_ringing_45 : decode cX6_ringing 45 = .ok (.aload_n 2, 1) := by decide +kernel
theorem dX6_ringing_46 : decode cX6_ringing 46 = .ok (.aload_n 1, 1) := by decide +kernel
theorem dX6_ringing_47 : decode cX6_ringing 47 = .ok (.getfield 109, 3) := by decide +kernel
theorem dX6_ringing_50 : decode cX6_ringing 50 = .ok (.iload 5, 2) := by decide +kernel
theorem dX6_ringing_52 : decode cX6_ringing 52 = .ok (.iload 6, 2) := by decide +kernel
theorem dX6_ringing_54 : decode cX6_ringing 54 = .ok (.iconst 0, 1) := by decide +kernel
theorem dX6_ringing_55 : decode cX6_ringing 55 = .ok (.invokestatic 58, 3) := by decide +kernel
theorem dX6_ringing_58 : decode cX6_ringing 58 = .ok (.invokevirtual 112, 3) := by decide +kernel
theorem dX6_ringing_61 : decode cX6_ringing 61 = .ok (.iload_n 3, 1) := by decide +kernel
theorem dX6_ringing_62 : decode cX6_ringing 62 = .ok (.if_icmp .gt 6, 3) := by decide +kernel
theorem dX6_ringing_65 : decode cX6_ringing 65 = .ok (.iinc 4 1, 3) := by decide +kernel
theorem dX6_ringing_68 : decode cX6_ringing 68 = .ok (.iinc 6 1, 3) := by decide +kernel
theorem dX6_ringing_71 : decode cX6_ringing 71 = .ok (.goto (-43), 3) := by decide +kernel
theorem dX6_ringing_74 : decode cX6_ringing 74 = .ok (.iinc 5 1, 3) := by decide +kernel
theorem dX6_ringing_77 : decode cX6_ringing 77 = .ok (.goto (-61), 3) := by decide +kernel
theorem dX6_ringing_80 : decode cX6_ringing 80 = .ok (.iload 4, 2) := by decide +kernel
theorem dX6_ringing_82 : decode cX6_ringing 82 = .ok (.ireturn, 1) := by decide +kernel
set_option maxRecDepth 20000 in
theorem ggX6_stepsToBell_X10_cellOf : GoodIn wsX6_stepsToBell wsX10_cellOf := goodIn_r _ [9] (by decide +kernel) (by decide +kernel)
set_option maxRecDepth 20000 in
theorem gX6_stepsToBell_X10_cellOf_n103 : GoodIn wsX6_stepsToBell (wsX10_cellOf) := ggX6_stepsToBell_X10_cellOf
set_option maxRecDepth 20000 in
theorem ggX6_stepsToBell_X3_get : GoodIn wsX6_stepsToBell wsX3_get := goodIn_r _ [14, 15, 16, 17, 18, 5, 19, 20, 8, 21, 47, 48, 49] (by decide +kernel) (by decide +kernel)
set_option maxRecDepth 20000 in
theorem gX6_stepsToBell_X3_get : GoodIn wsX6_stepsToBell (wsV RX6 66 RX3 yX3_get wsX3_get) := goodIn_app (goodIn_of _ (by decide +kernel)) ggX6_stepsToBell_X3_get
set_option maxRecDepth 20000 in
theorem ggX6_stepsToBell_X3_set : GoodIn wsX6_stepsToBell wsX3_set := goodIn_r _ [25, 15, 16, 26, 8, 27, 47, 48, 49] (by decide +kernel) (by decide +kernel)
set_option maxRecDepth 20000 in
theorem gX6_stepsToBell_X3_set : GoodIn wsX6_stepsToBell (wsV RX6 69 RX3 yX3_set wsX3_set) := goodIn_app (goodIn_of _ (by decide +kernel)) ggX6_stepsToBell_X3_set
set_option maxRecDepth 20000 in
theorem ggX6_stepsToBell_X10_set : GoodIn wsX6_stepsToBell wsX10_set := goodIn_r _ [27] (by decide +kernel) (by decide +kernel)
set_option maxRecDepth 20000 in
theorem gX6_stepsToBell_X10_set_n73 : GoodIn wsX6_stepsToBell (wsX10_set) := ggX6_stepsToBell_X10_set
set_option maxRecDepth 20000 in
theorem ggX6_stepsToBell_X9_after : GoodIn wsX6_stepsToBell wsX9_after := goodIn_r _ [32, 33, 34, 35, 20, 8, 21, 7, 9, 36, 37, 50, 51, 52, 53] (by decide +kernel) (by decide +kernel)
set_option maxRecDepth 20000 in
theorem gX6_stepsToBell_X9_after : GoodIn wsX6_stepsToBell (wsV RX6 76 RX9 yX9_after wsX9_after) := goodIn_app (goodIn_of _ (by decide +kernel)) ggX6_stepsToBell_X9_after
set_option maxRecDepth 20000 in
theorem ggX6_stepsToBell_X10_at : GoodIn wsX6_stepsToBell wsX10_at := goodIn_r _ [21] (by decide +kernel) (by decide +kernel)
set_option maxRecDepth 20000 in
theorem gX6_stepsToBell_X10_at_n85 : GoodIn wsX6_stepsToBell (wsX10_at) := ggX6_stepsToBell_X10_at
theorem dX6_stepsToBell_0 : decode cX6_stepsToBell 0 = .ok (.iload_n 3, 1) := by decide +kernel
theorem dX6_stepsToBell_1 : decode cX6_stepsToBell 1 = .ok (.istore 4, 2) := by decide +kernel
theorem dX6_stepsToBell_3 : decode cX6_stepsToBell 3 = .ok (.iconst 0, 1) := by decide +kernel
theorem dX6_stepsToBell_4 : decode cX6_stepsToBell 4 = .ok (.istore 5, 2) := by decide +kernel
theorem dX6_stepsToBell_6 : decode cX6_stepsToBell 6 = .ok (.iload 5, 2) := by decide +kernel
theorem dX6_stepsToBell_8 : decode cX6_stepsToBell 8 = .ok (.sipush 18432, 3) := by decide +kernel
theorem dX6_stepsToBell_11 : decode cX6_stepsToBell 11 = .ok (.if_icmp .ge 67, 3) := by decide +kernel
theorem dX6_stepsToBell_14 : decode cX6_stepsToBell 14 = .ok (.iload 4, 2) := by decide +kernel
theorem dX6_stepsToBell_16 : decode cX6_stepsToBell 16 = .ok (.iconst (-1), 1) := by decide +kernel
theorem dX6_stepsToBell_17 : decode cX6_stepsToBell 17 = .ok (.if_icmp .eq 61, 3) := by decide +kernel
theorem dX6_stepsToBell_20 : decode cX6_stepsToBell 20 = .ok (.iload 4, 2) := by decide +kernel
theorem dX6_stepsToBell_22 : decode cX6_stepsToBell 22 = .ok (.invokestatic 103, 3) := by decide +kernel
theorem dX6_stepsToBell_25 : decode cX6_stepsToBell 25 = .ok (.iload_n 2, 1) := by decide +kernel
theorem dX6_stepsToBell_26 : decode cX6_stepsToBell 26 = .ok (.if_icmp .eq 52, 3) := by decide +kernel
theorem dX6_stepsToBell_29 : decode cX6_stepsToBell 29 = .ok (.aload_n 0, 1) := by decide +kernel
theorem dX6_stepsToBell_30 : decode cX6_stepsToBell 30 = .ok (.getfield 15, 3) := by decide +kernel
theorem dX6_stepsToBell_33 : decode cX6_stepsToBell 33 = .ok (.iload 4, 2) := by decide +kernel
theorem dX6_stepsToBell_35 : decode cX6_stepsToBell 35 = .ok (.invokevirtual 66, 3) := by decide +kernel
theorem dX6_stepsToBell_38 : decode cX6_stepsToBell 38 = .ok (.ifCond .ne 40, 3) := by decide +kernel
theorem dX6_stepsToBell_41 : decode cX6_stepsToBell 41 = .ok (.aload_n 0, 1) := by decide +kernel
theorem dX6_stepsToBell_42 : decode cX6_stepsToBell 42 = .ok (.getfield 15, 3) := by decide +kernel
theorem dX6_stepsToBell_45 : decode cX6_stepsToBell 45 = .ok (.iload 4, 2) := by decide +kernel
theorem dX6_stepsToBell_47 : decode cX6_stepsToBell 47 = .ok (.sipush 18434, 3) := by decide +kernel
theorem dX6_stepsToBell_50 : decode cX6_stepsToBell 50 = .ok (.invokevirtual 69, 3) := by decide +kernel
theorem dX6_stepsToBell_53 : decode cX6_stepsToBell 53 = .ok (.aload_n 0, 1) := by decide +kernel
theorem dX6_stepsToBell_54 : decode cX6_stepsToBell 54 = .ok (.getfield 19, 3) := by decide +kernel
theorem dX6_stepsToBell_57 : decode cX6_stepsToBell 57 = .ok (.iload 5, 2) := by decide +kernel
theorem dX6_stepsToBell_59 : decode cX6_stepsToBell 59 = .ok (.iload 4, 2) := by decide +kernel
theorem dX6_stepsToBell_61 : decode cX6_stepsToBell 61 = .ok (.invokestatic 73, 3) := by decide +kernel
theorem dX6_stepsToBell_64 : decode cX6_stepsToBell 64 = .ok (.iinc 5 1, 3) := by decide +kernel
theorem dX6_stepsToBell_67 : decode cX6_stepsToBell 67 = .ok (.aload_n 1, 1) := by decide +kernel
theorem dX6_stepsToBell_68 : decode cX6_stepsToBell 68 = .ok (.iload 4, 2) := by decide +kernel
theorem dX6_stepsToBell_70 : decode cX6_stepsToBell 70 = .ok (.invokevirtual 76, 3) := by decide +kernel
theorem dX6_stepsToBell_73 : decode cX6_stepsToBell 73 = .ok (.istore 4, 2) := by decide +kernel
theorem dX6_stepsToBell_75 : decode cX6_stepsToBell 75 = .ok (.goto (-69), 3) := by decide +kernel
theorem dX6_stepsToBell_78 : decode cX6_stepsToBell 78 = .ok (.sipush 18433, 3) := by decide +kernel
theorem dX6_stepsToBell_81 : decode cX6_stepsToBell 81 = .ok (.istore 6, 2) := by decide +kernel
theorem dX6_stepsToBell_83 : decode cX6_stepsToBell 83 = .ok (.iload 4, 2) := by decide +kernel
theorem dX6_stepsToBell_85 : decode cX6_stepsToBell 85 = .ok (.iconst (-1), 1) := by decide +kernel
theorem dX6_stepsToBell_86 : decode cX6_stepsToBell 86 = .ok (.if_icmp .eq 29, 3) := by decide +kernel
theorem dX6_stepsToBell_89 : decode cX6_stepsToBell 89 = .ok (.iload 4, 2) := by decide +kernel
theorem dX6_stepsToBell_91 : decode cX6_stepsToBell 91 = .ok (.invokestatic 103, 3) := by decide +kernel
theorem dX6_stepsToBell_94 : decode cX6_stepsToBell 94 = .ok (.iload_n 2, 1) := by decide +kernel
theorem dX6_stepsToBell_95 : decode cX6_stepsToBell 95 = .ok (.if_icmp .ne 7, 3) := by decide +kernel
theorem dX6_stepsToBell_98 : decode cX6_stepsToBell 98 = .ok (.iconst 0, 1) := by decide +kernel
theorem dX6_stepsToBell_99 : decode cX6_stepsToBell 99 = .ok (.goto 14, 3) := by decide +kernel
theorem dX6_stepsToBell_102 : decode cX6_stepsToBell 102 = .ok (.aload_n 0, 1) := by decide +kernel
theorem dX6_stepsToBell_103 : decode cX6_stepsToBell 103 = .ok (.getfield 15, 3) := by decide +kernel
theorem dX6_stepsToBell_106 : decode cX6_stepsToBell 106 = .ok (.iload 4, 2) := by decide +kernel
theorem dX6_stepsToBell_108 : decode cX6_stepsToBell 108 = .ok (.invokevirtual 66, 3) := by decide +kernel
theorem dX6_stepsToBell_111 : decode cX6_stepsToBell 111 = .ok (.iconst 1, 1) := by decide +kernel
theorem dX6_stepsToBell_112 : decode cX6_stepsToBell 112 = .ok (.isub, 1) := by decide +kernel
theorem dX6_stepsToBell_113 : decode cX6_stepsToBell 113 = .ok (.istore 6, 2) := by decide +kernel
theorem dX6_stepsToBell_115 : decode cX6_stepsToBell 115 = .ok (.iload 5, 2) := by decide +kernel
theorem dX6_stepsToBell_117 : decode cX6_stepsToBell 117 = .ok (.iconst 1, 1) := by decide +kernel
theorem dX6_stepsToBell_118 : decode cX6_stepsToBell 118 = .ok (.isub, 1) := by decide +kernel
theorem dX6_stepsToBell_119 : decode cX6_stepsToBell 119 = .ok (.istore 7, 2) := by decide +kernel
theorem dX6_stepsToBell_121 : decode cX6_stepsToBell 121 = .ok (.iload 7, 2) := by decide +kernel
theorem dX6_stepsToBell_123 : decode cX6_stepsToBell 123 = .ok (.ifCond .lt 41, 3) := by decide +kernel
theorem dX6_stepsToBell_126 : decode cX6_stepsToBell 126 = .ok (.sipush 18433, 3) := by decide +kernel
theorem dX6_stepsToBell_129 : decode cX6_stepsToBell 129 = .ok (.iload 6, 2) := by decide +kernel
theorem dX6_stepsToBell_131 : decode cX6_stepsToBell 131 = .ok (.iconst 1, 1) := by decide +kernel
theorem dX6_stepsToBell_132 : decode cX6_stepsToBell 132 = .ok (.iadd, 1) := by decide +kernel
theorem dX6_stepsToBell_133 : decode cX6_stepsToBell 133 = .ok (.invokestatic 116, 3) := by decide +kernel
theorem dX6_stepsToBell_136 : decode cX6_stepsToBell 136 = .ok (.istore 6, 2) := by decide +kernel
theorem dX6_stepsToBell_138 : decode cX6_stepsToBell 138 = .ok (.aload_n 0, 1) := by decide +kernel
theorem dX6_stepsToBell_139 : decode cX6_stepsToBell 139 = .ok (.getfield 15, 3) := by decide +kernel
theorem dX6_stepsToBell_142 : decode cX6_stepsToBell 142 = .ok (.aload_n 0, 1) := by decide +kernel
theorem dX6_stepsToBell_143 : decode cX6_stepsToBell 143 = .ok (.getfield 19, 3) := by decide +kernel
theorem dX6_stepsToBell_146 : decode cX6_stepsToBell 146 = .ok (.iload 7, 2) := by decide +kernel
theorem dX6_stepsToBell_148 : decode cX6_stepsToBell 148 = .ok (.invokestatic 85, 3) := by decide +kernel
theorem dX6_stepsToBell_151 : decode cX6_stepsToBell 151 = .ok (.iload 6, 2) := by decide +kernel
theorem dX6_stepsToBell_153 : decode cX6_stepsToBell 153 = .ok (.iconst 1, 1) := by decide +kernel
theorem dX6_stepsToBell_154 : decode cX6_stepsToBell 154 = .ok (.iadd, 1) := by decide +kernel
theorem dX6_stepsToBell_155 : decode cX6_stepsToBell 155 = .ok (.invokevirtual 69, 3) := by decide +kernel
theorem dX6_stepsToBell_158 : decode cX6_stepsToBell 158 = .ok (.iinc 7 (-1), 3) := by decide +kernel
theorem dX6_stepsToBell_161 : decode cX6_stepsToBell 161 = .ok (.goto (-40), 3) := by decide +kernel
theorem dX6_stepsToBell_164 : decode cX6_stepsToBell 164 = .ok (.iload 6, 2) := by decide +kernel
theorem dX6_stepsToBell_166 : decode cX6_stepsToBell 166 = .ok (.ireturn, 1) := by decide +kernel
set_option maxRecDepth 20000 in
theorem ggX7_init_X7_reset : GoodIn wsX7_init wsX7_reset := goodIn_r _ [10, 11, 12, 5, 13, 14, 15, 16, 17, 18, 19, 20, 21, 22, 23, 24, 25, 26, 27, 28, 29] (by decide +kernel) (by decide +kernel)
set_option maxRecDepth 20000 in
theorem gX7_init_X7_reset : GoodIn wsX7_init (wsV RX7 15 RX7 yX7_reset wsX7_reset) := goodIn_app (goodIn_of _ (by decide +kernel)) ggX7_init_X7_reset
theorem dX7_init_0 : decode cX7_init 0 = .ok (.aload_n 0, 1) := by decide +kernel
theorem dX7_init_1 : decode cX7_init 1 = .ok (.invokespecial 3, 3) := by decide +kernel
theorem dX7_init_4 : decode cX7_init 4 = .ok (.aload_n 0, 1) := by decide +kernel
theorem dX7_init_5 : decode cX7_init 5 = .ok (.sipush 256, 3) := by decide +kernel
theorem dX7_init_8 : decode cX7_init 8 = .ok (.newarray .int, 2) := by decide +kernel
theorem dX7_init_10 : decode cX7_init 10 = .ok (.putfield 9, 3) := by decide +kernel
theorem dX7_init_13 : decode cX7_init 13 = .ok (.aload_n 0, 1) := by decide +kernel
theorem dX7_init_14 : decode cX7_init 14 = .ok (.invokevirtual 15, 3) := by decide +kernel
theorem dX7_init_17 : decode cX7_init 17 = .ok (.return_, 1) := by decide +kernel
theorem dX7_reset_0 : decode cX7_reset 0 = .ok (.aload_n 0, 1) := by decide +kernel
theorem dX7_reset_1 : decode cX7_reset 1 = .ok (.bipush 8, 2) := by decide +kernel
theorem dX7_reset_3 : decode cX7_reset 3 = .ok (.putfield 18, 3) := by decide +kernel
theorem dX7_reset_6 : decode cX7_reset 6 = .ok (.aload_n 0, 1) := by decide +kernel
theorem dX7_reset_7 : decode cX7_reset 7 = .ok (.bipush 8, 2) := by decide +kernel
theorem dX7_reset_9 : decode cX7_reset 9 = .ok (.putfield 22, 3) := by decide +kernel
theorem dX7_reset_12 : decode cX7_reset 12 = .ok (.iconst 0, 1) := by decide +kernel
theorem dX7_reset_13 : decode cX7_reset 13 = .ok (.istore_n 1, 1) := by decide +kernel
theorem dX7_reset_14 : decode cX7_reset 14 = .ok (.iload_n 1, 1) := by decide +kernel
theorem dX7_reset_15 : decode cX7_reset 15 = .ok (.aload_n 0, 1) := by decide +kernel
theorem dX7_reset_16 : decode cX7_reset 16 = .ok (.getfield 9, 3) := by decide +kernel
theorem dX7_reset_19 : decode cX7_reset 19 = .ok (.arraylength, 1) := by decide +kernel
theorem dX7_reset_20 : decode cX7_reset 20 = .ok (.if_icmp .ge 16, 3) := by decide +kernel
theorem dX7_reset_23 : decode cX7_reset 23 = .ok (.aload_n 0, 1) := by decide +kernel
theorem dX7_reset_24 : decode cX7_reset 24 = .ok (.getfield 9, 3) := by decide +kernel
theorem dX7_reset_27 : decode cX7_reset 27 = .ok (.iload_n 1, 1) := by decide +kernel
theorem dX7_reset_28 : decode cX7_reset 28 = .ok (.iconst 0, 1) := by decide +kernel
theorem dX7_reset_29 : decode cX7_reset 29 = .ok (.iastore, 1) := by decide +kernel
theorem dX7_reset_30 : decode cX7_reset 30 = .ok (.iinc 1 1, 3) := by decide +kernel
theorem dX7_reset_33 : decode cX7_reset 33 = .ok (.goto (-19), 3) := by decide +kernel
theorem dX7_reset_36 : decode cX7_reset 36 = .ok (.aload_n 0, 1) := by decide +kernel
theorem dX7_reset_37 : decode cX7_reset 37 = .ok (.bipush (-9), 2) := by decide +kernel
theorem dX7_reset_39 : decode cX7_reset 39 = .ok (.putfield 25, 3) := by decide +kernel
theorem dX7_reset_42 : decode cX7_reset 42 = .ok (.aload_n 0, 1) := by decide +kernel
theorem dX7_reset_43 : decode cX7_reset 43 = .ok (.iconst 0, 1) := by decide +kernel
theorem dX7_reset_44 : decode cX7_reset 44 = .ok (.putfield 28, 3) := by decide +kernel
theorem dX7_reset_47 : decode cX7_reset 47 = .ok (.aload_n 0, 1) := by decide +kernel
theorem dX7_reset_48 : decode cX7_reset 48 = .ok (.iconst 2, 1) := by decide +kernel
theorem dX7_reset_49 : decode cX7_reset 49 = .ok (.putfield 31, 3) := by decide +kernel
theorem dX7_reset_52 : decode cX7_reset 52 = .ok (.aload_n 0, 1) := by decide +kernel
theorem dX7_reset_53 : decode cX7_reset 53 = .ok (.iconst 1, 1) := by decide +kernel
theorem dX7_reset_54 : decode cX7_reset 54 = .ok (.putfield 34, 3) := by decide +kernel
theorem dX7_reset_57 : decode cX7_reset 57 = .ok (.aload_n 0, 1) := by decide +kernel
theorem dX7_reset_58 : decode cX7_reset 58 = .ok (.iconst 3, 1) := by decide +kernel
theorem dX7_reset_59 : decode cX7_reset 59 = .ok (.putfield 37, 3) := by decide +kernel
theorem dX7_reset_62 : decode cX7_reset 62 = .ok (.aload_n 0, 1) := by decide +kernel
theorem dX7_reset_63 : decode cX7_reset 63 = .ok (.iconst 0, 1) := by decide +kernel
theorem dX7_reset_64 : decode cX7_reset 64 = .ok (.putfield 40, 3) := by decide +kernel
theorem dX7_reset_67 : decode cX7_reset 67 = .ok (.aload_n 0, 1) := by decide +kernel
theorem dX7_reset_68 : decode cX7_reset 68 = .ok (.sipush 200, 3) := by decide +kernel
theorem dX7_reset_71 : decode cX7_reset 71 = .ok (.putfield 43, 3) := by decide +kernel
theorem dX7_reset_74 : decode cX7_reset 74 = .ok (.return_, 1) := by decide +kernel
theorem dX7_size_0 : decode cX7_size 0 = .ok (.aload_n 0, 1) := by decide +kernel
theorem dX7_size_1 : decode cX7_size 1 = .ok (.getfield 18, 3) := by decide +kernel
theorem dX7_size_4 : decode cX7_size 4 = .ok (.aload_n 0, 1) := by decide +kernel
theorem dX7_size_5 : decode cX7_size 5 = .ok (.getfield 22, 3) := by decide +kernel
theorem dX7_size_8 : decode cX7_size 8 = .ok (.imul, 1) := by decide +kernel
theorem dX7_size_9 : decode cX7_size 9 = .ok (.ireturn, 1) := by decide +kernel
theorem dX7_has_0 : decode cX7_has 0 = .ok (.iload_n 1, 1) := by decide +kernel
theorem dX7_has_1 : decode cX7_has 1 = .ok (.ifCond .lt 27, 3) := by decide +kernel
theorem dX7_has_4 : decode cX7_has 4 = .ok (.iload_n 1, 1) := by decide +kernel
theorem dX7_has_5 : decode cX7_has 5 = .ok (.aload_n 0, 1) := by decide +kernel
theorem dX7_has_6 : decode cX7_has 6 = .ok (.getfield 18, 3) := by decide +kernel
theorem dX7_has_9 : decode cX7_has 9 = .ok (.if_icmp .ge 19, 3) := by decide +kernel
theorem dX7_has_12 : decode cX7_has 12 = .ok (.iload_n 2, 1) := by decide +kernel
theorem dX7_has_13 : decode cX7_has 13 = .ok (.ifCond .lt 15, 3) := by decide +kernel
theorem dX7_has_16 : decode cX7_has 16 = .ok (.iload_n 2, 1) := by decide +kernel
theorem dX7_has_17 : decode cX7_has 17 = .ok (.aload_n 0, 1) := by decide +kernel
theorem dX7_has_18 : decode cX7_has 18 = .ok (.getfield 22, 3) := by decide +kernel
theorem dX7_has_21 : decode cX7_has 21 = .ok (.if_icmp .ge 7, 3) := by decide +kernel
theorem dX7_has_24 : decode cX7_has 24 = .ok (.iconst 1, 1) := by decide +kernel
theorem dX7_has_25 : decode cX7_has 25 = .ok (.goto 4, 3) := by decide +kernel
theorem dX7_has_28 : decode cX7_has 28 = .ok (.iconst 0, 1) := by decide +kernel
theorem dX7_has_29 : decode cX7_has 29 = .ok (.ireturn, 1) := by decide +kernel
theorem dX7_numberOf_0 : decode cX7_numberOf 0 = .ok (.aload_n 0, 1) := by decide +kernel
theorem dX7_numberOf_1 : decode cX7_numberOf 1 = .ok (.getfield 18, 3) := by decide +kernel
theorem dX7_numberOf_4 : decode cX7_numberOf 4 = .ok (.iload_n 2, 1) := by decide +kernel
theorem dX7_numberOf_5 : decode cX7_numberOf 5 = .ok (.imul, 1) := by decide +kernel
theorem dX7_numberOf_6 : decode cX7_numberOf 6 = .ok (.iload_n 1, 1) := by decide +kernel
theorem dX7_numberOf_7 : decode cX7_numberOf 7 = .ok (.iadd, 1) := by decide +kernel
theorem dX7_numberOf_8 : decode cX7_numberOf 8 = .ok (.ireturn, 1) := by decide +kernel
theorem dX7_kindOf_0 : decode cX7_kindOf 0 = .ok (.iload_n 1, 1) := by decide +kernel
theorem dX7_kindOf_1 : decode cX7_kindOf 1 = .ok (.ifCond .lt 34, 3) := by decide +kernel
theorem dX7_kindOf_4 : decode cX7_kindOf 4 = .ok (.iload_n 1, 1) := by decide +kernel
theorem dX7_kindOf_5 : decode cX7_kindOf 5 = .ok (.aload_n 0, 1) := by decide +kernel
theorem dX7_kindOf_6 : decode cX7_kindOf 6 = .ok (.getfield 18, 3) := by decide +kernel
theorem dX7_kindOf_9 : decode cX7_kindOf 9 = .ok (.aload_n 0, 1) := by decide +kernel
theorem dX7_kindOf_10 : decode cX7_kindOf 10 = .ok (.getfield 22, 3) := by decide +kernel
theorem dX7_kindOf_13 : decode cX7_kindOf 13 = .ok (.imul, 1) := by decide +kernel
theorem dX7_kindOf_14 : decode cX7_kindOf 14 = .ok (.if_icmp .ge 21, 3) := by decide +kernel
theorem dX7_kindOf_17 : decode cX7_kindOf 17 = .ok (.iload_n 1, 1) := by decide +kernel
theorem dX7_kindOf_18 : decode cX7_kindOf 18 = .ok (.aload_n 0, 1) := by decide +kernel
theorem dX7_kindOf_19 : decode cX7_kindOf 19 = .ok (.getfield 9, 3) := by decide +kernel
theorem dX7_kindOf_22 : decode cX7_kindOf 22 = .ok (.arraylength, 1) := by decide +kernel
theorem dX7_kindOf_23 : decode cX7_kindOf 23 = .ok (.if_icmp .ge 12, 3) := by decide +kernel
theorem dX7_kindOf_26 : decode cX7_kindOf 26 = .ok (.aload_n 0, 1) := by decide +kernel
theorem dX7_kindOf_27 : decode cX7_kindOf 27 = .ok (.getfield 9, 3) := by decide +kernel
theorem dX7_kindOf_30 : decode cX7_kindOf 30 = .ok (.iload_n 1, 1) := by decide +kernel
theorem dX7_kindOf_31 : decode cX7_kindOf 31 = .ok (.iaload, 1) := by decide +kernel
theorem dX7_kindOf_32 : decode cX7_kindOf 32 = .ok (.goto 5, 3) := by decide +kernel
theorem dX7_kindOf_35 : decode cX7_kindOf 35 = .ok (.bipush (-9), 2) := by decide +kernel
theorem dX7_kindOf_37 : decode cX7_kindOf 37 = .ok (.ireturn, 1) := by decide +kernel
set_option maxRecDepth 20000 in
theorem ggX7_isWood_X7_kindOf : GoodIn wsX7_isWood wsX7_kindOf := goodIn_r _ [5, 6, 7, 8, 9, 10, 11, 12, 13, 14, 15, 16, 17, 18] (by decide +kernel) (by decide +kernel)
set_option maxRecDepth 20000 in
theorem gX7_isWood_X7_kindOf : GoodIn wsX7_isWood (wsV RX7 46 RX7 yX7_kindOf wsX7_kindOf) := goodIn_app (goodIn_of _ (by decide +kernel)) ggX7_isWood_X7_kindOf
theorem dX7_isWood_0 : decode cX7_isWood 0 = .ok (.aload_n 0, 1) := by decide +kernel
theorem dX7_isWood_1 : decode cX7_isWood 1 = .ok (.iload_n 1, 1) := by decide +kernel
theorem dX7_isWood_2 : decode cX7_isWood 2 = .ok (.invokevirtual 46, 3) := by decide +kernel
theorem dX7_isWood_5 : decode cX7_isWood 5 = .ok (.istore_n 2, 1) := by decide +kernel
theorem dX7_isWood_6 : decode cX7_isWood 6 = .ok (.iload_n 2, 1) := by decide +kernel
theorem dX7_isWood_7 : decode cX7_isWood 7 = .ok (.ifCond .eq 8, 3) := by decide +kernel
theorem dX7_isWood_10 : decode cX7_isWood 10 = .ok (.iload_n 2, 1) := by decide +kernel
theorem dX7_isWood_11 : decode cX7_isWood 11 = .ok (.iconst 2, 1) := by decide +kernel
theorem dX7_isWood_12 : decode cX7_isWood 12 = .ok (.if_icmp .ne 7, 3) := by decide +kernel
theorem dX7_isWood_15 : decode cX7_isWood 15 = .ok (.iconst 1, 1) := by decide +kernel
theorem dX7_isWood_16 : decode cX7_isWood 16 = .ok (.goto 4, 3) := by decide +kernel
theorem dX7_isWood_19 : decode cX7_isWood 19 = .ok (.iconst 0, 1) := by decide +kernel
theorem dX7_isWood_20 : decode cX7_isWood 20 = .ok (.ireturn, 1) := by decide +kernel
set_option maxRecDepth 20000 in
theorem ggX7_hasBook_X7_kindOf : GoodIn wsX7_hasBook wsX7_kindOf := goodIn_r _ [5, 6, 7, 8, 9, 10, 11, 12, 13, 14, 15, 16, 17, 18] (by decide +kernel) (by decide +kernel)
set_option maxRecDepth 20000 in
theorem gX7_hasBook_X7_kindOf : GoodIn wsX7_hasBook (wsV RX7 46 RX7 yX7_kindOf wsX7_kindOf) := goodIn_app (goodIn_of _ (by decide +kernel)) ggX7_hasBook_X7_kindOf
theorem dX7_hasBook_0 : decode cX7_hasBook 0 = .ok (.aload_n 0, 1) := by decide +kernel
theorem dX7_hasBook_1 : decode cX7_hasBook 1 = .ok (.iload_n 1, 1) := by decide +kernel
theorem dX7_hasBook_2 : decode cX7_hasBook 2 = .ok (.invokevirtual 46, 3) := by decide +kernel
theorem dX7_hasBook_5 : decode cX7_hasBook 5 = .ok (.iconst 2, 1) := by decide +kernel
theorem dX7_hasBook_6 : decode cX7_hasBook 6 = .ok (.if_icmp .ne 7, 3) := by decide +kernel
theorem dX7_hasBook_9 : decode cX7_hasBook 9 = .ok (.iconst 1, 1) := by decide +kernel
theorem dX7_hasBook_10 : decode cX7_hasBook 10 = .ok (.goto 4, 3) := by decide +kernel
theorem dX7_hasBook_13 : decode cX7_hasBook 13 = .ok (.iconst 0, 1) := by decide +kernel
theorem dX7_hasBook_14 : decode cX7_hasBook 14 = .ok (.ireturn, 1) := by decide +kernel
set_option maxRecDepth 20000 in
theorem ggX7_countOf_X7_size : GoodIn wsX7_countOf wsX7_size := goodIn_r _ [5, 6, 7, 13, 14, 15, 16, 17, 18, 19, 20, 21, 22] (by decide +kernel) (by decide +kernel)
set_option maxRecDepth 20000 in
theorem gX7_countOf_X7_size : GoodIn wsX7_countOf (wsV RX7 50 RX7 yX7_size wsX7_size) := goodIn_app (goodIn_of _ (by decide +kernel)) ggX7_countOf_X7_size
set_option maxRecDepth 20000 in
theorem ggX7_countOf_X7_kindOf : GoodIn wsX7_countOf wsX7_kindOf := goodIn_r _ [11, 6, 7, 12, 13, 14, 15, 16, 17, 18, 19, 20, 21, 22] (by decide +kernel) (by decide +kernel)
set_option maxRecDepth 20000 in
theorem gX7_countOf_X7_kindOf : GoodIn wsX7_countOf (wsV RX7 46 RX7 yX7_kindOf wsX7_kindOf) := goodIn_app (goodIn_of _ (by decide +kernel)) ggX7_countOf_X7_kindOf
theorem dX7_countOf_0 : decode cX7_countOf 0 = .ok (.iconst 0, 1) := by decide +kernel
theorem dX7_countOf_1 : decode cX7_countOf 1 = .ok (.istore_n 2, 1) := by decide +kernel
theorem dX7_countOf_2 : decode cX7_countOf 2 = .ok (.iconst 0, 1) := by decide +kernel
theorem dX7_countOf_3 : decode cX7_countOf 3 = .ok (.istore_n 3, 1) := by decide +kernel
theorem dX7_countOf_4 : decode cX7_countOf 4 = .ok (.iload_n 3, 1) := by decide +kernel
theorem dX7_countOf_5 : decode cX7_countOf 5 = .ok (.aload_n 0, 1) := by decide +kernel
theorem dX7_countOf_6 : decode cX7_countOf 6 = .ok (.invokevirtual 50, 3) := by decide +kernel
theorem dX7_countOf_9 : decode cX7_countOf 9 = .ok (.if_icmp .ge 21, 3) := by decide +kernel
theorem dX7_countOf_12 : decode cX7_countOf 12 = .ok (.aload_n 0, 1) := by decide +kernel
theorem dX7_countOf_13 : decode cX7_countOf 13 = .ok (.iload_n 3, 1) := by decide +kernel
theorem dX7_countOf_14 : decode cX7_countOf 14 = .ok (.invokevirtual 46, 3) := by decide +kernel
theorem dX7_countOf_17 : decode cX7_countOf 17 = .ok (.iload_n 1, 1) := by decide +kernel
theorem dX7_countOf_18 : decode cX7_countOf 18 = .ok (.if_icmp .ne 6, 3) := by decide +kernel
theorem dX7_countOf_21 : decode cX7_countOf 21 = .ok (.iinc 2 1, 3) := by decide +kernel
theorem dX7_countOf_24 : decode cX7_countOf 24 = .ok (.iinc 3 1, 3) := by decide +kernel
theorem dX7_countOf_27 : decode cX7_countOf 27 = .ok (.goto (-23), 3) := by decide +kernel
theorem dX7_countOf_30 : decode cX7_countOf 30 = .ok (.iload_n 2, 1) := by decide +kernel
theorem dX7_countOf_31 : decode cX7_countOf 31 = .ok (.ireturn, 1) := by decide +kernel
set_option maxRecDepth 20000 in
theorem ggX7_lay_X7_numberOf : GoodIn wsX7_lay wsX7_numberOf := goodIn_r _ [8, 2, 16, 17, 18, 19, 20, 21, 22, 23, 24, 25] (by decide +kernel) (by decide +kernel)
set_option maxRecDepth 20000 in
theorem gX7_lay_X7_numberOf : GoodIn wsX7_lay (wsV RX7 54 RX7 yX7_numberOf wsX7_numberOf) := goodIn_app (goodIn_of _ (by decide +kernel)) ggX7_lay_X7_numberOf
set_option maxRecDepth 20000 in
theorem ggX7_lay_X7_kindOf : GoodIn wsX7_lay wsX7_kindOf := goodIn_r _ [12, 2, 1, 3, 16, 17, 18, 19, 20, 21, 22, 23, 24, 25] (by decide +kernel) (by decide +kernel)
set_option maxRecDepth 20000 in
theorem gX7_lay_X7_kindOf : GoodIn wsX7_lay (wsV RX7 46 RX7 yX7_kindOf wsX7_kindOf) := goodIn_app (goodIn_of _ (by decide +kernel)) ggX7_lay_X7_kindOf
set_option maxRecDepth 20000 in
theorem ggX7_lay_X10_set : GoodIn wsX7_lay wsX10_set := goodIn_r _ [15] (by decide +kernel) (by decide +kernel)
set_option maxRecDepth 20000 in
theorem gX7_lay_X10_set_n58 : GoodIn wsX7_lay (wsX10_set) := ggX7_lay_X10_set
theorem dX7_lay_0 : decode cX7_lay 0 = .ok (.iload_n 3, 1) := by decide +kernel
theorem dX7_lay_1 : decode cX7_lay 1 = .ok (.istore 6, 2) := by decide +kernel
theorem dX7_lay_3 : decode cX7_lay 3 = .ok (.iload 6, 2) := by decide +kernel
theorem dX7_lay_5 : decode cX7_lay 5 = .ok (.iload_n 3, 1) := by decide +kernel
theorem dX7_lay_6 : decode cX7_lay 6 = .ok (.iload 5, 2) := by decide +kernel
theorem dX7_lay_8 : decode cX7_lay 8 = .ok (.iadd, 1) := by decide +kernel
theorem dX7_lay_9 : decode cX7_lay 9 = .ok (.if_icmp .ge 79, 3) := by decide +kernel
theorem dX7_lay_12 : decode cX7_lay 12 = .ok (.iload 6, 2) := by decide +kernel
theorem dX7_lay_14 : decode cX7_lay 14 = .ok (.aload_n 0, 1) := by decide +kernel
theorem dX7_lay_15 : decode cX7_lay 15 = .ok (.getfield 22, 3) := by decide +kernel
theorem dX7_lay_18 : decode cX7_lay 18 = .ok (.if_icmp .ge 70, 3) := by decide +kernel
theorem dX7_lay_21 : decode cX7_lay 21 = .ok (.iload_n 2, 1) := by decide +kernel
theorem dX7_lay_22 : decode cX7_lay 22 = .ok (.istore 7, 2) := by decide +kernel
theorem dX7_lay_24 : decode cX7_lay 24 = .ok (.iload 7, 2) := by decide +kernel
theorem dX7_lay_26 : decode cX7_lay 26 = .ok (.iload_n 2, 1) := by decide +kernel
theorem dX7_lay_27 : decode cX7_lay 27 = .ok (.iload 4, 2) := by decide +kernel
theorem dX7_lay_29 : decode cX7_lay 29 = .ok (.iadd, 1) := by decide +kernel
theorem dX7_lay_30 : decode cX7_lay 30 = .ok (.if_icmp .ge 52, 3) := by decide +kernel
theorem dX7_lay_33 : decode cX7_lay 33 = .ok (.iload 7, 2) := by decide +kernel
theorem dX7_lay_35 : decode cX7_lay 35 = .ok (.aload_n 0, 1) := by decide +kernel
theorem dX7_lay_36 : decode cX7_lay 36 = .ok (.getfield 18, 3) := by decide +kernel
theorem dX7_lay_39 : decode cX7_lay 39 = .ok (.if_icmp .ge 43, 3) := by decide +kernel
theorem dX7_lay_42 : decode cX7_lay 42 = .ok (.aload_n 0, 1) := by decide +kernel
theorem dX7_lay_43 : decode cX7_lay 43 = .ok (.iload 7, 2) := by decide +kernel
theorem dX7_lay_45 : decode cX7_lay 45 = .ok (.iload 6, 2) := by decide +kernel
theorem dX7_lay_47 : decode cX7_lay 47 = .ok (.invokevirtual 54, 3) := by decide +kernel
theorem dX7_lay_50 : decode cX7_lay 50 = .ok (.istore 8, 2) := by decide +kernel
theorem dX7_lay_52 : decode cX7_lay 52 = .ok (.iload_n 1, 1) := by decide +kernel
theorem dX7_lay_53 : decode cX7_lay 53 = .ok (.iconst 1, 1) := by decide +kernel
theorem dX7_lay_54 : decode cX7_lay 54 = .ok (.if_icmp .eq 12, 3) := by decide +kernel
theorem dX7_lay_57 : decode cX7_lay 57 = .ok (.aload_n 0, 1) := by decide +kernel
theorem dX7_lay_58 : decode cX7_lay 58 = .ok (.iload 8, 2) := by decide +kernel
theorem dX7_lay_60 : decode cX7_lay 60 = .ok (.invokevirtual 46, 3) := by decide +kernel
theorem dX7_lay_63 : decode cX7_lay 63 = .ok (.ifCond .ne 13, 3) := by decide +kernel
theorem dX7_lay_66 : decode cX7_lay 66 = .ok (.aload_n 0, 1) := by decide +kernel
theorem dX7_lay_67 : decode cX7_lay 67 = .ok (.getfield 9, 3) := by decide +kernel
theorem dX7_lay_70 : decode cX7_lay 70 = .ok (.iload 8, 2) := by decide +kernel
theorem dX7_lay_72 : decode cX7_lay 72 = .ok (.iload_n 1, 1) := by decide +kernel
theorem dX7_lay_73 : decode cX7_lay 73 = .ok (.invokestatic 58, 3) := by decide +kernel
theorem dX7_lay_76 : decode cX7_lay 76 = .ok (.iinc 7 1, 3) := by decide +kernel
theorem dX7_lay_79 : decode cX7_lay 79 = .ok (.goto (-55), 3) := by decide +kernel
theorem dX7_lay_82 : decode cX7_lay 82 = .ok (.iinc 6 1, 3) := by decide +kernel
theorem dX7_lay_85 : decode cX7_lay 85 = .ok (.goto (-82), 3) := by decide +kernel
theorem dX7_lay_88 : decode cX7_lay 88 = .ok (.return_, 1) := by decide +kernel
set_option maxRecDepth 20000 in
theorem ggX7_off_X10_at : GoodIn wsX7_off wsX10_at := goodIn_r _ [4] (by decide +kernel) (by decide +kernel)
set_option maxRecDepth 20000 in
theorem gX7_off_X10_at_n65 : GoodIn wsX7_off (wsX10_at) := ggX7_off_X10_at
set_option maxRecDepth 20000 in
theorem ggX7_off_X7_has : GoodIn wsX7_off wsX7_has := goodIn_r _ [9, 1, 10, 15, 16, 17, 18, 19, 20, 21, 22, 23, 24] (by decide +kernel) (by decide +kernel)
set_option maxRecDepth 20000 in
theorem gX7_off_X7_has : GoodIn wsX7_off (wsV RX7 72 RX7 yX7_has wsX7_has) := goodIn_app (goodIn_of _ (by decide +kernel)) ggX7_off_X7_has
set_option maxRecDepth 20000 in
theorem ggX7_off_X7_numberOf : GoodIn wsX7_off wsX7_numberOf := goodIn_r _ [14, 1, 15, 16, 17, 18, 19, 20, 21, 22, 23, 24] (by decide +kernel) (by decide +kernel)
set_option maxRecDepth 20000 in
theorem gX7_off_X7_numberOf : GoodIn wsX7_off (wsV RX7 54 RX7 yX7_numberOf wsX7_numberOf) := goodIn_app (goodIn_of _ (by decide +kernel)) ggX7_off_X7_numberOf
theorem dX7_off_0 : decode cX7_off 0 = .ok (.iload_n 1, 1) := by decide +kernel
theorem dX7_off_1 : decode cX7_off 1 = .ok (.ifCond .lt 11, 3) := by decide +kernel
theorem dX7_off_4 : decode cX7_off 4 = .ok (.aload_n 0, 1) := by decide +kernel
theorem dX7_off_5 : decode cX7_off 5 = .ok (.getfield 18, 3) := by decide +kernel
theorem dX7_off_8 : decode cX7_off 8 = .ok (.iconst 1, 1) := by decide +kernel
theorem dX7_off_9 : decode cX7_off 9 = .ok (.if_icmp .ge 6, 3) := by decide +kernel
theorem dX7_off_12 : decode cX7_off 12 = .ok (.bipush (-9), 2) := by decide +kernel
theorem dX7_off_14 : decode cX7_off 14 = .ok (.ireturn, 1) := by decide +kernel
theorem dX7_off_15 : decode cX7_off 15 = .ok (.iload_n 1, 1) := by decide +kernel
theorem dX7_off_16 : decode cX7_off 16 = .ok (.aload_n 0, 1) := by decide +kernel
theorem dX7_off_17 : decode cX7_off 17 = .ok (.getfield 18, 3) := by decide +kernel
theorem dX7_off_20 : decode cX7_off 20 = .ok (.irem, 1) := by decide +kernel
theorem dX7_off_21 : decode cX7_off 21 = .ok (.iload_n 3, 1) := by decide +kernel
theorem dX7_off_22 : decode cX7_off 22 = .ok (.getstatic 62, 3) := by decide +kernel
theorem dX7_off_25 : decode cX7_off 25 = .ok (.iload_n 2, 1) := by decide +kernel
theorem dX7_off_26 : decode cX7_off 26 = .ok (.invokestatic 65, 3) := by decide +kernel
theorem dX7_off_29 : decode cX7_off 29 = .ok (.imul, 1) := by decide +kernel
theorem dX7_off_30 : decode cX7_off 30 = .ok (.iadd, 1) := by decide +kernel
theorem dX7_off_31 : decode cX7_off 31 = .ok (.istore 4, 2) := by decide +kernel
theorem dX7_off_33 : decode cX7_off 33 = .ok (.iload_n 1, 1) := by decide +kernel
theorem dX7_off_34 : decode cX7_off 34 = .ok (.aload_n 0, 1) := by decide +kernel
theorem dX7_off_35 : decode cX7_off 35 = .ok (.getfield 18, 3) := by decide +kernel
theorem dX7_off_38 : decode cX7_off 38 = .ok (.idiv, 1) := by decide +kernel
theorem dX7_off_39 : decode cX7_off 39 = .ok (.iload_n 3, 1) := by decide +kernel
theorem dX7_off_40 : decode cX7_off 40 = .ok (.getstatic 69, 3) := by decide +kernel
theorem dX7_off_43 : decode cX7_off 43 = .ok (.iload_n 2, 1) := by decide +kernel
theorem dX7_off_44 : decode cX7_off 44 = .ok (.invokestatic 65, 3) := by decide +kernel
theorem dX7_off_47 : decode cX7_off 47 = .ok (.imul, 1) := by decide +kernel
theorem dX7_off_48 : decode cX7_off 48 = .ok (.iadd, 1) := by decide +kernel
theorem dX7_off_49 : decode cX7_off 49 = .ok (.istore 5, 2) := by decide +kernel
theorem dX7_off_51 : decode cX7_off 51 = .ok (.aload_n 0, 1) := by decide +kernel
theorem dX7_off_52 : decode cX7_off 52 = .ok (.iload 4, 2) := by decide +kernel
theorem dX7_off_54 : decode cX7_off 54 = .ok (.iload 5, 2) := by decide +kernel
theorem dX7_off_56 : decode cX7_off 56 = .ok (.invokevirtual 72, 3) := by decide +kernel
theorem dX7_off_59 : decode cX7_off 59 = .ok (.ifCond .eq 14, 3) := by decide +kernel
theorem dX7_off_62 : decode cX7_off 62 = .ok (.aload_n 0, 1) := by decide +kernel
theorem dX7_off_63 : decode cX7_off 63 = .ok (.iload 4, 2) := by decide +kernel
theorem dX7_off_65 : decode cX7_off 65 = .ok (.iload 5, 2) := by decide +kernel
theorem dX7_off_67 : decode cX7_off 67 = .ok (.invokevirtual 54, 3) := by decide +kernel
theorem dX7_off_70 : decode cX7_off 70 = .ok (.goto 5, 3) := by decide +kernel
theorem dX7_off_73 : decode cX7_off 73 = .ok (.bipush (-9), 2) := by decide +kernel
theorem dX7_off_75 : decode cX7_off 75 = .ok (.ireturn, 1) := by decide +kernel
set_option maxRecDepth 20000 in
theorem ggX7_turnsAt_X7_off : GoodIn wsX7_turnsAt wsX7_off := goodIn_r _ [5, 6, 7, 8, 9, 10, 11, 12, 4, 13, 14, 15, 16, 17, 18, 32, 33, 34, 35, 36, 37, 38, 39, 40, 41] (by decide +kernel) (by decide +kernel)
set_option maxRecDepth 20000 in
theorem gX7_turnsAt_X7_off : GoodIn wsX7_turnsAt (wsV RX7 76 RX7 yX7_off wsX7_off) := goodIn_app (goodIn_of _ (by decide +kernel)) ggX7_turnsAt_X7_off
set_option maxRecDepth 20000 in
theorem ggX7_turnsAt_X7_hasBook : GoodIn wsX7_turnsAt wsX7_hasBook := goodIn_r _ [22, 23, 24, 25, 4, 26, 6, 14, 27, 32, 33, 34, 35, 36, 37, 38, 39, 40, 41] (by decide +kernel) (by decide +kernel)
set_option maxRecDepth 20000 in
theorem gX7_turnsAt_X7_hasBook : GoodIn wsX7_turnsAt (wsV RX7 80 RX7 yX7_hasBook wsX7_hasBook) := goodIn_app (goodIn_of _ (by decide +kernel)) ggX7_turnsAt_X7_hasBook
set_option maxRecDepth 20000 in
theorem ggX7_turnsAt_X7_isWood : GoodIn wsX7_turnsAt wsX7_isWood := goodIn_r _ [31, 23, 24, 25, 4, 26, 6, 14, 27, 32, 33, 34, 35, 36, 37, 38, 39, 40, 41] (by decide +kernel) (by decide +kernel)
set_option maxRecDepth 20000 in
theorem gX7_turnsAt_X7_isWood : GoodIn wsX7_turnsAt (wsV RX7 84 RX7 yX7_isWood wsX7_isWood) := goodIn_app (goodIn_of _ (by decide +kernel)) ggX7_turnsAt_X7_isWood
theorem dX7_turnsAt_0 : decode cX7_turnsAt 0 = .ok (.aload_n 0, 1) := by decide +kernel
theorem dX7_turnsAt_1 : decode cX7_turnsAt 1 = .ok (.aload_n 0, 1) := by decide +kernel
theorem dX7_turnsAt_2 : decode cX7_turnsAt 2 = .ok (.iload_n 1, 1) := by decide +kernel
theorem dX7_turnsAt_3 : decode cX7_turnsAt 3 = .ok (.iload_n 2, 1) := by decide +kernel
theorem dX7_turnsAt_4 : decode cX7_turnsAt 4 = .ok (.iconst 1, 1) := by decide +kernel
theorem dX7_turnsAt_5 : decode cX7_turnsAt 5 = .ok (.invokevirtual 76, 3) := by decide +kernel
theorem dX7_turnsAt_8 : decode cX7_turnsAt 8 = .ok (.invokevirtual 80, 3) := by decide +kernel
theorem dX7_turnsAt_11 : decode cX7_turnsAt 11 = .ok (.ifCond .ne 17, 3) := by decide +kernel
theorem dX7_turnsAt_14 : decode cX7_turnsAt 14 = .ok (.aload_n 0, 1) := by decide +kernel
theorem dX7_turnsAt_15 : decode cX7_turnsAt 15 = .ok (.aload_n 0, 1) := by decide +kernel
theorem dX7_turnsAt_16 : decode cX7_turnsAt 16 = .ok (.iload_n 1, 1) := by decide +kernel
theorem dX7_turnsAt_17 : decode cX7_turnsAt 17 = .ok (.iload_n 2, 1) := by decide +kernel
theorem dX7_turnsAt_18 : decode cX7_turnsAt 18 = .ok (.iload_n 3, 1) := by decide +kernel
theorem dX7_turnsAt_19 : decode cX7_turnsAt 19 = .ok (.invokevirtual 76, 3) := by decide +kernel
theorem dX7_turnsAt_22 : decode cX7_turnsAt 22 = .ok (.invokevirtual 84, 3) := by decide +kernel
theorem dX7_turnsAt_25 : decode cX7_turnsAt 25 = .ok (.ifCond .ne 7, 3) := by decide +kernel
theorem dX7_turnsAt_28 : decode cX7_turnsAt 28 = .ok (.iconst 1, 1) := by decide +kernel
theorem dX7_turnsAt_29 : decode cX7_turnsAt 29 = .ok (.goto 4, 3) := by decide +kernel
theorem dX7_turnsAt_32 : decode cX7_turnsAt 32 = .ok (.iconst 0, 1) := by decide +kernel
theorem dX7_turnsAt_33 : decode cX7_turnsAt 33 = .ok (.ireturn, 1) := by decide +kernel
theorem dX8_init_0 : decode cX8_init 0 = .ok (.aload_n 0, 1) := by decide +kernel
theorem dX8_init_1 : decode cX8_init 1 = .ok (.invokespecial 3, 3) := by decide +kernel
theorem dX8_init_4 : decode cX8_init 4 = .ok (.aload_n 0, 1) := by decide +kernel
theorem dX8_init_5 : decode cX8_init 5 = .ok (.sipush 300, 3) := by decide +kernel
theorem dX8_init_8 : decode cX8_init 8 = .ok (.newarray .int, 2) := by decide +kernel
theorem dX8_init_10 : decode cX8_init 10 = .ok (.putfield 9, 3) := by decide +kernel
theorem dX8_init_13 : decode cX8_init 13 = .ok (.return_, 1) := by decide +kernel
set_option maxRecDepth 20000 in
theorem ggX8_add_X10_set : GoodIn wsX8_add wsX10_set := goodIn_r _ [5] (by decide +kernel) (by decide +kernel)
set_option maxRecDepth 20000 in
theorem gX8_add_X10_set_n19 : GoodIn wsX8_add (wsX10_set) := ggX8_add_X10_set
theorem dX8_add_0 : decode cX8_add 0 = .ok (.aload_n 0, 1) := by decide +kernel
theorem dX8_add_1 : decode cX8_add 1 = .ok (.getfield 15, 3) := by decide +kernel
theorem dX8_add_4 : decode cX8_add 4 = .ok (.aload_n 0, 1) := by decide +kernel
theorem dX8_add_5 : decode cX8_add 5 = .ok (.getfield 9, 3) := by decide +kernel
theorem dX8_add_8 : decode cX8_add 8 = .ok (.arraylength, 1) := by decide +kernel
theorem dX8_add_9 : decode cX8_add 9 = .ok (.if_icmp .ge 25, 3) := by decide +kernel
theorem dX8_add_12 : decode cX8_add 12 = .ok (.aload_n 0, 1) := by decide +kernel
theorem dX8_add_13 : decode cX8_add 13 = .ok (.getfield 9, 3) := by decide +kernel
theorem dX8_add_16 : decode cX8_add 16 = .ok (.aload_n 0, 1) := by decide +kernel
theorem dX8_add_17 : decode cX8_add 17 = .ok (.getfield 15, 3) := by decide +kernel
theorem dX8_add_20 : decode cX8_add 20 = .ok (.iload_n 1, 1) := by decide +kernel
theorem dX8_add_21 : decode cX8_add 21 = .ok (.invokestatic 19, 3) := by decide +kernel
theorem dX8_add_24 : decode cX8_add 24 = .ok (.aload_n 0, 1) := by decide +kernel
theorem dX8_add_25 : decode cX8_add 25 = .ok (.dup, 1) := by decide +kernel
theorem dX8_add_26 : decode cX8_add 26 = .ok (.getfield 15, 3) := by decide +kernel
theorem dX8_add_29 : decode cX8_add 29 = .ok (.iconst 1, 1) := by decide +kernel
theorem dX8_add_30 : decode cX8_add 30 = .ok (.iadd, 1) := by decide +kernel
theorem dX8_add_31 : decode cX8_add 31 = .ok (.putfield 15, 3) := by decide +kernel
theorem dX8_add_34 : decode cX8_add 34 = .ok (.return_, 1) := by decide +kernel
set_option maxRecDepth 20000 in
theorem ggX8_rewind_X8_next : GoodIn wsX8_rewind wsX8_next := goodIn_r _ [6, 1, 7, 8, 9, 10, 11, 12, 13, 14, 15, 5, 16, 17, 18, 19, 20, 21, 22, 23, 24, 25, 26, 27, 28, 29, 30, 31, 32, 33, 34, 35, 36, 37, 38, 39, 40, 41, 42, 43, 44, 45, 46, 47, 48, 49, 50, 51, 52, 53, 54, 55, 56, 57, 58, 59, 60, 61, 62, 63, 64, 65, 66, 67, 68, 69, 70, 71, 72, 73, 74, 75, 76, 77, 78, 79, 80, 81, 82, 83, 84, 85, 86, 87, 88, 89, 90, 91, 92, 93, 94] (by decide +kernel) (by decide +kernel)
set_option maxRecDepth 20000 in
theorem gX8_rewind_X8_next : GoodIn wsX8_rewind (wsV RX8 26 RX8 yX8_next wsX8_next) := goodIn_app (goodIn_of _ (by decide +kernel)) ggX8_rewind_X8_next
theorem dX8_rewind_0 : decode cX8_rewind 0 = .ok (.aload_n 0, 1) := by decide +kernel
theorem dX8_rewind_1 : decode cX8_rewind 1 = .ok (.iconst 0, 1) := by decide +kernel
theorem dX8_rewind_2 : decode cX8_rewind 2 = .ok (.putfield 23, 3) := by decide +kernel
theorem dX8_rewind_5 : decode cX8_rewind 5 = .ok (.aload_n 0, 1) := by decide +kernel
theorem dX8_rewind_6 : decode cX8_rewind 6 = .ok (.invokevirtual 26, 3) := by decide +kernel
theorem dX8_rewind_9 : decode cX8_rewind 9 = .ok (.return_, 1) := by decide +kernel
set_option maxRecDepth 20000 in
theorem ggX8_next_X10_at : GoodIn wsX8_next wsX10_at := goodIn_r _ [8] (by decide +kernel) (by decide +kernel)
set_option maxRecDepth 20000 in
theorem gX8_next_X10_at_n29 : GoodIn wsX8_next (wsX10_at) := ggX8_next_X10_at
set_option maxRecDepth 20000 in
theorem ggX8_next_X8_isLetter : GoodIn wsX8_next wsX8_isLetter := goodIn_r _ [12] (by decide +kernel) (by decide +kernel)
set_option maxRecDepth 20000 in
theorem gX8_next_X8_isLetter : GoodIn wsX8_next (va_wsS RX8 39 yX8_isLetter wsX8_isLetter) := goodIn_app (goodIn_of _ (by decide +kernel)) ggX8_next_X8_isLetter
set_option maxRecDepth 20000 in
theorem ggX8_next_X8_takeWord : GoodIn wsX8_next wsX8_takeWord := goodIn_r _ [16, 1, 2, 3, 5, 17, 6, 7, 8, 9, 10, 11, 12, 18, 19, 20, 21, 22, 23, 24, 4, 25, 26, 27, 28, 29, 30, 31, 32, 33, 34, 35, 36, 37, 38, 39, 40, 41, 42, 43, 44, 45, 46, 47, 48, 49, 50, 51, 52, 53, 54, 55, 56, 57, 58, 59, 60, 61, 62, 63, 64, 65, 66, 67, 68, 69, 70, 71, 72, 73, 85, 86, 87, 88, 89, 90] (by decide +kernel) (by decide +kernel)
set_option maxRecDepth 20000 in
theorem gX8_next_X8_takeWord : GoodIn wsX8_next (wsV RX8 43 RX8 yX8_takeWord wsX8_takeWord) := goodIn_app (goodIn_of _ (by decide +kernel)) ggX8_next_X8_takeWord
set_option maxRecDepth 20000 in
theorem ggX8_next_X8_isDigit : GoodIn wsX8_next wsX8_isDigit := goodIn_r _ [76] (by decide +kernel) (by decide +kernel)
set_option maxRecDepth 20000 in
theorem gX8_next_X8_isDigit : GoodIn wsX8_next (va_wsS RX8 46 yX8_isDigit wsX8_isDigit) := goodIn_app (goodIn_of _ (by decide +kernel)) ggX8_next_X8_isDigit
set_option maxRecDepth 20000 in
theorem ggX8_next_X8_takeNumber : GoodIn wsX8_next wsX8_takeNumber := goodIn_r _ [80, 17, 1, 2, 3, 81, 82, 83, 84, 4, 5, 6, 7, 8, 74, 75, 11, 76, 85, 86, 87, 88, 89, 90] (by decide +kernel) (by decide +kernel)
set_option maxRecDepth 20000 in
theorem gX8_next_X8_takeNumber : GoodIn wsX8_next (wsV RX8 49 RX8 yX8_takeNumber wsX8_takeNumber) := goodIn_app (goodIn_of _ (by decide +kernel)) ggX8_next_X8_takeNumber
theorem dX8_next_0 : decode cX8_next 0 = .ok (.aload_n 0, 1) := by decide +kernel
theorem dX8_next_1 : decode cX8_next 1 = .ok (.getfield 23, 3) := by decide +kernel
theorem dX8_next_4 : decode cX8_next 4 = .ok (.aload_n 0, 1) := by decide +kernel
theorem dX8_next_5 : decode cX8_next 5 = .ok (.getfield 15, 3) := by decide +kernel
theorem dX8_next_8 : decode cX8_next 8 = .ok (.if_icmp .ge 32, 3) := by decide +kernel
theorem dX8_next_11 : decode cX8_next 11 = .ok (.aload_n 0, 1) := by decide +kernel
theorem dX8_next_12 : decode cX8_next 12 = .ok (.getfield 9, 3) := by decide +kernel
theorem dX8_next_15 : decode cX8_next 15 = .ok (.aload_n 0, 1) := by decide +kernel
theorem dX8_next_16 : decode cX8_next 16 = .ok (.getfield 23, 3) := by decide +kernel
theorem dX8_next_19 : decode cX8_next 19 = .ok (.invokestatic 29, 3) := by decide +kernel
theorem dX8_next_22 : decode cX8_next 22 = .ok (.bipush 32, 2) := by decide +kernel
theorem dX8_next_24 : decode cX8_next 24 = .ok (.if_icmp .ne 16, 3) := by decide +kernel
theorem dX8_next_27 : decode cX8_next 27 = .ok (.aload_n 0, 1) := by decide +kernel
theorem dX8_next_28 : decode cX8_next 28 = .ok (.dup, 1) := by decide +kernel
theorem dX8_next_29 : decode cX8_next 29 = .ok (.getfield 23, 3) := by decide +kernel
theorem dX8_next_32 : decode cX8_next 32 = .ok (.iconst 1, 1) := by decide +kernel
theorem dX8_next_33 : decode cX8_next 33 = .ok (.iadd, 1) := by decide +kernel
theorem dX8_next_34 : decode cX8_next 34 = .ok (.putfield 23, 3) := by decide +kernel
theorem dX8_next_37 : decode cX8_next 37 = .ok (.goto (-37), 3) := by decide +kernel
theorem dX8_next_40 : decode cX8_next 40 = .ok (.aload_n 0, 1) := by decide +kernel
theorem dX8_next_41 : decode cX8_next 41 = .ok (.aload_n 0, 1) := by decide +kernel
theorem dX8_next_42 : decode cX8_next 42 = .ok (.getfield 23, 3) := by decide +kernel
theorem dX8_next_45 : decode cX8_next 45 = .ok (.putfield 33, 3) := by decide +kernel
theorem dX8_next_48 : decode cX8_next 48 = .ok (.aload_n 0, 1) := by decide +kernel
theorem dX8_next_49 : decode cX8_next 49 = .ok (.getfield 23, 3) := by decide +kernel
theorem dX8_next_52 : decode cX8_next 52 = .ok (.aload_n 0, 1) := by decide +kernel
theorem dX8_next_53 : decode cX8_next 53 = .ok (.getfield 15, 3) := by decide +kernel
theorem dX8_next_56 : decode cX8_next 56 = .ok (.if_icmp .lt 11, 3) := by decide +kernel
theorem dX8_next_59 : decode cX8_next 59 = .ok (.aload_n 0, 1) := by decide +kernel
theorem dX8_next_60 : decode cX8_next 60 = .ok (.iconst 0, 1) := by decide +kernel
theorem dX8_next_61 : decode cX8_next 61 = .ok (.putfield 36, 3) := by decide +kernel
theorem dX8_next_64 : decode cX8_next 64 = .ok (.goto 86, 3) := by decide +kernel
theorem dX8_next_67 : decode cX8_next 67 = .ok (.aload_n 0, 1) := by decide +kernel
theorem dX8_next_68 : decode cX8_next 68 = .ok (.getfield 9, 3) := by decide +kernel
theorem dX8_next_71 : decode cX8_next 71 = .ok (.aload_n 0, 1) := by decide +kernel
theorem dX8_next_72 : decode cX8_next 72 = .ok (.getfield 23, 3) := by decide +kernel
theorem dX8_next_75 : decode cX8_next 75 = .ok (.invokestatic 29, 3) := by decide +kernel
theorem dX8_next_78 : decode cX8_next 78 = .ok (.invokestatic 39, 3) := by decide +kernel
theorem dX8_next_81 : decode cX8_next 81 = .ok (.ifCond .eq 10, 3) := by decide +kernel
theorem dX8_next_84 : decode cX8_next 84 = .ok (.aload_n 0, 1) := by decide +kernel
theorem dX8_next_85 : decode cX8_next 85 = .ok (.invokevirtual 43, 3) := by decide +kernel
theorem dX8_next_88 : decode cX8_next 88 = .ok (.goto 62, 3) := by decide +kernel
theorem dX8_next_91 : decode cX8_next 91 = .ok (.aload_n 0, 1) := by decide +kernel
theorem dX8_next_92 : decode cX8_next 92 = .ok (.getfield 9, 3) := by decide +kernel
theorem dX8_next_95 : decode cX8_next 95 = .ok (.aload_n 0, 1) := by decide +kernel
theorem dX8_next_96 : decode cX8_next 96 = .ok (.getfield 23, 3) := by decide +kernel
theorem dX8_next_99 : decode cX8_next 99 = .ok (.invokestatic 29, 3) := by decide +kernel
theorem dX8_next_102 : decode cX8_next 102 = .ok (.invokestatic 46, 3) := by decide +kernel
theorem dX8_next_105 : decode cX8_next 105 = .ok (.ifCond .eq 10, 3) := by decide +kernel
theorem dX8_next_108 : decode cX8_next 108 = .ok (.aload_n 0, 1) := by decide +kernel
theorem dX8_next_109 : decode cX8_next 109 = .ok (.invokevirtual 49, 3) := by decide +kernel
theorem dX8_next_112 : decode cX8_next 112 = .ok (.goto 38, 3) := by decide +kernel
theorem dX8_next_115 : decode cX8_next 115 = .ok (.aload_n 0, 1) := by decide +kernel
theorem dX8_next_116 : decode cX8_next 116 = .ok (.aload_n 0, 1) := by decide +kernel
theorem dX8_next_117 : decode cX8_next 117 = .ok (.getfield 9, 3) := by decide +kernel
theorem dX8_next_120 : decode cX8_next 120 = .ok (.aload_n 0, 1) := by decide +kernel
theorem dX8_next_121 : decode cX8_next 121 = .ok (.getfield 23, 3) := by decide +kernel
theorem dX8_next_124 : decode cX8_next 124 = .ok (.invokestatic 29, 3) := by decide +kernel
theorem dX8_next_127 : decode cX8_next 127 = .ok (.bipush 59, 2) := by decide +kernel
theorem dX8_next_129 : decode cX8_next 129 = .ok (.if_icmp .ne 7, 3) := by decide +kernel
theorem dX8_next_132 : decode cX8_next 132 = .ok (.iconst 3, 1) := by decide +kernel
theorem dX8_next_133 : decode cX8_next 133 = .ok (.goto 4, 3) := by decide +kernel
theorem dX8_next_136 : decode cX8_next 136 = .ok (.iconst 4, 1) := by decide +kernel
theorem dX8_next_137 : decode cX8_next 137 = .ok (.putfield 36, 3) := by decide +kernel
theorem dX8_next_140 : decode cX8_next 140 = .ok (.aload_n 0, 1) := by decide +kernel
theorem dX8_next_141 : decode cX8_next 141 = .ok (.dup, 1) := by decide +kernel
theorem dX8_next_142 : decode cX8_next 142 = .ok (.getfield 23, 3) := by decide +kernel
theorem dX8_next_145 : decode cX8_next 145 = .ok (.iconst 1, 1) := by decide +kernel
theorem dX8_next_146 : decode cX8_next 146 = .ok (.iadd, 1) := by decide +kernel
theorem dX8_next_147 : decode cX8_next 147 = .ok (.putfield 23, 3) := by decide +kernel
theorem dX8_next_150 : decode cX8_next 150 = .ok (.return_, 1) := by decide +kernel
set_option maxRecDepth 20000 in
theorem ggX8_takeWord_X10_at : GoodIn wsX8_takeWord wsX10_at := goodIn_r _ [8] (by decide +kernel) (by decide +kernel)
set_option maxRecDepth 20000 in
theorem gX8_takeWord_X10_at_n29 : GoodIn wsX8_takeWord (wsX10_at) := ggX8_takeWord_X10_at
set_option maxRecDepth 20000 in
theorem ggX8_takeWord_X8_isLetter : GoodIn wsX8_takeWord wsX8_isLetter := goodIn_r _ [12] (by decide +kernel) (by decide +kernel)
set_option maxRecDepth 20000 in
theorem gX8_takeWord_X8_isLetter : GoodIn wsX8_takeWord (va_wsS RX8 39 yX8_isLetter wsX8_isLetter) := goodIn_app (goodIn_of _ (by decide +kernel)) ggX8_takeWord_X8_isLetter
set_option maxRecDepth 20000 in
theorem ggX8_takeWord_X8_nameOf : GoodIn wsX8_takeWord wsX8_nameOf := goodIn_r _ [15] (by decide +kernel) (by decide +kernel)
set_option maxRecDepth 20000 in
theorem gX8_takeWord_X8_nameOf : GoodIn wsX8_takeWord (va_wsS RX8 52 yX8_nameOf wsX8_nameOf) := goodIn_app (goodIn_of _ (by decide +kernel)) ggX8_takeWord_X8_nameOf
set_option maxRecDepth 20000 in
theorem ggX8_takeWord_X8_isWord : GoodIn wsX8_takeWord wsX8_isWord := goodIn_r _ [19, 1, 20, 3, 21, 22, 23, 24, 25, 26, 27, 28, 29, 30, 31, 32, 33, 34, 35, 36, 37, 38, 39, 40, 41, 42, 43, 44, 45, 46, 47, 48, 49, 50, 51, 52, 53, 54, 55, 56, 57, 58, 59, 60, 61, 62, 63, 64, 65, 66, 67, 68, 69, 6, 7, 8, 70, 71, 72, 73, 74, 75] (by decide +kernel) (by decide +kernel)
set_option maxRecDepth 20000 in
theorem gX8_takeWord_X8_isWord : GoodIn wsX8_takeWord (wsV RX8 56 RX8 yX8_isWord wsX8_isWord) := goodIn_app (goodIn_of _ (by decide +kernel)) ggX8_takeWord_X8_isWord
theorem dX8_takeWord_0 : decode cX8_takeWord 0 = .ok (.aload_n 0, 1) := by decide +kernel
theorem dX8_takeWord_1 : decode cX8_takeWord 1 = .ok (.getfield 23, 3) := by decide +kernel
theorem dX8_takeWord_4 : decode cX8_takeWord 4 = .ok (.aload_n 0, 1) := by decide +kernel
theorem dX8_takeWord_5 : decode cX8_takeWord 5 = .ok (.getfield 15, 3) := by decide +kernel
theorem dX8_takeWord_8 : decode cX8_takeWord 8 = .ok (.if_icmp .ge 33, 3) := by decide +kernel
theorem dX8_takeWord_11 : decode cX8_takeWord 11 = .ok (.aload_n 0, 1) := by decide +kernel
theorem dX8_takeWord_12 : decode cX8_takeWord 12 = .ok (.getfield 9, 3) := by decide +kernel
theorem dX8_takeWord_15 : decode cX8_takeWord 15 = .ok (.aload_n 0, 1) := by decide +kernel
theorem dX8_takeWord_16 : decode cX8_takeWord 16 = .ok (.getfield 23, 3) := by decide +kernel
theorem dX8_takeWord_19 : decode cX8_takeWord 19 = .ok (.invokestatic 29, 3) := by decide +kernel
theorem dX8_takeWord_22 : decode cX8_takeWord 22 = .ok (.invokestatic 39, 3) := by decide +kernel
theorem dX8_takeWord_25 : decode cX8_takeWord 25 = .ok (.ifCond .eq 16, 3) := by decide +kernel
theorem dX8_takeWord_28 : decode cX8_takeWord 28 = .ok (.aload_n 0, 1) := by decide +kernel
theorem dX8_takeWord_29 : decode cX8_takeWord 29 = .ok (.dup, 1) := by decide +kernel
theorem dX8_takeWord_30 : decode cX8_takeWord 30 = .ok (.getfield 23, 3) := by decide +kernel
theorem dX8_takeWord_33 : decode cX8_takeWord 33 = .ok (.iconst 1, 1) := by decide +kernel
theorem dX8_takeWord_34 : decode cX8_takeWord 34 = .ok (.iadd, 1) := by decide +kernel
theorem dX8_takeWord_35 : decode cX8_takeWord 35 = .ok (.putfield 23, 3) := by decide +kernel
theorem dX8_takeWord_38 : decode cX8_takeWord 38 = .ok (.goto (-38), 3) := by decide +kernel
theorem dX8_takeWord_41 : decode cX8_takeWord 41 = .ok (.aload_n 0, 1) := by decide +kernel
theorem dX8_takeWord_42 : decode cX8_takeWord 42 = .ok (.iconst 4, 1) := by decide +kernel
theorem dX8_takeWord_43 : decode cX8_takeWord 43 = .ok (.putfield 36, 3) := by decide +kernel
theorem dX8_takeWord_46 : decode cX8_takeWord 46 = .ok (.iconst 0, 1) := by decide +kernel
theorem dX8_takeWord_47 : decode cX8_takeWord 47 = .ok (.istore_n 1, 1) := by decide +kernel
theorem dX8_takeWord_48 : decode cX8_takeWord 48 = .ok (.iload_n 1, 1) := by decide +kernel
theorem dX8_takeWord_49 : decode cX8_takeWord 49 = .ok (.bipush 6, 2) := by decide +kernel
theorem dX8_takeWord_51 : decode cX8_takeWord 51 = .ok (.if_icmp .ge 30, 3) := by decide +kernel
theorem dX8_takeWord_54 : decode cX8_takeWord 54 = .ok (.aload_n 0, 1) := by decide +kernel
theorem dX8_takeWord_55 : decode cX8_takeWord 55 = .ok (.iload_n 1, 1) := by decide +kernel
theorem dX8_takeWord_56 : decode cX8_takeWord 56 = .ok (.invokestatic 52, 3) := by decide +kernel
theorem dX8_takeWord_59 : decode cX8_takeWord 59 = .ok (.invokevirtual 56, 3) := by decide +kernel
theorem dX8_takeWord_62 : decode cX8_takeWord 62 = .ok (.ifCond .eq 13, 3) := by decide +kernel
theorem dX8_takeWord_65 : decode cX8_takeWord 65 = .ok (.aload_n 0, 1) := by decide +kernel
theorem dX8_takeWord_66 : decode cX8_takeWord 66 = .ok (.iconst 1, 1) := by decide +kernel
theorem dX8_takeWord_67 : decode cX8_takeWord 67 = .ok (.putfield 36, 3) := by decide +kernel
theorem dX8_takeWord_70 : decode cX8_takeWord 70 = .ok (.aload_n 0, 1) := by decide +kernel
theorem dX8_takeWord_71 : decode cX8_takeWord 71 = .ok (.iload_n 1, 1) := by decide +kernel
theorem dX8_takeWord_72 : decode cX8_takeWord 72 = .ok (.putfield 60, 3) := by decide +kernel
theorem dX8_takeWord_75 : decode cX8_takeWord 75 = .ok (.iinc 1 1, 3) := by decide +kernel
theorem dX8_takeWord_78 : decode cX8_takeWord 78 = .ok (.goto (-30), 3) := by decide +kernel
theorem dX8_takeWord_81 : decode cX8_takeWord 81 = .ok (.return_, 1) := by decide +kernel
set_option maxRecDepth 20000 in
theorem ggX8_isWord_J0_length_8abf5 : GoodIn wsX8_isWord wsJ0_length_8abf5 := goodIn_r _ [8, 9, 10, 11, 12, 7, 13, 14, 15] (by decide +kernel) (by decide +kernel)
set_option maxRecDepth 20000 in
theorem gX8_isWord_J0_length_8abf5 : GoodIn wsX8_isWord (wsV RX8 63 RJ0 yJ0_length_8abf5 wsJ0_length_8abf5) := goodIn_app (goodIn_of _ (by decide +kernel)) ggX8_isWord_J0_length_8abf5
set_option maxRecDepth 20000 in
theorem ggX8_isWord_J0_charAt_5068e : GoodIn wsX8_isWord wsJ0_charAt_5068e := goodIn_r _ [19, 9, 20, 21, 22, 7, 23, 14, 15, 24, 25, 26, 27, 28, 29, 30, 31, 32, 33, 34, 35, 36, 37, 38, 39, 40, 41, 42, 43, 44, 45, 46, 47, 48, 49, 50, 51, 52] (by decide +kernel) (by decide +kernel)
set_option maxRecDepth 20000 in
theorem gX8_isWord_J0_charAt_5068e : GoodIn wsX8_isWord (wsV RX8 68 RJ0 yJ0_charAt_5068e wsJ0_charAt_5068e) := goodIn_app (goodIn_of _ (by decide +kernel)) ggX8_isWord_J0_charAt_5068e
set_option maxRecDepth 20000 in
theorem ggX8_isWord_X10_at : GoodIn wsX8_isWord wsX10_at := goodIn_r _ [55] (by decide +kernel) (by decide +kernel)
set_option maxRecDepth 20000 in
theorem gX8_isWord_X10_at_n29 : GoodIn wsX8_isWord (wsX10_at) := ggX8_isWord_X10_at
theorem dX8_isWord_0 : decode cX8_isWord 0 = .ok (.aload_n 1, 1) := by decide +kernel
theorem dX8_isWord_1 : decode cX8_isWord 1 = .ok (.invokevirtual 63, 3) := by decide +kernel
theorem dX8_isWord_4 : decode cX8_isWord 4 = .ok (.aload_n 0, 1) := by decide +kernel
theorem dX8_isWord_5 : decode cX8_isWord 5 = .ok (.getfield 23, 3) := by decide +kernel
theorem dX8_isWord_8 : decode cX8_isWord 8 = .ok (.aload_n 0, 1) := by decide +kernel
theorem dX8_isWord_9 : decode cX8_isWord 9 = .ok (.getfield 33, 3) := by decide +kernel
theorem dX8_isWord_12 : decode cX8_isWord 12 = .ok (.isub, 1) := by decide +kernel
theorem dX8_isWord_13 : decode cX8_isWord 13 = .ok (.if_icmp .ne 7, 3) := by decide +kernel
theorem dX8_isWord_16 : decode cX8_isWord 16 = .ok (.iconst 1, 1) := by decide +kernel
theorem dX8_isWord_17 : decode cX8_isWord 17 = .ok (.goto 4, 3) := by decide +kernel
theorem dX8_isWord_20 : decode cX8_isWord 20 = .ok (.iconst 0, 1) := by decide +kernel
theorem dX8_isWord_21 : decode cX8_isWord 21 = .ok (.istore_n 2, 1) := by decide +kernel
theorem dX8_isWord_22 : decode cX8_isWord 22 = .ok (.iconst 0, 1) := by decide +kernel
theorem dX8_isWord_23 : decode cX8_isWord 23 = .ok (.istore_n 3, 1) := by decide +kernel
theorem dX8_isWord_24 : decode cX8_isWord 24 = .ok (.iload_n 2, 1) := by decide +kernel
theorem dX8_isWord_25 : decode cX8_isWord 25 = .ok (.ifCond .eq 44, 3) := by decide +kernel
theorem dX8_isWord_28 : decode cX8_isWord 28 = .ok (.iload_n 3, 1) := by decide +kernel
theorem dX8_isWord_29 : decode cX8_isWord 29 = .ok (.aload_n 1, 1) := by decide +kernel
theorem dX8_isWord_30 : decode cX8_isWord 30 = .ok (.invokevirtual 63, 3) := by decide +kernel
theorem dX8_isWord_33 : decode cX8_isWord 33 = .ok (.if_icmp .ge 36, 3) := by decide +kernel
theorem dX8_isWord_36 : decode cX8_isWord 36 = .ok (.aload_n 1, 1) := by decide +kernel
theorem dX8_isWord_37 : decode cX8_isWord 37 = .ok (.iload_n 3, 1) := by decide +kernel
theorem dX8_isWord_38 : decode cX8_isWord 38 = .ok (.invokevirtual 68, 3) := by decide +kernel
theorem dX8_isWord_41 : decode cX8_isWord 41 = .ok (.aload_n 0, 1) := by decide +kernel
theorem dX8_isWord_42 : decode cX8_isWord 42 = .ok (.getfield 9, 3) := by decide +kernel
theorem dX8_isWord_45 : decode cX8_isWord 45 = .ok (.aload_n 0, 1) := by decide +kernel
theorem dX8_isWord_46 : decode cX8_isWord 46 = .ok (.getfield 33, 3) := by decide +kernel
theorem dX8_isWord_49 : decode cX8_isWord 49 = .ok (.iload_n 3, 1) := by decide +kernel
theorem dX8_isWord_50 : decode cX8_isWord 50 = .ok (.iadd, 1) := by decide +kernel
theorem dX8_isWord_51 : decode cX8_isWord 51 = .ok (.invokestatic 29, 3) := by decide +kernel
theorem dX8_isWord_54 : decode cX8_isWord 54 = .ok (.if_icmp .ne 7, 3) := by decide +kernel
theorem dX8_isWord_57 : decode cX8_isWord 57 = .ok (.iconst 1, 1) := by decide +kernel
theorem dX8_isWord_58 : decode cX8_isWord 58 = .ok (.goto 4, 3) := by decide +kernel
theorem dX8_isWord_61 : decode cX8_isWord 61 = .ok (.iconst 0, 1) := by decide +kernel
theorem dX8_isWord_62 : decode cX8_isWord 62 = .ok (.istore_n 2, 1) := by decide +kernel
theorem dX8_isWord_63 : decode cX8_isWord 63 = .ok (.iinc 3 1, 3) := by decide +kernel
theorem dX8_isWord_66 : decode cX8_isWord 66 = .ok (.goto (-42), 3) := by decide +kernel
theorem dX8_isWord_69 : decode cX8_isWord 69 = .ok (.iload_n 2, 1) := by decide +kernel
theorem dX8_isWord_70 : decode cX8_isWord 70 = .ok (.ireturn, 1) := by decide +kernel
set_option maxRecDepth 20000 in
theorem ggX8_takeNumber_X10_at : GoodIn wsX8_takeNumber wsX10_at := goodIn_r _ [13] (by decide +kernel) (by decide +kernel)
set_option maxRecDepth 20000 in
theorem gX8_takeNumber_X10_at_n29 : GoodIn wsX8_takeNumber (wsX10_at) := ggX8_takeNumber_X10_at
set_option maxRecDepth 20000 in
theorem ggX8_takeNumber_X8_isDigit : GoodIn wsX8_takeNumber wsX8_isDigit := goodIn_r _ [17] (by decide +kernel) (by decide +kernel)
set_option maxRecDepth 20000 in
theorem gX8_takeNumber_X8_isDigit : GoodIn wsX8_takeNumber (va_wsS RX8 46 yX8_isDigit wsX8_isDigit) := goodIn_app (goodIn_of _ (by decide +kernel)) ggX8_takeNumber_X8_isDigit
theorem dX8_takeNumber_0 : decode cX8_takeNumber 0 = .ok (.aload_n 0, 1) := by decide +kernel
theorem dX8_takeNumber_1 : decode cX8_takeNumber 1 = .ok (.iconst 0, 1) := by decide +kernel
theorem dX8_takeNumber_2 : decode cX8_takeNumber 2 = .ok (.putfield 60, 3) := by decide +kernel
theorem dX8_takeNumber_5 : decode cX8_takeNumber 5 = .ok (.aload_n 0, 1) := by decide +kernel
theorem dX8_takeNumber_6 : decode cX8_takeNumber 6 = .ok (.getfield 23, 3) := by decide +kernel
theorem dX8_takeNumber_9 : decode cX8_takeNumber 9 = .ok (.aload_n 0, 1) := by decide +kernel
theorem dX8_takeNumber_10 : decode cX8_takeNumber 10 = .ok (.getfield 15, 3) := by decide +kernel
theorem dX8_takeNumber_13 : decode cX8_takeNumber 13 = .ok (.if_icmp .ge 65, 3) := by decide +kernel
theorem dX8_takeNumber_16 : decode cX8_takeNumber 16 = .ok (.aload_n 0, 1) := by decide +kernel
theorem dX8_takeNumber_17 : decode cX8_takeNumber 17 = .ok (.getfield 9, 3) := by decide +kernel
theorem dX8_takeNumber_20 : decode cX8_takeNumber 20 = .ok (.aload_n 0, 1) := by decide +kernel
theorem dX8_takeNumber_21 : decode cX8_takeNumber 21 = .ok (.getfield 23, 3) := by decide +kernel
theorem dX8_takeNumber_24 : decode cX8_takeNumber 24 = .ok (.invokestatic 29, 3) := by decide +kernel
theorem dX8_takeNumber_27 : decode cX8_takeNumber 27 = .ok (.invokestatic 46, 3) := by decide +kernel
theorem dX8_takeNumber_30 : decode cX8_takeNumber 30 = .ok (.ifCond .eq 48, 3) := by decide +kernel
theorem dX8_takeNumber_33 : decode cX8_takeNumber 33 = .ok (.aload_n 0, 1) := by decide +kernel
theorem dX8_takeNumber_34 : decode cX8_takeNumber 34 = .ok (.sipush 1000, 3) := by decide +kernel
theorem dX8_takeNumber_37 : decode cX8_takeNumber 37 = .ok (.aload_n 0, 1) := by decide +kernel
theorem dX8_takeNumber_38 : decode cX8_takeNumber 38 = .ok (.getfield 60, 3) := by decide +kernel
theorem dX8_takeNumber_41 : decode cX8_takeNumber 41 = .ok (.bipush 10, 2) := by decide +kernel
theorem dX8_takeNumber_43 : decode cX8_takeNumber 43 = .ok (.imul, 1) := by decide +kernel
theorem dX8_takeNumber_44 : decode cX8_takeNumber 44 = .ok (.aload_n 0, 1) := by decide +kernel
theorem dX8_takeNumber_45 : decode cX8_takeNumber 45 = .ok (.getfield 9, 3) := by decide +kernel
theorem dX8_takeNumber_48 : decode cX8_takeNumber 48 = .ok (.aload_n 0, 1) := by decide +kernel
theorem dX8_takeNumber_49 : decode cX8_takeNumber 49 = .ok (.getfield 23, 3) := by decide +kernel
theorem dX8_takeNumber_52 : decode cX8_takeNumber 52 = .ok (.invokestatic 29, 3) := by decide +kernel
theorem dX8_takeNumber_55 : decode cX8_takeNumber 55 = .ok (.iadd, 1) := by decide +kernel
theorem dX8_takeNumber_56 : decode cX8_takeNumber 56 = .ok (.bipush 48, 2) := by decide +kernel
theorem dX8_takeNumber_58 : decode cX8_takeNumber 58 = .ok (.isub, 1) := by decide +kernel
theorem dX8_takeNumber_59 : decode cX8_takeNumber 59 = .ok (.invokestatic 72, 3) := by decide +kernel
theorem dX8_takeNumber_62 : decode cX8_takeNumber 62 = .ok (.putfield 60, 3) := by decide +kernel
theorem dX8_takeNumber_65 : decode cX8_takeNumber 65 = .ok (.aload_n 0, 1) := by decide +kernel
theorem dX8_takeNumber_66 : decode cX8_takeNumber 66 = .ok (.dup, 1) := by decide +kernel
theorem dX8_takeNumber_67 : decode cX8_takeNumber 67 = .ok (.getfield 23, 3) := by decide +kernel
theorem dX8_takeNumber_70 : decode cX8_takeNumber 70 = .ok (.iconst 1, 1) := by decide +kernel
theorem dX8_takeNumber_71 : decode cX8_takeNumber 71 = .ok (.iadd, 1) := by decide +kernel
theorem dX8_takeNumber_72 : decode cX8_takeNumber 72 = .ok (.putfield 23, 3) := by decide +kernel
theorem dX8_takeNumber_75 : decode cX8_takeNumber 75 = .ok (.goto (-70), 3) := by decide +kernel
theorem dX8_takeNumber_78 : decode cX8_takeNumber 78 = .ok (.aload_n 0, 1) := by decide +kernel
theorem dX8_takeNumber_79 : decode cX8_takeNumber 79 = .ok (.getfield 9, 3) := by decide +kernel
theorem dX8_takeNumber_82 : decode cX8_takeNumber 82 = .ok (.aload_n 0, 1) := by decide +kernel
theorem dX8_takeNumber_83 : decode cX8_takeNumber 83 = .ok (.getfield 33, 3) := by decide +kernel
theorem dX8_takeNumber_86 : decode cX8_takeNumber 86 = .ok (.invokestatic 29, 3) := by decide +kernel
theorem dX8_takeNumber_89 : decode cX8_takeNumber 89 = .ok (.bipush 48, 2) := by decide +kernel
theorem dX8_takeNumber_91 : decode cX8_takeNumber 91 = .ok (.if_icmp .ne 20, 3) := by decide +kernel
theorem dX8_takeNumber_94 : decode cX8_takeNumber 94 = .ok (.aload_n 0, 1) := by decide +kernel
theorem dX8_takeNumber_95 : decode cX8_takeNumber 95 = .ok (.getfield 23, 3) := by decide +kernel
theorem dX8_takeNumber_98 : decode cX8_takeNumber 98 = .ok (.aload_n 0, 1) := by decide +kernel
theorem dX8_takeNumber_99 : decode cX8_takeNumber 99 = .ok (.getfield 33, 3) := by decide +kernel
theorem dX8_takeNumber_102 : decode cX8_takeNumber 102 = .ok (.isub, 1) := by decide +kernel
theorem dX8_takeNumber_103 : decode cX8_takeNumber 103 = .ok (.iconst 1, 1) := by decide +kernel
theorem dX8_takeNumber_104 : decode cX8_takeNumber 104 = .ok (.if_icmp .le 7, 3) := by decide +kernel
theorem dX8_takeNumber_107 : decode cX8_takeNumber 107 = .ok (.iconst 1, 1) := by decide +kernel
theorem dX8_takeNumber_108 : decode cX8_takeNumber 108 = .ok (.goto 4, 3) := by decide +kernel
theorem dX8_takeNumber_111 : decode cX8_takeNumber 111 = .ok (.iconst 0, 1) := by decide +kernel
theorem dX8_takeNumber_112 : decode cX8_takeNumber 112 = .ok (.istore_n 1, 1) := by decide +kernel
theorem dX8_takeNumber_113 : decode cX8_takeNumber 113 = .ok (.aload_n 0, 1) := by decide +kernel
theorem dX8_takeNumber_114 : decode cX8_takeNumber 114 = .ok (.aload_n 0, 1) := by decide +kernel
theorem dX8_takeNumber_115 : decode cX8_takeNumber 115 = .ok (.getfield 60, 3) := by decide +kernel
theorem dX8_takeNumber_118 : decode cX8_takeNumber 118 = .ok (.sipush 999, 3) := by decide +kernel
theorem dX8_takeNumber_121 : decode cX8_takeNumber 121 = .ok (.if_icmp .gt 7, 3) := by decide +kernel
theorem dX8_takeNumber_124 : decode cX8_takeNumber 124 = .ok (.iload_n 1, 1) := by decide +kernel
theorem dX8_takeNumber_125 : decode cX8_takeNumber 125 = .ok (.ifCond .eq 7, 3) := by decide +kernel
theorem dX8_takeNumber_128 : decode cX8_takeNumber 128 = .ok (.iconst 4, 1) := by decide +kernel
theorem dX8_takeNumber_129 : decode cX8_takeNumber 129 = .ok (.goto 4, 3) := by decide +kernel
theorem dX8_takeNumber_132 : decode cX8_takeNumber 132 = .ok (.iconst 2, 1) := by decide +kernel
theorem dX8_takeNumber_133 : decode cX8_takeNumber 133 = .ok (.putfield 36, 3) := by decide +kernel
theorem dX8_takeNumber_136 : decode cX8_takeNumber 136 = .ok (.return_, 1) := by decide +kernel
theorem dX8_isLetter_0 : decode cX8_isLetter 0 = .ok (.iload_n 0, 1) := by decide +kernel
theorem dX8_isLetter_1 : decode cX8_isLetter 1 = .ok (.bipush 97, 2) := by decide +kernel
theorem dX8_isLetter_3 : decode cX8_isLetter 3 = .ok (.if_icmp .lt 13, 3) := by decide +kernel
theorem dX8_isLetter_6 : decode cX8_isLetter 6 = .ok (.iload_n 0, 1) := by decide +kernel
theorem dX8_isLetter_7 : decode cX8_isLetter 7 = .ok (.bipush 122, 2) := by decide +kernel
theorem dX8_isLetter_9 : decode cX8_isLetter 9 = .ok (.if_icmp .gt 7, 3) := by decide +kernel
theorem dX8_isLetter_12 : decode cX8_isLetter 12 = .ok (.iconst 1, 1) := by decide +kernel
theorem dX8_isLetter_13 : decode cX8_isLetter 13 = .ok (.goto 4, 3) := by decide +kernel
theorem dX8_isLetter_16 : decode cX8_isLetter 16 = .ok (.iconst 0, 1) := by decide +kernel
theorem dX8_isLetter_17 : decode cX8_isLetter 17 = .ok (.ireturn, 1) := by decide +kernel
theorem dX8_isDigit_0 : decode cX8_isDigit 0 = .ok (.iload_n 0, 1) := by decide +kernel
theorem dX8_isDigit_1 : decode cX8_isDigit 1 = .ok (.bipush 48, 2) := by decide +kernel
theorem dX8_isDigit_3 : decode cX8_isDigit 3 = .ok (.if_icmp .lt 13, 3) := by decide +kernel
theorem dX8_isDigit_6 : decode cX8_isDigit 6 = .ok (.iload_n 0, 1) := by decide +kernel
theorem dX8_isDigit_7 : decode cX8_isDigit 7 = .ok (.bipush 57, 2) := by decide +kernel
theorem dX8_isDigit_9 : decode cX8_isDigit 9 = .ok (.if_icmp .gt 7, 3) := by decide +kernel
theorem dX8_isDigit_12 : decode cX8_isDigit 12 = .ok (.iconst 1, 1) := by decide +kernel
theorem dX8_isDigit_13 : decode cX8_isDigit 13 = .ok (.goto 4, 3) := by decide +kernel
theorem dX8_isDigit_16 : decode cX8_isDigit 16 = .ok (.iconst 0, 1) := by decide +kernel
theorem dX8_isDigit_17 : decode cX8_isDigit 17 = .ok (.ireturn, 1) := by decide +kernel
theorem dX8_nameOf_0 : decode cX8_nameOf 0 = .ok (.iload_n 0, 1) := by decide +kernel
theorem dX8_nameOf_1 : decode cX8_nameOf 1 = .ok (.tableswitch 50 0 4 #[35, 38, 41, 44, 47], 35) := by decide +kernel
theorem dX8_nameOf_36 : decode cX8_nameOf 36 = .ok (.ldc 78, 2) := by decide +kernel
theorem dX8_nameOf_38 : decode cX8_nameOf 38 = .ok (.areturn, 1) := by decide +kernel
theorem dX8_nameOf_39 : decode cX8_nameOf 39 = .ok (.ldc 80, 2) := by decide +kernel
theorem dX8_nameOf_41 : decode cX8_nameOf 41 = .ok (.areturn, 1) := by decide +kernel
theorem dX8_nameOf_42 : decode cX8_nameOf 42 = .ok (.ldc 82, 2) := by decide +kernel
theorem dX8_nameOf_44 : decode cX8_nameOf 44 = .ok (.areturn, 1) := by decide +kernel
theorem dX8_nameOf_45 : decode cX8_nameOf 45 = .ok (.ldc 84, 2) := by decide +kernel
theorem dX8_nameOf_47 : decode cX8_nameOf 47 = .ok (.areturn, 1) := by decide +kernel
theorem dX8_nameOf_48 : decode cX8_nameOf 48 = .ok (.ldc 86, 2) := by decide +kernel
theorem dX8_nameOf_50 : decode cX8_nameOf 50 = .ok (.areturn, 1) := by decide +kernel
theorem dX8_nameOf_51 : decode cX8_nameOf 51 = .ok (.ldc 88, 2) := by decide +kernel
theorem dX8_nameOf_53 : decode cX8_nameOf 53 = .ok (.areturn, 1) := by decide +kernel
theorem dX9_init_0 : decode cX9_init 0 = .ok (.aload_n 0, 1) := by decide +kernel
theorem dX9_init_1 : decode cX9_init 1 = .ok (.invokespecial 3, 3) := by decide +kernel
theorem dX9_init_4 : decode cX9_init 4 = .ok (.aload_n 0, 1) := by decide +kernel
theorem dX9_init_5 : decode cX9_init 5 = .ok (.sipush 2048, 3) := by decide +kernel
theorem dX9_init_8 : decode cX9_init 8 = .ok (.newarray .int, 2) := by decide +kernel
theorem dX9_init_10 : decode cX9_init 10 = .ok (.putfield 9, 3) := by decide +kernel
theorem dX9_init_13 : decode cX9_init 13 = .ok (.return_, 1) := by decide +kernel
theorem dX9_forget_0 : decode cX9_forget 0 = .ok (.aload_n 0, 1) := by decide +kernel
theorem dX9_forget_1 : decode cX9_forget 1 = .ok (.iconst 0, 1) := by decide +kernel
theorem dX9_forget_2 : decode cX9_forget 2 = .ok (.putfield 15, 3) := by decide +kernel
theorem dX9_forget_5 : decode cX9_forget 5 = .ok (.return_, 1) := by decide +kernel
set_option maxRecDepth 20000 in
theorem ggX9_lay_X7_size : GoodIn wsX9_lay wsX7_size := goodIn_r _ [7, 8, 9, 54, 55, 56, 57, 58, 59, 60, 61, 62, 63] (by decide +kernel) (by decide +kernel)
set_option maxRecDepth 20000 in
theorem gX9_lay_X7_size : GoodIn wsX9_lay (wsV RX9 19 RX7 yX7_size wsX7_size) := goodIn_app (goodIn_of _ (by decide +kernel)) ggX9_lay_X7_size
set_option maxRecDepth 20000 in
theorem ggX9_lay_X9_leads : GoodIn wsX9_lay wsX9_leads := goodIn_r _ [13, 14, 15, 16, 6, 17, 18, 19, 20, 21, 8, 22, 23, 24, 25, 26, 27, 28, 9, 29, 30, 31, 32, 33, 34, 35, 36, 37, 38, 39, 40, 41, 42, 43, 44, 45, 46, 47, 54, 55, 56, 57, 58, 59, 60, 61, 62, 63] (by decide +kernel) (by decide +kernel)
set_option maxRecDepth 20000 in
theorem gX9_lay_X9_leads : GoodIn wsX9_lay (va_wsS RX9 25 yX9_leads wsX9_leads) := goodIn_app (goodIn_of _ (by decide +kernel)) ggX9_lay_X9_leads
set_option maxRecDepth 20000 in
theorem ggX9_lay_X10_set : GoodIn wsX9_lay wsX10_set := goodIn_r _ [49] (by decide +kernel) (by decide +kernel)
set_option maxRecDepth 20000 in
theorem gX9_lay_X10_set_n29 : GoodIn wsX9_lay (wsX10_set) := ggX9_lay_X10_set
theorem dX9_lay_0 : decode cX9_lay 0 = .ok (.iload_n 2, 1) := by decide +kernel
theorem dX9_lay_1 : decode cX9_lay 1 = .ok (.aload_n 0, 1) := by decide +kernel
theorem dX9_lay_2 : decode cX9_lay 2 = .ok (.getfield 15, 3) := by decide +kernel
theorem dX9_lay_5 : decode cX9_lay 5 = .ok (.if_icmp .ne 4, 3) := by decide +kernel
theorem dX9_lay_8 : decode cX9_lay 8 = .ok (.return_, 1) := by decide +kernel
theorem dX9_lay_9 : decode cX9_lay 9 = .ok (.iconst 0, 1) := by decide +kernel
theorem dX9_lay_10 : decode cX9_lay 10 = .ok (.istore_n 3, 1) := by decide +kernel
theorem dX9_lay_11 : decode cX9_lay 11 = .ok (.iload_n 3, 1) := by decide +kernel
theorem dX9_lay_12 : decode cX9_lay 12 = .ok (.aload_n 1, 1) := by decide +kernel
theorem dX9_lay_13 : decode cX9_lay 13 = .ok (.invokevirtual 19, 3) := by decide +kernel
theorem dX9_lay_16 : decode cX9_lay 16 = .ok (.if_icmp .ge 47, 3) := by decide +kernel
theorem dX9_lay_19 : decode cX9_lay 19 = .ok (.iconst 0, 1) := by decide +kernel
theorem dX9_lay_20 : decode cX9_lay 20 = .ok (.istore 4, 2) := by decide +kernel
theorem dX9_lay_22 : decode cX9_lay 22 = .ok (.iload 4, 2) := by decide +kernel
theorem dX9_lay_24 : decode cX9_lay 24 = .ok (.bipush 8, 2) := by decide +kernel
theorem dX9_lay_26 : decode cX9_lay 26 = .ok (.if_icmp .ge 31, 3) := by decide +kernel
theorem dX9_lay_29 : decode cX9_lay 29 = .ok (.aload_n 0, 1) := by decide +kernel
theorem dX9_lay_30 : decode cX9_lay 30 = .ok (.getfield 9, 3) := by decide +kernel
theorem dX9_lay_33 : decode cX9_lay 33 = .ok (.iload_n 3, 1) := by decide +kernel
theorem dX9_lay_34 : decode cX9_lay 34 = .ok (.bipush 8, 2) := by decide +kernel
theorem dX9_lay_36 : decode cX9_lay 36 = .ok (.imul, 1) := by decide +kernel
theorem dX9_lay_37 : decode cX9_lay 37 = .ok (.iload 4, 2) := by decide +kernel
theorem dX9_lay_39 : decode cX9_lay 39 = .ok (.iadd, 1) := by decide +kernel
theorem dX9_lay_40 : decode cX9_lay 40 = .ok (.aload_n 1, 1) := by decide +kernel
theorem dX9_lay_41 : decode cX9_lay 41 = .ok (.iload_n 3, 1) := by decide +kernel
theorem dX9_lay_42 : decode cX9_lay 42 = .ok (.iload 4, 2) := by decide +kernel
theorem dX9_lay_44 : decode cX9_lay 44 = .ok (.iload_n 2, 1) := by decide +kernel
theorem dX9_lay_45 : decode cX9_lay 45 = .ok (.invokestatic 25, 3) := by decide +kernel
theorem dX9_lay_48 : decode cX9_lay 48 = .ok (.invokestatic 29, 3) := by decide +kernel
theorem dX9_lay_51 : decode cX9_lay 51 = .ok (.iinc 4 1, 3) := by decide +kernel
theorem dX9_lay_54 : decode cX9_lay 54 = .ok (.goto (-32), 3) := by decide +kernel
theorem dX9_lay_57 : decode cX9_lay 57 = .ok (.iinc 3 1, 3) := by decide +kernel
theorem dX9_lay_60 : decode cX9_lay 60 = .ok (.goto (-49), 3) := by decide +kernel
theorem dX9_lay_63 : decode cX9_lay 63 = .ok (.aload_n 0, 1) := by decide +kernel
theorem dX9_lay_64 : decode cX9_lay 64 = .ok (.iload_n 2, 1) := by decide +kernel
theorem dX9_lay_65 : decode cX9_lay 65 = .ok (.putfield 15, 3) := by decide +kernel
theorem dX9_lay_68 : decode cX9_lay 68 = .ok (.return_, 1) := by decide +kernel
set_option maxRecDepth 20000 in
theorem ggX9_leads_X7_turnsAt : GoodIn wsX9_leads wsX7_turnsAt := goodIn_r _ [5, 6, 7, 8, 4, 9, 10, 11, 12, 13, 14, 15, 16, 17, 18, 19, 20, 21, 22, 23, 24, 25, 26, 27, 28, 29, 30, 31, 32, 33, 34, 35, 38, 39, 40, 41, 42, 43, 44, 45, 46, 47] (by decide +kernel) (by decide +kernel)
set_option maxRecDepth 20000 in
theorem gX9_leads_X7_turnsAt : GoodIn wsX9_leads (wsV RX9 33 RX7 yX7_turnsAt wsX7_turnsAt) := goodIn_app (goodIn_of _ (by decide +kernel)) ggX9_leads_X7_turnsAt
set_option maxRecDepth 20000 in
theorem ggX9_leads_X7_off : GoodIn wsX9_leads wsX7_off := goodIn_r _ [9, 10, 11, 12, 13, 14, 15, 16, 4, 17, 18, 19, 20, 21, 22, 38, 39, 40, 41, 42, 43, 44, 45, 46, 47] (by decide +kernel) (by decide +kernel)
set_option maxRecDepth 20000 in
theorem gX9_leads_X7_off : GoodIn wsX9_leads (wsV RX9 37 RX7 yX7_off wsX7_off) := goodIn_app (goodIn_of _ (by decide +kernel)) ggX9_leads_X7_off
set_option maxRecDepth 20000 in
theorem ggX9_leads_X7_isWood : GoodIn wsX9_leads wsX7_isWood := goodIn_r _ [35, 27, 28, 29, 4, 30, 10, 18, 31, 38, 39, 40, 41, 42, 43, 44, 45, 46, 47] (by decide +kernel) (by decide +kernel)
set_option maxRecDepth 20000 in
theorem gX9_leads_X7_isWood : GoodIn wsX9_leads (wsV RX9 41 RX7 yX7_isWood wsX7_isWood) := goodIn_app (goodIn_of _ (by decide +kernel)) ggX9_leads_X7_isWood
theorem dX9_leads_0 : decode cX9_leads 0 = .ok (.aload_n 0, 1) := by decide +kernel
theorem dX9_leads_1 : decode cX9_leads 1 = .ok (.iload_n 1, 1) := by decide +kernel
theorem dX9_leads_2 : decode cX9_leads 2 = .ok (.iload_n 2, 1) := by decide +kernel
theorem dX9_leads_3 : decode cX9_leads 3 = .ok (.iload_n 3, 1) := by decide +kernel
theorem dX9_leads_4 : decode cX9_leads 4 = .ok (.invokevirtual 33, 3) := by decide +kernel
theorem dX9_leads_7 : decode cX9_leads 7 = .ok (.ifCond .eq 5, 3) := by decide +kernel
theorem dX9_leads_10 : decode cX9_leads 10 = .ok (.iconst (-1), 1) := by decide +kernel
theorem dX9_leads_11 : decode cX9_leads 11 = .ok (.ireturn, 1) := by decide +kernel
theorem dX9_leads_12 : decode cX9_leads 12 = .ok (.aload_n 0, 1) := by decide +kernel
theorem dX9_leads_13 : decode cX9_leads 13 = .ok (.iload_n 1, 1) := by decide +kernel
theorem dX9_leads_14 : decode cX9_leads 14 = .ok (.iload_n 2, 1) := by decide +kernel
theorem dX9_leads_15 : decode cX9_leads 15 = .ok (.iconst 1, 1) := by decide +kernel
theorem dX9_leads_16 : decode cX9_leads 16 = .ok (.invokevirtual 37, 3) := by decide +kernel
theorem dX9_leads_19 : decode cX9_leads 19 = .ok (.istore 4, 2) := by decide +kernel
theorem dX9_leads_21 : decode cX9_leads 21 = .ok (.aload_n 0, 1) := by decide +kernel
theorem dX9_leads_22 : decode cX9_leads 22 = .ok (.iload 4, 2) := by decide +kernel
theorem dX9_leads_24 : decode cX9_leads 24 = .ok (.invokevirtual 41, 3) := by decide +kernel
theorem dX9_leads_27 : decode cX9_leads 27 = .ok (.ifCond .eq 8, 3) := by decide +kernel
theorem dX9_leads_30 : decode cX9_leads 30 = .ok (.iload 4, 2) := by decide +kernel
theorem dX9_leads_32 : decode cX9_leads 32 = .ok (.goto 5, 3) := by decide +kernel
theorem dX9_leads_35 : decode cX9_leads 35 = .ok (.bipush (-2), 2) := by decide +kernel
theorem dX9_leads_37 : decode cX9_leads 37 = .ok (.ireturn, 1) := by decide +kernel
theorem dX9_bind_0 : decode cX9_bind 0 = .ok (.aload_n 0, 1) := by decide +kernel
theorem dX9_bind_1 : decode cX9_bind 1 = .ok (.iload_n 1, 1) := by decide +kernel
theorem dX9_bind_2 : decode cX9_bind 2 = .ok (.putfield 45, 3) := by decide +kernel
theorem dX9_bind_5 : decode cX9_bind 5 = .ok (.aload_n 0, 1) := by decide +kernel
theorem dX9_bind_6 : decode cX9_bind 6 = .ok (.iload_n 2, 1) := by decide +kernel
theorem dX9_bind_7 : decode cX9_bind 7 = .ok (.putfield 48, 3) := by decide +kernel
theorem dX9_bind_10 : decode cX9_bind 10 = .ok (.return_, 1) := by decide +kernel
set_option maxRecDepth 20000 in
theorem ggX9_turnsAt_X10_at : GoodIn wsX9_turnsAt wsX10_at := goodIn_r _ [4] (by decide +kernel) (by decide +kernel)
set_option maxRecDepth 20000 in
theorem gX9_turnsAt_X10_at_n51 : GoodIn wsX9_turnsAt (wsX10_at) := ggX9_turnsAt_X10_at
theorem dX9_turnsAt_0 : decode cX9_turnsAt 0 = .ok (.iload_n 1, 1) := by decide +kernel
theorem dX9_turnsAt_1 : decode cX9_turnsAt 1 = .ok (.ifCond .lt 22, 3) := by decide +kernel
theorem dX9_turnsAt_4 : decode cX9_turnsAt 4 = .ok (.aload_n 0, 1) := by decide +kernel
theorem dX9_turnsAt_5 : decode cX9_turnsAt 5 = .ok (.getfield 9, 3) := by decide +kernel
theorem dX9_turnsAt_8 : decode cX9_turnsAt 8 = .ok (.iload_n 1, 1) := by decide +kernel
theorem dX9_turnsAt_9 : decode cX9_turnsAt 9 = .ok (.bipush 9, 2) := by decide +kernel
theorem dX9_turnsAt_11 : decode cX9_turnsAt 11 = .ok (.idiv, 1) := by decide +kernel
theorem dX9_turnsAt_12 : decode cX9_turnsAt 12 = .ok (.invokestatic 51, 3) := by decide +kernel
theorem dX9_turnsAt_15 : decode cX9_turnsAt 15 = .ok (.iconst (-1), 1) := by decide +kernel
theorem dX9_turnsAt_16 : decode cX9_turnsAt 16 = .ok (.if_icmp .ne 7, 3) := by decide +kernel
theorem dX9_turnsAt_19 : decode cX9_turnsAt 19 = .ok (.iconst 1, 1) := by decide +kernel
theorem dX9_turnsAt_20 : decode cX9_turnsAt 20 = .ok (.goto 4, 3) := by decide +kernel
theorem dX9_turnsAt_23 : decode cX9_turnsAt 23 = .ok (.iconst 0, 1) := by decide +kernel
theorem dX9_turnsAt_24 : decode cX9_turnsAt 24 = .ok (.ireturn, 1) := by decide +kernel
set_option maxRecDepth 20000 in
theorem ggX9_after_X10_at : GoodIn wsX9_after wsX10_at := goodIn_r _ [6] (by decide +kernel) (by decide +kernel)
set_option maxRecDepth 20000 in
theorem gX9_after_X10_at_n51 : GoodIn wsX9_after (wsX10_at) := ggX9_after_X10_at
set_option maxRecDepth 20000 in
theorem ggX9_after_X10_cellOf : GoodIn wsX9_after wsX10_cellOf := goodIn_r _ [8] (by decide +kernel) (by decide +kernel)
set_option maxRecDepth 20000 in
theorem gX9_after_X10_cellOf_n55 : GoodIn wsX9_after (wsX10_cellOf) := ggX9_after_X10_cellOf
set_option maxRecDepth 20000 in
theorem ggX9_after_X10_standOf : GoodIn wsX9_after wsX10_standOf := goodIn_r _ [10] (by decide +kernel) (by decide +kernel)
set_option maxRecDepth 20000 in
theorem gX9_after_X10_standOf_n59 : GoodIn wsX9_after (wsX10_standOf) := ggX9_after_X10_standOf
theorem dX9_after_0 : decode cX9_after 0 = .ok (.iload_n 1, 1) := by decide +kernel
theorem dX9_after_1 : decode cX9_after 1 = .ok (.ifCond .ge 5, 3) := by decide +kernel
theorem dX9_after_4 : decode cX9_after 4 = .ok (.iconst (-1), 1) := by decide +kernel
theorem dX9_after_5 : decode cX9_after 5 = .ok (.ireturn, 1) := by decide +kernel
theorem dX9_after_6 : decode cX9_after 6 = .ok (.iload_n 1, 1) := by decide +kernel
theorem dX9_after_7 : decode cX9_after 7 = .ok (.bipush 9, 2) := by decide +kernel
theorem dX9_after_9 : decode cX9_after 9 = .ok (.idiv, 1) := by decide +kernel
theorem dX9_after_10 : decode cX9_after 10 = .ok (.bipush 8, 2) := by decide +kernel
theorem dX9_after_12 : decode cX9_after 12 = .ok (.irem, 1) := by decide +kernel
theorem dX9_after_13 : decode cX9_after 13 = .ok (.istore_n 2, 1) := by decide +kernel
theorem dX9_after_14 : decode cX9_after 14 = .ok (.iload_n 1, 1) := by decide +kernel
theorem dX9_after_15 : decode cX9_after 15 = .ok (.bipush 9, 2) := by decide +kernel
theorem dX9_after_17 : decode cX9_after 17 = .ok (.irem, 1) := by decide +kernel
theorem dX9_after_18 : decode cX9_after 18 = .ok (.istore_n 3, 1) := by decide +kernel
theorem dX9_after_19 : decode cX9_after 19 = .ok (.aload_n 0, 1) := by decide +kernel
theorem dX9_after_20 : decode cX9_after 20 = .ok (.getfield 9, 3) := by decide +kernel
theorem dX9_after_23 : decode cX9_after 23 = .ok (.iload_n 1, 1) := by decide +kernel
theorem dX9_after_24 : decode cX9_after 24 = .ok (.bipush 9, 2) := by decide +kernel
theorem dX9_after_26 : decode cX9_after 26 = .ok (.idiv, 1) := by decide +kernel
theorem dX9_after_27 : decode cX9_after 27 = .ok (.invokestatic 51, 3) := by decide +kernel
theorem dX9_after_30 : decode cX9_after 30 = .ok (.istore 4, 2) := by decide +kernel
theorem dX9_after_32 : decode cX9_after 32 = .ok (.iload 4, 2) := by decide +kernel
theorem dX9_after_34 : decode cX9_after 34 = .ok (.iconst (-1), 1) := by decide +kernel
theorem dX9_after_35 : decode cX9_after 35 = .ok (.if_icmp .ne 21, 3) := by decide +kernel
theorem dX9_after_38 : decode cX9_after 38 = .ok (.iload_n 1, 1) := by decide +kernel
theorem dX9_after_39 : decode cX9_after 39 = .ok (.invokestatic 55, 3) := by decide +kernel
theorem dX9_after_42 : decode cX9_after 42 = .ok (.iload_n 2, 1) := by decide +kernel
theorem dX9_after_43 : decode cX9_after 43 = .ok (.aload_n 0, 1) := by decide +kernel
theorem dX9_after_44 : decode cX9_after 44 = .ok (.getfield 45, 3) := by decide +kernel
theorem dX9_after_47 : decode cX9_after 47 = .ok (.iadd, 1) := by decide +kernel
theorem dX9_after_48 : decode cX9_after 48 = .ok (.bipush 8, 2) := by decide +kernel
theorem dX9_after_50 : decode cX9_after 50 = .ok (.irem, 1) := by decide +kernel
theorem dX9_after_51 : decode cX9_after 51 = .ok (.iload_n 3, 1) := by decide +kernel
theorem dX9_after_52 : decode cX9_after 52 = .ok (.invokestatic 59, 3) := by decide +kernel
theorem dX9_after_55 : decode cX9_after 55 = .ok (.ireturn, 1) := by decide +kernel
theorem dX9_after_56 : decode cX9_after 56 = .ok (.iload 4, 2) := by decide +kernel
theorem dX9_after_58 : decode cX9_after 58 = .ok (.ifCond .ge 5, 3) := by decide +kernel
theorem dX9_after_61 : decode cX9_after 61 = .ok (.iconst (-1), 1) := by decide +kernel
theorem dX9_after_62 : decode cX9_after 62 = .ok (.ireturn, 1) := by decide +kernel
theorem dX9_after_63 : decode cX9_after 63 = .ok (.aload_n 0, 1) := by decide +kernel
theorem dX9_after_64 : decode cX9_after 64 = .ok (.getfield 48, 3) := by decide +kernel
theorem dX9_after_67 : decode cX9_after 67 = .ok (.ifCond .ne 11, 3) := by decide +kernel
theorem dX9_after_70 : decode cX9_after 70 = .ok (.iload 4, 2) := by decide +kernel
theorem dX9_after_72 : decode cX9_after 72 = .ok (.iload_n 2, 1) := by decide +kernel
theorem dX9_after_73 : decode cX9_after 73 = .ok (.iload_n 3, 1) := by decide +kernel
theorem dX9_after_74 : decode cX9_after 74 = .ok (.invokestatic 59, 3) := by decide +kernel
theorem dX9_after_77 : decode cX9_after 77 = .ok (.ireturn, 1) := by decide +kernel
theorem dX9_after_78 : decode cX9_after 78 = .ok (.iload_n 3, 1) := by decide +kernel
theorem dX9_after_79 : decode cX9_after 79 = .ok (.iconst 1, 1) := by decide +kernel
theorem dX9_after_80 : decode cX9_after 80 = .ok (.iadd, 1) := by decide +kernel
theorem dX9_after_81 : decode cX9_after 81 = .ok (.aload_n 0, 1) := by decide +kernel
theorem dX9_after_82 : decode cX9_after 82 = .ok (.getfield 48, 3) := by decide +kernel
theorem dX9_after_85 : decode cX9_after 85 = .ok (.if_icmp .lt 18, 3) := by decide +kernel
theorem dX9_after_88 : decode cX9_after 88 = .ok (.iload 4, 2) := by decide +kernel
theorem dX9_after_90 : decode cX9_after 90 = .ok (.iload_n 2, 1) := by decide +kernel
theorem dX9_after_91 : decode cX9_after 91 = .ok (.iconst 1, 1) := by decide +kernel
theorem dX9_after_92 : decode cX9_after 92 = .ok (.iadd, 1) := by decide +kernel
theorem dX9_after_93 : decode cX9_after 93 = .ok (.bipush 8, 2) := by decide +kernel
theorem dX9_after_95 : decode cX9_after 95 = .ok (.irem, 1) := by decide +kernel
theorem dX9_after_96 : decode cX9_after 96 = .ok (.iconst 0, 1) := by decide +kernel
theorem dX9_after_97 : decode cX9_after 97 = .ok (.invokestatic 59, 3) := by decide +kernel
theorem dX9_after_100 : decode cX9_after 100 = .ok (.goto 12, 3) := by decide +kernel
theorem dX9_after_103 : decode cX9_after 103 = .ok (.iload 4, 2) := by decide +kernel
theorem dX9_after_105 : decode cX9_after 105 = .ok (.iload_n 2, 1) := by decide +kernel
theorem dX9_after_106 : decode cX9_after 106 = .ok (.iload_n 3, 1) := by decide +kernel
theorem dX9_after_107 : decode cX9_after 107 = .ok (.iconst 1, 1) := by decide +kernel
theorem dX9_after_108 : decode cX9_after 108 = .ok (.iadd, 1) := by decide +kernel
theorem dX9_after_109 : decode cX9_after 109 = .ok (.invokestatic 59, 3) := by decide +kernel
theorem dX9_after_112 : decode cX9_after 112 = .ok (.ireturn, 1) := by decide +kernel
set_option maxRecDepth 20000 in
theorem ggX10_init_X8_init : GoodIn wsX10_init wsX8_init := goodIn_r _ [52, 53, 2, 3, 35, 54, 135, 136, 137, 138, 139, 140] (by decide +kernel) (by decide +kernel)
set_option maxRecDepth 20000 in
theorem gX10_init_X8_init_n11 : GoodIn wsX10_init (wsX8_init) := ggX10_init_X8_init
set_option maxRecDepth 20000 in
theorem ggX10_init_X5_init : GoodIn wsX10_init wsX5_init := goodIn_r _ [57, 58, 2, 3, 35, 59, 60, 159, 160, 161, 162] (by decide +kernel) (by decide +kernel)
set_option maxRecDepth 20000 in
theorem gX10_init_X5_init : GoodIn wsX10_init (wsX5_init) := ggX10_init_X5_init
set_option maxRecDepth 20000 in
theorem ggX10_init_X7_init : GoodIn wsX10_init wsX7_init := goodIn_r _ [63, 64, 2, 3, 35, 65, 66, 67, 68, 14, 69, 70, 71, 72, 73, 74, 75, 76, 77, 78, 163, 164, 165, 166, 167, 168, 169, 170, 171, 172] (by decide +kernel) (by decide +kernel)
set_option maxRecDepth 20000 in
theorem gX10_init_X7_init : GoodIn wsX10_init (wsX7_init) := ggX10_init_X7_init
set_option maxRecDepth 20000 in
theorem ggX10_init_X4_init : GoodIn wsX10_init wsX4_init := goodIn_r _ [80, 81, 2, 3] (by decide +kernel) (by decide +kernel)
set_option maxRecDepth 20000 in
theorem gX10_init_X4_init_n37 : GoodIn wsX10_init (wsX4_init) := ggX10_init_X4_init
set_option maxRecDepth 20000 in
theorem ggX10_init_X0_init : GoodIn wsX10_init wsX0_init := goodIn_r _ [83, 84, 2, 3, 85, 18, 19, 86, 79, 80, 81, 173, 174, 175, 176, 177, 178, 179, 180, 181, 182, 183, 184, 185] (by decide +kernel) (by decide +kernel)
set_option maxRecDepth 20000 in
theorem gX10_init_X0_init_n44 : GoodIn wsX10_init (wsX0_init) := ggX10_init_X0_init
set_option maxRecDepth 20000 in
theorem ggX10_init_X9_init : GoodIn wsX10_init wsX9_init := goodIn_r _ [88, 89, 2, 3, 35, 90, 186, 187, 188, 189] (by decide +kernel) (by decide +kernel)
set_option maxRecDepth 20000 in
theorem gX10_init_X9_init_n54 : GoodIn wsX10_init (wsX9_init) := ggX10_init_X9_init
set_option maxRecDepth 20000 in
theorem ggX10_init_X3_init : GoodIn wsX10_init wsX3_init := goodIn_r _ [93, 94, 2, 3, 35, 95, 190, 191, 192] (by decide +kernel) (by decide +kernel)
set_option maxRecDepth 20000 in
theorem gX10_init_X3_init : GoodIn wsX10_init (wsX3_init) := ggX10_init_X3_init
set_option maxRecDepth 20000 in
theorem ggX10_init_X2_init : GoodIn wsX10_init wsX2_init := goodIn_r _ [98, 99, 2, 3, 100, 193, 194, 195, 196] (by decide +kernel) (by decide +kernel)
set_option maxRecDepth 20000 in
theorem gX10_init_X2_init : GoodIn wsX10_init (wsX2_init) := ggX10_init_X2_init
set_option maxRecDepth 20000 in
theorem ggX10_init_X6_init : GoodIn wsX10_init wsX6_init := goodIn_r _ [103, 104, 2, 3, 35, 105, 106, 107, 108, 197, 198, 199, 200, 201, 202, 203, 204, 205] (by decide +kernel) (by decide +kernel)
set_option maxRecDepth 20000 in
theorem gX10_init_X6_init : GoodIn wsX10_init (wsX6_init) := ggX10_init_X6_init
set_option maxRecDepth 20000 in
theorem ggX10_init_X1_init : GoodIn wsX10_init wsX1_init := goodIn_r _ [110, 111, 2, 3, 35, 112, 113, 206, 207, 208, 209, 210] (by decide +kernel) (by decide +kernel)
set_option maxRecDepth 20000 in
theorem gX10_init_X1_init_n98 : GoodIn wsX10_init (wsX1_init) := ggX10_init_X1_init
set_option maxRecDepth 20000 in
theorem ggX10_init_X4_begin : GoodIn wsX10_init wsX4_begin := goodIn_r _ [117, 118, 119, 120, 121, 122, 123, 124, 125, 126, 127, 128, 129, 19, 130, 131, 132, 133, 134, 163, 164, 165, 166, 167, 168, 169, 170, 171, 172, 173, 174, 175, 176, 177, 178, 179, 180, 181, 182] (by decide +kernel) (by decide +kernel)
set_option maxRecDepth 20000 in
theorem gX10_init_X4_begin : GoodIn wsX10_init (wsV RX10 107 RX4 yX4_begin wsX4_begin) := goodIn_app (goodIn_of _ (by decide +kernel)) ggX10_init_X4_begin
theorem dX10_init_0 : decode cX10_init 0 = .ok (.aload_n 0, 1) := by decide +kernel
theorem dX10_init_1 : decode cX10_init 1 = .ok (.invokespecial 3, 3) := by decide +kernel
theorem dX10_init_4 : decode cX10_init 4 = .ok (.aload_n 0, 1) := by decide +kernel
theorem dX10_init_5 : decode cX10_init 5 = .ok (.new 9, 3) := by decide +kernel
theorem dX10_init_8 : decode cX10_init 8 = .ok (.dup, 1) := by decide +kernel
theorem dX10_init_9 : decode cX10_init 9 = .ok (.invokespecial 11, 3) := by decide +kernel
theorem dX10_init_12 : decode cX10_init 12 = .ok (.putfield 12, 3) := by decide +kernel
theorem dX10_init_15 : decode cX10_init 15 = .ok (.aload_n 0, 1) := by decide +kernel
theorem dX10_init_16 : decode cX10_init 16 = .ok (.new 16, 3) := by decide +kernel
theorem dX10_init_19 : decode cX10_init 19 = .ok (.dup, 1) := by decide +kernel
theorem dX10_init_20 : decode cX10_init 20 = .ok (.aload_n 0, 1) := by decide +kernel
theorem dX10_init_21 : decode cX10_init 21 = .ok (.getfield 12, 3) := by decide +kernel
theorem dX10_init_24 : decode cX10_init 24 = .ok (.invokespecial 18, 3) := by decide +kernel
theorem dX10_init_27 : decode cX10_init 27 = .ok (.putfield 21, 3) := by decide +kernel
theorem dX10_init_30 : decode cX10_init 30 = .ok (.aload_n 0, 1) := by decide +kernel
theorem dX10_init_31 : decode cX10_init 31 = .ok (.new 25, 3) := by decide +kernel
theorem dX10_init_34 : decode cX10_init 34 = .ok (.dup, 1) := by decide +kernel
theorem dX10_init_35 : decode cX10_init 35 = .ok (.invokespecial 27, 3) := by decide +kernel
theorem dX10_init_38 : decode cX10_init 38 = .ok (.putfield 28, 3) := by decide +kernel
theorem dX10_init_41 : decode cX10_init 41 = .ok (.aload_n 0, 1) := by decide +kernel
theorem dX10_init_42 : decode cX10_init 42 = .ok (.new 25, 3) := by decide +kernel
theorem dX10_init_45 : decode cX10_init 45 = .ok (.dup, 1) := by decide +kernel
theorem dX10_init_46 : decode cX10_init 46 = .ok (.invokespecial 27, 3) := by decide +kernel
theorem dX10_init_49 : decode cX10_init 49 = .ok (.putfield 32, 3) := by decide +kernel
theorem dX10_init_52 : decode cX10_init 52 = .ok (.aload_n 0, 1) := by decide +kernel
theorem dX10_init_53 : decode cX10_init 53 = .ok (.new 35, 3) := by decide +kernel
theorem dX10_init_56 : decode cX10_init 56 = .ok (.dup, 1) := by decide +kernel
theorem dX10_init_57 : decode cX10_init 57 = .ok (.invokespecial 37, 3) := by decide +kernel
theorem dX10_init_60 : decode cX10_init 60 = .ok (.putfield 38, 3) := by decide +kernel
theorem dX10_init_63 : decode cX10_init 63 = .ok (.aload_n 0, 1) := by decide +kernel
theorem dX10_init_64 : decode cX10_init 64 = .ok (.new 42, 3) := by decide +kernel
theorem dX10_init_67 : decode cX10_init 67 = .ok (.dup, 1) := by decide +kernel
theorem dX10_init_68 : decode cX10_init 68 = .ok (.invokespecial 44, 3) := by decide +kernel
theorem dX10_init_71 : decode cX10_init 71 = .ok (.putfield 45, 3) := by decide +kernel
theorem dX10_init_74 : decode cX10_init 74 = .ok (.aload_n 0, 1) := by decide +kernel
theorem dX10_init_75 : decode cX10_init 75 = .ok (.new 42, 3) := by decide +kernel
theorem dX10_init_78 : decode cX10_init 78 = .ok (.dup, 1) := by decide +kernel
theorem dX10_init_79 : decode cX10_init 79 = .ok (.invokespecial 44, 3) := by decide +kernel
theorem dX10_init_82 : decode cX10_init 82 = .ok (.putfield 49, 3) := by decide +kernel
theorem dX10_init_85 : decode cX10_init 85 = .ok (.aload_n 0, 1) := by decide +kernel
theorem dX10_init_86 : decode cX10_init 86 = .ok (.new 52, 3) := by decide +kernel
theorem dX10_init_89 : decode cX10_init 89 = .ok (.dup, 1) := by decide +kernel
theorem dX10_init_90 : decode cX10_init 90 = .ok (.invokespecial 54, 3) := by decide +kernel
theorem dX10_init_93 : decode cX10_init 93 = .ok (.putfield 55, 3) := by decide +kernel
theorem dX10_init_96 : decode cX10_init 96 = .ok (.aload_n 0, 1) := by decide +kernel
theorem dX10_init_97 : decode cX10_init 97 = .ok (.new 59, 3) := by decide +kernel
theorem dX10_init_100 : decode cX10_init 100 = .ok (.dup, 1) := by decide +kernel
theorem dX10_init_101 : decode cX10_init 101 = .ok (.sipush 18432, 3) := by decide +kernel
theorem dX10_init_104 : decode cX10_init 104 = .ok (.invokespecial 61, 3) := by decide +kernel
theorem dX10_init_107 : decode cX10_init 107 = .ok (.putfield 64, 3) := by decide +kernel
theorem dX10_init_110 : decode cX10_init 110 = .ok (.aload_n 0, 1) := by decide +kernel
theorem dX10_init_111 : decode cX10_init 111 = .ok (.new 59, 3) := by decide +kernel
theorem dX10_init_114 : decode cX10_init 114 = .ok (.dup, 1) := by decide +kernel
theorem dX10_init_115 : decode cX10_init 115 = .ok (.sipush 256, 3) := by decide +kernel
theorem dX10_init_118 : decode cX10_init 118 = .ok (.invokespecial 61, 3) := by decide +kernel
theorem dX10_init_121 : decode cX10_init 121 = .ok (.putfield 68, 3) := by decide +kernel
theorem dX10_init_124 : decode cX10_init 124 = .ok (.aload_n 0, 1) := by decide +kernel
theorem dX10_init_125 : decode cX10_init 125 = .ok (.sipush 18432, 3) := by decide +kernel
theorem dX10_init_128 : decode cX10_init 128 = .ok (.newarray .int, 2) := by decide +kernel
theorem dX10_init_130 : decode cX10_init 130 = .ok (.putfield 71, 3) := by decide +kernel
theorem dX10_init_133 : decode cX10_init 133 = .ok (.aload_n 0, 1) := by decide +kernel
