theorem dX10_init_134 : decode cX10_init 134 = .ok (.new 75, 3) := by decide +kernel
theorem dX10_init_137 : decode cX10_init 137 = .ok (.dup, 1) := by decide +kernel
theorem dX10_init_138 : decode cX10_init 138 = .ok (.aload_n 0, 1) := by decide +kernel
theorem dX10_init_139 : decode cX10_init 139 = .ok (.getfield 68, 3) := by decide +kernel
theorem dX10_init_142 : decode cX10_init 142 = .ok (.invokespecial 77, 3) := by decide +kernel
theorem dX10_init_145 : decode cX10_init 145 = .ok (.putfield 80, 3) := by decide +kernel
theorem dX10_init_148 : decode cX10_init 148 = .ok (.aload_n 0, 1) := by decide +kernel
theorem dX10_init_149 : decode cX10_init 149 = .ok (.new 84, 3) := by decide +kernel
theorem dX10_init_152 : decode cX10_init 152 = .ok (.dup, 1) := by decide +kernel
theorem dX10_init_153 : decode cX10_init 153 = .ok (.aload_n 0, 1) := by decide +kernel
theorem dX10_init_154 : decode cX10_init 154 = .ok (.getfield 64, 3) := by decide +kernel
theorem dX10_init_157 : decode cX10_init 157 = .ok (.aload_n 0, 1) := by decide +kernel
theorem dX10_init_158 : decode cX10_init 158 = .ok (.getfield 71, 3) := by decide +kernel
theorem dX10_init_161 : decode cX10_init 161 = .ok (.aload_n 0, 1) := by decide +kernel
theorem dX10_init_162 : decode cX10_init 162 = .ok (.getfield 80, 3) := by decide +kernel
theorem dX10_init_165 : decode cX10_init 165 = .ok (.invokespecial 86, 3) := by decide +kernel
theorem dX10_init_168 : decode cX10_init 168 = .ok (.putfield 89, 3) := by decide +kernel
theorem dX10_init_171 : decode cX10_init 171 = .ok (.aload_n 0, 1) := by decide +kernel
theorem dX10_init_172 : decode cX10_init 172 = .ok (.bipush 16, 2) := by decide +kernel
theorem dX10_init_174 : decode cX10_init 174 = .ok (.newarray .int, 2) := by decide +kernel
theorem dX10_init_176 : decode cX10_init 176 = .ok (.putfield 93, 3) := by decide +kernel
theorem dX10_init_179 : decode cX10_init 179 = .ok (.aload_n 0, 1) := by decide +kernel
theorem dX10_init_180 : decode cX10_init 180 = .ok (.new 96, 3) := by decide +kernel
theorem dX10_init_183 : decode cX10_init 183 = .ok (.dup, 1) := by decide +kernel
theorem dX10_init_184 : decode cX10_init 184 = .ok (.invokespecial 98, 3) := by decide +kernel
theorem dX10_init_187 : decode cX10_init 187 = .ok (.putfield 99, 3) := by decide +kernel
theorem dX10_init_190 : decode cX10_init 190 = .ok (.aload_n 0, 1) := by decide +kernel
theorem dX10_init_191 : decode cX10_init 191 = .ok (.iconst 1, 1) := by decide +kernel
theorem dX10_init_192 : decode cX10_init 192 = .ok (.putfield 103, 3) := by decide +kernel
theorem dX10_init_195 : decode cX10_init 195 = .ok (.aload_n 0, 1) := by decide +kernel
theorem dX10_init_196 : decode cX10_init 196 = .ok (.getfield 38, 3) := by decide +kernel
theorem dX10_init_199 : decode cX10_init 199 = .ok (.aload_n 0, 1) := by decide +kernel
theorem dX10_init_200 : decode cX10_init 200 = .ok (.getfield 28, 3) := by decide +kernel
theorem dX10_init_203 : decode cX10_init 203 = .ok (.invokevirtual 107, 3) := by decide +kernel
theorem dX10_init_206 : decode cX10_init 206 = .ok (.return_, 1) := by decide +kernel
set_option maxRecDepth 20000 in
theorem ggX10_type_X8_add : GoodIn wsX10_type wsX8_add := goodIn_r _ [7, 8, 9, 10, 11, 12, 31, 32, 33, 34, 35, 36] (by decide +kernel) (by decide +kernel)
set_option maxRecDepth 20000 in
theorem gX10_type_X8_add : GoodIn wsX10_type (wsV RX10 114 RX8 yX8_add wsX8_add) := goodIn_app (goodIn_of _ (by decide +kernel)) ggX10_type_X8_add
theorem dX10_type_0 : decode cX10_type 0 = .ok (.iload_n 3, 1) := by decide +kernel
theorem dX10_type_1 : decode cX10_type 1 = .ok (.iconst 1, 1) := by decide +kernel
theorem dX10_type_2 : decode cX10_type 2 = .ok (.if_icmp .lt 9, 3) := by decide +kernel
theorem dX10_type_5 : decode cX10_type 5 = .ok (.iload_n 3, 1) := by decide +kernel
theorem dX10_type_6 : decode cX10_type 6 = .ok (.bipush 8, 2) := by decide +kernel
theorem dX10_type_8 : decode cX10_type 8 = .ok (.if_icmp .le 5, 3) := by decide +kernel
theorem dX10_type_11 : decode cX10_type 11 = .ok (.iconst (-1), 1) := by decide +kernel
theorem dX10_type_12 : decode cX10_type 12 = .ok (.ireturn, 1) := by decide +kernel
theorem dX10_type_13 : decode cX10_type 13 = .ok (.aload_n 0, 1) := by decide +kernel
theorem dX10_type_14 : decode cX10_type 14 = .ok (.getfield 12, 3) := by decide +kernel
theorem dX10_type_17 : decode cX10_type 17 = .ok (.getfield 111, 3) := by decide +kernel
theorem dX10_type_20 : decode cX10_type 20 = .ok (.iload_n 3, 1) := by decide +kernel
theorem dX10_type_21 : decode cX10_type 21 = .ok (.iadd, 1) := by decide +kernel
theorem dX10_type_22 : decode cX10_type 22 = .ok (.sipush 300, 3) := by decide +kernel
theorem dX10_type_25 : decode cX10_type 25 = .ok (.if_icmp .le 6, 3) := by decide +kernel
theorem dX10_type_28 : decode cX10_type 28 = .ok (.bipush (-3), 2) := by decide +kernel
theorem dX10_type_30 : decode cX10_type 30 = .ok (.ireturn, 1) := by decide +kernel
theorem dX10_type_31 : decode cX10_type 31 = .ok (.iload_n 3, 1) := by decide +kernel
theorem dX10_type_32 : decode cX10_type 32 = .ok (.iconst 1, 1) := by decide +kernel
theorem dX10_type_33 : decode cX10_type 33 = .ok (.isub, 1) := by decide +kernel
theorem dX10_type_34 : decode cX10_type 34 = .ok (.istore 4, 2) := by decide +kernel
theorem dX10_type_36 : decode cX10_type 36 = .ok (.iload 4, 2) := by decide +kernel
theorem dX10_type_38 : decode cX10_type 38 = .ok (.ifCond .lt 28, 3) := by decide +kernel
theorem dX10_type_41 : decode cX10_type 41 = .ok (.aload_n 0, 1) := by decide +kernel
theorem dX10_type_42 : decode cX10_type 42 = .ok (.getfield 12, 3) := by decide +kernel
theorem dX10_type_45 : decode cX10_type 45 = .ok (.lload_n 1, 1) := by decide +kernel
theorem dX10_type_46 : decode cX10_type 46 = .ok (.bipush 8, 2) := by decide +kernel
theorem dX10_type_48 : decode cX10_type 48 = .ok (.iload 4, 2) := by decide +kernel
theorem dX10_type_50 : decode cX10_type 50 = .ok (.imul, 1) := by decide +kernel
theorem dX10_type_51 : decode cX10_type 51 = .ok (.lushr, 1) := by decide +kernel
theorem dX10_type_52 : decode cX10_type 52 = .ok (.l2i, 1) := by decide +kernel
theorem dX10_type_53 : decode cX10_type 53 = .ok (.sipush 255, 3) := by decide +kernel
theorem dX10_type_56 : decode cX10_type 56 = .ok (.iand, 1) := by decide +kernel
theorem dX10_type_57 : decode cX10_type 57 = .ok (.invokevirtual 114, 3) := by decide +kernel
theorem dX10_type_60 : decode cX10_type 60 = .ok (.iinc 4 (-1), 3) := by decide +kernel
theorem dX10_type_63 : decode cX10_type 63 = .ok (.goto (-27), 3) := by decide +kernel
theorem dX10_type_66 : decode cX10_type 66 = .ok (.aload_n 0, 1) := by decide +kernel
theorem dX10_type_67 : decode cX10_type 67 = .ok (.getfield 12, 3) := by decide +kernel
theorem dX10_type_70 : decode cX10_type 70 = .ok (.getfield 111, 3) := by decide +kernel
theorem dX10_type_73 : decode cX10_type 73 = .ok (.ireturn, 1) := by decide +kernel
theorem dX10_clear_0 : decode cX10_clear 0 = .ok (.aload_n 0, 1) := by decide +kernel
theorem dX10_clear_1 : decode cX10_clear 1 = .ok (.getfield 12, 3) := by decide +kernel
theorem dX10_clear_4 : decode cX10_clear 4 = .ok (.getfield 111, 3) := by decide +kernel
theorem dX10_clear_7 : decode cX10_clear 7 = .ok (.istore_n 1, 1) := by decide +kernel
theorem dX10_clear_8 : decode cX10_clear 8 = .ok (.aload_n 0, 1) := by decide +kernel
theorem dX10_clear_9 : decode cX10_clear 9 = .ok (.getfield 12, 3) := by decide +kernel
theorem dX10_clear_12 : decode cX10_clear 12 = .ok (.iconst 0, 1) := by decide +kernel
theorem dX10_clear_13 : decode cX10_clear 13 = .ok (.putfield 111, 3) := by decide +kernel
theorem dX10_clear_16 : decode cX10_clear 16 = .ok (.iload_n 1, 1) := by decide +kernel
theorem dX10_clear_17 : decode cX10_clear 17 = .ok (.ireturn, 1) := by decide +kernel
set_option maxRecDepth 20000 in
theorem ggX10_table_X5_readInto : GoodIn wsX10_table wsX5_readInto := goodIn_r _ [16, 17, 18, 19, 20, 21, 22, 23, 24, 25, 26, 27, 28, 29, 30, 31, 32, 33, 34, 35, 36, 37, 38, 39, 40, 41, 42, 43, 44, 45, 46, 47, 48, 49, 50, 51, 52, 53, 54, 55, 56, 57, 58, 59, 60, 61, 62, 63, 64, 65, 66, 67, 68, 69, 70, 71, 72, 73, 74, 75, 76, 77, 78, 79, 80, 81, 82, 83, 84, 85, 86, 87, 88, 89, 90, 91, 92, 93, 94, 95, 96, 97, 98, 99, 100, 101, 102, 103, 104, 105, 106, 107, 108, 109, 110, 111, 112, 113, 114, 115, 116, 117, 118, 119, 120, 121, 122, 123, 124, 125, 126, 127, 128, 129, 130, 131, 15, 132, 133, 134, 135, 136, 137, 138, 139, 140, 141, 142, 143, 144, 145, 146, 147, 148, 149, 150, 151, 152, 153, 154, 155, 156, 157, 158, 159, 160, 161, 162, 163, 164, 165, 166, 167, 168, 169, 170, 171, 172, 173, 174, 175, 176, 177, 178, 179, 180, 236, 237, 238, 239, 227, 228, 229, 230, 231, 232, 240, 241, 242, 243, 244, 245, 246, 247, 248, 249] (by decide +kernel) (by decide +kernel)
set_option maxRecDepth 20000 in
theorem gX10_table_X5_readInto : GoodIn wsX10_table (wsV RX10 117 RX5 yX5_readInto wsX5_readInto) := goodIn_app (goodIn_of _ (by decide +kernel)) ggX10_table_X5_readInto
set_option maxRecDepth 20000 in
theorem ggX10_table_X9_forget : GoodIn wsX10_table wsX9_forget := goodIn_r _ [185, 186, 250, 251, 252, 253] (by decide +kernel) (by decide +kernel)
set_option maxRecDepth 20000 in
theorem gX10_table_X9_forget : GoodIn wsX10_table (wsV RX10 128 RX9 yX9_forget wsX9_forget) := goodIn_app (goodIn_of _ (by decide +kernel)) ggX10_table_X9_forget
set_option maxRecDepth 20000 in
theorem ggX10_table_X4_begin : GoodIn wsX10_table wsX4_begin := goodIn_r _ [191, 192, 193, 194, 195, 196, 197, 198, 199, 200, 201, 202, 203, 190, 204, 205, 206, 207, 208, 240, 241, 242, 243, 244, 245, 246, 247, 248, 249, 254, 255, 256, 257, 258, 259, 260, 261, 262, 263] (by decide +kernel) (by decide +kernel)
set_option maxRecDepth 20000 in
theorem gX10_table_X4_begin : GoodIn wsX10_table (wsV RX10 107 RX4 yX4_begin wsX4_begin) := goodIn_app (goodIn_of _ (by decide +kernel)) ggX10_table_X4_begin
theorem dX10_table_0 : decode cX10_table 0 = .ok (.aload_n 0, 1) := by decide +kernel
theorem dX10_table_1 : decode cX10_table 1 = .ok (.getfield 21, 3) := by decide +kernel
theorem dX10_table_4 : decode cX10_table 4 = .ok (.aload_n 0, 1) := by decide +kernel
theorem dX10_table_5 : decode cX10_table 5 = .ok (.getfield 32, 3) := by decide +kernel
theorem dX10_table_8 : decode cX10_table 8 = .ok (.invokevirtual 117, 3) := by decide +kernel
theorem dX10_table_11 : decode cX10_table 11 = .ok (.istore_n 1, 1) := by decide +kernel
theorem dX10_table_12 : decode cX10_table 12 = .ok (.iload_n 1, 1) := by decide +kernel
theorem dX10_table_13 : decode cX10_table 13 = .ok (.ifCond .ge 5, 3) := by decide +kernel
theorem dX10_table_16 : decode cX10_table 16 = .ok (.iload_n 1, 1) := by decide +kernel
theorem dX10_table_17 : decode cX10_table 17 = .ok (.ireturn, 1) := by decide +kernel
theorem dX10_table_18 : decode cX10_table 18 = .ok (.aload_n 0, 1) := by decide +kernel
theorem dX10_table_19 : decode cX10_table 19 = .ok (.getfield 28, 3) := by decide +kernel
theorem dX10_table_22 : decode cX10_table 22 = .ok (.astore_n 2, 1) := by decide +kernel
theorem dX10_table_23 : decode cX10_table 23 = .ok (.aload_n 0, 1) := by decide +kernel
theorem dX10_table_24 : decode cX10_table 24 = .ok (.aload_n 0, 1) := by decide +kernel
theorem dX10_table_25 : decode cX10_table 25 = .ok (.getfield 32, 3) := by decide +kernel
theorem dX10_table_28 : decode cX10_table 28 = .ok (.putfield 28, 3) := by decide +kernel
theorem dX10_table_31 : decode cX10_table 31 = .ok (.aload_n 0, 1) := by decide +kernel
theorem dX10_table_32 : decode cX10_table 32 = .ok (.aload_n 2, 1) := by decide +kernel
theorem dX10_table_33 : decode cX10_table 33 = .ok (.putfield 32, 3) := by decide +kernel
theorem dX10_table_36 : decode cX10_table 36 = .ok (.aload_n 0, 1) := by decide +kernel
theorem dX10_table_37 : decode cX10_table 37 = .ok (.getfield 12, 3) := by decide +kernel
theorem dX10_table_40 : decode cX10_table 40 = .ok (.iconst 0, 1) := by decide +kernel
theorem dX10_table_41 : decode cX10_table 41 = .ok (.putfield 111, 3) := by decide +kernel
theorem dX10_table_44 : decode cX10_table 44 = .ok (.aload_n 0, 1) := by decide +kernel
theorem dX10_table_45 : decode cX10_table 45 = .ok (.iconst 0, 1) := by decide +kernel
theorem dX10_table_46 : decode cX10_table 46 = .ok (.putfield 121, 3) := by decide +kernel
theorem dX10_table_49 : decode cX10_table 49 = .ok (.aload_n 0, 1) := by decide +kernel
theorem dX10_table_50 : decode cX10_table 50 = .ok (.getfield 45, 3) := by decide +kernel
theorem dX10_table_53 : decode cX10_table 53 = .ok (.iconst 0, 1) := by decide +kernel
theorem dX10_table_54 : decode cX10_table 54 = .ok (.putfield 124, 3) := by decide +kernel
theorem dX10_table_57 : decode cX10_table 57 = .ok (.aload_n 0, 1) := by decide +kernel
theorem dX10_table_58 : decode cX10_table 58 = .ok (.getfield 49, 3) := by decide +kernel
theorem dX10_table_61 : decode cX10_table 61 = .ok (.iconst 0, 1) := by decide +kernel
theorem dX10_table_62 : decode cX10_table 62 = .ok (.putfield 124, 3) := by decide +kernel
theorem dX10_table_65 : decode cX10_table 65 = .ok (.aload_n 0, 1) := by decide +kernel
theorem dX10_table_66 : decode cX10_table 66 = .ok (.getfield 55, 3) := by decide +kernel
theorem dX10_table_69 : decode cX10_table 69 = .ok (.invokevirtual 128, 3) := by decide +kernel
theorem dX10_table_72 : decode cX10_table 72 = .ok (.aload_n 0, 1) := by decide +kernel
theorem dX10_table_73 : decode cX10_table 73 = .ok (.getfield 38, 3) := by decide +kernel
theorem dX10_table_76 : decode cX10_table 76 = .ok (.aload_n 0, 1) := by decide +kernel
theorem dX10_table_77 : decode cX10_table 77 = .ok (.getfield 28, 3) := by decide +kernel
theorem dX10_table_80 : decode cX10_table 80 = .ok (.invokevirtual 107, 3) := by decide +kernel
theorem dX10_table_83 : decode cX10_table 83 = .ok (.iload_n 1, 1) := by decide +kernel
theorem dX10_table_84 : decode cX10_table 84 = .ok (.ireturn, 1) := by decide +kernel
set_option maxRecDepth 20000 in
theorem ggX10_cell_X7_has : GoodIn wsX10_cell wsX7_has := goodIn_r _ [6, 7, 8, 36, 37, 38, 39, 40, 41, 42, 43, 44, 45] (by decide +kernel) (by decide +kernel)
set_option maxRecDepth 20000 in
theorem gX10_cell_X7_has : GoodIn wsX10_cell (wsV RX10 131 RX7 yX7_has wsX7_has) := goodIn_app (goodIn_of _ (by decide +kernel)) ggX10_cell_X7_has
set_option maxRecDepth 20000 in
theorem ggX10_cell_X7_numberOf : GoodIn wsX10_cell wsX7_numberOf := goodIn_r _ [12, 7, 36, 37, 38, 39, 40, 41, 42, 43, 44, 45] (by decide +kernel) (by decide +kernel)
set_option maxRecDepth 20000 in
theorem gX10_cell_X7_numberOf : GoodIn wsX10_cell (wsV RX10 135 RX7 yX7_numberOf wsX7_numberOf) := goodIn_app (goodIn_of _ (by decide +kernel)) ggX10_cell_X7_numberOf
set_option maxRecDepth 20000 in
theorem ggX10_cell_X7_kindOf : GoodIn wsX10_cell wsX7_kindOf := goodIn_r _ [16, 7, 8, 17, 36, 37, 38, 39, 40, 41, 42, 43, 44, 45] (by decide +kernel) (by decide +kernel)
set_option maxRecDepth 20000 in
theorem gX10_cell_X7_kindOf : GoodIn wsX10_cell (wsV RX10 139 RX7 yX7_kindOf wsX7_kindOf) := goodIn_app (goodIn_of _ (by decide +kernel)) ggX10_cell_X7_kindOf
theorem dX10_cell_0 : decode cX10_cell 0 = .ok (.aload_n 0, 1) := by decide +kernel
theorem dX10_cell_1 : decode cX10_cell 1 = .ok (.getfield 28, 3) := by decide +kernel
theorem dX10_cell_4 : decode cX10_cell 4 = .ok (.iload_n 1, 1) := by decide +kernel
theorem dX10_cell_5 : decode cX10_cell 5 = .ok (.iload_n 2, 1) := by decide +kernel
theorem dX10_cell_6 : decode cX10_cell 6 = .ok (.invokevirtual 131, 3) := by decide +kernel
theorem dX10_cell_9 : decode cX10_cell 9 = .ok (.ifCond .eq 22, 3) := by decide +kernel
theorem dX10_cell_12 : decode cX10_cell 12 = .ok (.aload_n 0, 1) := by decide +kernel
theorem dX10_cell_13 : decode cX10_cell 13 = .ok (.getfield 28, 3) := by decide +kernel
theorem dX10_cell_16 : decode cX10_cell 16 = .ok (.aload_n 0, 1) := by decide +kernel
theorem dX10_cell_17 : decode cX10_cell 17 = .ok (.getfield 28, 3) := by decide +kernel
theorem dX10_cell_20 : decode cX10_cell 20 = .ok (.iload_n 1, 1) := by decide +kernel
theorem dX10_cell_21 : decode cX10_cell 21 = .ok (.iload_n 2, 1) := by decide +kernel
theorem dX10_cell_22 : decode cX10_cell 22 = .ok (.invokevirtual 135, 3) := by decide +kernel
theorem dX10_cell_25 : decode cX10_cell 25 = .ok (.invokevirtual 139, 3) := by decide +kernel
theorem dX10_cell_28 : decode cX10_cell 28 = .ok (.goto 4, 3) := by decide +kernel
theorem dX10_cell_31 : decode cX10_cell 31 = .ok (.iconst (-1), 1) := by decide +kernel
theorem dX10_cell_32 : decode cX10_cell 32 = .ok (.ireturn, 1) := by decide +kernel
theorem dX10_told_0 : decode cX10_told 0 = .ok (.iload_n 1, 1) := by decide +kernel
theorem dX10_told_1 : decode cX10_told 1 = .ok (.tableswitch 123 0 8 #[51, 59, 67, 75, 83, 91, 99, 107, 115], 51) := by decide +kernel
theorem dX10_told_52 : decode cX10_told 52 = .ok (.aload_n 0, 1) := by decide +kernel
theorem dX10_told_53 : decode cX10_told 53 = .ok (.getfield 28, 3) := by decide +kernel
theorem dX10_told_56 : decode cX10_told 56 = .ok (.getfield 143, 3) := by decide +kernel
theorem dX10_told_59 : decode cX10_told 59 = .ok (.ireturn, 1) := by decide +kernel
theorem dX10_told_60 : decode cX10_told 60 = .ok (.aload_n 0, 1) := by decide +kernel
theorem dX10_told_61 : decode cX10_told 61 = .ok (.getfield 28, 3) := by decide +kernel
theorem dX10_told_64 : decode cX10_told 64 = .ok (.getfield 146, 3) := by decide +kernel
theorem dX10_told_67 : decode cX10_told 67 = .ok (.ireturn, 1) := by decide +kernel
theorem dX10_told_68 : decode cX10_told 68 = .ok (.aload_n 0, 1) := by decide +kernel
theorem dX10_told_69 : decode cX10_told 69 = .ok (.getfield 28, 3) := by decide +kernel
theorem dX10_told_72 : decode cX10_told 72 = .ok (.getfield 149, 3) := by decide +kernel
theorem dX10_told_75 : decode cX10_told 75 = .ok (.ireturn, 1) := by decide +kernel
theorem dX10_told_76 : decode cX10_told 76 = .ok (.aload_n 0, 1) := by decide +kernel
theorem dX10_told_77 : decode cX10_told 77 = .ok (.getfield 28, 3) := by decide +kernel
theorem dX10_told_80 : decode cX10_told 80 = .ok (.getfield 152, 3) := by decide +kernel
theorem dX10_told_83 : decode cX10_told 83 = .ok (.ireturn, 1) := by decide +kernel
theorem dX10_told_84 : decode cX10_told 84 = .ok (.aload_n 0, 1) := by decide +kernel
theorem dX10_told_85 : decode cX10_told 85 = .ok (.getfield 28, 3) := by decide +kernel
theorem dX10_told_88 : decode cX10_told 88 = .ok (.getfield 155, 3) := by decide +kernel
theorem dX10_told_91 : decode cX10_told 91 = .ok (.ireturn, 1) := by decide +kernel
theorem dX10_told_92 : decode cX10_told 92 = .ok (.aload_n 0, 1) := by decide +kernel
theorem dX10_told_93 : decode cX10_told 93 = .ok (.getfield 28, 3) := by decide +kernel
theorem dX10_told_96 : decode cX10_told 96 = .ok (.getfield 158, 3) := by decide +kernel
theorem dX10_told_99 : decode cX10_told 99 = .ok (.ireturn, 1) := by decide +kernel
theorem dX10_told_100 : decode cX10_told 100 = .ok (.aload_n 0, 1) := by decide +kernel
theorem dX10_told_101 : decode cX10_told 101 = .ok (.getfield 28, 3) := by decide +kernel
theorem dX10_told_104 : decode cX10_told 104 = .ok (.getfield 161, 3) := by decide +kernel
theorem dX10_told_107 : decode cX10_told 107 = .ok (.ireturn, 1) := by decide +kernel
theorem dX10_told_108 : decode cX10_told 108 = .ok (.aload_n 0, 1) := by decide +kernel
theorem dX10_told_109 : decode cX10_told 109 = .ok (.getfield 28, 3) := by decide +kernel
theorem dX10_told_112 : decode cX10_told 112 = .ok (.getfield 164, 3) := by decide +kernel
theorem dX10_told_115 : decode cX10_told 115 = .ok (.ireturn, 1) := by decide +kernel
theorem dX10_told_116 : decode cX10_told 116 = .ok (.aload_n 0, 1) := by decide +kernel
theorem dX10_told_117 : decode cX10_told 117 = .ok (.getfield 28, 3) := by decide +kernel
theorem dX10_told_120 : decode cX10_told 120 = .ok (.getfield 167, 3) := by decide +kernel
theorem dX10_told_123 : decode cX10_told 123 = .ok (.ireturn, 1) := by decide +kernel
theorem dX10_told_124 : decode cX10_told 124 = .ok (.iconst (-1), 1) := by decide +kernel
theorem dX10_told_125 : decode cX10_told 125 = .ok (.ireturn, 1) := by decide +kernel
theorem dX10_toy_0 : decode cX10_toy 0 = .ok (.iconst (-1), 1) := by decide +kernel
theorem dX10_toy_1 : decode cX10_toy 1 = .ok (.istore_n 3, 1) := by decide +kernel
theorem dX10_toy_2 : decode cX10_toy 2 = .ok (.iload_n 1, 1) := by decide +kernel
theorem dX10_toy_3 : decode cX10_toy 3 = .ok (.ifCond .ne 32, 3) := by decide +kernel
theorem dX10_toy_6 : decode cX10_toy 6 = .ok (.iload_n 2, 1) := by decide +kernel
theorem dX10_toy_7 : decode cX10_toy 7 = .ok (.iconst 1, 1) := by decide +kernel
theorem dX10_toy_8 : decode cX10_toy 8 = .ok (.if_icmp .lt 27, 3) := by decide +kernel
theorem dX10_toy_11 : decode cX10_toy 11 = .ok (.iload_n 2, 1) := by decide +kernel
theorem dX10_toy_12 : decode cX10_toy 12 = .ok (.iconst 3, 1) := by decide +kernel
theorem dX10_toy_13 : decode cX10_toy 13 = .ok (.if_icmp .gt 22, 3) := by decide +kernel
theorem dX10_toy_16 : decode cX10_toy 16 = .ok (.aload_n 0, 1) := by decide +kernel
theorem dX10_toy_17 : decode cX10_toy 17 = .ok (.getfield 28, 3) := by decide +kernel
theorem dX10_toy_20 : decode cX10_toy 20 = .ok (.getfield 149, 3) := by decide +kernel
theorem dX10_toy_23 : decode cX10_toy 23 = .ok (.istore_n 3, 1) := by decide +kernel
theorem dX10_toy_24 : decode cX10_toy 24 = .ok (.aload_n 0, 1) := by decide +kernel
theorem dX10_toy_25 : decode cX10_toy 25 = .ok (.getfield 28, 3) := by decide +kernel
theorem dX10_toy_28 : decode cX10_toy 28 = .ok (.iload_n 2, 1) := by decide +kernel
theorem dX10_toy_29 : decode cX10_toy 29 = .ok (.putfield 149, 3) := by decide +kernel
theorem dX10_toy_32 : decode cX10_toy 32 = .ok (.goto 69, 3) := by decide +kernel
theorem dX10_toy_35 : decode cX10_toy 35 = .ok (.iload_n 1, 1) := by decide +kernel
theorem dX10_toy_36 : decode cX10_toy 36 = .ok (.iconst 1, 1) := by decide +kernel
theorem dX10_toy_37 : decode cX10_toy 37 = .ok (.if_icmp .ne 33, 3) := by decide +kernel
theorem dX10_toy_40 : decode cX10_toy 40 = .ok (.iload_n 2, 1) := by decide +kernel
theorem dX10_toy_41 : decode cX10_toy 41 = .ok (.iconst 1, 1) := by decide +kernel
theorem dX10_toy_42 : decode cX10_toy 42 = .ok (.if_icmp .lt 28, 3) := by decide +kernel
theorem dX10_toy_45 : decode cX10_toy 45 = .ok (.iload_n 2, 1) := by decide +kernel
theorem dX10_toy_46 : decode cX10_toy 46 = .ok (.bipush 7, 2) := by decide +kernel
theorem dX10_toy_48 : decode cX10_toy 48 = .ok (.if_icmp .gt 22, 3) := by decide +kernel
theorem dX10_toy_51 : decode cX10_toy 51 = .ok (.aload_n 0, 1) := by decide +kernel
theorem dX10_toy_52 : decode cX10_toy 52 = .ok (.getfield 28, 3) := by decide +kernel
theorem dX10_toy_55 : decode cX10_toy 55 = .ok (.getfield 152, 3) := by decide +kernel
theorem dX10_toy_58 : decode cX10_toy 58 = .ok (.istore_n 3, 1) := by decide +kernel
theorem dX10_toy_59 : decode cX10_toy 59 = .ok (.aload_n 0, 1) := by decide +kernel
theorem dX10_toy_60 : decode cX10_toy 60 = .ok (.getfield 28, 3) := by decide +kernel
theorem dX10_toy_63 : decode cX10_toy 63 = .ok (.iload_n 2, 1) := by decide +kernel
theorem dX10_toy_64 : decode cX10_toy 64 = .ok (.putfield 152, 3) := by decide +kernel
theorem dX10_toy_67 : decode cX10_toy 67 = .ok (.goto 34, 3) := by decide +kernel
theorem dX10_toy_70 : decode cX10_toy 70 = .ok (.iload_n 1, 1) := by decide +kernel
theorem dX10_toy_71 : decode cX10_toy 71 = .ok (.iconst 2, 1) := by decide +kernel
theorem dX10_toy_72 : decode cX10_toy 72 = .ok (.if_icmp .ne 29, 3) := by decide +kernel
theorem dX10_toy_75 : decode cX10_toy 75 = .ok (.iload_n 2, 1) := by decide +kernel
theorem dX10_toy_76 : decode cX10_toy 76 = .ok (.ifCond .lt 25, 3) := by decide +kernel
theorem dX10_toy_79 : decode cX10_toy 79 = .ok (.iload_n 2, 1) := by decide +kernel
theorem dX10_toy_80 : decode cX10_toy 80 = .ok (.bipush 9, 2) := by decide +kernel
theorem dX10_toy_82 : decode cX10_toy 82 = .ok (.if_icmp .gt 19, 3) := by decide +kernel
theorem dX10_toy_85 : decode cX10_toy 85 = .ok (.aload_n 0, 1) := by decide +kernel
theorem dX10_toy_86 : decode cX10_toy 86 = .ok (.getfield 28, 3) := by decide +kernel
theorem dX10_toy_89 : decode cX10_toy 89 = .ok (.getfield 155, 3) := by decide +kernel
theorem dX10_toy_92 : decode cX10_toy 92 = .ok (.istore_n 3, 1) := by decide +kernel
theorem dX10_toy_93 : decode cX10_toy 93 = .ok (.aload_n 0, 1) := by decide +kernel
theorem dX10_toy_94 : decode cX10_toy 94 = .ok (.getfield 28, 3) := by decide +kernel
theorem dX10_toy_97 : decode cX10_toy 97 = .ok (.iload_n 2, 1) := by decide +kernel
theorem dX10_toy_98 : decode cX10_toy 98 = .ok (.putfield 155, 3) := by decide +kernel
theorem dX10_toy_101 : decode cX10_toy 101 = .ok (.iload_n 3, 1) := by decide +kernel
theorem dX10_toy_102 : decode cX10_toy 102 = .ok (.ireturn, 1) := by decide +kernel
set_option maxRecDepth 20000 in
theorem ggX10_go_X4_state : GoodIn wsX10_go wsX4_state := goodIn_r _ [7, 8, 9, 10, 11, 12, 13, 14, 15, 16, 17, 18, 19, 20, 21, 102, 103, 104, 105, 106, 107, 108, 109, 110, 111, 112, 113, 114, 115, 116, 117, 118, 119, 120, 121] (by decide +kernel) (by decide +kernel)
set_option maxRecDepth 20000 in
theorem gX10_go_X4_state : GoodIn wsX10_go (wsV RX10 170 RX4 yX4_state wsX4_state) := goodIn_app (goodIn_of _ (by decide +kernel)) ggX10_go_X4_state
set_option maxRecDepth 20000 in
theorem ggX10_go_X4_step : GoodIn wsX10_go wsX4_step := goodIn_r _ [25, 9, 26, 8, 27, 28, 29, 30, 31, 13, 32, 33, 34, 35, 36, 19, 37, 38, 39, 40, 41, 42, 43, 20, 44, 45, 46, 47, 48, 49, 50, 51, 15, 16, 17, 18, 21, 52, 11, 12, 14, 53, 54, 55, 6, 56, 57, 58, 59, 60, 61, 62, 63, 64, 65, 66, 67, 68, 69, 70, 10, 71, 72, 73, 74, 75, 76, 77, 78, 79, 80, 81, 82, 83, 102, 103, 104, 105, 106, 107, 108, 109, 110, 111, 112, 113, 114, 115, 116, 117, 118, 119, 120, 121] (by decide +kernel) (by decide +kernel)
set_option maxRecDepth 20000 in
theorem gX10_go_X4_step : GoodIn wsX10_go (wsV RX10 173 RX4 yX4_step wsX4_step) := goodIn_app (goodIn_of _ (by decide +kernel)) ggX10_go_X4_step
theorem dX10_go_0 : decode cX10_go 0 = .ok (.iload_n 1, 1) := by decide +kernel
theorem dX10_go_1 : decode cX10_go 1 = .ok (.iconst 1, 1) := by decide +kernel
theorem dX10_go_2 : decode cX10_go 2 = .ok (.if_icmp .lt 10, 3) := by decide +kernel
theorem dX10_go_5 : decode cX10_go 5 = .ok (.iload_n 1, 1) := by decide +kernel
theorem dX10_go_6 : decode cX10_go 6 = .ok (.sipush 999, 3) := by decide +kernel
theorem dX10_go_9 : decode cX10_go 9 = .ok (.if_icmp .le 5, 3) := by decide +kernel
theorem dX10_go_12 : decode cX10_go 12 = .ok (.iconst (-1), 1) := by decide +kernel
theorem dX10_go_13 : decode cX10_go 13 = .ok (.ireturn, 1) := by decide +kernel
theorem dX10_go_14 : decode cX10_go 14 = .ok (.aload_n 0, 1) := by decide +kernel
theorem dX10_go_15 : decode cX10_go 15 = .ok (.getfield 38, 3) := by decide +kernel
theorem dX10_go_18 : decode cX10_go 18 = .ok (.aload_n 0, 1) := by decide +kernel
theorem dX10_go_19 : decode cX10_go 19 = .ok (.getfield 28, 3) := by decide +kernel
theorem dX10_go_22 : decode cX10_go 22 = .ok (.invokevirtual 170, 3) := by decide +kernel
theorem dX10_go_25 : decode cX10_go 25 = .ok (.ifCond .eq 6, 3) := by decide +kernel
theorem dX10_go_28 : decode cX10_go 28 = .ok (.bipush (-2), 2) := by decide +kernel
theorem dX10_go_30 : decode cX10_go 30 = .ok (.ireturn, 1) := by decide +kernel
theorem dX10_go_31 : decode cX10_go 31 = .ok (.iconst 0, 1) := by decide +kernel
theorem dX10_go_32 : decode cX10_go 32 = .ok (.istore_n 2, 1) := by decide +kernel
theorem dX10_go_33 : decode cX10_go 33 = .ok (.iload_n 2, 1) := by decide +kernel
theorem dX10_go_34 : decode cX10_go 34 = .ok (.iload_n 1, 1) := by decide +kernel
theorem dX10_go_35 : decode cX10_go 35 = .ok (.if_icmp .ge 34, 3) := by decide +kernel
theorem dX10_go_38 : decode cX10_go 38 = .ok (.aload_n 0, 1) := by decide +kernel
theorem dX10_go_39 : decode cX10_go 39 = .ok (.getfield 38, 3) := by decide +kernel
theorem dX10_go_42 : decode cX10_go 42 = .ok (.aload_n 0, 1) := by decide +kernel
theorem dX10_go_43 : decode cX10_go 43 = .ok (.getfield 28, 3) := by decide +kernel
theorem dX10_go_46 : decode cX10_go 46 = .ok (.invokevirtual 170, 3) := by decide +kernel
theorem dX10_go_49 : decode cX10_go 49 = .ok (.ifCond .ne 20, 3) := by decide +kernel
theorem dX10_go_52 : decode cX10_go 52 = .ok (.aload_n 0, 1) := by decide +kernel
theorem dX10_go_53 : decode cX10_go 53 = .ok (.getfield 38, 3) := by decide +kernel
theorem dX10_go_56 : decode cX10_go 56 = .ok (.aload_n 0, 1) := by decide +kernel
theorem dX10_go_57 : decode cX10_go 57 = .ok (.getfield 28, 3) := by decide +kernel
theorem dX10_go_60 : decode cX10_go 60 = .ok (.invokevirtual 173, 3) := by decide +kernel
theorem dX10_go_63 : decode cX10_go 63 = .ok (.iinc 2 1, 3) := by decide +kernel
theorem dX10_go_66 : decode cX10_go 66 = .ok (.goto (-33), 3) := by decide +kernel
theorem dX10_go_69 : decode cX10_go 69 = .ok (.iload_n 2, 1) := by decide +kernel
theorem dX10_go_70 : decode cX10_go 70 = .ok (.ireturn, 1) := by decide +kernel
set_option maxRecDepth 20000 in
theorem ggX10_wind_X10_isOver : GoodIn wsX10_wind wsX10_isOver := goodIn_r _ [7, 1, 8, 9, 10, 11, 12, 13, 14, 15, 16, 17, 18, 19, 20, 21, 22, 23, 24, 25, 26, 27, 28, 29, 30, 31, 32, 33, 34, 35, 36, 37, 38, 39, 40, 41, 42, 43, 44, 45, 46, 47, 48, 49, 50, 51, 52, 53, 54, 55, 56, 57, 58, 59, 60, 61, 62, 63, 64, 65] (by decide +kernel) (by decide +kernel)
set_option maxRecDepth 20000 in
theorem gX10_wind_X10_isOver : GoodIn wsX10_wind (wsV RX10 176 RX10 yX10_isOver wsX10_isOver) := goodIn_app (goodIn_of _ (by decide +kernel)) ggX10_wind_X10_isOver
theorem dX10_wind_0 : decode cX10_wind 0 = .ok (.iload_n 1, 1) := by decide +kernel
theorem dX10_wind_1 : decode cX10_wind 1 = .ok (.ifCond .lt 10, 3) := by decide +kernel
theorem dX10_wind_4 : decode cX10_wind 4 = .ok (.iload_n 1, 1) := by decide +kernel
theorem dX10_wind_5 : decode cX10_wind 5 = .ok (.sipush 999, 3) := by decide +kernel
theorem dX10_wind_8 : decode cX10_wind 8 = .ok (.if_icmp .le 5, 3) := by decide +kernel
theorem dX10_wind_11 : decode cX10_wind 11 = .ok (.iconst (-1), 1) := by decide +kernel
theorem dX10_wind_12 : decode cX10_wind 12 = .ok (.ireturn, 1) := by decide +kernel
theorem dX10_wind_13 : decode cX10_wind 13 = .ok (.aload_n 0, 1) := by decide +kernel
theorem dX10_wind_14 : decode cX10_wind 14 = .ok (.invokevirtual 176, 3) := by decide +kernel
theorem dX10_wind_17 : decode cX10_wind 17 = .ok (.ifCond .eq 6, 3) := by decide +kernel
theorem dX10_wind_20 : decode cX10_wind 20 = .ok (.bipush (-2), 2) := by decide +kernel
theorem dX10_wind_22 : decode cX10_wind 22 = .ok (.ireturn, 1) := by decide +kernel
theorem dX10_wind_23 : decode cX10_wind 23 = .ok (.aload_n 0, 1) := by decide +kernel
theorem dX10_wind_24 : decode cX10_wind 24 = .ok (.getfield 38, 3) := by decide +kernel
theorem dX10_wind_27 : decode cX10_wind 27 = .ok (.getfield 180, 3) := by decide +kernel
theorem dX10_wind_30 : decode cX10_wind 30 = .ok (.istore_n 2, 1) := by decide +kernel
theorem dX10_wind_31 : decode cX10_wind 31 = .ok (.aload_n 0, 1) := by decide +kernel
theorem dX10_wind_32 : decode cX10_wind 32 = .ok (.getfield 38, 3) := by decide +kernel
theorem dX10_wind_35 : decode cX10_wind 35 = .ok (.iload_n 1, 1) := by decide +kernel
theorem dX10_wind_36 : decode cX10_wind 36 = .ok (.putfield 180, 3) := by decide +kernel
theorem dX10_wind_39 : decode cX10_wind 39 = .ok (.iload_n 2, 1) := by decide +kernel
theorem dX10_wind_40 : decode cX10_wind 40 = .ok (.ireturn, 1) := by decide +kernel
set_option maxRecDepth 20000 in
theorem ggX10_put_X10_isStart : GoodIn wsX10_put wsX10_isStart := goodIn_r _ [7, 8, 9, 10, 6, 11, 2, 12, 13, 14, 15, 16, 17, 18, 19, 20, 21, 22, 23, 24, 25, 26, 27, 37, 38, 39, 40, 41, 42, 43, 44, 45, 46, 47, 48, 49, 50, 51, 52, 53, 54, 55, 56, 57, 58, 59, 60, 61, 62, 63, 64] (by decide +kernel) (by decide +kernel)
set_option maxRecDepth 20000 in
theorem gX10_put_X10_isStart : GoodIn wsX10_put (wsV RX10 181 RX10 yX10_isStart wsX10_isStart) := goodIn_app (goodIn_of _ (by decide +kernel)) ggX10_put_X10_isStart
set_option maxRecDepth 20000 in
theorem ggX10_put_X7_numberOf : GoodIn wsX10_put wsX7_numberOf := goodIn_r _ [22, 17, 55, 56, 57, 58, 59, 60, 61, 62, 63, 64] (by decide +kernel) (by decide +kernel)
set_option maxRecDepth 20000 in
theorem gX10_put_X7_numberOf : GoodIn wsX10_put (wsV RX10 135 RX7 yX7_numberOf wsX7_numberOf) := goodIn_app (goodIn_of _ (by decide +kernel)) ggX10_put_X7_numberOf
set_option maxRecDepth 20000 in
theorem ggX10_put_X4_stand : GoodIn wsX10_put wsX4_stand := goodIn_r _ [32, 33, 34, 35, 36, 65, 66, 67, 68, 69, 70, 71, 72, 73, 74] (by decide +kernel) (by decide +kernel)
set_option maxRecDepth 20000 in
theorem gX10_put_X4_stand : GoodIn wsX10_put (wsV RX10 185 RX4 yX4_stand wsX4_stand) := goodIn_app (goodIn_of _ (by decide +kernel)) ggX10_put_X4_stand
theorem dX10_put_0 : decode cX10_put 0 = .ok (.aload_n 0, 1) := by decide +kernel
theorem dX10_put_1 : decode cX10_put 1 = .ok (.iload_n 1, 1) := by decide +kernel
theorem dX10_put_2 : decode cX10_put 2 = .ok (.iload_n 2, 1) := by decide +kernel
theorem dX10_put_3 : decode cX10_put 3 = .ok (.iload_n 3, 1) := by decide +kernel
theorem dX10_put_4 : decode cX10_put 4 = .ok (.invokevirtual 181, 3) := by decide +kernel
theorem dX10_put_7 : decode cX10_put 7 = .ok (.ifCond .ne 5, 3) := by decide +kernel
theorem dX10_put_10 : decode cX10_put 10 = .ok (.iconst (-1), 1) := by decide +kernel
theorem dX10_put_11 : decode cX10_put 11 = .ok (.ireturn, 1) := by decide +kernel
theorem dX10_put_12 : decode cX10_put 12 = .ok (.aload_n 0, 1) := by decide +kernel
theorem dX10_put_13 : decode cX10_put 13 = .ok (.getfield 38, 3) := by decide +kernel
theorem dX10_put_16 : decode cX10_put 16 = .ok (.aload_n 0, 1) := by decide +kernel
theorem dX10_put_17 : decode cX10_put 17 = .ok (.getfield 28, 3) := by decide +kernel
theorem dX10_put_20 : decode cX10_put 20 = .ok (.iload_n 1, 1) := by decide +kernel
theorem dX10_put_21 : decode cX10_put 21 = .ok (.iload_n 2, 1) := by decide +kernel
theorem dX10_put_22 : decode cX10_put 22 = .ok (.invokevirtual 135, 3) := by decide +kernel
theorem dX10_put_25 : decode cX10_put 25 = .ok (.iload_n 3, 1) := by decide +kernel
theorem dX10_put_26 : decode cX10_put 26 = .ok (.invokevirtual 185, 3) := by decide +kernel
theorem dX10_put_29 : decode cX10_put 29 = .ok (.iconst 1, 1) := by decide +kernel
theorem dX10_put_30 : decode cX10_put 30 = .ok (.ireturn, 1) := by decide +kernel
set_option maxRecDepth 20000 in
theorem ggX10_isStart_X10_cell : GoodIn wsX10_isStart wsX10_cell := goodIn_r _ [5, 6, 7, 8, 9, 10, 11, 12, 13, 14, 15, 16, 17, 18, 19, 20, 21, 22, 23, 24, 25, 26, 27, 28, 29, 30, 31, 32, 33, 34, 35, 36, 37, 38, 39, 40, 41, 42, 43, 44, 45, 46, 47, 48, 49, 50] (by decide +kernel) (by decide +kernel)
set_option maxRecDepth 20000 in
theorem gX10_isStart_X10_cell : GoodIn wsX10_isStart (wsV RX10 189 RX10 yX10_cell wsX10_cell) := goodIn_app (goodIn_of _ (by decide +kernel)) ggX10_isStart_X10_cell
theorem dX10_isStart_0 : decode cX10_isStart 0 = .ok (.iload_n 3, 1) := by decide +kernel
theorem dX10_isStart_1 : decode cX10_isStart 1 = .ok (.ifCond .lt 22, 3) := by decide +kernel
theorem dX10_isStart_4 : decode cX10_isStart 4 = .ok (.iload_n 3, 1) := by decide +kernel
theorem dX10_isStart_5 : decode cX10_isStart 5 = .ok (.bipush 7, 2) := by decide +kernel
theorem dX10_isStart_7 : decode cX10_isStart 7 = .ok (.if_icmp .gt 16, 3) := by decide +kernel
theorem dX10_isStart_10 : decode cX10_isStart 10 = .ok (.aload_n 0, 1) := by decide +kernel
theorem dX10_isStart_11 : decode cX10_isStart 11 = .ok (.iload_n 1, 1) := by decide +kernel
theorem dX10_isStart_12 : decode cX10_isStart 12 = .ok (.iload_n 2, 1) := by decide +kernel
theorem dX10_isStart_13 : decode cX10_isStart 13 = .ok (.invokevirtual 189, 3) := by decide +kernel
theorem dX10_isStart_16 : decode cX10_isStart 16 = .ok (.ifCond .ne 7, 3) := by decide +kernel
theorem dX10_isStart_19 : decode cX10_isStart 19 = .ok (.iconst 1, 1) := by decide +kernel
theorem dX10_isStart_20 : decode cX10_isStart 20 = .ok (.goto 4, 3) := by decide +kernel
theorem dX10_isStart_23 : decode cX10_isStart 23 = .ok (.iconst 0, 1) := by decide +kernel
theorem dX10_isStart_24 : decode cX10_isStart 24 = .ok (.ireturn, 1) := by decide +kernel
set_option maxRecDepth 20000 in
theorem ggX10_isOver_X4_state : GoodIn wsX10_isOver wsX4_state := goodIn_r _ [7, 8, 9, 10, 11, 12, 13, 14, 15, 16, 17, 18, 19, 20, 21, 40, 41, 42, 43, 44, 45, 46, 47, 48, 49, 50, 51, 52, 53, 54, 55, 56, 57, 58, 59] (by decide +kernel) (by decide +kernel)
set_option maxRecDepth 20000 in
theorem gX10_isOver_X4_state : GoodIn wsX10_isOver (wsV RX10 170 RX4 yX4_state wsX4_state) := goodIn_app (goodIn_of _ (by decide +kernel)) ggX10_isOver_X4_state
theorem dX10_isOver_0 : decode cX10_isOver 0 = .ok (.aload_n 0, 1) := by decide +kernel
theorem dX10_isOver_1 : decode cX10_isOver 1 = .ok (.getfield 38, 3) := by decide +kernel
theorem dX10_isOver_4 : decode cX10_isOver 4 = .ok (.aload_n 0, 1) := by decide +kernel
theorem dX10_isOver_5 : decode cX10_isOver 5 = .ok (.getfield 28, 3) := by decide +kernel
theorem dX10_isOver_8 : decode cX10_isOver 8 = .ok (.invokevirtual 170, 3) := by decide +kernel
theorem dX10_isOver_11 : decode cX10_isOver 11 = .ok (.iconst 2, 1) := by decide +kernel
theorem dX10_isOver_12 : decode cX10_isOver 12 = .ok (.if_icmp .ne 7, 3) := by decide +kernel
theorem dX10_isOver_15 : decode cX10_isOver 15 = .ok (.iconst 1, 1) := by decide +kernel
theorem dX10_isOver_16 : decode cX10_isOver 16 = .ok (.goto 4, 3) := by decide +kernel
theorem dX10_isOver_19 : decode cX10_isOver 19 = .ok (.iconst 0, 1) := by decide +kernel
theorem dX10_isOver_20 : decode cX10_isOver 20 = .ok (.ireturn, 1) := by decide +kernel
set_option maxRecDepth 20000 in
theorem ggX10_anew_X4_begin : GoodIn wsX10_anew wsX4_begin := goodIn_r _ [8, 9, 10, 11, 12, 13, 14, 15, 16, 17, 18, 19, 20, 7, 21, 22, 23, 24, 25, 54, 55, 56, 57, 58, 59, 60, 61, 62, 63, 44, 45, 46, 47, 48, 49, 50, 51, 52, 53] (by decide +kernel) (by decide +kernel)
set_option maxRecDepth 20000 in
theorem gX10_anew_X4_begin : GoodIn wsX10_anew (wsV RX10 107 RX4 yX4_begin wsX4_begin) := goodIn_app (goodIn_of _ (by decide +kernel)) ggX10_anew_X4_begin
theorem dX10_anew_0 : decode cX10_anew 0 = .ok (.aload_n 0, 1) := by decide +kernel
theorem dX10_anew_1 : decode cX10_anew 1 = .ok (.getfield 38, 3) := by decide +kernel
theorem dX10_anew_4 : decode cX10_anew 4 = .ok (.getfield 192, 3) := by decide +kernel
theorem dX10_anew_7 : decode cX10_anew 7 = .ok (.istore_n 1, 1) := by decide +kernel
theorem dX10_anew_8 : decode cX10_anew 8 = .ok (.aload_n 0, 1) := by decide +kernel
theorem dX10_anew_9 : decode cX10_anew 9 = .ok (.getfield 38, 3) := by decide +kernel
theorem dX10_anew_12 : decode cX10_anew 12 = .ok (.aload_n 0, 1) := by decide +kernel
theorem dX10_anew_13 : decode cX10_anew 13 = .ok (.getfield 28, 3) := by decide +kernel
theorem dX10_anew_16 : decode cX10_anew 16 = .ok (.invokevirtual 107, 3) := by decide +kernel
theorem dX10_anew_19 : decode cX10_anew 19 = .ok (.iload_n 1, 1) := by decide +kernel
theorem dX10_anew_20 : decode cX10_anew 20 = .ok (.ireturn, 1) := by decide +kernel
set_option maxRecDepth 20000 in
theorem ggX10_now_X4_state : GoodIn wsX10_now wsX4_state := goodIn_r _ [16, 17, 18, 19, 20, 21, 22, 23, 24, 25, 26, 27, 28, 29, 30, 49, 50, 51, 52, 53, 54, 55, 56, 57, 58, 59, 60, 61, 62, 63, 64, 65, 66, 67, 68] (by decide +kernel) (by decide +kernel)
set_option maxRecDepth 20000 in
theorem gX10_now_X4_state : GoodIn wsX10_now (wsV RX10 170 RX4 yX4_state wsX4_state) := goodIn_app (goodIn_of _ (by decide +kernel)) ggX10_now_X4_state
theorem dX10_now_0 : decode cX10_now 0 = .ok (.iload_n 1, 1) := by decide +kernel
theorem dX10_now_1 : decode cX10_now 1 = .ok (.tableswitch 139 0 9 #[55, 63, 71, 79, 87, 99, 107, 115, 123, 131], 55) := by decide +kernel
theorem dX10_now_56 : decode cX10_now 56 = .ok (.aload_n 0, 1) := by decide +kernel
theorem dX10_now_57 : decode cX10_now 57 = .ok (.getfield 38, 3) := by decide +kernel
theorem dX10_now_60 : decode cX10_now 60 = .ok (.getfield 195, 3) := by decide +kernel
theorem dX10_now_63 : decode cX10_now 63 = .ok (.ireturn, 1) := by decide +kernel
theorem dX10_now_64 : decode cX10_now 64 = .ok (.aload_n 0, 1) := by decide +kernel
theorem dX10_now_65 : decode cX10_now 65 = .ok (.getfield 38, 3) := by decide +kernel
theorem dX10_now_68 : decode cX10_now 68 = .ok (.getfield 197, 3) := by decide +kernel
theorem dX10_now_71 : decode cX10_now 71 = .ok (.ireturn, 1) := by decide +kernel
theorem dX10_now_72 : decode cX10_now 72 = .ok (.aload_n 0, 1) := by decide +kernel
theorem dX10_now_73 : decode cX10_now 73 = .ok (.getfield 38, 3) := by decide +kernel
theorem dX10_now_76 : decode cX10_now 76 = .ok (.getfield 200, 3) := by decide +kernel
theorem dX10_now_79 : decode cX10_now 79 = .ok (.ireturn, 1) := by decide +kernel
theorem dX10_now_80 : decode cX10_now 80 = .ok (.aload_n 0, 1) := by decide +kernel
theorem dX10_now_81 : decode cX10_now 81 = .ok (.getfield 38, 3) := by decide +kernel
theorem dX10_now_84 : decode cX10_now 84 = .ok (.getfield 180, 3) := by decide +kernel
theorem dX10_now_87 : decode cX10_now 87 = .ok (.ireturn, 1) := by decide +kernel
theorem dX10_now_88 : decode cX10_now 88 = .ok (.aload_n 0, 1) := by decide +kernel
theorem dX10_now_89 : decode cX10_now 89 = .ok (.getfield 38, 3) := by decide +kernel
theorem dX10_now_92 : decode cX10_now 92 = .ok (.aload_n 0, 1) := by decide +kernel
theorem dX10_now_93 : decode cX10_now 93 = .ok (.getfield 28, 3) := by decide +kernel
theorem dX10_now_96 : decode cX10_now 96 = .ok (.invokevirtual 170, 3) := by decide +kernel
theorem dX10_now_99 : decode cX10_now 99 = .ok (.ireturn, 1) := by decide +kernel
theorem dX10_now_100 : decode cX10_now 100 = .ok (.aload_n 0, 1) := by decide +kernel
theorem dX10_now_101 : decode cX10_now 101 = .ok (.getfield 38, 3) := by decide +kernel
theorem dX10_now_104 : decode cX10_now 104 = .ok (.getfield 192, 3) := by decide +kernel
theorem dX10_now_107 : decode cX10_now 107 = .ok (.ireturn, 1) := by decide +kernel
theorem dX10_now_108 : decode cX10_now 108 = .ok (.aload_n 0, 1) := by decide +kernel
theorem dX10_now_109 : decode cX10_now 109 = .ok (.getfield 38, 3) := by decide +kernel
theorem dX10_now_112 : decode cX10_now 112 = .ok (.getfield 203, 3) := by decide +kernel
theorem dX10_now_115 : decode cX10_now 115 = .ok (.ireturn, 1) := by decide +kernel
theorem dX10_now_116 : decode cX10_now 116 = .ok (.aload_n 0, 1) := by decide +kernel
theorem dX10_now_117 : decode cX10_now 117 = .ok (.getfield 38, 3) := by decide +kernel
theorem dX10_now_120 : decode cX10_now 120 = .ok (.getfield 206, 3) := by decide +kernel
theorem dX10_now_123 : decode cX10_now 123 = .ok (.ireturn, 1) := by decide +kernel
theorem dX10_now_124 : decode cX10_now 124 = .ok (.aload_n 0, 1) := by decide +kernel
theorem dX10_now_125 : decode cX10_now 125 = .ok (.getfield 38, 3) := by decide +kernel
theorem dX10_now_128 : decode cX10_now 128 = .ok (.getfield 209, 3) := by decide +kernel
theorem dX10_now_131 : decode cX10_now 131 = .ok (.ireturn, 1) := by decide +kernel
theorem dX10_now_132 : decode cX10_now 132 = .ok (.aload_n 0, 1) := by decide +kernel
theorem dX10_now_133 : decode cX10_now 133 = .ok (.getfield 38, 3) := by decide +kernel
theorem dX10_now_136 : decode cX10_now 136 = .ok (.getfield 212, 3) := by decide +kernel
theorem dX10_now_139 : decode cX10_now 139 = .ok (.ireturn, 1) := by decide +kernel
theorem dX10_now_140 : decode cX10_now 140 = .ok (.iconst (-1), 1) := by decide +kernel
theorem dX10_now_141 : decode cX10_now 141 = .ok (.ireturn, 1) := by decide +kernel
set_option maxRecDepth 20000 in
theorem ggX10_layWays_X9_lay : GoodIn wsX10_layWays wsX9_lay := goodIn_r _ [10, 11, 12, 13, 14, 15, 16, 17, 18, 19, 20, 21, 9, 22, 23, 24, 25, 26, 27, 28, 29, 30, 31, 32, 33, 34, 35, 36, 37, 38, 39, 40, 41, 42, 43, 44, 45, 46, 47, 48, 49, 50, 51, 52, 53, 54, 55, 56, 57, 58, 93, 94, 95, 96, 83, 84, 85, 86, 87, 88, 89, 90, 91, 92] (by decide +kernel) (by decide +kernel)
set_option maxRecDepth 20000 in
theorem gX10_layWays_X9_lay : GoodIn wsX10_layWays (wsV RX10 215 RX9 yX9_lay wsX9_lay) := goodIn_app (goodIn_of _ (by decide +kernel)) ggX10_layWays_X9_lay
set_option maxRecDepth 20000 in
theorem ggX10_layWays_X9_bind : GoodIn wsX10_layWays wsX9_bind := goodIn_r _ [62, 63, 64, 93, 94, 95, 96] (by decide +kernel) (by decide +kernel)
set_option maxRecDepth 20000 in
theorem gX10_layWays_X9_bind : GoodIn wsX10_layWays (wsV RX10 219 RX9 yX9_bind wsX9_bind) := goodIn_app (goodIn_of _ (by decide +kernel)) ggX10_layWays_X9_bind
theorem dX10_layWays_0 : decode cX10_layWays 0 = .ok (.aload_n 0, 1) := by decide +kernel
theorem dX10_layWays_1 : decode cX10_layWays 1 = .ok (.getfield 55, 3) := by decide +kernel
theorem dX10_layWays_4 : decode cX10_layWays 4 = .ok (.aload_n 0, 1) := by decide +kernel
theorem dX10_layWays_5 : decode cX10_layWays 5 = .ok (.getfield 28, 3) := by decide +kernel
theorem dX10_layWays_8 : decode cX10_layWays 8 = .ok (.aload_n 0, 1) := by decide +kernel
theorem dX10_layWays_9 : decode cX10_layWays 9 = .ok (.getfield 28, 3) := by decide +kernel
theorem dX10_layWays_12 : decode cX10_layWays 12 = .ok (.getfield 149, 3) := by decide +kernel
theorem dX10_layWays_15 : decode cX10_layWays 15 = .ok (.invokevirtual 215, 3) := by decide +kernel
theorem dX10_layWays_18 : decode cX10_layWays 18 = .ok (.aload_n 0, 1) := by decide +kernel
theorem dX10_layWays_19 : decode cX10_layWays 19 = .ok (.getfield 55, 3) := by decide +kernel
theorem dX10_layWays_22 : decode cX10_layWays 22 = .ok (.aload_n 0, 1) := by decide +kernel
theorem dX10_layWays_23 : decode cX10_layWays 23 = .ok (.getfield 28, 3) := by decide +kernel
theorem dX10_layWays_26 : decode cX10_layWays 26 = .ok (.getfield 152, 3) := by decide +kernel
theorem dX10_layWays_29 : decode cX10_layWays 29 = .ok (.aload_n 0, 1) := by decide +kernel
theorem dX10_layWays_30 : decode cX10_layWays 30 = .ok (.getfield 28, 3) := by decide +kernel
theorem dX10_layWays_33 : decode cX10_layWays 33 = .ok (.getfield 155, 3) := by decide +kernel
theorem dX10_layWays_36 : decode cX10_layWays 36 = .ok (.invokevirtual 219, 3) := by decide +kernel
theorem dX10_layWays_39 : decode cX10_layWays 39 = .ok (.return_, 1) := by decide +kernel
set_option maxRecDepth 20000 in
theorem ggX10_standNow_X10_standOf : GoodIn wsX10_standNow wsX10_standOf := goodIn_r _ [8] (by decide +kernel) (by decide +kernel)
set_option maxRecDepth 20000 in
theorem gX10_standNow_X10_standOf : GoodIn wsX10_standNow (va_wsS RX10 222 yX10_standOf wsX10_standOf) := goodIn_app (goodIn_of _ (by decide +kernel)) ggX10_standNow_X10_standOf
theorem dX10_standNow_0 : decode cX10_standNow 0 = .ok (.aload_n 0, 1) := by decide +kernel
theorem dX10_standNow_1 : decode cX10_standNow 1 = .ok (.getfield 38, 3) := by decide +kernel
theorem dX10_standNow_4 : decode cX10_standNow 4 = .ok (.getfield 195, 3) := by decide +kernel
theorem dX10_standNow_7 : decode cX10_standNow 7 = .ok (.aload_n 0, 1) := by decide +kernel
theorem dX10_standNow_8 : decode cX10_standNow 8 = .ok (.getfield 38, 3) := by decide +kernel
theorem dX10_standNow_11 : decode cX10_standNow 11 = .ok (.getfield 197, 3) := by decide +kernel
theorem dX10_standNow_14 : decode cX10_standNow 14 = .ok (.aload_n 0, 1) := by decide +kernel
theorem dX10_standNow_15 : decode cX10_standNow 15 = .ok (.getfield 38, 3) := by decide +kernel
theorem dX10_standNow_18 : decode cX10_standNow 18 = .ok (.getfield 200, 3) := by decide +kernel
theorem dX10_standNow_21 : decode cX10_standNow 21 = .ok (.invokestatic 222, 3) := by decide +kernel
theorem dX10_standNow_24 : decode cX10_standNow 24 = .ok (.ireturn, 1) := by decide +kernel
set_option maxRecDepth 20000 in
theorem ggX10_round_X10_isOver : GoodIn wsX10_round wsX10_isOver := goodIn_r _ [9, 10, 11, 12, 13, 14, 15, 16, 17, 18, 19, 20, 21, 22, 23, 24, 25, 26, 27, 28, 29, 30, 148, 149, 150, 151, 152, 153, 154, 155, 156, 157, 158, 159, 160, 161, 162, 163, 164, 165, 170, 171, 172, 173, 174, 175, 176, 177, 178, 179, 180, 181, 182, 183, 184, 185, 186, 187, 188, 189] (by decide +kernel) (by decide +kernel)
set_option maxRecDepth 20000 in
theorem gX10_round_X10_isOver : GoodIn wsX10_round (wsV RX10 176 RX10 yX10_isOver wsX10_isOver) := goodIn_app (goodIn_of _ (by decide +kernel)) ggX10_round_X10_isOver
set_option maxRecDepth 20000 in
theorem ggX10_round_X10_layWays : GoodIn wsX10_round wsX10_layWays := goodIn_r _ [34, 35, 11, 36, 37, 38, 39, 40, 41, 42, 43, 44, 45, 46, 47, 48, 22, 49, 28, 29, 50, 51, 52, 53, 54, 55, 56, 57, 58, 59, 60, 61, 8, 62, 63, 64, 65, 66, 67, 68, 69, 70, 71, 72, 73, 74, 24, 25, 26, 27, 30, 75, 20, 21, 23, 76, 77, 78, 79, 80, 81, 82, 83, 84, 85, 148, 149, 150, 151, 152, 153, 154, 155, 156, 157, 158, 159, 160, 161, 162, 163, 164, 165, 180, 181, 182, 183, 184, 185, 186, 187, 188, 189, 190, 191, 192, 193] (by decide +kernel) (by decide +kernel)
set_option maxRecDepth 20000 in
theorem gX10_round_X10_layWays : GoodIn wsX10_round (wsV RX10 226 RX10 yX10_layWays wsX10_layWays) := goodIn_app (goodIn_of _ (by decide +kernel)) ggX10_round_X10_layWays
set_option maxRecDepth 20000 in
theorem ggX10_round_X10_standNow : GoodIn wsX10_round wsX10_standNow := goodIn_r _ [89, 10, 90, 91, 92, 93, 94, 8, 95, 148, 149, 150, 151, 152, 153, 154, 155, 156, 157, 158, 159, 160, 161, 162, 163, 164, 165, 170, 171, 172, 173, 174, 175, 176, 177, 178, 179] (by decide +kernel) (by decide +kernel)
set_option maxRecDepth 20000 in
theorem gX10_round_X10_standNow : GoodIn wsX10_round (wsV RX10 229 RX10 yX10_standNow wsX10_standNow) := goodIn_app (goodIn_of _ (by decide +kernel)) ggX10_round_X10_standNow
set_option maxRecDepth 20000 in
theorem ggX10_round_X10_findRound : GoodIn wsX10_round wsX10_findRound := goodIn_r _ [99, 100, 1, 35, 101, 102, 103, 104, 105, 106, 107, 108, 109, 110, 111, 112, 113, 114, 115, 116, 117, 118, 119, 120, 121, 122, 123, 124, 125, 61, 8, 62, 126, 127, 128, 129, 78, 79, 130, 131, 132, 42, 133, 45, 84, 85, 134, 135, 94, 95, 136, 137, 138, 139, 140, 141, 142, 143, 144, 145, 146, 147, 148, 149, 150, 151, 152, 153, 154, 155, 156, 157, 158, 159, 160, 161, 162, 163, 164, 165, 194, 195, 196, 166, 167, 168, 169, 190, 191, 192, 193] (by decide +kernel) (by decide +kernel)
set_option maxRecDepth 20000 in
theorem gX10_round_X10_findRound : GoodIn wsX10_round (wsV RX10 233 RX10 yX10_findRound wsX10_findRound) := goodIn_app (goodIn_of _ (by decide +kernel)) ggX10_round_X10_findRound
theorem dX10_round_0 : decode cX10_round 0 = .ok (.iload_n 1, 1) := by decide +kernel
theorem dX10_round_1 : decode cX10_round 1 = .ok (.ifCond .lt 8, 3) := by decide +kernel
theorem dX10_round_4 : decode cX10_round 4 = .ok (.iload_n 1, 1) := by decide +kernel
theorem dX10_round_5 : decode cX10_round 5 = .ok (.iconst 3, 1) := by decide +kernel
theorem dX10_round_6 : decode cX10_round 6 = .ok (.if_icmp .le 5, 3) := by decide +kernel
theorem dX10_round_9 : decode cX10_round 9 = .ok (.iconst (-1), 1) := by decide +kernel
theorem dX10_round_10 : decode cX10_round 10 = .ok (.ireturn, 1) := by decide +kernel
theorem dX10_round_11 : decode cX10_round 11 = .ok (.aload_n 0, 1) := by decide +kernel
theorem dX10_round_12 : decode cX10_round 12 = .ok (.invokevirtual 176, 3) := by decide +kernel
theorem dX10_round_15 : decode cX10_round 15 = .ok (.ifCond .eq 6, 3) := by decide +kernel
theorem dX10_round_18 : decode cX10_round 18 = .ok (.bipush (-2), 2) := by decide +kernel
theorem dX10_round_20 : decode cX10_round 20 = .ok (.ireturn, 1) := by decide +kernel
theorem dX10_round_21 : decode cX10_round 21 = .ok (.aload_n 0, 1) := by decide +kernel
theorem dX10_round_22 : decode cX10_round 22 = .ok (.invokevirtual 226, 3) := by decide +kernel
theorem dX10_round_25 : decode cX10_round 25 = .ok (.aload_n 0, 1) := by decide +kernel
theorem dX10_round_26 : decode cX10_round 26 = .ok (.aload_n 0, 1) := by decide +kernel
theorem dX10_round_27 : decode cX10_round 27 = .ok (.invokevirtual 229, 3) := by decide +kernel
theorem dX10_round_30 : decode cX10_round 30 = .ok (.invokevirtual 233, 3) := by decide +kernel
theorem dX10_round_33 : decode cX10_round 33 = .ok (.istore_n 2, 1) := by decide +kernel
theorem dX10_round_34 : decode cX10_round 34 = .ok (.iload_n 1, 1) := by decide +kernel
theorem dX10_round_35 : decode cX10_round 35 = .ok (.tableswitch 43 0 2 #[25, 27, 35], 25) := by decide +kernel
theorem dX10_round_60 : decode cX10_round 60 = .ok (.iload_n 2, 1) := by decide +kernel
theorem dX10_round_61 : decode cX10_round 61 = .ok (.ireturn, 1) := by decide +kernel
theorem dX10_round_62 : decode cX10_round 62 = .ok (.aload_n 0, 1) := by decide +kernel
theorem dX10_round_63 : decode cX10_round 63 = .ok (.getfield 80, 3) := by decide +kernel
theorem dX10_round_66 : decode cX10_round 66 = .ok (.getfield 236, 3) := by decide +kernel
theorem dX10_round_69 : decode cX10_round 69 = .ok (.ireturn, 1) := by decide +kernel
theorem dX10_round_70 : decode cX10_round 70 = .ok (.aload_n 0, 1) := by decide +kernel
theorem dX10_round_71 : decode cX10_round 71 = .ok (.getfield 80, 3) := by decide +kernel
theorem dX10_round_74 : decode cX10_round 74 = .ok (.getfield 237, 3) := by decide +kernel
theorem dX10_round_77 : decode cX10_round 77 = .ok (.ireturn, 1) := by decide +kernel
theorem dX10_round_78 : decode cX10_round 78 = .ok (.aload_n 0, 1) := by decide +kernel
theorem dX10_round_79 : decode cX10_round 79 = .ok (.getfield 80, 3) := by decide +kernel
theorem dX10_round_82 : decode cX10_round 82 = .ok (.getfield 238, 3) := by decide +kernel
theorem dX10_round_85 : decode cX10_round 85 = .ok (.ireturn, 1) := by decide +kernel
set_option maxRecDepth 20000 in
theorem ggX10_findRound_X3_renew : GoodIn wsX10_findRound wsX3_renew := goodIn_r _ [8, 9, 10, 11, 12, 80, 81, 82] (by decide +kernel) (by decide +kernel)
set_option maxRecDepth 20000 in
theorem gX10_findRound_X3_renew : GoodIn wsX10_findRound (wsV RX10 241 RX3 yX3_renew wsX3_renew) := goodIn_app (goodIn_of _ (by decide +kernel)) ggX10_findRound_X3_renew
set_option maxRecDepth 20000 in
theorem ggX10_findRound_X2_empty : GoodIn wsX10_findRound wsX2_empty := goodIn_r _ [17, 18, 19, 20, 83, 84, 85, 86] (by decide +kernel) (by decide +kernel)
set_option maxRecDepth 20000 in
theorem gX10_findRound_X2_empty : GoodIn wsX10_findRound (wsV RX10 244 RX2 yX2_empty wsX2_empty) := goodIn_app (goodIn_of _ (by decide +kernel)) ggX10_findRound_X2_empty
set_option maxRecDepth 20000 in
theorem ggX10_findRound_X3_get : GoodIn wsX10_findRound wsX3_get := goodIn_r _ [24, 12, 9, 25, 26, 27, 28, 29, 30, 31, 80, 81, 82] (by decide +kernel) (by decide +kernel)
set_option maxRecDepth 20000 in
theorem gX10_findRound_X3_get : GoodIn wsX10_findRound (wsV RX10 247 RX3 yX3_get wsX3_get) := goodIn_app (goodIn_of _ (by decide +kernel)) ggX10_findRound_X3_get
set_option maxRecDepth 20000 in
theorem ggX10_findRound_X3_set : GoodIn wsX10_findRound wsX3_set := goodIn_r _ [35, 12, 9, 36, 30, 37, 80, 81, 82] (by decide +kernel) (by decide +kernel)
set_option maxRecDepth 20000 in
theorem gX10_findRound_X3_set : GoodIn wsX10_findRound (wsV RX10 250 RX3 yX3_set wsX3_set) := goodIn_app (goodIn_of _ (by decide +kernel)) ggX10_findRound_X3_set
set_option maxRecDepth 20000 in
theorem ggX10_findRound_X9_after : GoodIn wsX10_findRound wsX9_after := goodIn_r _ [42, 43, 44, 45, 29, 30, 31, 46, 47, 48, 49, 87, 88, 89, 90] (by decide +kernel) (by decide +kernel)
set_option maxRecDepth 20000 in
theorem gX10_findRound_X9_after : GoodIn wsX10_findRound (wsV RX10 253 RX9 yX9_after wsX9_after) := goodIn_app (goodIn_of _ (by decide +kernel)) ggX10_findRound_X9_after
set_option maxRecDepth 20000 in
theorem ggX10_findRound_X2_run : GoodIn wsX10_findRound wsX2_run := goodIn_r _ [53, 54, 20, 19, 18, 55, 14, 15, 16, 17, 56, 5, 6, 7, 8, 9, 10, 11, 12, 57, 39, 40, 41, 42, 43, 44, 45, 29, 30, 31, 46, 47, 48, 49, 58, 59, 60, 61, 83, 84, 85, 86, 80, 81, 82, 87, 88, 89, 90] (by decide +kernel) (by decide +kernel)
set_option maxRecDepth 20000 in
theorem gX10_findRound_X2_run : GoodIn wsX10_findRound (wsV RX10 256 RX2 yX2_run wsX2_run) := goodIn_app (goodIn_of _ (by decide +kernel)) ggX10_findRound_X2_run
theorem dX10_findRound_0 : decode cX10_findRound 0 = .ok (.aload_n 0, 1) := by decide +kernel
theorem dX10_findRound_1 : decode cX10_findRound 1 = .ok (.getfield 64, 3) := by decide +kernel
theorem dX10_findRound_4 : decode cX10_findRound 4 = .ok (.sipush 18433, 3) := by decide +kernel
theorem dX10_findRound_7 : decode cX10_findRound 7 = .ok (.invokevirtual 241, 3) := by decide +kernel
theorem dX10_findRound_10 : decode cX10_findRound 10 = .ok (.aload_n 0, 1) := by decide +kernel
theorem dX10_findRound_11 : decode cX10_findRound 11 = .ok (.getfield 80, 3) := by decide +kernel
theorem dX10_findRound_14 : decode cX10_findRound 14 = .ok (.invokevirtual 244, 3) := by decide +kernel
theorem dX10_findRound_17 : decode cX10_findRound 17 = .ok (.iload_n 1, 1) := by decide +kernel
theorem dX10_findRound_18 : decode cX10_findRound 18 = .ok (.istore_n 2, 1) := by decide +kernel
theorem dX10_findRound_19 : decode cX10_findRound 19 = .ok (.iconst 0, 1) := by decide +kernel
theorem dX10_findRound_20 : decode cX10_findRound 20 = .ok (.istore_n 3, 1) := by decide +kernel
theorem dX10_findRound_21 : decode cX10_findRound 21 = .ok (.iload_n 3, 1) := by decide +kernel
theorem dX10_findRound_22 : decode cX10_findRound 22 = .ok (.sipush 18432, 3) := by decide +kernel
theorem dX10_findRound_25 : decode cX10_findRound 25 = .ok (.if_icmp .gt 43, 3) := by decide +kernel
theorem dX10_findRound_28 : decode cX10_findRound 28 = .ok (.iload_n 2, 1) := by decide +kernel
theorem dX10_findRound_29 : decode cX10_findRound 29 = .ok (.iconst (-1), 1) := by decide +kernel
theorem dX10_findRound_30 : decode cX10_findRound 30 = .ok (.if_icmp .eq 38, 3) := by decide +kernel
theorem dX10_findRound_33 : decode cX10_findRound 33 = .ok (.aload_n 0, 1) := by decide +kernel
theorem dX10_findRound_34 : decode cX10_findRound 34 = .ok (.getfield 64, 3) := by decide +kernel
theorem dX10_findRound_37 : decode cX10_findRound 37 = .ok (.iload_n 2, 1) := by decide +kernel
theorem dX10_findRound_38 : decode cX10_findRound 38 = .ok (.invokevirtual 247, 3) := by decide +kernel
theorem dX10_findRound_41 : decode cX10_findRound 41 = .ok (.ifCond .ne 27, 3) := by decide +kernel
theorem dX10_findRound_44 : decode cX10_findRound 44 = .ok (.iinc 3 1, 3) := by decide +kernel
theorem dX10_findRound_47 : decode cX10_findRound 47 = .ok (.aload_n 0, 1) := by decide +kernel
theorem dX10_findRound_48 : decode cX10_findRound 48 = .ok (.getfield 64, 3) := by decide +kernel
theorem dX10_findRound_51 : decode cX10_findRound 51 = .ok (.iload_n 2, 1) := by decide +kernel
theorem dX10_findRound_52 : decode cX10_findRound 52 = .ok (.iload_n 3, 1) := by decide +kernel
theorem dX10_findRound_53 : decode cX10_findRound 53 = .ok (.invokevirtual 250, 3) := by decide +kernel
theorem dX10_findRound_56 : decode cX10_findRound 56 = .ok (.aload_n 0, 1) := by decide +kernel
theorem dX10_findRound_57 : decode cX10_findRound 57 = .ok (.getfield 55, 3) := by decide +kernel
theorem dX10_findRound_60 : decode cX10_findRound 60 = .ok (.iload_n 2, 1) := by decide +kernel
theorem dX10_findRound_61 : decode cX10_findRound 61 = .ok (.invokevirtual 253, 3) := by decide +kernel
theorem dX10_findRound_64 : decode cX10_findRound 64 = .ok (.istore_n 2, 1) := by decide +kernel
theorem dX10_findRound_65 : decode cX10_findRound 65 = .ok (.goto (-44), 3) := by decide +kernel
theorem dX10_findRound_68 : decode cX10_findRound 68 = .ok (.iload_n 2, 1) := by decide +kernel
theorem dX10_findRound_69 : decode cX10_findRound 69 = .ok (.iconst (-1), 1) := by decide +kernel
theorem dX10_findRound_70 : decode cX10_findRound 70 = .ok (.if_icmp .ne 5, 3) := by decide +kernel
theorem dX10_findRound_73 : decode cX10_findRound 73 = .ok (.iload_n 3, 1) := by decide +kernel
theorem dX10_findRound_74 : decode cX10_findRound 74 = .ok (.ireturn, 1) := by decide +kernel
theorem dX10_findRound_75 : decode cX10_findRound 75 = .ok (.aload_n 0, 1) := by decide +kernel
theorem dX10_findRound_76 : decode cX10_findRound 76 = .ok (.getfield 80, 3) := by decide +kernel
theorem dX10_findRound_79 : decode cX10_findRound 79 = .ok (.aload_n 0, 1) := by decide +kernel
theorem dX10_findRound_80 : decode cX10_findRound 80 = .ok (.getfield 55, 3) := by decide +kernel
theorem dX10_findRound_83 : decode cX10_findRound 83 = .ok (.iload_n 2, 1) := by decide +kernel
theorem dX10_findRound_84 : decode cX10_findRound 84 = .ok (.invokevirtual 256, 3) := by decide +kernel
theorem dX10_findRound_87 : decode cX10_findRound 87 = .ok (.aload_n 0, 1) := by decide +kernel
theorem dX10_findRound_88 : decode cX10_findRound 88 = .ok (.getfield 64, 3) := by decide +kernel
theorem dX10_findRound_91 : decode cX10_findRound 91 = .ok (.iload_n 2, 1) := by decide +kernel
theorem dX10_findRound_92 : decode cX10_findRound 92 = .ok (.invokevirtual 247, 3) := by decide +kernel
theorem dX10_findRound_95 : decode cX10_findRound 95 = .ok (.iconst 1, 1) := by decide +kernel
theorem dX10_findRound_96 : decode cX10_findRound 96 = .ok (.isub, 1) := by decide +kernel
theorem dX10_findRound_97 : decode cX10_findRound 97 = .ok (.ireturn, 1) := by decide +kernel
set_option maxRecDepth 20000 in
theorem ggX10_starts_X10_layWays : GoodIn wsX10_starts wsX10_layWays := goodIn_r _ [13, 3, 2, 14, 15, 16, 17, 18, 19, 20, 21, 22, 23, 24, 25, 26, 27, 28, 29, 30, 31, 32, 33, 34, 35, 36, 37, 38, 39, 40, 41, 42, 12, 43, 44, 45, 46, 47, 48, 49, 50, 51, 52, 53, 54, 55, 56, 57, 58, 59, 60, 61, 62, 63, 64, 65, 66, 67, 68, 69, 70, 71, 72, 73, 74, 150, 151, 152, 153, 154, 155, 156, 157, 158, 159, 160, 161, 162, 163, 164, 165, 166, 167, 177, 178, 179, 180, 181, 182, 183, 184, 185, 186, 187, 188, 189, 190] (by decide +kernel) (by decide +kernel)
set_option maxRecDepth 20000 in
theorem gX10_starts_X10_layWays : GoodIn wsX10_starts (wsV RX10 226 RX10 yX10_layWays wsX10_layWays) := goodIn_app (goodIn_of _ (by decide +kernel)) ggX10_starts_X10_layWays
set_option maxRecDepth 20000 in
theorem ggX10_starts_X6_survey : GoodIn wsX10_starts wsX6_survey := goodIn_r _ [79, 80, 81, 82, 83, 84, 85, 86, 87, 88, 89, 90, 91, 92, 93, 94, 95, 96, 25, 26, 27, 28, 29, 30, 97, 57, 58, 59, 60, 98, 12, 99, 100, 101, 102, 78, 103, 104, 105, 106, 107, 108, 109, 110, 111, 112, 42, 43, 113, 114, 115, 116, 67, 68, 117, 118, 119, 20, 120, 23, 73, 74, 121, 122, 123, 124, 125, 126, 127, 128, 129, 130, 131, 132, 133, 134, 135, 136, 137, 138, 139, 140, 141, 142, 143, 144, 145, 146, 147, 148, 149, 168, 169, 170, 171, 172, 173, 174, 175, 176, 191, 192, 193, 177, 178, 179, 180, 181, 182, 183, 184, 185, 186, 187, 188, 189, 190, 194, 195, 196, 197] (by decide +kernel) (by decide +kernel)
set_option maxRecDepth 20000 in
theorem gX10_starts_X6_survey : GoodIn wsX10_starts (wsV RX10 260 RX6 yX6_survey wsX6_survey) := goodIn_app (goodIn_of _ (by decide +kernel)) ggX10_starts_X6_survey
theorem dX10_starts_0 : decode cX10_starts 0 = .ok (.iload_n 1, 1) := by decide +kernel
theorem dX10_starts_1 : decode cX10_starts 1 = .ok (.ifCond .lt 8, 3) := by decide +kernel
theorem dX10_starts_4 : decode cX10_starts 4 = .ok (.iload_n 1, 1) := by decide +kernel
theorem dX10_starts_5 : decode cX10_starts 5 = .ok (.iconst 4, 1) := by decide +kernel
theorem dX10_starts_6 : decode cX10_starts 6 = .ok (.if_icmp .le 5, 3) := by decide +kernel
theorem dX10_starts_9 : decode cX10_starts 9 = .ok (.iconst (-1), 1) := by decide +kernel
theorem dX10_starts_10 : decode cX10_starts 10 = .ok (.ireturn, 1) := by decide +kernel
theorem dX10_starts_11 : decode cX10_starts 11 = .ok (.aload_n 0, 1) := by decide +kernel
theorem dX10_starts_12 : decode cX10_starts 12 = .ok (.invokevirtual 226, 3) := by decide +kernel
theorem dX10_starts_15 : decode cX10_starts 15 = .ok (.aload_n 0, 1) := by decide +kernel
theorem dX10_starts_16 : decode cX10_starts 16 = .ok (.getfield 89, 3) := by decide +kernel
theorem dX10_starts_19 : decode cX10_starts 19 = .ok (.aload_n 0, 1) := by decide +kernel
theorem dX10_starts_20 : decode cX10_starts 20 = .ok (.getfield 28, 3) := by decide +kernel
theorem dX10_starts_23 : decode cX10_starts 23 = .ok (.aload_n 0, 1) := by decide +kernel
theorem dX10_starts_24 : decode cX10_starts 24 = .ok (.getfield 55, 3) := by decide +kernel
theorem dX10_starts_27 : decode cX10_starts 27 = .ok (.invokevirtual 260, 3) := by decide +kernel
theorem dX10_starts_30 : decode cX10_starts 30 = .ok (.iload_n 1, 1) := by decide +kernel
theorem dX10_starts_31 : decode cX10_starts 31 = .ok (.tableswitch 61 0 3 #[29, 37, 45, 53], 29) := by decide +kernel
theorem dX10_starts_60 : decode cX10_starts 60 = .ok (.aload_n 0, 1) := by decide +kernel
theorem dX10_starts_61 : decode cX10_starts 61 = .ok (.getfield 89, 3) := by decide +kernel
theorem dX10_starts_64 : decode cX10_starts 64 = .ok (.getfield 264, 3) := by decide +kernel
theorem dX10_starts_67 : decode cX10_starts 67 = .ok (.ireturn, 1) := by decide +kernel
theorem dX10_starts_68 : decode cX10_starts 68 = .ok (.aload_n 0, 1) := by decide +kernel
theorem dX10_starts_69 : decode cX10_starts 69 = .ok (.getfield 89, 3) := by decide +kernel
theorem dX10_starts_72 : decode cX10_starts 72 = .ok (.getfield 267, 3) := by decide +kernel
theorem dX10_starts_75 : decode cX10_starts 75 = .ok (.ireturn, 1) := by decide +kernel
theorem dX10_starts_76 : decode cX10_starts 76 = .ok (.aload_n 0, 1) := by decide +kernel
theorem dX10_starts_77 : decode cX10_starts 77 = .ok (.getfield 89, 3) := by decide +kernel
theorem dX10_starts_80 : decode cX10_starts 80 = .ok (.getfield 270, 3) := by decide +kernel
theorem dX10_starts_83 : decode cX10_starts 83 = .ok (.ireturn, 1) := by decide +kernel
theorem dX10_starts_84 : decode cX10_starts 84 = .ok (.aload_n 0, 1) := by decide +kernel
theorem dX10_starts_85 : decode cX10_starts 85 = .ok (.getfield 89, 3) := by decide +kernel
theorem dX10_starts_88 : decode cX10_starts 88 = .ok (.getfield 273, 3) := by decide +kernel
theorem dX10_starts_91 : decode cX10_starts 91 = .ok (.ireturn, 1) := by decide +kernel
theorem dX10_starts_92 : decode cX10_starts 92 = .ok (.aload_n 0, 1) := by decide +kernel
theorem dX10_starts_93 : decode cX10_starts 93 = .ok (.getfield 89, 3) := by decide +kernel
theorem dX10_starts_96 : decode cX10_starts 96 = .ok (.getfield 276, 3) := by decide +kernel
theorem dX10_starts_99 : decode cX10_starts 99 = .ok (.ireturn, 1) := by decide +kernel
set_option maxRecDepth 20000 in
theorem ggX10_rings_X10_layWays : GoodIn wsX10_rings wsX10_layWays := goodIn_r _ [8, 3, 2, 9, 10, 11, 12, 13, 14, 15, 16, 17, 18, 19, 20, 21, 22, 23, 24, 25, 26, 27, 28, 29, 30, 31, 32, 33, 34, 35, 36, 37, 7, 38, 39, 40, 41, 42, 43, 44, 45, 46, 47, 48, 49, 50, 51, 52, 53, 54, 55, 56, 57, 58, 59, 60, 61, 62, 63, 64, 65, 66, 67, 68, 69, 116, 117, 118, 119, 120, 121, 122, 123, 124, 125, 126, 127, 128, 129, 130, 131, 132, 133, 134, 135, 136, 137, 138, 139, 140, 141, 142, 143, 144, 145, 146, 147] (by decide +kernel) (by decide +kernel)
set_option maxRecDepth 20000 in
theorem gX10_rings_X10_layWays : GoodIn wsX10_rings (wsV RX10 226 RX10 yX10_layWays wsX10_layWays) := goodIn_app (goodIn_of _ (by decide +kernel)) ggX10_rings_X10_layWays
set_option maxRecDepth 20000 in
theorem ggX10_rings_X6_ringing : GoodIn wsX10_rings wsX6_ringing := goodIn_r _ [74, 75, 76, 77, 78, 79, 80, 81, 82, 83, 84, 85, 86, 20, 21, 22, 23, 24, 25, 87, 52, 53, 54, 55, 88, 7, 89, 90, 91, 92, 73, 93, 94, 95, 96, 97, 98, 99, 100, 101, 102, 103, 104, 105, 106, 107, 37, 38, 108, 109, 110, 111, 62, 63, 112, 113, 114, 15, 115, 18, 68, 69, 148, 149, 150, 151, 152, 153, 154, 155, 156, 134, 135, 136, 137, 138, 139, 140, 141, 142, 143, 157, 158, 159, 144, 145, 146, 147] (by decide +kernel) (by decide +kernel)
set_option maxRecDepth 20000 in
theorem gX10_rings_X6_ringing : GoodIn wsX10_rings (wsV RX10 279 RX6 yX6_ringing wsX6_ringing) := goodIn_app (goodIn_of _ (by decide +kernel)) ggX10_rings_X6_ringing
theorem dX10_rings_0 : decode cX10_rings 0 = .ok (.iload_n 1, 1) := by decide +kernel
theorem dX10_rings_1 : decode cX10_rings 1 = .ok (.ifCond .lt 10, 3) := by decide +kernel
theorem dX10_rings_4 : decode cX10_rings 4 = .ok (.iload_n 1, 1) := by decide +kernel
theorem dX10_rings_5 : decode cX10_rings 5 = .ok (.sipush 999, 3) := by decide +kernel
theorem dX10_rings_8 : decode cX10_rings 8 = .ok (.if_icmp .le 5, 3) := by decide +kernel
theorem dX10_rings_11 : decode cX10_rings 11 = .ok (.iconst (-1), 1) := by decide +kernel
theorem dX10_rings_12 : decode cX10_rings 12 = .ok (.ireturn, 1) := by decide +kernel
theorem dX10_rings_13 : decode cX10_rings 13 = .ok (.aload_n 0, 1) := by decide +kernel
theorem dX10_rings_14 : decode cX10_rings 14 = .ok (.invokevirtual 226, 3) := by decide +kernel
theorem dX10_rings_17 : decode cX10_rings 17 = .ok (.aload_n 0, 1) := by decide +kernel
theorem dX10_rings_18 : decode cX10_rings 18 = .ok (.getfield 89, 3) := by decide +kernel
theorem dX10_rings_21 : decode cX10_rings 21 = .ok (.aload_n 0, 1) := by decide +kernel
theorem dX10_rings_22 : decode cX10_rings 22 = .ok (.getfield 28, 3) := by decide +kernel
theorem dX10_rings_25 : decode cX10_rings 25 = .ok (.aload_n 0, 1) := by decide +kernel
theorem dX10_rings_26 : decode cX10_rings 26 = .ok (.getfield 55, 3) := by decide +kernel
theorem dX10_rings_29 : decode cX10_rings 29 = .ok (.iload_n 1, 1) := by decide +kernel
theorem dX10_rings_30 : decode cX10_rings 30 = .ok (.invokevirtual 279, 3) := by decide +kernel
theorem dX10_rings_33 : decode cX10_rings 33 = .ok (.ireturn, 1) := by decide +kernel
set_option maxRecDepth 20000 in
theorem ggX10_common_X10_layWays : GoodIn wsX10_common wsX10_layWays := goodIn_r _ [8, 3, 2, 9, 10, 11, 12, 13, 14, 15, 16, 17, 18, 19, 20, 21, 22, 23, 24, 25, 26, 27, 28, 29, 30, 31, 32, 33, 34, 35, 36, 37, 7, 38, 39, 40, 41, 42, 43, 44, 45, 46, 47, 48, 49, 50, 51, 52, 53, 54, 55, 56, 57, 58, 59, 60, 61, 62, 63, 64, 65, 66, 67, 68, 69, 149, 150, 151, 152, 153, 154, 155, 156, 157, 158, 159, 160, 161, 162, 163, 164, 165, 166, 167, 168, 169, 170, 171, 172, 173, 174, 175, 176, 177, 178, 179, 180] (by decide +kernel) (by decide +kernel)
set_option maxRecDepth 20000 in
theorem gX10_common_X10_layWays : GoodIn wsX10_common (wsV RX10 226 RX10 yX10_layWays wsX10_layWays) := goodIn_app (goodIn_of _ (by decide +kernel)) ggX10_common_X10_layWays
set_option maxRecDepth 20000 in
theorem ggX10_common_X6_survey : GoodIn wsX10_common wsX6_survey := goodIn_r _ [74, 75, 76, 77, 78, 79, 80, 81, 82, 83, 84, 85, 86, 87, 88, 89, 90, 91, 20, 21, 22, 23, 24, 25, 92, 52, 53, 54, 55, 93, 7, 94, 95, 96, 97, 73, 98, 99, 100, 101, 102, 103, 104, 105, 106, 107, 37, 38, 108, 109, 110, 111, 62, 63, 112, 113, 114, 15, 115, 18, 68, 69, 116, 117, 118, 119, 120, 121, 122, 123, 124, 125, 126, 127, 128, 129, 130, 131, 132, 133, 134, 135, 136, 137, 138, 139, 140, 141, 142, 143, 144, 181, 182, 183, 184, 185, 186, 187, 188, 189, 190, 191, 192, 167, 168, 169, 170, 171, 172, 173, 174, 175, 176, 177, 178, 179, 180, 193, 194, 195, 196] (by decide +kernel) (by decide +kernel)
set_option maxRecDepth 20000 in
theorem gX10_common_X6_survey : GoodIn wsX10_common (wsV RX10 260 RX6 yX6_survey wsX6_survey) := goodIn_app (goodIn_of _ (by decide +kernel)) ggX10_common_X6_survey
set_option maxRecDepth 20000 in
theorem ggX10_common_X6_leastShared : GoodIn wsX10_common wsX6_leastShared := goodIn_r _ [148, 78, 81, 91, 20, 21, 22, 23, 24, 25, 37, 7, 38, 181, 182, 183, 184, 185, 186, 187, 188, 189, 167, 168, 169, 170, 171, 172, 173, 174, 175, 176] (by decide +kernel) (by decide +kernel)
set_option maxRecDepth 20000 in
theorem gX10_common_X6_leastShared : GoodIn wsX10_common (wsV RX10 283 RX6 yX6_leastShared wsX6_leastShared) := goodIn_app (goodIn_of _ (by decide +kernel)) ggX10_common_X6_leastShared
theorem dX10_common_0 : decode cX10_common 0 = .ok (.aload_n 0, 1) := by decide +kernel
theorem dX10_common_1 : decode cX10_common 1 = .ok (.invokevirtual 226, 3) := by decide +kernel
theorem dX10_common_4 : decode cX10_common 4 = .ok (.aload_n 0, 1) := by decide +kernel
theorem dX10_common_5 : decode cX10_common 5 = .ok (.getfield 89, 3) := by decide +kernel
theorem dX10_common_8 : decode cX10_common 8 = .ok (.aload_n 0, 1) := by decide +kernel
theorem dX10_common_9 : decode cX10_common 9 = .ok (.getfield 28, 3) := by decide +kernel
theorem dX10_common_12 : decode cX10_common 12 = .ok (.aload_n 0, 1) := by decide +kernel
theorem dX10_common_13 : decode cX10_common 13 = .ok (.getfield 55, 3) := by decide +kernel
theorem dX10_common_16 : decode cX10_common 16 = .ok (.invokevirtual 260, 3) := by decide +kernel
theorem dX10_common_19 : decode cX10_common 19 = .ok (.aload_n 0, 1) := by decide +kernel
theorem dX10_common_20 : decode cX10_common 20 = .ok (.getfield 89, 3) := by decide +kernel
theorem dX10_common_23 : decode cX10_common 23 = .ok (.aload_n 0, 1) := by decide +kernel
theorem dX10_common_24 : decode cX10_common 24 = .ok (.getfield 28, 3) := by decide +kernel
theorem dX10_common_27 : decode cX10_common 27 = .ok (.invokevirtual 283, 3) := by decide +kernel
theorem dX10_common_30 : decode cX10_common 30 = .ok (.ireturn, 1) := by decide +kernel
set_option maxRecDepth 20000 in
theorem ggX10_safe_X9_bind : GoodIn wsX10_safe wsX9_bind := goodIn_r _ [11, 12, 13, 178, 179, 180, 181] (by decide +kernel) (by decide +kernel)
set_option maxRecDepth 20000 in
theorem gX10_safe_X9_bind : GoodIn wsX10_safe (wsV RX10 219 RX9 yX9_bind wsX9_bind) := goodIn_app (goodIn_of _ (by decide +kernel)) ggX10_safe_X9_bind
set_option maxRecDepth 20000 in
theorem ggX10_safe_X9_lay : GoodIn wsX10_safe wsX9_lay := goodIn_r _ [17, 18, 19, 20, 21, 22, 23, 24, 25, 26, 27, 28, 10, 29, 30, 31, 32, 33, 34, 35, 36, 37, 38, 39, 40, 41, 42, 43, 44, 45, 46, 47, 48, 49, 50, 51, 52, 53, 54, 55, 56, 57, 58, 59, 60, 61, 62, 63, 64, 65, 178, 179, 180, 181, 159, 160, 161, 162, 163, 164, 165, 166, 167, 168] (by decide +kernel) (by decide +kernel)
set_option maxRecDepth 20000 in
theorem gX10_safe_X9_lay : GoodIn wsX10_safe (wsV RX10 215 RX9 yX9_lay wsX9_lay) := goodIn_app (goodIn_of _ (by decide +kernel)) ggX10_safe_X9_lay
set_option maxRecDepth 20000 in
theorem ggX10_safe_X6_survey : GoodIn wsX10_safe wsX6_survey := goodIn_r _ [70, 71, 72, 73, 74, 75, 76, 77, 78, 79, 80, 81, 82, 83, 84, 85, 86, 87, 21, 22, 23, 24, 25, 26, 88, 54, 55, 56, 57, 89, 39, 90, 91, 92, 93, 69, 94, 95, 96, 97, 98, 99, 100, 101, 102, 103, 38, 40, 104, 105, 106, 107, 64, 65, 108, 109, 110, 10, 111, 19, 12, 13, 112, 113, 114, 115, 116, 117, 118, 119, 120, 121, 122, 123, 124, 125, 126, 127, 128, 129, 130, 131, 132, 133, 134, 135, 136, 137, 138, 139, 140, 169, 170, 171, 172, 173, 174, 175, 176, 177, 182, 183, 184, 159, 160, 161, 162, 163, 164, 165, 166, 167, 168, 178, 179, 180, 181, 185, 186, 187, 188] (by decide +kernel) (by decide +kernel)
set_option maxRecDepth 20000 in
theorem gX10_safe_X6_survey : GoodIn wsX10_safe (wsV RX10 260 RX6 yX6_survey wsX6_survey) := goodIn_app (goodIn_of _ (by decide +kernel)) ggX10_safe_X6_survey
theorem dX10_safe_0 : decode cX10_safe 0 = .ok (.iconst 0, 1) := by decide +kernel
theorem dX10_safe_1 : decode cX10_safe 1 = .ok (.istore_n 1, 1) := by decide +kernel
theorem dX10_safe_2 : decode cX10_safe 2 = .ok (.aload_n 0, 1) := by decide +kernel
theorem dX10_safe_3 : decode cX10_safe 3 = .ok (.getfield 55, 3) := by decide +kernel
theorem dX10_safe_6 : decode cX10_safe 6 = .ok (.aload_n 0, 1) := by decide +kernel
theorem dX10_safe_7 : decode cX10_safe 7 = .ok (.getfield 28, 3) := by decide +kernel
theorem dX10_safe_10 : decode cX10_safe 10 = .ok (.getfield 152, 3) := by decide +kernel
theorem dX10_safe_13 : decode cX10_safe 13 = .ok (.aload_n 0, 1) := by decide +kernel
theorem dX10_safe_14 : decode cX10_safe 14 = .ok (.getfield 28, 3) := by decide +kernel
theorem dX10_safe_17 : decode cX10_safe 17 = .ok (.getfield 155, 3) := by decide +kernel
theorem dX10_safe_20 : decode cX10_safe 20 = .ok (.invokevirtual 219, 3) := by decide +kernel
theorem dX10_safe_23 : decode cX10_safe 23 = .ok (.iconst 1, 1) := by decide +kernel
theorem dX10_safe_24 : decode cX10_safe 24 = .ok (.istore_n 2, 1) := by decide +kernel
theorem dX10_safe_25 : decode cX10_safe 25 = .ok (.iload_n 2, 1) := by decide +kernel
theorem dX10_safe_26 : decode cX10_safe 26 = .ok (.iconst 3, 1) := by decide +kernel
theorem dX10_safe_27 : decode cX10_safe 27 = .ok (.if_icmp .gt 54, 3) := by decide +kernel
theorem dX10_safe_30 : decode cX10_safe 30 = .ok (.aload_n 0, 1) := by decide +kernel
theorem dX10_safe_31 : decode cX10_safe 31 = .ok (.getfield 55, 3) := by decide +kernel
theorem dX10_safe_34 : decode cX10_safe 34 = .ok (.aload_n 0, 1) := by decide +kernel
theorem dX10_safe_35 : decode cX10_safe 35 = .ok (.getfield 28, 3) := by decide +kernel
theorem dX10_safe_38 : decode cX10_safe 38 = .ok (.iload_n 2, 1) := by decide +kernel
theorem dX10_safe_39 : decode cX10_safe 39 = .ok (.invokevirtual 215, 3) := by decide +kernel
theorem dX10_safe_42 : decode cX10_safe 42 = .ok (.aload_n 0, 1) := by decide +kernel
theorem dX10_safe_43 : decode cX10_safe 43 = .ok (.getfield 89, 3) := by decide +kernel
theorem dX10_safe_46 : decode cX10_safe 46 = .ok (.aload_n 0, 1) := by decide +kernel
theorem dX10_safe_47 : decode cX10_safe 47 = .ok (.getfield 28, 3) := by decide +kernel
theorem dX10_safe_50 : decode cX10_safe 50 = .ok (.aload_n 0, 1) := by decide +kernel
theorem dX10_safe_51 : decode cX10_safe 51 = .ok (.getfield 55, 3) := by decide +kernel
theorem dX10_safe_54 : decode cX10_safe 54 = .ok (.invokevirtual 260, 3) := by decide +kernel
theorem dX10_safe_57 : decode cX10_safe 57 = .ok (.aload_n 0, 1) := by decide +kernel
theorem dX10_safe_58 : decode cX10_safe 58 = .ok (.getfield 89, 3) := by decide +kernel
theorem dX10_safe_61 : decode cX10_safe 61 = .ok (.getfield 267, 3) := by decide +kernel
theorem dX10_safe_64 : decode cX10_safe 64 = .ok (.ifCond .ne 11, 3) := by decide +kernel
theorem dX10_safe_67 : decode cX10_safe 67 = .ok (.iload_n 1, 1) := by decide +kernel
theorem dX10_safe_68 : decode cX10_safe 68 = .ok (.iconst 1, 1) := by decide +kernel
theorem dX10_safe_69 : decode cX10_safe 69 = .ok (.iload_n 2, 1) := by decide +kernel
theorem dX10_safe_70 : decode cX10_safe 70 = .ok (.iconst 1, 1) := by decide +kernel
theorem dX10_safe_71 : decode cX10_safe 71 = .ok (.isub, 1) := by decide +kernel
theorem dX10_safe_72 : decode cX10_safe 72 = .ok (.ishl, 1) := by decide +kernel
theorem dX10_safe_73 : decode cX10_safe 73 = .ok (.ior, 1) := by decide +kernel
theorem dX10_safe_74 : decode cX10_safe 74 = .ok (.istore_n 1, 1) := by decide +kernel
theorem dX10_safe_75 : decode cX10_safe 75 = .ok (.iinc 2 1, 3) := by decide +kernel
theorem dX10_safe_78 : decode cX10_safe 78 = .ok (.goto (-53), 3) := by decide +kernel
theorem dX10_safe_81 : decode cX10_safe 81 = .ok (.iload_n 1, 1) := by decide +kernel
theorem dX10_safe_82 : decode cX10_safe 82 = .ok (.ireturn, 1) := by decide +kernel
set_option maxRecDepth 20000 in
theorem ggX10_covers_X10_isOver : GoodIn wsX10_covers wsX10_isOver := goodIn_r _ [5, 6, 7, 8, 9, 10, 11, 12, 13, 14, 15, 16, 17, 18, 19, 20, 21, 22, 23, 24, 25, 26, 117, 118, 119, 120, 121, 122, 123, 124, 125, 126, 127, 128, 129, 130, 131, 132, 133, 134, 135, 136, 137, 138, 139, 140, 141, 142, 143, 144, 145, 146, 147, 148, 149, 150, 151, 152, 153, 154] (by decide +kernel) (by decide +kernel)
set_option maxRecDepth 20000 in
theorem gX10_covers_X10_isOver : GoodIn wsX10_covers (wsV RX10 176 RX10 yX10_isOver wsX10_isOver) := goodIn_app (goodIn_of _ (by decide +kernel)) ggX10_covers_X10_isOver
set_option maxRecDepth 20000 in
theorem ggX10_covers_X10_layWays : GoodIn wsX10_covers wsX10_layWays := goodIn_r _ [30, 31, 7, 32, 33, 34, 35, 36, 37, 38, 39, 40, 41, 42, 43, 44, 18, 45, 24, 25, 46, 47, 48, 49, 50, 51, 52, 53, 54, 55, 56, 57, 4, 58, 59, 60, 61, 62, 63, 64, 65, 66, 67, 68, 69, 70, 20, 21, 22, 23, 26, 71, 16, 17, 19, 72, 73, 74, 75, 76, 77, 78, 79, 80, 81, 117, 118, 119, 120, 121, 122, 123, 124, 125, 126, 127, 128, 129, 130, 131, 132, 133, 134, 145, 146, 147, 148, 149, 150, 151, 152, 153, 154, 155, 156, 157, 158] (by decide +kernel) (by decide +kernel)
set_option maxRecDepth 20000 in
theorem gX10_covers_X10_layWays : GoodIn wsX10_covers (wsV RX10 226 RX10 yX10_layWays wsX10_layWays) := goodIn_app (goodIn_of _ (by decide +kernel)) ggX10_covers_X10_layWays
set_option maxRecDepth 20000 in
theorem ggX10_covers_X10_covered : GoodIn wsX10_covers wsX10_covered := goodIn_r _ [85, 86, 31, 87, 88, 89, 90, 91, 92, 93, 94, 95, 96, 97, 98, 4, 99, 6, 100, 101, 102, 103, 104, 105, 106, 107, 108, 109, 110, 111, 112, 113, 114, 115, 38, 116, 41, 80, 81, 57, 58, 117, 118, 119, 120, 121, 122, 123, 124, 125, 126, 127, 128, 129, 130, 131, 132, 133, 134, 159, 160, 161, 135, 136, 137, 138, 139, 140, 141, 142, 143, 144, 155, 156, 157, 158] (by decide +kernel) (by decide +kernel)
set_option maxRecDepth 20000 in
theorem gX10_covers_X10_covered : GoodIn wsX10_covers (wsV RX10 286 RX10 yX10_covered wsX10_covered) := goodIn_app (goodIn_of _ (by decide +kernel)) ggX10_covers_X10_covered
theorem dX10_covers_0 : decode cX10_covers 0 = .ok (.iload_n 1, 1) := by decide +kernel
theorem dX10_covers_1 : decode cX10_covers 1 = .ok (.ifCond .lt 10, 3) := by decide +kernel
theorem dX10_covers_4 : decode cX10_covers 4 = .ok (.iload_n 1, 1) := by decide +kernel
theorem dX10_covers_5 : decode cX10_covers 5 = .ok (.sipush 9999, 3) := by decide +kernel
theorem dX10_covers_8 : decode cX10_covers 8 = .ok (.if_icmp .le 5, 3) := by decide +kernel
theorem dX10_covers_11 : decode cX10_covers 11 = .ok (.iconst (-1), 1) := by decide +kernel
theorem dX10_covers_12 : decode cX10_covers 12 = .ok (.ireturn, 1) := by decide +kernel
theorem dX10_covers_13 : decode cX10_covers 13 = .ok (.aload_n 0, 1) := by decide +kernel
theorem dX10_covers_14 : decode cX10_covers 14 = .ok (.invokevirtual 176, 3) := by decide +kernel
theorem dX10_covers_17 : decode cX10_covers 17 = .ok (.ifCond .eq 6, 3) := by decide +kernel
theorem dX10_covers_20 : decode cX10_covers 20 = .ok (.bipush (-2), 2) := by decide +kernel
theorem dX10_covers_22 : decode cX10_covers 22 = .ok (.ireturn, 1) := by decide +kernel
theorem dX10_covers_23 : decode cX10_covers 23 = .ok (.aload_n 0, 1) := by decide +kernel
theorem dX10_covers_24 : decode cX10_covers 24 = .ok (.invokevirtual 226, 3) := by decide +kernel
theorem dX10_covers_27 : decode cX10_covers 27 = .ok (.aload_n 0, 1) := by decide +kernel
theorem dX10_covers_28 : decode cX10_covers 28 = .ok (.iload_n 1, 1) := by decide +kernel
theorem dX10_covers_29 : decode cX10_covers 29 = .ok (.invokevirtual 286, 3) := by decide +kernel
theorem dX10_covers_32 : decode cX10_covers 32 = .ok (.ireturn, 1) := by decide +kernel
set_option maxRecDepth 20000 in
theorem ggX10_covered_X3_renew : GoodIn wsX10_covered wsX3_renew := goodIn_r _ [7, 8, 9, 10, 11, 59, 60, 61] (by decide +kernel) (by decide +kernel)
set_option maxRecDepth 20000 in
theorem gX10_covered_X3_renew : GoodIn wsX10_covered (wsV RX10 241 RX3 yX3_renew wsX3_renew) := goodIn_app (goodIn_of _ (by decide +kernel)) ggX10_covered_X3_renew
set_option maxRecDepth 20000 in
theorem ggX10_covered_X10_standNow : GoodIn wsX10_covered wsX10_standNow := goodIn_r _ [16, 17, 18, 19, 20, 21, 22, 15, 23, 41, 42, 43, 44, 45, 46, 47, 48, 49, 50, 51, 52, 53, 54, 55, 56, 57, 58, 62, 63, 64, 65, 66, 67, 68, 69, 70, 71] (by decide +kernel) (by decide +kernel)
set_option maxRecDepth 20000 in
theorem gX10_covered_X10_standNow : GoodIn wsX10_covered (wsV RX10 229 RX10 yX10_standNow wsX10_standNow) := goodIn_app (goodIn_of _ (by decide +kernel)) ggX10_covered_X10_standNow
set_option maxRecDepth 20000 in
theorem ggX10_covered_X10_cellOf : GoodIn wsX10_covered wsX10_cellOf := goodIn_r _ [26] (by decide +kernel) (by decide +kernel)
set_option maxRecDepth 20000 in
theorem gX10_covered_X10_cellOf : GoodIn wsX10_covered (va_wsS RX10 289 yX10_cellOf wsX10_cellOf) := goodIn_app (goodIn_of _ (by decide +kernel)) ggX10_covered_X10_cellOf
set_option maxRecDepth 20000 in
theorem ggX10_covered_X3_add : GoodIn wsX10_covered wsX3_add := goodIn_r _ [30, 11, 8, 59, 60, 61] (by decide +kernel) (by decide +kernel)
set_option maxRecDepth 20000 in
theorem gX10_covered_X3_add : GoodIn wsX10_covered (wsV RX10 292 RX3 yX3_add wsX3_add) := goodIn_app (goodIn_of _ (by decide +kernel)) ggX10_covered_X3_add
set_option maxRecDepth 20000 in
theorem ggX10_covered_X9_after : GoodIn wsX10_covered wsX9_after := goodIn_r _ [35, 36, 37, 38, 39, 15, 40, 25, 26, 22, 23, 72, 73, 74, 75] (by decide +kernel) (by decide +kernel)
set_option maxRecDepth 20000 in
theorem gX10_covered_X9_after : GoodIn wsX10_covered (wsV RX10 253 RX9 yX9_after wsX9_after) := goodIn_app (goodIn_of _ (by decide +kernel)) ggX10_covered_X9_after
theorem dX10_covered_0 : decode cX10_covered 0 = .ok (.aload_n 0, 1) := by decide +kernel
theorem dX10_covered_1 : decode cX10_covered 1 = .ok (.getfield 68, 3) := by decide +kernel
theorem dX10_covered_4 : decode cX10_covered 4 = .ok (.iconst 1, 1) := by decide +kernel
theorem dX10_covered_5 : decode cX10_covered 5 = .ok (.invokevirtual 241, 3) := by decide +kernel
theorem dX10_covered_8 : decode cX10_covered 8 = .ok (.iconst 0, 1) := by decide +kernel
theorem dX10_covered_9 : decode cX10_covered 9 = .ok (.istore_n 2, 1) := by decide +kernel
theorem dX10_covered_10 : decode cX10_covered 10 = .ok (.aload_n 0, 1) := by decide +kernel
theorem dX10_covered_11 : decode cX10_covered 11 = .ok (.invokevirtual 229, 3) := by decide +kernel
theorem dX10_covered_14 : decode cX10_covered 14 = .ok (.istore_n 3, 1) := by decide +kernel
theorem dX10_covered_15 : decode cX10_covered 15 = .ok (.iconst 0, 1) := by decide +kernel
theorem dX10_covered_16 : decode cX10_covered 16 = .ok (.istore 4, 2) := by decide +kernel
theorem dX10_covered_18 : decode cX10_covered 18 = .ok (.iload 4, 2) := by decide +kernel
theorem dX10_covered_20 : decode cX10_covered 20 = .ok (.iload_n 1, 1) := by decide +kernel
theorem dX10_covered_21 : decode cX10_covered 21 = .ok (.if_icmp .gt 37, 3) := by decide +kernel
theorem dX10_covered_24 : decode cX10_covered 24 = .ok (.iload_n 3, 1) := by decide +kernel
theorem dX10_covered_25 : decode cX10_covered 25 = .ok (.iconst (-1), 1) := by decide +kernel
theorem dX10_covered_26 : decode cX10_covered 26 = .ok (.if_icmp .eq 32, 3) := by decide +kernel
theorem dX10_covered_29 : decode cX10_covered 29 = .ok (.iload_n 2, 1) := by decide +kernel
theorem dX10_covered_30 : decode cX10_covered 30 = .ok (.aload_n 0, 1) := by decide +kernel
theorem dX10_covered_31 : decode cX10_covered 31 = .ok (.getfield 68, 3) := by decide +kernel
theorem dX10_covered_34 : decode cX10_covered 34 = .ok (.iload_n 3, 1) := by decide +kernel
theorem dX10_covered_35 : decode cX10_covered 35 = .ok (.invokestatic 289, 3) := by decide +kernel
theorem dX10_covered_38 : decode cX10_covered 38 = .ok (.invokevirtual 292, 3) := by decide +kernel
theorem dX10_covered_41 : decode cX10_covered 41 = .ok (.iadd, 1) := by decide +kernel
theorem dX10_covered_42 : decode cX10_covered 42 = .ok (.istore_n 2, 1) := by decide +kernel
theorem dX10_covered_43 : decode cX10_covered 43 = .ok (.aload_n 0, 1) := by decide +kernel
theorem dX10_covered_44 : decode cX10_covered 44 = .ok (.getfield 55, 3) := by decide +kernel
theorem dX10_covered_47 : decode cX10_covered 47 = .ok (.iload_n 3, 1) := by decide +kernel
theorem dX10_covered_48 : decode cX10_covered 48 = .ok (.invokevirtual 253, 3) := by decide +kernel
theorem dX10_covered_51 : decode cX10_covered 51 = .ok (.istore_n 3, 1) := by decide +kernel
theorem dX10_covered_52 : decode cX10_covered 52 = .ok (.iinc 4 1, 3) := by decide +kernel
theorem dX10_covered_55 : decode cX10_covered 55 = .ok (.goto (-37), 3) := by decide +kernel
theorem dX10_covered_58 : decode cX10_covered 58 = .ok (.iload_n 2, 1) := by decide +kernel
theorem dX10_covered_59 : decode cX10_covered 59 = .ok (.ireturn, 1) := by decide +kernel
set_option maxRecDepth 20000 in
theorem ggX10_everywhere_X10_isOver : GoodIn wsX10_everywhere wsX10_isOver := goodIn_r _ [8, 9, 2, 10, 11, 12, 13, 14, 15, 16, 17, 18, 19, 20, 21, 22, 23, 24, 25, 26, 27, 28, 119, 120, 121, 122, 123, 124, 125, 126, 127, 128, 129, 130, 131, 132, 133, 134, 135, 136, 137, 138, 139, 140, 141, 142, 143, 144, 145, 146, 147, 148, 149, 150, 151, 152, 153, 154, 155, 156] (by decide +kernel) (by decide +kernel)
set_option maxRecDepth 20000 in
theorem gX10_everywhere_X10_isOver : GoodIn wsX10_everywhere (wsV RX10 176 RX10 yX10_isOver wsX10_isOver) := goodIn_app (goodIn_of _ (by decide +kernel)) ggX10_everywhere_X10_isOver
set_option maxRecDepth 20000 in
theorem ggX10_everywhere_X10_layWays : GoodIn wsX10_everywhere wsX10_layWays := goodIn_r _ [32, 3, 2, 33, 34, 35, 36, 37, 38, 39, 40, 41, 42, 43, 44, 45, 20, 46, 26, 27, 47, 48, 49, 50, 51, 52, 53, 54, 55, 56, 57, 58, 7, 59, 60, 61, 62, 63, 64, 65, 66, 67, 68, 69, 70, 71, 22, 23, 24, 25, 28, 72, 18, 19, 21, 73, 74, 75, 76, 77, 78, 79, 80, 81, 82, 119, 120, 121, 122, 123, 124, 125, 126, 127, 128, 129, 130, 131, 132, 133, 134, 135, 136, 147, 148, 149, 150, 151, 152, 153, 154, 155, 156, 157, 158, 159, 160] (by decide +kernel) (by decide +kernel)
set_option maxRecDepth 20000 in
theorem gX10_everywhere_X10_layWays : GoodIn wsX10_everywhere (wsV RX10 226 RX10 yX10_layWays wsX10_layWays) := goodIn_app (goodIn_of _ (by decide +kernel)) ggX10_everywhere_X10_layWays
set_option maxRecDepth 20000 in
theorem ggX10_everywhere_X3_renew : GoodIn wsX10_everywhere wsX3_renew := goodIn_r _ [87, 88, 89, 90, 91, 161, 162, 163] (by decide +kernel) (by decide +kernel)
set_option maxRecDepth 20000 in
theorem gX10_everywhere_X3_renew : GoodIn wsX10_everywhere (wsV RX10 241 RX3 yX3_renew wsX3_renew) := goodIn_app (goodIn_of _ (by decide +kernel)) ggX10_everywhere_X3_renew
set_option maxRecDepth 20000 in
theorem ggX10_everywhere_X7_countOf : GoodIn wsX10_everywhere wsX7_countOf := goodIn_r _ [95, 96, 44, 45, 20, 46, 26, 27, 22, 23, 24, 25, 28, 147, 148, 149, 150, 151, 152, 153, 154, 155, 156] (by decide +kernel) (by decide +kernel)
set_option maxRecDepth 20000 in
theorem gX10_everywhere_X7_countOf : GoodIn wsX10_everywhere (wsV RX10 294 RX7 yX7_countOf wsX7_countOf) := goodIn_app (goodIn_of _ (by decide +kernel)) ggX10_everywhere_X7_countOf
set_option maxRecDepth 20000 in
theorem ggX10_everywhere_X10_standNow : GoodIn wsX10_everywhere wsX10_standNow := goodIn_r _ [100, 9, 101, 102, 103, 104, 105, 7, 106, 119, 120, 121, 122, 123, 124, 125, 126, 127, 128, 129, 130, 131, 132, 133, 134, 135, 136, 137, 138, 139, 140, 141, 142, 143, 144, 145, 146] (by decide +kernel) (by decide +kernel)
set_option maxRecDepth 20000 in
theorem gX10_everywhere_X10_standNow : GoodIn wsX10_everywhere (wsV RX10 229 RX10 yX10_standNow wsX10_standNow) := goodIn_app (goodIn_of _ (by decide +kernel)) ggX10_everywhere_X10_standNow
set_option maxRecDepth 20000 in
theorem ggX10_everywhere_X10_cellOf : GoodIn wsX10_everywhere wsX10_cellOf := goodIn_r _ [109] (by decide +kernel) (by decide +kernel)
set_option maxRecDepth 20000 in
theorem gX10_everywhere_X10_cellOf : GoodIn wsX10_everywhere (va_wsS RX10 289 yX10_cellOf wsX10_cellOf) := goodIn_app (goodIn_of _ (by decide +kernel)) ggX10_everywhere_X10_cellOf
set_option maxRecDepth 20000 in
theorem ggX10_everywhere_X7_kindOf : GoodIn wsX10_everywhere wsX7_kindOf := goodIn_r _ [25, 26, 27, 28, 147, 148, 149, 150, 151, 152, 153, 154, 155, 156] (by decide +kernel) (by decide +kernel)
set_option maxRecDepth 20000 in
theorem gX10_everywhere_X7_kindOf : GoodIn wsX10_everywhere (wsV RX10 139 RX7 yX7_kindOf wsX7_kindOf) := goodIn_app (goodIn_of _ (by decide +kernel)) ggX10_everywhere_X7_kindOf
set_option maxRecDepth 20000 in
theorem ggX10_everywhere_X3_add : GoodIn wsX10_everywhere wsX3_add := goodIn_r _ [114, 91, 88, 161, 162, 163] (by decide +kernel) (by decide +kernel)
set_option maxRecDepth 20000 in
theorem gX10_everywhere_X3_add : GoodIn wsX10_everywhere (wsV RX10 292 RX3 yX3_add wsX3_add) := goodIn_app (goodIn_of _ (by decide +kernel)) ggX10_everywhere_X3_add
set_option maxRecDepth 20000 in
theorem ggX10_everywhere_X9_after : GoodIn wsX10_everywhere wsX9_after := goodIn_r _ [118, 42, 81, 82, 58, 7, 59, 108, 109, 105, 106, 157, 158, 159, 160] (by decide +kernel) (by decide +kernel)
set_option maxRecDepth 20000 in
theorem gX10_everywhere_X9_after : GoodIn wsX10_everywhere (wsV RX10 253 RX9 yX9_after wsX9_after) := goodIn_app (goodIn_of _ (by decide +kernel)) ggX10_everywhere_X9_after
theorem dX10_everywhere_0 : decode cX10_everywhere 0 = .ok (.aload_n 0, 1) := by decide +kernel
theorem dX10_everywhere_1 : decode cX10_everywhere 1 = .ok (.invokevirtual 176, 3) := by decide +kernel
theorem dX10_everywhere_4 : decode cX10_everywhere 4 = .ok (.ifCond .eq 6, 3) := by decide +kernel
theorem dX10_everywhere_7 : decode cX10_everywhere 7 = .ok (.bipush (-2), 2) := by decide +kernel
theorem dX10_everywhere_9 : decode cX10_everywhere 9 = .ok (.ireturn, 1) := by decide +kernel
theorem dX10_everywhere_10 : decode cX10_everywhere 10 = .ok (.aload_n 0, 1) := by decide +kernel
theorem dX10_everywhere_11 : decode cX10_everywhere 11 = .ok (.invokevirtual 226, 3) := by decide +kernel
theorem dX10_everywhere_14 : decode cX10_everywhere 14 = .ok (.aload_n 0, 1) := by decide +kernel
theorem dX10_everywhere_15 : decode cX10_everywhere 15 = .ok (.getfield 68, 3) := by decide +kernel
theorem dX10_everywhere_18 : decode cX10_everywhere 18 = .ok (.iconst 1, 1) := by decide +kernel
theorem dX10_everywhere_19 : decode cX10_everywhere 19 = .ok (.invokevirtual 241, 3) := by decide +kernel
theorem dX10_everywhere_22 : decode cX10_everywhere 22 = .ok (.aload_n 0, 1) := by decide +kernel
theorem dX10_everywhere_23 : decode cX10_everywhere 23 = .ok (.getfield 28, 3) := by decide +kernel
theorem dX10_everywhere_26 : decode cX10_everywhere 26 = .ok (.iconst 0, 1) := by decide +kernel
theorem dX10_everywhere_27 : decode cX10_everywhere 27 = .ok (.invokevirtual 294, 3) := by decide +kernel
theorem dX10_everywhere_30 : decode cX10_everywhere 30 = .ok (.istore_n 1, 1) := by decide +kernel
theorem dX10_everywhere_31 : decode cX10_everywhere 31 = .ok (.aload_n 0, 1) := by decide +kernel
theorem dX10_everywhere_32 : decode cX10_everywhere 32 = .ok (.invokevirtual 229, 3) := by decide +kernel
theorem dX10_everywhere_35 : decode cX10_everywhere 35 = .ok (.istore_n 2, 1) := by decide +kernel
theorem dX10_everywhere_36 : decode cX10_everywhere 36 = .ok (.iconst 0, 1) := by decide +kernel
theorem dX10_everywhere_37 : decode cX10_everywhere 37 = .ok (.istore_n 3, 1) := by decide +kernel
theorem dX10_everywhere_38 : decode cX10_everywhere 38 = .ok (.iload_n 3, 1) := by decide +kernel
theorem dX10_everywhere_39 : decode cX10_everywhere 39 = .ok (.sipush 9999, 3) := by decide +kernel
theorem dX10_everywhere_42 : decode cX10_everywhere 42 = .ok (.if_icmp .gt 59, 3) := by decide +kernel
theorem dX10_everywhere_45 : decode cX10_everywhere 45 = .ok (.iload_n 2, 1) := by decide +kernel
theorem dX10_everywhere_46 : decode cX10_everywhere 46 = .ok (.iconst (-1), 1) := by decide +kernel
theorem dX10_everywhere_47 : decode cX10_everywhere 47 = .ok (.if_icmp .eq 54, 3) := by decide +kernel
theorem dX10_everywhere_50 : decode cX10_everywhere 50 = .ok (.iload_n 2, 1) := by decide +kernel
theorem dX10_everywhere_51 : decode cX10_everywhere 51 = .ok (.invokestatic 289, 3) := by decide +kernel
theorem dX10_everywhere_54 : decode cX10_everywhere 54 = .ok (.istore 4, 2) := by decide +kernel
theorem dX10_everywhere_56 : decode cX10_everywhere 56 = .ok (.aload_n 0, 1) := by decide +kernel
theorem dX10_everywhere_57 : decode cX10_everywhere 57 = .ok (.getfield 28, 3) := by decide +kernel
theorem dX10_everywhere_60 : decode cX10_everywhere 60 = .ok (.iload 4, 2) := by decide +kernel
theorem dX10_everywhere_62 : decode cX10_everywhere 62 = .ok (.invokevirtual 139, 3) := by decide +kernel
theorem dX10_everywhere_65 : decode cX10_everywhere 65 = .ok (.ifCond .ne 15, 3) := by decide +kernel
theorem dX10_everywhere_68 : decode cX10_everywhere 68 = .ok (.iload_n 1, 1) := by decide +kernel
theorem dX10_everywhere_69 : decode cX10_everywhere 69 = .ok (.aload_n 0, 1) := by decide +kernel
theorem dX10_everywhere_70 : decode cX10_everywhere 70 = .ok (.getfield 68, 3) := by decide +kernel
theorem dX10_everywhere_73 : decode cX10_everywhere 73 = .ok (.iload 4, 2) := by decide +kernel
theorem dX10_everywhere_75 : decode cX10_everywhere 75 = .ok (.invokevirtual 292, 3) := by decide +kernel
theorem dX10_everywhere_78 : decode cX10_everywhere 78 = .ok (.isub, 1) := by decide +kernel
theorem dX10_everywhere_79 : decode cX10_everywhere 79 = .ok (.istore_n 1, 1) := by decide +kernel
theorem dX10_everywhere_80 : decode cX10_everywhere 80 = .ok (.iload_n 1, 1) := by decide +kernel
theorem dX10_everywhere_81 : decode cX10_everywhere 81 = .ok (.ifCond .gt 5, 3) := by decide +kernel
theorem dX10_everywhere_84 : decode cX10_everywhere 84 = .ok (.iload_n 3, 1) := by decide +kernel
theorem dX10_everywhere_85 : decode cX10_everywhere 85 = .ok (.ireturn, 1) := by decide +kernel
theorem dX10_everywhere_86 : decode cX10_everywhere 86 = .ok (.aload_n 0, 1) := by decide +kernel
theorem dX10_everywhere_87 : decode cX10_everywhere 87 = .ok (.getfield 55, 3) := by decide +kernel
theorem dX10_everywhere_90 : decode cX10_everywhere 90 = .ok (.iload_n 2, 1) := by decide +kernel
theorem dX10_everywhere_91 : decode cX10_everywhere 91 = .ok (.invokevirtual 253, 3) := by decide +kernel
theorem dX10_everywhere_94 : decode cX10_everywhere 94 = .ok (.istore_n 2, 1) := by decide +kernel
theorem dX10_everywhere_95 : decode cX10_everywhere 95 = .ok (.iinc 3 1, 3) := by decide +kernel
theorem dX10_everywhere_98 : decode cX10_everywhere 98 = .ok (.goto (-60), 3) := by decide +kernel
theorem dX10_everywhere_101 : decode cX10_everywhere 101 = .ok (.bipush (-9), 2) := by decide +kernel
theorem dX10_everywhere_103 : decode cX10_everywhere 103 = .ok (.ireturn, 1) := by decide +kernel
set_option maxRecDepth 20000 in
theorem ggX10_best_X10_isOver : GoodIn wsX10_best wsX10_isOver := goodIn_r _ [9, 10, 2, 11, 12, 13, 14, 15, 16, 17, 18, 19, 20, 21, 22, 23, 24, 25, 26, 27, 28, 29, 112, 113, 114, 115, 116, 117, 118, 119, 120, 121, 122, 123, 124, 125, 126, 127, 128, 129, 140, 141, 142, 143, 144, 145, 146, 147, 148, 149, 130, 131, 132, 133, 134, 135, 136, 137, 138, 139] (by decide +kernel) (by decide +kernel)
set_option maxRecDepth 20000 in
theorem gX10_best_X10_isOver : GoodIn wsX10_best (wsV RX10 176 RX10 yX10_isOver wsX10_isOver) := goodIn_app (goodIn_of _ (by decide +kernel)) ggX10_best_X10_isOver
set_option maxRecDepth 20000 in
theorem ggX10_best_X9_lay : GoodIn wsX10_best wsX9_lay := goodIn_r _ [34, 35, 36, 37, 38, 39, 21, 40, 27, 28, 41, 42, 33, 43, 44, 45, 46, 47, 48, 49, 50, 51, 52, 8, 53, 54, 55, 56, 57, 58, 59, 60, 61, 62, 63, 64, 65, 23, 24, 25, 26, 29, 66, 19, 20, 22, 67, 68, 69, 70, 150, 151, 152, 153, 130, 131, 132, 133, 134, 135, 136, 137, 138, 139] (by decide +kernel) (by decide +kernel)
set_option maxRecDepth 20000 in
theorem gX10_best_X9_lay : GoodIn wsX10_best (wsV RX10 215 RX9 yX9_lay wsX9_lay) := goodIn_app (goodIn_of _ (by decide +kernel)) ggX10_best_X9_lay
set_option maxRecDepth 20000 in
theorem ggX10_best_X9_bind : GoodIn wsX10_best wsX9_bind := goodIn_r _ [74, 75, 76, 150, 151, 152, 153] (by decide +kernel) (by decide +kernel)
set_option maxRecDepth 20000 in
theorem gX10_best_X9_bind : GoodIn wsX10_best (wsV RX10 219 RX9 yX9_bind wsX9_bind) := goodIn_app (goodIn_of _ (by decide +kernel)) ggX10_best_X9_bind
set_option maxRecDepth 20000 in
theorem ggX10_best_X10_covered : GoodIn wsX10_best wsX10_covered := goodIn_r _ [80, 81, 1, 82, 83, 84, 85, 86, 87, 88, 89, 90, 91, 92, 93, 8, 94, 10, 95, 96, 97, 98, 99, 100, 101, 102, 103, 104, 105, 106, 107, 108, 109, 110, 33, 111, 36, 75, 76, 52, 53, 112, 113, 114, 115, 116, 117, 118, 119, 120, 121, 122, 123, 124, 125, 126, 127, 128, 129, 154, 155, 156, 140, 141, 142, 143, 144, 145, 146, 147, 148, 149, 150, 151, 152, 153] (by decide +kernel) (by decide +kernel)
set_option maxRecDepth 20000 in
theorem gX10_best_X10_covered : GoodIn wsX10_best (wsV RX10 286 RX10 yX10_covered wsX10_covered) := goodIn_app (goodIn_of _ (by decide +kernel)) ggX10_best_X10_covered
theorem dX10_best_0 : decode cX10_best 0 = .ok (.iload_n 1, 1) := by decide +kernel
theorem dX10_best_1 : decode cX10_best 1 = .ok (.ifCond .lt 10, 3) := by decide +kernel
theorem dX10_best_4 : decode cX10_best 4 = .ok (.iload_n 1, 1) := by decide +kernel
theorem dX10_best_5 : decode cX10_best 5 = .ok (.sipush 999, 3) := by decide +kernel
theorem dX10_best_8 : decode cX10_best 8 = .ok (.if_icmp .le 5, 3) := by decide +kernel
theorem dX10_best_11 : decode cX10_best 11 = .ok (.iconst (-1), 1) := by decide +kernel
theorem dX10_best_12 : decode cX10_best 12 = .ok (.ireturn, 1) := by decide +kernel
theorem dX10_best_13 : decode cX10_best 13 = .ok (.aload_n 0, 1) := by decide +kernel
theorem dX10_best_14 : decode cX10_best 14 = .ok (.invokevirtual 176, 3) := by decide +kernel
theorem dX10_best_17 : decode cX10_best 17 = .ok (.ifCond .eq 6, 3) := by decide +kernel
theorem dX10_best_20 : decode cX10_best 20 = .ok (.bipush (-2), 2) := by decide +kernel
theorem dX10_best_22 : decode cX10_best 22 = .ok (.ireturn, 1) := by decide +kernel
theorem dX10_best_23 : decode cX10_best 23 = .ok (.aload_n 0, 1) := by decide +kernel
theorem dX10_best_24 : decode cX10_best 24 = .ok (.getfield 55, 3) := by decide +kernel
theorem dX10_best_27 : decode cX10_best 27 = .ok (.aload_n 0, 1) := by decide +kernel
theorem dX10_best_28 : decode cX10_best 28 = .ok (.getfield 28, 3) := by decide +kernel
theorem dX10_best_31 : decode cX10_best 31 = .ok (.aload_n 0, 1) := by decide +kernel
theorem dX10_best_32 : decode cX10_best 32 = .ok (.getfield 28, 3) := by decide +kernel
theorem dX10_best_35 : decode cX10_best 35 = .ok (.getfield 149, 3) := by decide +kernel
theorem dX10_best_38 : decode cX10_best 38 = .ok (.invokevirtual 215, 3) := by decide +kernel
theorem dX10_best_41 : decode cX10_best 41 = .ok (.iconst 0, 1) := by decide +kernel
theorem dX10_best_42 : decode cX10_best 42 = .ok (.istore_n 2, 1) := by decide +kernel
theorem dX10_best_43 : decode cX10_best 43 = .ok (.iconst (-1), 1) := by decide +kernel
theorem dX10_best_44 : decode cX10_best 44 = .ok (.istore_n 3, 1) := by decide +kernel
theorem dX10_best_45 : decode cX10_best 45 = .ok (.iconst 1, 1) := by decide +kernel
theorem dX10_best_46 : decode cX10_best 46 = .ok (.istore 4, 2) := by decide +kernel
theorem dX10_best_48 : decode cX10_best 48 = .ok (.iload 4, 2) := by decide +kernel
theorem dX10_best_50 : decode cX10_best 50 = .ok (.bipush 7, 2) := by decide +kernel
theorem dX10_best_52 : decode cX10_best 52 = .ok (.if_icmp .gt 44, 3) := by decide +kernel
theorem dX10_best_55 : decode cX10_best 55 = .ok (.aload_n 0, 1) := by decide +kernel
theorem dX10_best_56 : decode cX10_best 56 = .ok (.getfield 55, 3) := by decide +kernel
theorem dX10_best_59 : decode cX10_best 59 = .ok (.iload 4, 2) := by decide +kernel
theorem dX10_best_61 : decode cX10_best 61 = .ok (.aload_n 0, 1) := by decide +kernel
theorem dX10_best_62 : decode cX10_best 62 = .ok (.getfield 28, 3) := by decide +kernel
theorem dX10_best_65 : decode cX10_best 65 = .ok (.getfield 155, 3) := by decide +kernel
theorem dX10_best_68 : decode cX10_best 68 = .ok (.invokevirtual 219, 3) := by decide +kernel
theorem dX10_best_71 : decode cX10_best 71 = .ok (.aload_n 0, 1) := by decide +kernel
theorem dX10_best_72 : decode cX10_best 72 = .ok (.iload_n 1, 1) := by decide +kernel
theorem dX10_best_73 : decode cX10_best 73 = .ok (.invokevirtual 286, 3) := by decide +kernel
theorem dX10_best_76 : decode cX10_best 76 = .ok (.istore 5, 2) := by decide +kernel
theorem dX10_best_78 : decode cX10_best 78 = .ok (.iload 5, 2) := by decide +kernel
theorem dX10_best_80 : decode cX10_best 80 = .ok (.iload_n 3, 1) := by decide +kernel
theorem dX10_best_81 : decode cX10_best 81 = .ok (.if_icmp .le 9, 3) := by decide +kernel
theorem dX10_best_84 : decode cX10_best 84 = .ok (.iload 5, 2) := by decide +kernel
theorem dX10_best_86 : decode cX10_best 86 = .ok (.istore_n 3, 1) := by decide +kernel
theorem dX10_best_87 : decode cX10_best 87 = .ok (.iload 4, 2) := by decide +kernel
theorem dX10_best_89 : decode cX10_best 89 = .ok (.istore_n 2, 1) := by decide +kernel
theorem dX10_best_90 : decode cX10_best 90 = .ok (.iinc 4 1, 3) := by decide +kernel
theorem dX10_best_93 : decode cX10_best 93 = .ok (.goto (-45), 3) := by decide +kernel
theorem dX10_best_96 : decode cX10_best 96 = .ok (.iload_n 2, 1) := by decide +kernel
theorem dX10_best_97 : decode cX10_best 97 = .ok (.ireturn, 1) := by decide +kernel
set_option maxRecDepth 20000 in
theorem ggX10_track_X7_size : GoodIn wsX10_track wsX7_size := goodIn_r _ [8, 9, 10, 33, 34, 35, 36, 37, 38, 39, 40, 41, 42] (by decide +kernel) (by decide +kernel)
set_option maxRecDepth 20000 in
theorem gX10_track_X7_size : GoodIn wsX10_track (wsV RX10 297 RX7 yX7_size wsX7_size) := goodIn_app (goodIn_of _ (by decide +kernel)) ggX10_track_X7_size
set_option maxRecDepth 20000 in
theorem ggX10_track_X10_set : GoodIn wsX10_track wsX10_set := goodIn_r _ [14] (by decide +kernel) (by decide +kernel)
set_option maxRecDepth 20000 in
theorem gX10_track_X10_set : GoodIn wsX10_track (va_wsS RX10 300 yX10_set wsX10_set) := goodIn_app (goodIn_of _ (by decide +kernel)) ggX10_track_X10_set
theorem dX10_track_0 : decode cX10_track 0 = .ok (.iload_n 1, 1) := by decide +kernel
theorem dX10_track_1 : decode cX10_track 1 = .ok (.ifCond .lt 14, 3) := by decide +kernel
theorem dX10_track_4 : decode cX10_track 4 = .ok (.iload_n 1, 1) := by decide +kernel
theorem dX10_track_5 : decode cX10_track 5 = .ok (.aload_n 0, 1) := by decide +kernel
theorem dX10_track_6 : decode cX10_track 6 = .ok (.getfield 28, 3) := by decide +kernel
theorem dX10_track_9 : decode cX10_track 9 = .ok (.invokevirtual 297, 3) := by decide +kernel
theorem dX10_track_12 : decode cX10_track 12 = .ok (.if_icmp .lt 5, 3) := by decide +kernel
theorem dX10_track_15 : decode cX10_track 15 = .ok (.iconst (-1), 1) := by decide +kernel
theorem dX10_track_16 : decode cX10_track 16 = .ok (.ireturn, 1) := by decide +kernel
theorem dX10_track_17 : decode cX10_track 17 = .ok (.aload_n 0, 1) := by decide +kernel
theorem dX10_track_18 : decode cX10_track 18 = .ok (.getfield 121, 3) := by decide +kernel
theorem dX10_track_21 : decode cX10_track 21 = .ok (.bipush 16, 2) := by decide +kernel
theorem dX10_track_23 : decode cX10_track 23 = .ok (.if_icmp .lt 6, 3) := by decide +kernel
theorem dX10_track_26 : decode cX10_track 26 = .ok (.bipush (-3), 2) := by decide +kernel
theorem dX10_track_28 : decode cX10_track 28 = .ok (.ireturn, 1) := by decide +kernel
theorem dX10_track_29 : decode cX10_track 29 = .ok (.aload_n 0, 1) := by decide +kernel
theorem dX10_track_30 : decode cX10_track 30 = .ok (.getfield 93, 3) := by decide +kernel
theorem dX10_track_33 : decode cX10_track 33 = .ok (.aload_n 0, 1) := by decide +kernel
theorem dX10_track_34 : decode cX10_track 34 = .ok (.getfield 121, 3) := by decide +kernel
theorem dX10_track_37 : decode cX10_track 37 = .ok (.iload_n 1, 1) := by decide +kernel
theorem dX10_track_38 : decode cX10_track 38 = .ok (.invokestatic 300, 3) := by decide +kernel
theorem dX10_track_41 : decode cX10_track 41 = .ok (.aload_n 0, 1) := by decide +kernel
theorem dX10_track_42 : decode cX10_track 42 = .ok (.dup, 1) := by decide +kernel
theorem dX10_track_43 : decode cX10_track 43 = .ok (.getfield 121, 3) := by decide +kernel
theorem dX10_track_46 : decode cX10_track 46 = .ok (.iconst 1, 1) := by decide +kernel
theorem dX10_track_47 : decode cX10_track 47 = .ok (.iadd, 1) := by decide +kernel
theorem dX10_track_48 : decode cX10_track 48 = .ok (.putfield 121, 3) := by decide +kernel
theorem dX10_track_51 : decode cX10_track 51 = .ok (.aload_n 0, 1) := by decide +kernel
theorem dX10_track_52 : decode cX10_track 52 = .ok (.getfield 121, 3) := by decide +kernel
theorem dX10_track_55 : decode cX10_track 55 = .ok (.ireturn, 1) := by decide +kernel
theorem dX10_wipe_0 : decode cX10_wipe 0 = .ok (.aload_n 0, 1) := by decide +kernel
theorem dX10_wipe_1 : decode cX10_wipe 1 = .ok (.getfield 121, 3) := by decide +kernel
theorem dX10_wipe_4 : decode cX10_wipe 4 = .ok (.istore_n 1, 1) := by decide +kernel
theorem dX10_wipe_5 : decode cX10_wipe 5 = .ok (.aload_n 0, 1) := by decide +kernel
theorem dX10_wipe_6 : decode cX10_wipe 6 = .ok (.iconst 0, 1) := by decide +kernel
theorem dX10_wipe_7 : decode cX10_wipe 7 = .ok (.putfield 121, 3) := by decide +kernel
theorem dX10_wipe_10 : decode cX10_wipe 10 = .ok (.iload_n 1, 1) := by decide +kernel
theorem dX10_wipe_11 : decode cX10_wipe 11 = .ok (.ireturn, 1) := by decide +kernel
set_option maxRecDepth 20000 in
theorem ggX10_fits_X9_lay : GoodIn wsX10_fits wsX9_lay := goodIn_r _ [8, 9, 10, 11, 12, 13, 14, 15, 16, 17, 18, 19, 7, 20, 21, 22, 23, 24, 25, 26, 27, 28, 29, 30, 31, 32, 33, 34, 35, 36, 37, 38, 39, 40, 41, 42, 43, 44, 45, 46, 47, 48, 49, 50, 51, 52, 53, 54, 55, 56, 109, 110, 111, 112, 99, 100, 101, 102, 103, 104, 105, 106, 107, 108] (by decide +kernel) (by decide +kernel)
set_option maxRecDepth 20000 in
theorem gX10_fits_X9_lay : GoodIn wsX10_fits (wsV RX10 215 RX9 yX9_lay wsX9_lay) := goodIn_app (goodIn_of _ (by decide +kernel)) ggX10_fits_X9_lay
set_option maxRecDepth 20000 in
theorem ggX10_fits_X9_bind : GoodIn wsX10_fits wsX9_bind := goodIn_r _ [60, 61, 62, 109, 110, 111, 112] (by decide +kernel) (by decide +kernel)
set_option maxRecDepth 20000 in
theorem gX10_fits_X9_bind : GoodIn wsX10_fits (wsV RX10 219 RX9 yX9_bind wsX9_bind) := goodIn_app (goodIn_of _ (by decide +kernel)) ggX10_fits_X9_bind
set_option maxRecDepth 20000 in
theorem ggX10_fits_X10_fitsTracks : GoodIn wsX10_fits wsX10_fitsTracks := goodIn_r _ [66, 67, 68, 2, 1, 69, 29, 30, 31, 70, 50, 51, 14, 52, 44, 45, 46, 47, 16, 17, 48, 71, 72, 73, 74, 75, 76, 7, 77, 10, 61, 62, 78, 79, 80, 81, 82, 83, 84, 85, 86, 87, 88, 89, 90, 91, 92, 93, 94, 95, 96, 97, 98, 99, 100, 101, 102, 103, 104, 105, 106, 107, 108, 109, 110, 111, 112] (by decide +kernel) (by decide +kernel)
set_option maxRecDepth 20000 in
theorem gX10_fits_X10_fitsTracks : GoodIn wsX10_fits (wsV RX10 303 RX10 yX10_fitsTracks wsX10_fitsTracks) := goodIn_app (goodIn_of _ (by decide +kernel)) ggX10_fits_X10_fitsTracks
theorem dX10_fits_0 : decode cX10_fits 0 = .ok (.iload_n 1, 1) := by decide +kernel
theorem dX10_fits_1 : decode cX10_fits 1 = .ok (.ifCond .lt 8, 3) := by decide +kernel
theorem dX10_fits_4 : decode cX10_fits 4 = .ok (.iload_n 1, 1) := by decide +kernel
theorem dX10_fits_5 : decode cX10_fits 5 = .ok (.iconst 1, 1) := by decide +kernel
theorem dX10_fits_6 : decode cX10_fits 6 = .ok (.if_icmp .le 5, 3) := by decide +kernel
theorem dX10_fits_9 : decode cX10_fits 9 = .ok (.iconst (-1), 1) := by decide +kernel
theorem dX10_fits_10 : decode cX10_fits 10 = .ok (.ireturn, 1) := by decide +kernel
theorem dX10_fits_11 : decode cX10_fits 11 = .ok (.aload_n 0, 1) := by decide +kernel
theorem dX10_fits_12 : decode cX10_fits 12 = .ok (.getfield 55, 3) := by decide +kernel
theorem dX10_fits_15 : decode cX10_fits 15 = .ok (.aload_n 0, 1) := by decide +kernel
theorem dX10_fits_16 : decode cX10_fits 16 = .ok (.getfield 28, 3) := by decide +kernel
theorem dX10_fits_19 : decode cX10_fits 19 = .ok (.aload_n 0, 1) := by decide +kernel
theorem dX10_fits_20 : decode cX10_fits 20 = .ok (.getfield 28, 3) := by decide +kernel
theorem dX10_fits_23 : decode cX10_fits 23 = .ok (.getfield 149, 3) := by decide +kernel
theorem dX10_fits_26 : decode cX10_fits 26 = .ok (.invokevirtual 215, 3) := by decide +kernel
theorem dX10_fits_29 : decode cX10_fits 29 = .ok (.iconst 0, 1) := by decide +kernel
theorem dX10_fits_30 : decode cX10_fits 30 = .ok (.istore_n 2, 1) := by decide +kernel
theorem dX10_fits_31 : decode cX10_fits 31 = .ok (.bipush (-9), 2) := by decide +kernel
theorem dX10_fits_33 : decode cX10_fits 33 = .ok (.istore_n 3, 1) := by decide +kernel
theorem dX10_fits_34 : decode cX10_fits 34 = .ok (.iconst 0, 1) := by decide +kernel
theorem dX10_fits_35 : decode cX10_fits 35 = .ok (.istore 4, 2) := by decide +kernel
theorem dX10_fits_37 : decode cX10_fits 37 = .ok (.iload 4, 2) := by decide +kernel
theorem dX10_fits_39 : decode cX10_fits 39 = .ok (.sipush 560, 3) := by decide +kernel
theorem dX10_fits_42 : decode cX10_fits 42 = .ok (.if_icmp .ge 79, 3) := by decide +kernel
theorem dX10_fits_45 : decode cX10_fits 45 = .ok (.iload 4, 2) := by decide +kernel
theorem dX10_fits_47 : decode cX10_fits 47 = .ok (.bipush 80, 2) := by decide +kernel
theorem dX10_fits_49 : decode cX10_fits 49 = .ok (.idiv, 1) := by decide +kernel
theorem dX10_fits_50 : decode cX10_fits 50 = .ok (.iconst 1, 1) := by decide +kernel
theorem dX10_fits_51 : decode cX10_fits 51 = .ok (.iadd, 1) := by decide +kernel
theorem dX10_fits_52 : decode cX10_fits 52 = .ok (.istore 5, 2) := by decide +kernel
theorem dX10_fits_54 : decode cX10_fits 54 = .ok (.iload 4, 2) := by decide +kernel
theorem dX10_fits_56 : decode cX10_fits 56 = .ok (.bipush 8, 2) := by decide +kernel
theorem dX10_fits_58 : decode cX10_fits 58 = .ok (.idiv, 1) := by decide +kernel
theorem dX10_fits_59 : decode cX10_fits 59 = .ok (.bipush 10, 2) := by decide +kernel
theorem dX10_fits_61 : decode cX10_fits 61 = .ok (.irem, 1) := by decide +kernel
theorem dX10_fits_62 : decode cX10_fits 62 = .ok (.istore 6, 2) := by decide +kernel
theorem dX10_fits_64 : decode cX10_fits 64 = .ok (.iload 4, 2) := by decide +kernel
theorem dX10_fits_66 : decode cX10_fits 66 = .ok (.bipush 8, 2) := by decide +kernel
theorem dX10_fits_68 : decode cX10_fits 68 = .ok (.irem, 1) := by decide +kernel
theorem dX10_fits_69 : decode cX10_fits 69 = .ok (.istore 7, 2) := by decide +kernel
theorem dX10_fits_71 : decode cX10_fits 71 = .ok (.aload_n 0, 1) := by decide +kernel
theorem dX10_fits_72 : decode cX10_fits 72 = .ok (.getfield 55, 3) := by decide +kernel
theorem dX10_fits_75 : decode cX10_fits 75 = .ok (.iload 5, 2) := by decide +kernel
theorem dX10_fits_77 : decode cX10_fits 77 = .ok (.iload 6, 2) := by decide +kernel
theorem dX10_fits_79 : decode cX10_fits 79 = .ok (.invokevirtual 219, 3) := by decide +kernel
theorem dX10_fits_82 : decode cX10_fits 82 = .ok (.aload_n 0, 1) := by decide +kernel
theorem dX10_fits_83 : decode cX10_fits 83 = .ok (.iload 7, 2) := by decide +kernel
theorem dX10_fits_85 : decode cX10_fits 85 = .ok (.invokevirtual 303, 3) := by decide +kernel
theorem dX10_fits_88 : decode cX10_fits 88 = .ok (.ifCond .eq 27, 3) := by decide +kernel
theorem dX10_fits_91 : decode cX10_fits 91 = .ok (.iinc 2 1, 3) := by decide +kernel
theorem dX10_fits_94 : decode cX10_fits 94 = .ok (.iload_n 3, 1) := by decide +kernel
theorem dX10_fits_95 : decode cX10_fits 95 = .ok (.bipush (-9), 2) := by decide +kernel
theorem dX10_fits_97 : decode cX10_fits 97 = .ok (.if_icmp .ne 18, 3) := by decide +kernel
theorem dX10_fits_100 : decode cX10_fits 100 = .ok (.bipush 100, 2) := by decide +kernel
theorem dX10_fits_102 : decode cX10_fits 102 = .ok (.iload 5, 2) := by decide +kernel
theorem dX10_fits_104 : decode cX10_fits 104 = .ok (.imul, 1) := by decide +kernel
theorem dX10_fits_105 : decode cX10_fits 105 = .ok (.bipush 10, 2) := by decide +kernel
theorem dX10_fits_107 : decode cX10_fits 107 = .ok (.iload 6, 2) := by decide +kernel
theorem dX10_fits_109 : decode cX10_fits 109 = .ok (.imul, 1) := by decide +kernel
theorem dX10_fits_110 : decode cX10_fits 110 = .ok (.iadd, 1) := by decide +kernel
theorem dX10_fits_111 : decode cX10_fits 111 = .ok (.iload 7, 2) := by decide +kernel
theorem dX10_fits_113 : decode cX10_fits 113 = .ok (.iadd, 1) := by decide +kernel
theorem dX10_fits_114 : decode cX10_fits 114 = .ok (.istore_n 3, 1) := by decide +kernel
theorem dX10_fits_115 : decode cX10_fits 115 = .ok (.iinc 4 1, 3) := by decide +kernel
theorem dX10_fits_118 : decode cX10_fits 118 = .ok (.goto (-81), 3) := by decide +kernel
theorem dX10_fits_121 : decode cX10_fits 121 = .ok (.iload_n 1, 1) := by decide +kernel
theorem dX10_fits_122 : decode cX10_fits 122 = .ok (.ifCond .ne 7, 3) := by decide +kernel
theorem dX10_fits_125 : decode cX10_fits 125 = .ok (.iload_n 2, 1) := by decide +kernel
theorem dX10_fits_126 : decode cX10_fits 126 = .ok (.goto 4, 3) := by decide +kernel
theorem dX10_fits_129 : decode cX10_fits 129 = .ok (.iload_n 3, 1) := by decide +kernel
theorem dX10_fits_130 : decode cX10_fits 130 = .ok (.ireturn, 1) := by decide +kernel
set_option maxRecDepth 20000 in
theorem ggX10_fitsTracks_X10_at : GoodIn wsX10_fitsTracks wsX10_at := goodIn_r _ [8] (by decide +kernel) (by decide +kernel)
set_option maxRecDepth 20000 in
theorem gX10_fitsTracks_X10_at : GoodIn wsX10_fitsTracks (va_wsS RX10 307 yX10_at wsX10_at) := goodIn_app (goodIn_of _ (by decide +kernel)) ggX10_fitsTracks_X10_at
set_option maxRecDepth 20000 in
theorem ggX10_fitsTracks_X7_isWood : GoodIn wsX10_fitsTracks wsX7_isWood := goodIn_r _ [13, 14, 15, 16, 12, 17, 18, 19, 20, 53, 54, 55, 56, 57, 58, 59, 60, 61, 62] (by decide +kernel) (by decide +kernel)
set_option maxRecDepth 20000 in
theorem gX10_fitsTracks_X7_isWood : GoodIn wsX10_fitsTracks (wsV RX10 311 RX7 yX7_isWood wsX7_isWood) := goodIn_app (goodIn_of _ (by decide +kernel)) ggX10_fitsTracks_X7_isWood
set_option maxRecDepth 20000 in
theorem ggX10_fitsTracks_X10_standOf : GoodIn wsX10_fitsTracks wsX10_standOf := goodIn_r _ [23] (by decide +kernel) (by decide +kernel)
set_option maxRecDepth 20000 in
theorem gX10_fitsTracks_X10_standOf : GoodIn wsX10_fitsTracks (va_wsS RX10 222 yX10_standOf wsX10_standOf) := goodIn_app (goodIn_of _ (by decide +kernel)) ggX10_fitsTracks_X10_standOf
set_option maxRecDepth 20000 in
theorem ggX10_fitsTracks_X9_after : GoodIn wsX10_fitsTracks wsX9_after := goodIn_r _ [28, 29, 30, 31, 6, 7, 8, 32, 33, 22, 23, 63, 64, 65, 66] (by decide +kernel) (by decide +kernel)
set_option maxRecDepth 20000 in
theorem gX10_fitsTracks_X9_after : GoodIn wsX10_fitsTracks (wsV RX10 253 RX9 yX9_after wsX9_after) := goodIn_app (goodIn_of _ (by decide +kernel)) ggX10_fitsTracks_X9_after
set_option maxRecDepth 20000 in
theorem ggX10_fitsTracks_X10_cellOf : GoodIn wsX10_fitsTracks wsX10_cellOf := goodIn_r _ [33] (by decide +kernel) (by decide +kernel)
set_option maxRecDepth 20000 in
theorem gX10_fitsTracks_X10_cellOf : GoodIn wsX10_fitsTracks (va_wsS RX10 289 yX10_cellOf wsX10_cellOf) := goodIn_app (goodIn_of _ (by decide +kernel)) ggX10_fitsTracks_X10_cellOf
theorem dX10_fitsTracks_0 : decode cX10_fitsTracks 0 = .ok (.aload_n 0, 1) := by decide +kernel
theorem dX10_fitsTracks_1 : decode cX10_fitsTracks 1 = .ok (.getfield 121, 3) := by decide +kernel
theorem dX10_fitsTracks_4 : decode cX10_fitsTracks 4 = .ok (.iconst 2, 1) := by decide +kernel
theorem dX10_fitsTracks_5 : decode cX10_fitsTracks 5 = .ok (.if_icmp .ge 5, 3) := by decide +kernel
theorem dX10_fitsTracks_8 : decode cX10_fitsTracks 8 = .ok (.iconst 1, 1) := by decide +kernel
theorem dX10_fitsTracks_9 : decode cX10_fitsTracks 9 = .ok (.ireturn, 1) := by decide +kernel
theorem dX10_fitsTracks_10 : decode cX10_fitsTracks 10 = .ok (.aload_n 0, 1) := by decide +kernel
theorem dX10_fitsTracks_11 : decode cX10_fitsTracks 11 = .ok (.getfield 93, 3) := by decide +kernel
theorem dX10_fitsTracks_14 : decode cX10_fitsTracks 14 = .ok (.iconst 0, 1) := by decide +kernel
theorem dX10_fitsTracks_15 : decode cX10_fitsTracks 15 = .ok (.invokestatic 307, 3) := by decide +kernel
theorem dX10_fitsTracks_18 : decode cX10_fitsTracks 18 = .ok (.istore_n 2, 1) := by decide +kernel
theorem dX10_fitsTracks_19 : decode cX10_fitsTracks 19 = .ok (.aload_n 0, 1) := by decide +kernel
theorem dX10_fitsTracks_20 : decode cX10_fitsTracks 20 = .ok (.getfield 28, 3) := by decide +kernel
theorem dX10_fitsTracks_23 : decode cX10_fitsTracks 23 = .ok (.iload_n 2, 1) := by decide +kernel
theorem dX10_fitsTracks_24 : decode cX10_fitsTracks 24 = .ok (.invokevirtual 311, 3) := by decide +kernel
theorem dX10_fitsTracks_27 : decode cX10_fitsTracks 27 = .ok (.ifCond .eq 12, 3) := by decide +kernel
theorem dX10_fitsTracks_30 : decode cX10_fitsTracks 30 = .ok (.iload_n 2, 1) := by decide +kernel
theorem dX10_fitsTracks_31 : decode cX10_fitsTracks 31 = .ok (.iload_n 1, 1) := by decide +kernel
theorem dX10_fitsTracks_32 : decode cX10_fitsTracks 32 = .ok (.iconst 0, 1) := by decide +kernel
theorem dX10_fitsTracks_33 : decode cX10_fitsTracks 33 = .ok (.invokestatic 222, 3) := by decide +kernel
theorem dX10_fitsTracks_36 : decode cX10_fitsTracks 36 = .ok (.goto 4, 3) := by decide +kernel
theorem dX10_fitsTracks_39 : decode cX10_fitsTracks 39 = .ok (.iconst (-1), 1) := by decide +kernel
theorem dX10_fitsTracks_40 : decode cX10_fitsTracks 40 = .ok (.istore_n 3, 1) := by decide +kernel
theorem dX10_fitsTracks_41 : decode cX10_fitsTracks 41 = .ok (.iconst 1, 1) := by decide +kernel
theorem dX10_fitsTracks_42 : decode cX10_fitsTracks 42 = .ok (.istore 4, 2) := by decide +kernel
theorem dX10_fitsTracks_44 : decode cX10_fitsTracks 44 = .ok (.iload 4, 2) := by decide +kernel
theorem dX10_fitsTracks_46 : decode cX10_fitsTracks 46 = .ok (.aload_n 0, 1) := by decide +kernel
theorem dX10_fitsTracks_47 : decode cX10_fitsTracks 47 = .ok (.getfield 121, 3) := by decide +kernel
theorem dX10_fitsTracks_50 : decode cX10_fitsTracks 50 = .ok (.if_icmp .ge 41, 3) := by decide +kernel
theorem dX10_fitsTracks_53 : decode cX10_fitsTracks 53 = .ok (.iload_n 3, 1) := by decide +kernel
theorem dX10_fitsTracks_54 : decode cX10_fitsTracks 54 = .ok (.iconst (-1), 1) := by decide +kernel
theorem dX10_fitsTracks_55 : decode cX10_fitsTracks 55 = .ok (.if_icmp .eq 36, 3) := by decide +kernel
theorem dX10_fitsTracks_58 : decode cX10_fitsTracks 58 = .ok (.aload_n 0, 1) := by decide +kernel
theorem dX10_fitsTracks_59 : decode cX10_fitsTracks 59 = .ok (.getfield 55, 3) := by decide +kernel
theorem dX10_fitsTracks_62 : decode cX10_fitsTracks 62 = .ok (.iload_n 3, 1) := by decide +kernel
theorem dX10_fitsTracks_63 : decode cX10_fitsTracks 63 = .ok (.invokevirtual 253, 3) := by decide +kernel
theorem dX10_fitsTracks_66 : decode cX10_fitsTracks 66 = .ok (.istore_n 3, 1) := by decide +kernel
theorem dX10_fitsTracks_67 : decode cX10_fitsTracks 67 = .ok (.iload_n 3, 1) := by decide +kernel
theorem dX10_fitsTracks_68 : decode cX10_fitsTracks 68 = .ok (.invokestatic 289, 3) := by decide +kernel
theorem dX10_fitsTracks_71 : decode cX10_fitsTracks 71 = .ok (.aload_n 0, 1) := by decide +kernel
theorem dX10_fitsTracks_72 : decode cX10_fitsTracks 72 = .ok (.getfield 93, 3) := by decide +kernel
theorem dX10_fitsTracks_75 : decode cX10_fitsTracks 75 = .ok (.iload 4, 2) := by decide +kernel
theorem dX10_fitsTracks_77 : decode cX10_fitsTracks 77 = .ok (.invokestatic 307, 3) := by decide +kernel
theorem dX10_fitsTracks_80 : decode cX10_fitsTracks 80 = .ok (.if_icmp .eq 5, 3) := by decide +kernel
theorem dX10_fitsTracks_83 : decode cX10_fitsTracks 83 = .ok (.iconst 0, 1) := by decide +kernel
theorem dX10_fitsTracks_84 : decode cX10_fitsTracks 84 = .ok (.ireturn, 1) := by decide +kernel
theorem dX10_fitsTracks_85 : decode cX10_fitsTracks 85 = .ok (.iinc 4 1, 3) := by decide +kernel
theorem dX10_fitsTracks_88 : decode cX10_fitsTracks 88 = .ok (.goto (-44), 3) := by decide +kernel
theorem dX10_fitsTracks_91 : decode cX10_fitsTracks 91 = .ok (.iload_n 3, 1) := by decide +kernel
theorem dX10_fitsTracks_92 : decode cX10_fitsTracks 92 = .ok (.iconst (-1), 1) := by decide +kernel
theorem dX10_fitsTracks_93 : decode cX10_fitsTracks 93 = .ok (.if_icmp .eq 7, 3) := by decide +kernel
theorem dX10_fitsTracks_96 : decode cX10_fitsTracks 96 = .ok (.iconst 1, 1) := by decide +kernel
theorem dX10_fitsTracks_97 : decode cX10_fitsTracks 97 = .ok (.goto 4, 3) := by decide +kernel
theorem dX10_fitsTracks_100 : decode cX10_fitsTracks 100 = .ok (.iconst 0, 1) := by decide +kernel
theorem dX10_fitsTracks_101 : decode cX10_fitsTracks 101 = .ok (.ireturn, 1) := by decide +kernel
set_option maxRecDepth 20000 in
theorem ggX10_meet_X10_isStart : GoodIn wsX10_meet wsX10_isStart := goodIn_r _ [7, 8, 9, 10, 6, 11, 1, 12, 13, 14, 15, 16, 17, 18, 19, 20, 21, 22, 23, 24, 25, 26, 27, 110, 111, 112, 113, 114, 115, 116, 117, 118, 119, 120, 121, 122, 123, 124, 125, 126, 127, 128, 129, 130, 131, 132, 133, 134, 135, 136, 137] (by decide +kernel) (by decide +kernel)
set_option maxRecDepth 20000 in
theorem gX10_meet_X10_isStart : GoodIn wsX10_meet (wsV RX10 181 RX10 yX10_isStart wsX10_isStart) := goodIn_app (goodIn_of _ (by decide +kernel)) ggX10_meet_X10_isStart
set_option maxRecDepth 20000 in
theorem ggX10_meet_X10_isOver : GoodIn wsX10_meet wsX10_isOver := goodIn_r _ [31, 32, 1, 33, 34, 35, 36, 37, 38, 39, 40, 41, 42, 15, 43, 44, 24, 25, 26, 17, 18, 27, 110, 111, 112, 113, 114, 115, 116, 117, 118, 119, 120, 121, 122, 123, 124, 125, 126, 127, 138, 139, 140, 141, 142, 143, 144, 145, 146, 147, 128, 129, 130, 131, 132, 133, 134, 135, 136, 137] (by decide +kernel) (by decide +kernel)
set_option maxRecDepth 20000 in
theorem gX10_meet_X10_isOver : GoodIn wsX10_meet (wsV RX10 176 RX10 yX10_isOver wsX10_isOver) := goodIn_app (goodIn_of _ (by decide +kernel)) ggX10_meet_X10_isOver
set_option maxRecDepth 20000 in
theorem ggX10_meet_X10_layWays : GoodIn wsX10_meet wsX10_layWays := goodIn_r _ [48, 2, 1, 49, 50, 51, 52, 53, 54, 55, 56, 57, 58, 59, 60, 61, 15, 62, 17, 18, 63, 64, 65, 66, 67, 68, 69, 70, 71, 72, 73, 74, 6, 75, 76, 13, 14, 16, 77, 20, 21, 22, 78, 79, 80, 81, 44, 24, 25, 26, 27, 82, 41, 42, 43, 83, 84, 85, 86, 87, 88, 89, 90, 91, 92, 110, 111, 112, 113, 114, 115, 116, 117, 118, 119, 120, 121, 122, 123, 124, 125, 126, 127, 128, 129, 130, 131, 132, 133, 134, 135, 136, 137, 148, 149, 150, 151] (by decide +kernel) (by decide +kernel)
set_option maxRecDepth 20000 in
theorem gX10_meet_X10_layWays : GoodIn wsX10_meet (wsV RX10 226 RX10 yX10_layWays wsX10_layWays) := goodIn_app (goodIn_of _ (by decide +kernel)) ggX10_meet_X10_layWays
set_option maxRecDepth 20000 in
theorem ggX10_meet_X10_standNow : GoodIn wsX10_meet wsX10_standNow := goodIn_r _ [96, 32, 97, 98, 99, 100, 101, 6, 102, 110, 111, 112, 113, 114, 115, 116, 117, 118, 119, 120, 121, 122, 123, 124, 125, 126, 127, 138, 139, 140, 141, 142, 143, 144, 145, 146, 147] (by decide +kernel) (by decide +kernel)
set_option maxRecDepth 20000 in
theorem gX10_meet_X10_standNow : GoodIn wsX10_meet (wsV RX10 229 RX10 yX10_standNow wsX10_standNow) := goodIn_app (goodIn_of _ (by decide +kernel)) ggX10_meet_X10_standNow
set_option maxRecDepth 20000 in
theorem ggX10_meet_X7_numberOf : GoodIn wsX10_meet wsX7_numberOf := goodIn_r _ [22, 17, 128, 129, 130, 131, 132, 133, 134, 135, 136, 137] (by decide +kernel) (by decide +kernel)
set_option maxRecDepth 20000 in
theorem gX10_meet_X7_numberOf : GoodIn wsX10_meet (wsV RX10 135 RX7 yX7_numberOf wsX7_numberOf) := goodIn_app (goodIn_of _ (by decide +kernel)) ggX10_meet_X7_numberOf
set_option maxRecDepth 20000 in
theorem ggX10_meet_X10_standOf : GoodIn wsX10_meet wsX10_standOf := goodIn_r _ [102] (by decide +kernel) (by decide +kernel)
set_option maxRecDepth 20000 in
theorem gX10_meet_X10_standOf : GoodIn wsX10_meet (va_wsS RX10 222 yX10_standOf wsX10_standOf) := goodIn_app (goodIn_of _ (by decide +kernel)) ggX10_meet_X10_standOf
set_option maxRecDepth 20000 in
theorem ggX10_meet_X10_cellOf : GoodIn wsX10_meet wsX10_cellOf := goodIn_r _ [105] (by decide +kernel) (by decide +kernel)
set_option maxRecDepth 20000 in
theorem gX10_meet_X10_cellOf : GoodIn wsX10_meet (va_wsS RX10 289 yX10_cellOf wsX10_cellOf) := goodIn_app (goodIn_of _ (by decide +kernel)) ggX10_meet_X10_cellOf
set_option maxRecDepth 20000 in
theorem ggX10_meet_X9_after : GoodIn wsX10_meet wsX9_after := goodIn_r _ [109, 58, 91, 92, 74, 6, 75, 104, 105, 101, 102, 148, 149, 150, 151] (by decide +kernel) (by decide +kernel)
set_option maxRecDepth 20000 in
theorem gX10_meet_X9_after : GoodIn wsX10_meet (wsV RX10 253 RX9 yX9_after wsX9_after) := goodIn_app (goodIn_of _ (by decide +kernel)) ggX10_meet_X9_after
theorem dX10_meet_0 : decode cX10_meet 0 = .ok (.aload_n 0, 1) := by decide +kernel
theorem dX10_meet_1 : decode cX10_meet 1 = .ok (.iload_n 1, 1) := by decide +kernel
theorem dX10_meet_2 : decode cX10_meet 2 = .ok (.iload_n 2, 1) := by decide +kernel
theorem dX10_meet_3 : decode cX10_meet 3 = .ok (.iload_n 3, 1) := by decide +kernel
theorem dX10_meet_4 : decode cX10_meet 4 = .ok (.invokevirtual 181, 3) := by decide +kernel
theorem dX10_meet_7 : decode cX10_meet 7 = .ok (.ifCond .ne 5, 3) := by decide +kernel
theorem dX10_meet_10 : decode cX10_meet 10 = .ok (.iconst (-1), 1) := by decide +kernel
theorem dX10_meet_11 : decode cX10_meet 11 = .ok (.ireturn, 1) := by decide +kernel
theorem dX10_meet_12 : decode cX10_meet 12 = .ok (.aload_n 0, 1) := by decide +kernel
theorem dX10_meet_13 : decode cX10_meet 13 = .ok (.invokevirtual 176, 3) := by decide +kernel
theorem dX10_meet_16 : decode cX10_meet 16 = .ok (.ifCond .eq 6, 3) := by decide +kernel
theorem dX10_meet_19 : decode cX10_meet 19 = .ok (.bipush (-2), 2) := by decide +kernel
theorem dX10_meet_21 : decode cX10_meet 21 = .ok (.ireturn, 1) := by decide +kernel
theorem dX10_meet_22 : decode cX10_meet 22 = .ok (.aload_n 0, 1) := by decide +kernel
theorem dX10_meet_23 : decode cX10_meet 23 = .ok (.invokevirtual 226, 3) := by decide +kernel
theorem dX10_meet_26 : decode cX10_meet 26 = .ok (.aload_n 0, 1) := by decide +kernel
theorem dX10_meet_27 : decode cX10_meet 27 = .ok (.invokevirtual 229, 3) := by decide +kernel
theorem dX10_meet_30 : decode cX10_meet 30 = .ok (.istore 4, 2) := by decide +kernel
theorem dX10_meet_32 : decode cX10_meet 32 = .ok (.aload_n 0, 1) := by decide +kernel
theorem dX10_meet_33 : decode cX10_meet 33 = .ok (.getfield 28, 3) := by decide +kernel
theorem dX10_meet_36 : decode cX10_meet 36 = .ok (.iload_n 1, 1) := by decide +kernel
theorem dX10_meet_37 : decode cX10_meet 37 = .ok (.iload_n 2, 1) := by decide +kernel
theorem dX10_meet_38 : decode cX10_meet 38 = .ok (.invokevirtual 135, 3) := by decide +kernel
theorem dX10_meet_41 : decode cX10_meet 41 = .ok (.iload_n 3, 1) := by decide +kernel
theorem dX10_meet_42 : decode cX10_meet 42 = .ok (.iconst 0, 1) := by decide +kernel
theorem dX10_meet_43 : decode cX10_meet 43 = .ok (.invokestatic 222, 3) := by decide +kernel
theorem dX10_meet_46 : decode cX10_meet 46 = .ok (.istore 5, 2) := by decide +kernel
theorem dX10_meet_48 : decode cX10_meet 48 = .ok (.iconst 0, 1) := by decide +kernel
theorem dX10_meet_49 : decode cX10_meet 49 = .ok (.istore 6, 2) := by decide +kernel
theorem dX10_meet_51 : decode cX10_meet 51 = .ok (.iload 6, 2) := by decide +kernel
theorem dX10_meet_53 : decode cX10_meet 53 = .ok (.sipush 4096, 3) := by decide +kernel
theorem dX10_meet_56 : decode cX10_meet 56 = .ok (.if_icmp .gt 59, 3) := by decide +kernel
theorem dX10_meet_59 : decode cX10_meet 59 = .ok (.iload 4, 2) := by decide +kernel
theorem dX10_meet_61 : decode cX10_meet 61 = .ok (.iconst (-1), 1) := by decide +kernel
theorem dX10_meet_62 : decode cX10_meet 62 = .ok (.if_icmp .eq 53, 3) := by decide +kernel
theorem dX10_meet_65 : decode cX10_meet 65 = .ok (.iload 5, 2) := by decide +kernel
theorem dX10_meet_67 : decode cX10_meet 67 = .ok (.iconst (-1), 1) := by decide +kernel
theorem dX10_meet_68 : decode cX10_meet 68 = .ok (.if_icmp .eq 47, 3) := by decide +kernel
theorem dX10_meet_71 : decode cX10_meet 71 = .ok (.iload 4, 2) := by decide +kernel
theorem dX10_meet_73 : decode cX10_meet 73 = .ok (.invokestatic 289, 3) := by decide +kernel
theorem dX10_meet_76 : decode cX10_meet 76 = .ok (.iload 5, 2) := by decide +kernel
theorem dX10_meet_78 : decode cX10_meet 78 = .ok (.invokestatic 289, 3) := by decide +kernel
theorem dX10_meet_81 : decode cX10_meet 81 = .ok (.if_icmp .ne 6, 3) := by decide +kernel
theorem dX10_meet_84 : decode cX10_meet 84 = .ok (.iload 6, 2) := by decide +kernel
theorem dX10_meet_86 : decode cX10_meet 86 = .ok (.ireturn, 1) := by decide +kernel
theorem dX10_meet_87 : decode cX10_meet 87 = .ok (.aload_n 0, 1) := by decide +kernel
theorem dX10_meet_88 : decode cX10_meet 88 = .ok (.getfield 55, 3) := by decide +kernel
theorem dX10_meet_91 : decode cX10_meet 91 = .ok (.iload 4, 2) := by decide +kernel
theorem dX10_meet_93 : decode cX10_meet 93 = .ok (.invokevirtual 253, 3) := by decide +kernel
theorem dX10_meet_96 : decode cX10_meet 96 = .ok (.istore 4, 2) := by decide +kernel
theorem dX10_meet_98 : decode cX10_meet 98 = .ok (.aload_n 0, 1) := by decide +kernel
theorem dX10_meet_99 : decode cX10_meet 99 = .ok (.getfield 55, 3) := by decide +kernel
theorem dX10_meet_102 : decode cX10_meet 102 = .ok (.iload 5, 2) := by decide +kernel
theorem dX10_meet_104 : decode cX10_meet 104 = .ok (.invokevirtual 253, 3) := by decide +kernel
theorem dX10_meet_107 : decode cX10_meet 107 = .ok (.istore 5, 2) := by decide +kernel
theorem dX10_meet_109 : decode cX10_meet 109 = .ok (.iinc 6 1, 3) := by decide +kernel
theorem dX10_meet_112 : decode cX10_meet 112 = .ok (.goto (-61), 3) := by decide +kernel
theorem dX10_meet_115 : decode cX10_meet 115 = .ok (.bipush (-9), 2) := by decide +kernel
theorem dX10_meet_117 : decode cX10_meet 117 = .ok (.ireturn, 1) := by decide +kernel
set_option maxRecDepth 20000 in
theorem ggX10_drawn_X10_isOver : GoodIn wsX10_drawn wsX10_isOver := goodIn_r _ [9, 10, 3, 11, 12, 13, 14, 15, 16, 17, 18, 19, 20, 21, 22, 23, 24, 25, 26, 27, 28, 29, 123, 124, 125, 126, 127, 128, 129, 130, 131, 132, 133, 134, 135, 136, 137, 138, 139, 140, 151, 152, 153, 154, 155, 156, 157, 158, 159, 160, 141, 142, 143, 144, 145, 146, 147, 148, 149, 150] (by decide +kernel) (by decide +kernel)
set_option maxRecDepth 20000 in
theorem gX10_drawn_X10_isOver : GoodIn wsX10_drawn (wsV RX10 176 RX10 yX10_isOver wsX10_isOver) := goodIn_app (goodIn_of _ (by decide +kernel)) ggX10_drawn_X10_isOver
set_option maxRecDepth 20000 in
theorem ggX10_drawn_X10_layWays : GoodIn wsX10_drawn wsX10_layWays := goodIn_r _ [33, 2, 3, 34, 35, 4, 36, 37, 38, 39, 40, 41, 42, 43, 44, 45, 21, 46, 27, 28, 47, 48, 49, 50, 51, 52, 53, 54, 55, 56, 57, 58, 8, 59, 60, 61, 62, 63, 64, 65, 66, 67, 68, 69, 70, 71, 23, 24, 25, 26, 29, 72, 19, 20, 22, 73, 74, 75, 76, 77, 78, 79, 80, 81, 82, 123, 124, 125, 126, 127, 128, 129, 130, 131, 132, 133, 134, 135, 136, 137, 138, 139, 140, 141, 142, 143, 144, 145, 146, 147, 148, 149, 150, 161, 162, 163, 164] (by decide +kernel) (by decide +kernel)
set_option maxRecDepth 20000 in
theorem gX10_drawn_X10_layWays : GoodIn wsX10_drawn (wsV RX10 226 RX10 yX10_layWays wsX10_layWays) := goodIn_app (goodIn_of _ (by decide +kernel)) ggX10_drawn_X10_layWays
set_option maxRecDepth 20000 in
theorem ggX10_drawn_X3_renew : GoodIn wsX10_drawn wsX3_renew := goodIn_r _ [87, 88, 89, 90, 91, 165, 166, 167] (by decide +kernel) (by decide +kernel)
set_option maxRecDepth 20000 in
theorem gX10_drawn_X3_renew : GoodIn wsX10_drawn (wsV RX10 241 RX3 yX3_renew wsX3_renew) := goodIn_app (goodIn_of _ (by decide +kernel)) ggX10_drawn_X3_renew
set_option maxRecDepth 20000 in
theorem ggX10_drawn_X10_standNow : GoodIn wsX10_drawn wsX10_standNow := goodIn_r _ [95, 10, 96, 97, 98, 99, 100, 8, 101, 123, 124, 125, 126, 127, 128, 129, 130, 131, 132, 133, 134, 135, 136, 137, 138, 139, 140, 151, 152, 153, 154, 155, 156, 157, 158, 159, 160] (by decide +kernel) (by decide +kernel)
set_option maxRecDepth 20000 in
theorem gX10_drawn_X10_standNow : GoodIn wsX10_drawn (wsV RX10 229 RX10 yX10_standNow wsX10_standNow) := goodIn_app (goodIn_of _ (by decide +kernel)) ggX10_drawn_X10_standNow
set_option maxRecDepth 20000 in
theorem ggX10_drawn_X10_cellOf : GoodIn wsX10_drawn wsX10_cellOf := goodIn_r _ [104] (by decide +kernel) (by decide +kernel)
set_option maxRecDepth 20000 in
theorem gX10_drawn_X10_cellOf : GoodIn wsX10_drawn (va_wsS RX10 289 yX10_cellOf wsX10_cellOf) := goodIn_app (goodIn_of _ (by decide +kernel)) ggX10_drawn_X10_cellOf
set_option maxRecDepth 20000 in
theorem ggX10_drawn_X3_add : GoodIn wsX10_drawn wsX3_add := goodIn_r _ [108, 91, 88, 165, 166, 167] (by decide +kernel) (by decide +kernel)
set_option maxRecDepth 20000 in
theorem gX10_drawn_X3_add : GoodIn wsX10_drawn (wsV RX10 292 RX3 yX3_add wsX3_add) := goodIn_app (goodIn_of _ (by decide +kernel)) ggX10_drawn_X3_add
set_option maxRecDepth 20000 in
theorem ggX10_drawn_X9_turnsAt : GoodIn wsX10_drawn wsX9_turnsAt := goodIn_r _ [112, 42, 58, 8, 59, 161, 162, 163, 164] (by decide +kernel) (by decide +kernel)
set_option maxRecDepth 20000 in
theorem gX10_drawn_X9_turnsAt : GoodIn wsX10_drawn (wsV RX10 314 RX9 yX9_turnsAt wsX9_turnsAt) := goodIn_app (goodIn_of _ (by decide +kernel)) ggX10_drawn_X9_turnsAt
set_option maxRecDepth 20000 in
theorem ggX10_drawn_X10_draw : GoodIn wsX10_drawn wsX10_draw := goodIn_r _ [116, 117, 118, 123, 124, 125, 126, 127, 128, 129, 130, 131, 132, 133, 134, 135, 136, 137, 138, 139, 140] (by decide +kernel) (by decide +kernel)
set_option maxRecDepth 20000 in
theorem gX10_drawn_X10_draw : GoodIn wsX10_drawn (wsV RX10 317 RX10 yX10_draw wsX10_draw) := goodIn_app (goodIn_of _ (by decide +kernel)) ggX10_drawn_X10_draw
set_option maxRecDepth 20000 in
theorem ggX10_drawn_X9_bind : GoodIn wsX10_drawn wsX9_bind := goodIn_r _ [80, 81, 82, 161, 162, 163, 164] (by decide +kernel) (by decide +kernel)
set_option maxRecDepth 20000 in
theorem gX10_drawn_X9_bind : GoodIn wsX10_drawn (wsV RX10 219 RX9 yX9_bind wsX9_bind) := goodIn_app (goodIn_of _ (by decide +kernel)) ggX10_drawn_X9_bind
set_option maxRecDepth 20000 in
theorem ggX10_drawn_X9_after : GoodIn wsX10_drawn wsX9_after := goodIn_r _ [122, 42, 81, 82, 58, 8, 59, 103, 104, 100, 101, 161, 162, 163, 164] (by decide +kernel) (by decide +kernel)
set_option maxRecDepth 20000 in
theorem gX10_drawn_X9_after : GoodIn wsX10_drawn (wsV RX10 253 RX9 yX9_after wsX9_after) := goodIn_app (goodIn_of _ (by decide +kernel)) ggX10_drawn_X9_after
theorem dX10_drawn_0 : decode cX10_drawn 0 = .ok (.iload_n 1, 1) := by decide +kernel
theorem dX10_drawn_1 : decode cX10_drawn 1 = .ok (.ifCond .lt 10, 3) := by decide +kernel
theorem dX10_drawn_4 : decode cX10_drawn 4 = .ok (.iload_n 1, 1) := by decide +kernel
theorem dX10_drawn_5 : decode cX10_drawn 5 = .ok (.sipush 999, 3) := by decide +kernel
theorem dX10_drawn_8 : decode cX10_drawn 8 = .ok (.if_icmp .le 5, 3) := by decide +kernel
theorem dX10_drawn_11 : decode cX10_drawn 11 = .ok (.iconst (-1), 1) := by decide +kernel
theorem dX10_drawn_12 : decode cX10_drawn 12 = .ok (.ireturn, 1) := by decide +kernel
theorem dX10_drawn_13 : decode cX10_drawn 13 = .ok (.aload_n 0, 1) := by decide +kernel
theorem dX10_drawn_14 : decode cX10_drawn 14 = .ok (.invokevirtual 176, 3) := by decide +kernel
theorem dX10_drawn_17 : decode cX10_drawn 17 = .ok (.ifCond .eq 6, 3) := by decide +kernel
theorem dX10_drawn_20 : decode cX10_drawn 20 = .ok (.bipush (-2), 2) := by decide +kernel
theorem dX10_drawn_22 : decode cX10_drawn 22 = .ok (.ireturn, 1) := by decide +kernel
theorem dX10_drawn_23 : decode cX10_drawn 23 = .ok (.aload_n 0, 1) := by decide +kernel
theorem dX10_drawn_24 : decode cX10_drawn 24 = .ok (.invokevirtual 226, 3) := by decide +kernel
theorem dX10_drawn_27 : decode cX10_drawn 27 = .ok (.aload_n 0, 1) := by decide +kernel
theorem dX10_drawn_28 : decode cX10_drawn 28 = .ok (.getfield 68, 3) := by decide +kernel
theorem dX10_drawn_31 : decode cX10_drawn 31 = .ok (.iconst 1, 1) := by decide +kernel
theorem dX10_drawn_32 : decode cX10_drawn 32 = .ok (.invokevirtual 241, 3) := by decide +kernel
theorem dX10_drawn_35 : decode cX10_drawn 35 = .ok (.aload_n 0, 1) := by decide +kernel
theorem dX10_drawn_36 : decode cX10_drawn 36 = .ok (.invokevirtual 229, 3) := by decide +kernel
theorem dX10_drawn_39 : decode cX10_drawn 39 = .ok (.istore_n 2, 1) := by decide +kernel
theorem dX10_drawn_40 : decode cX10_drawn 40 = .ok (.aload_n 0, 1) := by decide +kernel
theorem dX10_drawn_41 : decode cX10_drawn 41 = .ok (.getfield 68, 3) := by decide +kernel
theorem dX10_drawn_44 : decode cX10_drawn 44 = .ok (.iload_n 2, 1) := by decide +kernel
theorem dX10_drawn_45 : decode cX10_drawn 45 = .ok (.invokestatic 289, 3) := by decide +kernel
theorem dX10_drawn_48 : decode cX10_drawn 48 = .ok (.invokevirtual 292, 3) := by decide +kernel
theorem dX10_drawn_51 : decode cX10_drawn 51 = .ok (.istore_n 3, 1) := by decide +kernel
theorem dX10_drawn_52 : decode cX10_drawn 52 = .ok (.iconst 0, 1) := by decide +kernel
theorem dX10_drawn_53 : decode cX10_drawn 53 = .ok (.istore 4, 2) := by decide +kernel
theorem dX10_drawn_55 : decode cX10_drawn 55 = .ok (.iload 4, 2) := by decide +kernel
theorem dX10_drawn_57 : decode cX10_drawn 57 = .ok (.iload_n 1, 1) := by decide +kernel
theorem dX10_drawn_58 : decode cX10_drawn 58 = .ok (.if_icmp .ge 73, 3) := by decide +kernel
theorem dX10_drawn_61 : decode cX10_drawn 61 = .ok (.iload_n 2, 1) := by decide +kernel
theorem dX10_drawn_62 : decode cX10_drawn 62 = .ok (.iconst (-1), 1) := by decide +kernel
theorem dX10_drawn_63 : decode cX10_drawn 63 = .ok (.if_icmp .eq 68, 3) := by decide +kernel
theorem dX10_drawn_66 : decode cX10_drawn 66 = .ok (.aload_n 0, 1) := by decide +kernel
theorem dX10_drawn_67 : decode cX10_drawn 67 = .ok (.getfield 55, 3) := by decide +kernel
theorem dX10_drawn_70 : decode cX10_drawn 70 = .ok (.iload_n 2, 1) := by decide +kernel
theorem dX10_drawn_71 : decode cX10_drawn 71 = .ok (.invokevirtual 314, 3) := by decide +kernel
theorem dX10_drawn_74 : decode cX10_drawn 74 = .ok (.ifCond .eq 23, 3) := by decide +kernel
theorem dX10_drawn_77 : decode cX10_drawn 77 = .ok (.aload_n 0, 1) := by decide +kernel
theorem dX10_drawn_78 : decode cX10_drawn 78 = .ok (.getfield 55, 3) := by decide +kernel
theorem dX10_drawn_81 : decode cX10_drawn 81 = .ok (.iconst 1, 1) := by decide +kernel
theorem dX10_drawn_82 : decode cX10_drawn 82 = .ok (.aload_n 0, 1) := by decide +kernel
theorem dX10_drawn_83 : decode cX10_drawn 83 = .ok (.invokevirtual 317, 3) := by decide +kernel
theorem dX10_drawn_86 : decode cX10_drawn 86 = .ok (.iadd, 1) := by decide +kernel
theorem dX10_drawn_87 : decode cX10_drawn 87 = .ok (.aload_n 0, 1) := by decide +kernel
theorem dX10_drawn_88 : decode cX10_drawn 88 = .ok (.getfield 28, 3) := by decide +kernel
theorem dX10_drawn_91 : decode cX10_drawn 91 = .ok (.getfield 155, 3) := by decide +kernel
theorem dX10_drawn_94 : decode cX10_drawn 94 = .ok (.invokevirtual 219, 3) := by decide +kernel
theorem dX10_drawn_97 : decode cX10_drawn 97 = .ok (.aload_n 0, 1) := by decide +kernel
theorem dX10_drawn_98 : decode cX10_drawn 98 = .ok (.getfield 55, 3) := by decide +kernel
theorem dX10_drawn_101 : decode cX10_drawn 101 = .ok (.iload_n 2, 1) := by decide +kernel
theorem dX10_drawn_102 : decode cX10_drawn 102 = .ok (.invokevirtual 253, 3) := by decide +kernel
theorem dX10_drawn_105 : decode cX10_drawn 105 = .ok (.istore_n 2, 1) := by decide +kernel
theorem dX10_drawn_106 : decode cX10_drawn 106 = .ok (.iload_n 2, 1) := by decide +kernel
theorem dX10_drawn_107 : decode cX10_drawn 107 = .ok (.iconst (-1), 1) := by decide +kernel
theorem dX10_drawn_108 : decode cX10_drawn 108 = .ok (.if_icmp .eq 17, 3) := by decide +kernel
theorem dX10_drawn_111 : decode cX10_drawn 111 = .ok (.iload_n 3, 1) := by decide +kernel
theorem dX10_drawn_112 : decode cX10_drawn 112 = .ok (.aload_n 0, 1) := by decide +kernel
theorem dX10_drawn_113 : decode cX10_drawn 113 = .ok (.getfield 68, 3) := by decide +kernel
theorem dX10_drawn_116 : decode cX10_drawn 116 = .ok (.iload_n 2, 1) := by decide +kernel
theorem dX10_drawn_117 : decode cX10_drawn 117 = .ok (.invokestatic 289, 3) := by decide +kernel
theorem dX10_drawn_120 : decode cX10_drawn 120 = .ok (.invokevirtual 292, 3) := by decide +kernel
theorem dX10_drawn_123 : decode cX10_drawn 123 = .ok (.iadd, 1) := by decide +kernel
theorem dX10_drawn_124 : decode cX10_drawn 124 = .ok (.istore_n 3, 1) := by decide +kernel
theorem dX10_drawn_125 : decode cX10_drawn 125 = .ok (.iinc 4 1, 3) := by decide +kernel
theorem dX10_drawn_128 : decode cX10_drawn 128 = .ok (.goto (-73), 3) := by decide +kernel
theorem dX10_drawn_131 : decode cX10_drawn 131 = .ok (.iload_n 3, 1) := by decide +kernel
theorem dX10_drawn_132 : decode cX10_drawn 132 = .ok (.ireturn, 1) := by decide +kernel
theorem dX10_draw_0 : decode cX10_draw 0 = .ok (.aload_n 0, 1) := by decide +kernel
theorem dX10_draw_1 : decode cX10_draw 1 = .ok (.aload_n 0, 1) := by decide +kernel
theorem dX10_draw_2 : decode cX10_draw 2 = .ok (.getfield 103, 3) := by decide +kernel
theorem dX10_draw_5 : decode cX10_draw 5 = .ok (.ldc_w 320, 3) := by decide +kernel
theorem dX10_draw_8 : decode cX10_draw 8 = .ok (.imul, 1) := by decide +kernel
theorem dX10_draw_9 : decode cX10_draw 9 = .ok (.sipush 12345, 3) := by decide +kernel
theorem dX10_draw_12 : decode cX10_draw 12 = .ok (.iadd, 1) := by decide +kernel
theorem dX10_draw_13 : decode cX10_draw 13 = .ok (.putfield 103, 3) := by decide +kernel
theorem dX10_draw_16 : decode cX10_draw 16 = .ok (.aload_n 0, 1) := by decide +kernel
theorem dX10_draw_17 : decode cX10_draw 17 = .ok (.getfield 103, 3) := by decide +kernel
theorem dX10_draw_20 : decode cX10_draw 20 = .ok (.bipush 16, 2) := by decide +kernel
theorem dX10_draw_22 : decode cX10_draw 22 = .ok (.iushr, 1) := by decide +kernel
theorem dX10_draw_23 : decode cX10_draw 23 = .ok (.bipush 7, 2) := by decide +kernel
theorem dX10_draw_25 : decode cX10_draw 25 = .ok (.irem, 1) := by decide +kernel
theorem dX10_draw_26 : decode cX10_draw 26 = .ok (.ireturn, 1) := by decide +kernel
theorem dX10_lot_0 : decode cX10_lot 0 = .ok (.aload_n 0, 1) := by decide +kernel
theorem dX10_lot_1 : decode cX10_lot 1 = .ok (.getfield 103, 3) := by decide +kernel
theorem dX10_lot_4 : decode cX10_lot 4 = .ok (.istore_n 2, 1) := by decide +kernel
theorem dX10_lot_5 : decode cX10_lot 5 = .ok (.aload_n 0, 1) := by decide +kernel
theorem dX10_lot_6 : decode cX10_lot 6 = .ok (.iload_n 1, 1) := by decide +kernel
theorem dX10_lot_7 : decode cX10_lot 7 = .ok (.putfield 103, 3) := by decide +kernel
theorem dX10_lot_10 : decode cX10_lot 10 = .ok (.iload_n 2, 1) := by decide +kernel
theorem dX10_lot_11 : decode cX10_lot 11 = .ok (.ireturn, 1) := by decide +kernel
set_option maxRecDepth 20000 in
theorem ggX10_key_X1_add : GoodIn wsX10_key wsX1_add := goodIn_r _ [7, 8, 9, 10, 11, 12, 13, 32, 33, 34, 35, 36] (by decide +kernel) (by decide +kernel)
set_option maxRecDepth 20000 in
theorem gX10_key_X1_add : GoodIn wsX10_key (wsV RX10 321 RX1 yX1_add wsX1_add) := goodIn_app (goodIn_of _ (by decide +kernel)) ggX10_key_X1_add
theorem dX10_key_0 : decode cX10_key 0 = .ok (.iload_n 1, 1) := by decide +kernel
theorem dX10_key_1 : decode cX10_key 1 = .ok (.iconst 1, 1) := by decide +kernel
theorem dX10_key_2 : decode cX10_key 2 = .ok (.if_icmp .lt 20, 3) := by decide +kernel
theorem dX10_key_5 : decode cX10_key 5 = .ok (.iload_n 1, 1) := by decide +kernel
theorem dX10_key_6 : decode cX10_key 6 = .ok (.bipush 9, 2) := by decide +kernel
theorem dX10_key_8 : decode cX10_key 8 = .ok (.if_icmp .gt 14, 3) := by decide +kernel
theorem dX10_key_11 : decode cX10_key 11 = .ok (.iload_n 2, 1) := by decide +kernel
theorem dX10_key_12 : decode cX10_key 12 = .ok (.ifCond .lt 10, 3) := by decide +kernel
theorem dX10_key_15 : decode cX10_key 15 = .ok (.iload_n 2, 1) := by decide +kernel
theorem dX10_key_16 : decode cX10_key 16 = .ok (.sipush 999, 3) := by decide +kernel
theorem dX10_key_19 : decode cX10_key 19 = .ok (.if_icmp .le 5, 3) := by decide +kernel
theorem dX10_key_22 : decode cX10_key 22 = .ok (.iconst (-1), 1) := by decide +kernel
theorem dX10_key_23 : decode cX10_key 23 = .ok (.ireturn, 1) := by decide +kernel
theorem dX10_key_24 : decode cX10_key 24 = .ok (.aload_n 0, 1) := by decide +kernel
theorem dX10_key_25 : decode cX10_key 25 = .ok (.getfield 99, 3) := by decide +kernel
theorem dX10_key_28 : decode cX10_key 28 = .ok (.iload_n 1, 1) := by decide +kernel
theorem dX10_key_29 : decode cX10_key 29 = .ok (.iload_n 2, 1) := by decide +kernel
theorem dX10_key_30 : decode cX10_key 30 = .ok (.invokevirtual 321, 3) := by decide +kernel
theorem dX10_key_33 : decode cX10_key 33 = .ok (.ifCond .eq 13, 3) := by decide +kernel
theorem dX10_key_36 : decode cX10_key 36 = .ok (.aload_n 0, 1) := by decide +kernel
theorem dX10_key_37 : decode cX10_key 37 = .ok (.getfield 99, 3) := by decide +kernel
theorem dX10_key_40 : decode cX10_key 40 = .ok (.getfield 323, 3) := by decide +kernel
theorem dX10_key_43 : decode cX10_key 43 = .ok (.goto 5, 3) := by decide +kernel
theorem dX10_key_46 : decode cX10_key 46 = .ok (.bipush (-3), 2) := by decide +kernel
theorem dX10_key_48 : decode cX10_key 48 = .ok (.ireturn, 1) := by decide +kernel
set_option maxRecDepth 20000 in
theorem ggX10_law_X1_fitLine : GoodIn wsX10_law wsX1_fitLine := goodIn_r _ [7, 8, 9, 10, 11, 12, 13, 14, 15, 45, 46, 47, 48, 49] (by decide +kernel) (by decide +kernel)
set_option maxRecDepth 20000 in
theorem gX10_law_X1_fitLine : GoodIn wsX10_law (wsV RX10 327 RX1 yX1_fitLine wsX1_fitLine) := goodIn_app (goodIn_of _ (by decide +kernel)) ggX10_law_X1_fitLine
set_option maxRecDepth 20000 in
theorem ggX10_law_X1_leastTerm : GoodIn wsX10_law wsX1_leastTerm := goodIn_r _ [19, 12, 20, 21, 22, 23, 11, 24, 25, 14, 26, 45, 46, 47, 48, 49] (by decide +kernel) (by decide +kernel)
set_option maxRecDepth 20000 in
theorem gX10_law_X1_leastTerm : GoodIn wsX10_law (wsV RX10 331 RX1 yX1_leastTerm wsX1_leastTerm) := goodIn_app (goodIn_of _ (by decide +kernel)) ggX10_law_X1_leastTerm
theorem dX10_law_0 : decode cX10_law 0 = .ok (.iload_n 1, 1) := by decide +kernel
theorem dX10_law_1 : decode cX10_law 1 = .ok (.ifCond .lt 18, 3) := by decide +kernel
theorem dX10_law_4 : decode cX10_law 4 = .ok (.iload_n 1, 1) := by decide +kernel
theorem dX10_law_5 : decode cX10_law 5 = .ok (.bipush 99, 2) := by decide +kernel
theorem dX10_law_7 : decode cX10_law 7 = .ok (.if_icmp .gt 12, 3) := by decide +kernel
theorem dX10_law_10 : decode cX10_law 10 = .ok (.iload_n 2, 1) := by decide +kernel
theorem dX10_law_11 : decode cX10_law 11 = .ok (.ifCond .lt 8, 3) := by decide +kernel
theorem dX10_law_14 : decode cX10_law 14 = .ok (.iload_n 2, 1) := by decide +kernel
theorem dX10_law_15 : decode cX10_law 15 = .ok (.iconst 3, 1) := by decide +kernel
theorem dX10_law_16 : decode cX10_law 16 = .ok (.if_icmp .le 7, 3) := by decide +kernel
theorem dX10_law_19 : decode cX10_law 19 = .ok (.ldc_w 326, 3) := by decide +kernel
theorem dX10_law_22 : decode cX10_law 22 = .ok (.ireturn, 1) := by decide +kernel
theorem dX10_law_23 : decode cX10_law 23 = .ok (.aload_n 0, 1) := by decide +kernel
theorem dX10_law_24 : decode cX10_law 24 = .ok (.getfield 99, 3) := by decide +kernel
theorem dX10_law_27 : decode cX10_law 27 = .ok (.iload_n 1, 1) := by decide +kernel
theorem dX10_law_28 : decode cX10_law 28 = .ok (.iload_n 2, 1) := by decide +kernel
theorem dX10_law_29 : decode cX10_law 29 = .ok (.iconst 2, 1) := by decide +kernel
theorem dX10_law_30 : decode cX10_law 30 = .ok (.if_icmp .lt 7, 3) := by decide +kernel
theorem dX10_law_33 : decode cX10_law 33 = .ok (.iconst 1, 1) := by decide +kernel
theorem dX10_law_34 : decode cX10_law 34 = .ok (.goto 4, 3) := by decide +kernel
theorem dX10_law_37 : decode cX10_law 37 = .ok (.iconst 0, 1) := by decide +kernel
theorem dX10_law_38 : decode cX10_law 38 = .ok (.invokevirtual 327, 3) := by decide +kernel
theorem dX10_law_41 : decode cX10_law 41 = .ok (.ifCond .eq 16, 3) := by decide +kernel
theorem dX10_law_44 : decode cX10_law 44 = .ok (.aload_n 0, 1) := by decide +kernel
theorem dX10_law_45 : decode cX10_law 45 = .ok (.getfield 99, 3) := by decide +kernel
theorem dX10_law_48 : decode cX10_law 48 = .ok (.iload_n 2, 1) := by decide +kernel
theorem dX10_law_49 : decode cX10_law 49 = .ok (.iconst 2, 1) := by decide +kernel
theorem dX10_law_50 : decode cX10_law 50 = .ok (.irem, 1) := by decide +kernel
theorem dX10_law_51 : decode cX10_law 51 = .ok (.invokevirtual 331, 3) := by decide +kernel
theorem dX10_law_54 : decode cX10_law 54 = .ok (.goto 6, 3) := by decide +kernel
theorem dX10_law_57 : decode cX10_law 57 = .ok (.ldc_w 326, 3) := by decide +kernel
theorem dX10_law_60 : decode cX10_law 60 = .ok (.ireturn, 1) := by decide +kernel
set_option maxRecDepth 20000 in
theorem ggX10_circle_X10_divisorOf : GoodIn wsX10_circle wsX10_divisorOf := goodIn_r _ [4] (by decide +kernel) (by decide +kernel)
set_option maxRecDepth 20000 in
theorem gX10_circle_X10_divisorOf : GoodIn wsX10_circle (va_wsS RX10 334 yX10_divisorOf wsX10_divisorOf) := goodIn_app (goodIn_of _ (by decide +kernel)) ggX10_circle_X10_divisorOf
theorem dX10_circle_0 : decode cX10_circle 0 = .ok (.iload_n 2, 1) := by decide +kernel
theorem dX10_circle_1 : decode cX10_circle 1 = .ok (.iconst 1, 1) := by decide +kernel
theorem dX10_circle_2 : decode cX10_circle 2 = .ok (.if_icmp .lt 19, 3) := by decide +kernel
theorem dX10_circle_5 : decode cX10_circle 5 = .ok (.iload_n 2, 1) := by decide +kernel
theorem dX10_circle_6 : decode cX10_circle 6 = .ok (.sipush 360, 3) := by decide +kernel
theorem dX10_circle_9 : decode cX10_circle 9 = .ok (.if_icmp .gt 12, 3) := by decide +kernel
theorem dX10_circle_12 : decode cX10_circle 12 = .ok (.iload_n 1, 1) := by decide +kernel
theorem dX10_circle_13 : decode cX10_circle 13 = .ok (.ifCond .lt 8, 3) := by decide +kernel
theorem dX10_circle_16 : decode cX10_circle 16 = .ok (.iload_n 1, 1) := by decide +kernel
theorem dX10_circle_17 : decode cX10_circle 17 = .ok (.iload_n 2, 1) := by decide +kernel
theorem dX10_circle_18 : decode cX10_circle 18 = .ok (.if_icmp .lt 5, 3) := by decide +kernel
theorem dX10_circle_21 : decode cX10_circle 21 = .ok (.iconst (-1), 1) := by decide +kernel
theorem dX10_circle_22 : decode cX10_circle 22 = .ok (.ireturn, 1) := by decide +kernel
theorem dX10_circle_23 : decode cX10_circle 23 = .ok (.iconst 2, 1) := by decide +kernel
theorem dX10_circle_24 : decode cX10_circle 24 = .ok (.iload_n 1, 1) := by decide +kernel
theorem dX10_circle_25 : decode cX10_circle 25 = .ok (.imul, 1) := by decide +kernel
theorem dX10_circle_26 : decode cX10_circle 26 = .ok (.i2l, 1) := by decide +kernel
theorem dX10_circle_27 : decode cX10_circle 27 = .ok (.iload_n 2, 1) := by decide +kernel
theorem dX10_circle_28 : decode cX10_circle 28 = .ok (.i2l, 1) := by decide +kernel
theorem dX10_circle_29 : decode cX10_circle 29 = .ok (.invokestatic 334, 3) := by decide +kernel
theorem dX10_circle_32 : decode cX10_circle 32 = .ok (.l2i, 1) := by decide +kernel
theorem dX10_circle_33 : decode cX10_circle 33 = .ok (.istore_n 3, 1) := by decide +kernel
theorem dX10_circle_34 : decode cX10_circle 34 = .ok (.iload_n 3, 1) := by decide +kernel
theorem dX10_circle_35 : decode cX10_circle 35 = .ok (.ifCond .le 9, 3) := by decide +kernel
theorem dX10_circle_38 : decode cX10_circle 38 = .ok (.iload_n 2, 1) := by decide +kernel
theorem dX10_circle_39 : decode cX10_circle 39 = .ok (.iload_n 3, 1) := by decide +kernel
theorem dX10_circle_40 : decode cX10_circle 40 = .ok (.idiv, 1) := by decide +kernel
theorem dX10_circle_41 : decode cX10_circle 41 = .ok (.goto 4, 3) := by decide +kernel
theorem dX10_circle_44 : decode cX10_circle 44 = .ok (.iconst (-1), 1) := by decide +kernel
theorem dX10_circle_45 : decode cX10_circle 45 = .ok (.ireturn, 1) := by decide +kernel
set_option maxRecDepth 20000 in
theorem ggX10_rate_X10_rateTurn : GoodIn wsX10_rate wsX10_rateTurn := goodIn_r _ [8, 9, 1, 10, 41, 42, 43, 44, 45, 46, 47, 48, 49, 50, 51, 52, 53, 54, 55, 56, 57, 58, 59, 60, 61, 62, 63, 64, 65, 66, 67, 68] (by decide +kernel) (by decide +kernel)
set_option maxRecDepth 20000 in
theorem gX10_rate_X10_rateTurn : GoodIn wsX10_rate (wsV RX10 338 RX10 yX10_rateTurn wsX10_rateTurn) := goodIn_app (goodIn_of _ (by decide +kernel)) ggX10_rate_X10_rateTurn
set_option maxRecDepth 20000 in
theorem ggX10_rate_X10_rateSlanting : GoodIn wsX10_rate wsX10_rateSlanting := goodIn_r _ [14, 9, 15, 1, 16, 4, 5, 6, 7, 8, 10, 41, 42, 43, 44, 45, 46, 47, 48, 49, 50, 51, 52, 53, 54, 55, 56, 57, 58, 59, 60, 61, 62, 63, 64, 65, 66, 67, 68] (by decide +kernel) (by decide +kernel)
set_option maxRecDepth 20000 in
theorem gX10_rate_X10_rateSlanting : GoodIn wsX10_rate (wsV RX10 341 RX10 yX10_rateSlanting wsX10_rateSlanting) := goodIn_app (goodIn_of _ (by decide +kernel)) ggX10_rate_X10_rateSlanting
set_option maxRecDepth 20000 in
theorem ggX10_rate_X10_rateSquare : GoodIn wsX10_rate wsX10_rateSquare := goodIn_r _ [20, 9, 21, 22, 23, 4, 5, 6, 7, 8, 1, 10, 41, 42, 43, 44, 45, 46, 47, 48, 49, 50, 51, 52, 53, 54, 55, 56, 57, 58, 69, 70, 71, 72, 73, 74, 75, 76, 77, 78, 59, 60, 61, 62, 63, 64, 65, 66, 67, 68] (by decide +kernel) (by decide +kernel)
set_option maxRecDepth 20000 in
theorem gX10_rate_X10_rateSquare : GoodIn wsX10_rate (wsV RX10 344 RX10 yX10_rateSquare wsX10_rateSquare) := goodIn_app (goodIn_of _ (by decide +kernel)) ggX10_rate_X10_rateSquare
set_option maxRecDepth 20000 in
theorem ggX10_rate_X10_rateCornered : GoodIn wsX10_rate wsX10_rateCornered := goodIn_r _ [27, 9, 28, 11, 12, 13, 7, 14, 15, 1, 16, 4, 5, 6, 8, 10, 41, 42, 43, 44, 45, 46, 47, 48, 49, 50, 51, 52, 53, 54, 55, 56, 57, 58, 59, 60, 61, 62, 63, 64, 65, 66, 67, 68] (by decide +kernel) (by decide +kernel)
set_option maxRecDepth 20000 in
theorem gX10_rate_X10_rateCornered : GoodIn wsX10_rate (wsV RX10 347 RX10 yX10_rateCornered wsX10_rateCornered) := goodIn_app (goodIn_of _ (by decide +kernel)) ggX10_rate_X10_rateCornered
set_option maxRecDepth 20000 in
theorem ggX10_rate_X10_rateSawing : GoodIn wsX10_rate wsX10_rateSawing := goodIn_r _ [32, 9, 33, 1, 34, 17, 18, 19, 7, 20, 21, 22, 23, 4, 5, 6, 8, 10, 41, 42, 43, 44, 45, 46, 47, 48, 49, 50, 51, 52, 53, 54, 55, 56, 57, 58, 59, 60, 61, 62, 63, 64, 65, 66, 67, 68, 69, 70, 71, 72, 73, 74, 75, 76, 77, 78] (by decide +kernel) (by decide +kernel)
set_option maxRecDepth 20000 in
theorem gX10_rate_X10_rateSawing : GoodIn wsX10_rate (wsV RX10 350 RX10 yX10_rateSawing wsX10_rateSawing) := goodIn_app (goodIn_of _ (by decide +kernel)) ggX10_rate_X10_rateSawing
set_option maxRecDepth 20000 in
theorem ggX10_rate_X10_rateStruck : GoodIn wsX10_rate wsX10_rateStruck := goodIn_r _ [38, 9, 39, 1, 40, 4, 5, 6, 7, 8, 10, 41, 42, 43, 44, 45, 46, 47, 48, 49, 50, 51, 52, 53, 54, 55, 56, 57, 58, 59, 60, 61, 62, 63, 64, 65, 66, 67, 68] (by decide +kernel) (by decide +kernel)
set_option maxRecDepth 20000 in
theorem gX10_rate_X10_rateStruck : GoodIn wsX10_rate (wsV RX10 353 RX10 yX10_rateStruck wsX10_rateStruck) := goodIn_app (goodIn_of _ (by decide +kernel)) ggX10_rate_X10_rateStruck
theorem dX10_rate_0 : decode cX10_rate 0 = .ok (.aload_n 0, 1) := by decide +kernel
theorem dX10_rate_1 : decode cX10_rate 1 = .ok (.getfield 38, 3) := by decide +kernel
theorem dX10_rate_4 : decode cX10_rate 4 = .ok (.getfield 212, 3) := by decide +kernel
theorem dX10_rate_7 : decode cX10_rate 7 = .ok (.bipush (-9), 2) := by decide +kernel
theorem dX10_rate_9 : decode cX10_rate 9 = .ok (.if_icmp .ne 7, 3) := by decide +kernel
theorem dX10_rate_12 : decode cX10_rate 12 = .ok (.ldc_w 326, 3) := by decide +kernel
theorem dX10_rate_15 : decode cX10_rate 15 = .ok (.ireturn, 1) := by decide +kernel
theorem dX10_rate_16 : decode cX10_rate 16 = .ok (.iload_n 1, 1) := by decide +kernel
theorem dX10_rate_17 : decode cX10_rate 17 = .ok (.tableswitch 69 0 5 #[39, 44, 49, 54, 59, 64], 39) := by decide +kernel
theorem dX10_rate_56 : decode cX10_rate 56 = .ok (.aload_n 0, 1) := by decide +kernel
theorem dX10_rate_57 : decode cX10_rate 57 = .ok (.invokevirtual 338, 3) := by decide +kernel
theorem dX10_rate_60 : decode cX10_rate 60 = .ok (.ireturn, 1) := by decide +kernel
theorem dX10_rate_61 : decode cX10_rate 61 = .ok (.aload_n 0, 1) := by decide +kernel
theorem dX10_rate_62 : decode cX10_rate 62 = .ok (.invokevirtual 341, 3) := by decide +kernel
theorem dX10_rate_65 : decode cX10_rate 65 = .ok (.ireturn, 1) := by decide +kernel
theorem dX10_rate_66 : decode cX10_rate 66 = .ok (.aload_n 0, 1) := by decide +kernel
theorem dX10_rate_67 : decode cX10_rate 67 = .ok (.invokevirtual 344, 3) := by decide +kernel
theorem dX10_rate_70 : decode cX10_rate 70 = .ok (.ireturn, 1) := by decide +kernel
theorem dX10_rate_71 : decode cX10_rate 71 = .ok (.aload_n 0, 1) := by decide +kernel
theorem dX10_rate_72 : decode cX10_rate 72 = .ok (.invokevirtual 347, 3) := by decide +kernel
theorem dX10_rate_75 : decode cX10_rate 75 = .ok (.ireturn, 1) := by decide +kernel
theorem dX10_rate_76 : decode cX10_rate 76 = .ok (.aload_n 0, 1) := by decide +kernel
theorem dX10_rate_77 : decode cX10_rate 77 = .ok (.invokevirtual 350, 3) := by decide +kernel
theorem dX10_rate_80 : decode cX10_rate 80 = .ok (.ireturn, 1) := by decide +kernel
theorem dX10_rate_81 : decode cX10_rate 81 = .ok (.aload_n 0, 1) := by decide +kernel
theorem dX10_rate_82 : decode cX10_rate 82 = .ok (.invokevirtual 353, 3) := by decide +kernel
theorem dX10_rate_85 : decode cX10_rate 85 = .ok (.ireturn, 1) := by decide +kernel
theorem dX10_rate_86 : decode cX10_rate 86 = .ok (.ldc_w 326, 3) := by decide +kernel
theorem dX10_rate_89 : decode cX10_rate 89 = .ok (.ireturn, 1) := by decide +kernel
theorem dX10_rateTurn_0 : decode cX10_rateTurn 0 = .ok (.aload_n 0, 1) := by decide +kernel
theorem dX10_rateTurn_1 : decode cX10_rateTurn 1 = .ok (.dup, 1) := by decide +kernel
theorem dX10_rateTurn_2 : decode cX10_rateTurn 2 = .ok (.getfield 356, 3) := by decide +kernel
theorem dX10_rateTurn_5 : decode cX10_rateTurn 5 = .ok (.lconst 1, 1) := by decide +kernel
theorem dX10_rateTurn_6 : decode cX10_rateTurn 6 = .ok (.ladd, 1) := by decide +kernel
theorem dX10_rateTurn_7 : decode cX10_rateTurn 7 = .ok (.putfield 356, 3) := by decide +kernel
theorem dX10_rateTurn_10 : decode cX10_rateTurn 10 = .ok (.aload_n 0, 1) := by decide +kernel
theorem dX10_rateTurn_11 : decode cX10_rateTurn 11 = .ok (.getfield 38, 3) := by decide +kernel
theorem dX10_rateTurn_14 : decode cX10_rateTurn 14 = .ok (.getfield 206, 3) := by decide +kernel
theorem dX10_rateTurn_17 : decode cX10_rateTurn 17 = .ok (.ireturn, 1) := by decide +kernel
set_option maxRecDepth 20000 in
theorem ggX10_rateSlanting_X10_rateTurn : GoodIn wsX10_rateSlanting wsX10_rateTurn := goodIn_r _ [9, 1, 3, 10, 11, 12, 13, 14, 15, 16, 17, 18, 19, 20, 21, 22, 23, 24, 25, 26, 27, 28, 29, 30, 31, 32, 33, 34, 35, 36, 37, 38] (by decide +kernel) (by decide +kernel)
set_option maxRecDepth 20000 in
theorem gX10_rateSlanting_X10_rateTurn : GoodIn wsX10_rateSlanting (wsV RX10 338 RX10 yX10_rateTurn wsX10_rateTurn) := goodIn_app (goodIn_of _ (by decide +kernel)) ggX10_rateSlanting_X10_rateTurn
theorem dX10_rateSlanting_0 : decode cX10_rateSlanting 0 = .ok (.aload_n 0, 1) := by decide +kernel
theorem dX10_rateSlanting_1 : decode cX10_rateSlanting 1 = .ok (.dup, 1) := by decide +kernel
theorem dX10_rateSlanting_2 : decode cX10_rateSlanting 2 = .ok (.getfield 356, 3) := by decide +kernel
theorem dX10_rateSlanting_5 : decode cX10_rateSlanting 5 = .ok (.ldc2_w 360, 3) := by decide +kernel
theorem dX10_rateSlanting_8 : decode cX10_rateSlanting 8 = .ok (.ladd, 1) := by decide +kernel
theorem dX10_rateSlanting_9 : decode cX10_rateSlanting 9 = .ok (.putfield 356, 3) := by decide +kernel
theorem dX10_rateSlanting_12 : decode cX10_rateSlanting 12 = .ok (.aload_n 0, 1) := by decide +kernel
theorem dX10_rateSlanting_13 : decode cX10_rateSlanting 13 = .ok (.invokevirtual 338, 3) := by decide +kernel
theorem dX10_rateSlanting_16 : decode cX10_rateSlanting 16 = .ok (.aload_n 0, 1) := by decide +kernel
theorem dX10_rateSlanting_17 : decode cX10_rateSlanting 17 = .ok (.getfield 38, 3) := by decide +kernel
theorem dX10_rateSlanting_20 : decode cX10_rateSlanting 20 = .ok (.getfield 197, 3) := by decide +kernel
theorem dX10_rateSlanting_23 : decode cX10_rateSlanting 23 = .ok (.iadd, 1) := by decide +kernel
theorem dX10_rateSlanting_24 : decode cX10_rateSlanting 24 = .ok (.ireturn, 1) := by decide +kernel
set_option maxRecDepth 20000 in
theorem ggX10_rateSquare_X10_rateTurn : GoodIn wsX10_rateSquare wsX10_rateTurn := goodIn_r _ [9, 1, 10, 11, 12, 13, 14, 15, 16, 17, 18, 19, 20, 21, 22, 23, 24, 25, 26, 27, 28, 29, 40, 41, 42, 43, 44, 45, 46, 47, 48, 49] (by decide +kernel) (by decide +kernel)
set_option maxRecDepth 20000 in
theorem gX10_rateSquare_X10_rateTurn : GoodIn wsX10_rateSquare (wsV RX10 338 RX10 yX10_rateTurn wsX10_rateTurn) := goodIn_app (goodIn_of _ (by decide +kernel)) ggX10_rateSquare_X10_rateTurn
theorem dX10_rateSquare_0 : decode cX10_rateSquare 0 = .ok (.aload_n 0, 1) := by decide +kernel
theorem dX10_rateSquare_1 : decode cX10_rateSquare 1 = .ok (.dup, 1) := by decide +kernel
theorem dX10_rateSquare_2 : decode cX10_rateSquare 2 = .ok (.getfield 356, 3) := by decide +kernel
theorem dX10_rateSquare_5 : decode cX10_rateSquare 5 = .ok (.ldc2_w 362, 3) := by decide +kernel
theorem dX10_rateSquare_8 : decode cX10_rateSquare 8 = .ok (.ladd, 1) := by decide +kernel
theorem dX10_rateSquare_9 : decode cX10_rateSquare 9 = .ok (.putfield 356, 3) := by decide +kernel
theorem dX10_rateSquare_12 : decode cX10_rateSquare 12 = .ok (.aload_n 0, 1) := by decide +kernel
theorem dX10_rateSquare_13 : decode cX10_rateSquare 13 = .ok (.invokevirtual 338, 3) := by decide +kernel
theorem dX10_rateSquare_16 : decode cX10_rateSquare 16 = .ok (.aload_n 0, 1) := by decide +kernel
theorem dX10_rateSquare_17 : decode cX10_rateSquare 17 = .ok (.getfield 28, 3) := by decide +kernel
theorem dX10_rateSquare_20 : decode cX10_rateSquare 20 = .ok (.getfield 149, 3) := by decide +kernel
theorem dX10_rateSquare_23 : decode cX10_rateSquare 23 = .ok (.iadd, 1) := by decide +kernel
theorem dX10_rateSquare_24 : decode cX10_rateSquare 24 = .ok (.ireturn, 1) := by decide +kernel
set_option maxRecDepth 20000 in
theorem ggX10_rateCornered_X10_rateSlanting : GoodIn wsX10_rateCornered wsX10_rateSlanting := goodIn_r _ [7, 1, 8, 9, 10, 11, 12, 13, 6, 14, 15, 16, 17, 18, 19, 20, 21, 22, 23, 24, 25, 26, 27, 28, 29, 30, 31, 32, 33, 34, 35, 36, 37, 38, 39, 40, 41, 42, 43] (by decide +kernel) (by decide +kernel)
set_option maxRecDepth 20000 in
theorem gX10_rateCornered_X10_rateSlanting : GoodIn wsX10_rateCornered (wsV RX10 341 RX10 yX10_rateSlanting wsX10_rateSlanting) := goodIn_app (goodIn_of _ (by decide +kernel)) ggX10_rateCornered_X10_rateSlanting
theorem dX10_rateCornered_0 : decode cX10_rateCornered 0 = .ok (.aload_n 0, 1) := by decide +kernel
theorem dX10_rateCornered_1 : decode cX10_rateCornered 1 = .ok (.dup, 1) := by decide +kernel
theorem dX10_rateCornered_2 : decode cX10_rateCornered 2 = .ok (.getfield 356, 3) := by decide +kernel
theorem dX10_rateCornered_5 : decode cX10_rateCornered 5 = .ok (.ldc2_w 364, 3) := by decide +kernel
theorem dX10_rateCornered_8 : decode cX10_rateCornered 8 = .ok (.ladd, 1) := by decide +kernel
theorem dX10_rateCornered_9 : decode cX10_rateCornered 9 = .ok (.putfield 356, 3) := by decide +kernel
theorem dX10_rateCornered_12 : decode cX10_rateCornered 12 = .ok (.iconst 2, 1) := by decide +kernel
theorem dX10_rateCornered_13 : decode cX10_rateCornered 13 = .ok (.aload_n 0, 1) := by decide +kernel
theorem dX10_rateCornered_14 : decode cX10_rateCornered 14 = .ok (.invokevirtual 341, 3) := by decide +kernel
theorem dX10_rateCornered_17 : decode cX10_rateCornered 17 = .ok (.imul, 1) := by decide +kernel
theorem dX10_rateCornered_18 : decode cX10_rateCornered 18 = .ok (.ireturn, 1) := by decide +kernel
set_option maxRecDepth 20000 in
theorem ggX10_rateSawing_X10_rateSquare : GoodIn wsX10_rateSawing wsX10_rateSquare := goodIn_r _ [9, 1, 10, 11, 12, 13, 14, 15, 8, 16, 3, 17, 18, 19, 20, 21, 22, 23, 24, 25, 26, 27, 28, 29, 30, 31, 32, 33, 34, 35, 46, 47, 48, 49, 50, 51, 52, 53, 54, 55, 36, 37, 38, 39, 40, 41, 42, 43, 44, 45] (by decide +kernel) (by decide +kernel)
set_option maxRecDepth 20000 in
theorem gX10_rateSawing_X10_rateSquare : GoodIn wsX10_rateSawing (wsV RX10 344 RX10 yX10_rateSquare wsX10_rateSquare) := goodIn_app (goodIn_of _ (by decide +kernel)) ggX10_rateSawing_X10_rateSquare
theorem dX10_rateSawing_0 : decode cX10_rateSawing 0 = .ok (.aload_n 0, 1) := by decide +kernel
theorem dX10_rateSawing_1 : decode cX10_rateSawing 1 = .ok (.dup, 1) := by decide +kernel
theorem dX10_rateSawing_2 : decode cX10_rateSawing 2 = .ok (.getfield 356, 3) := by decide +kernel
theorem dX10_rateSawing_5 : decode cX10_rateSawing 5 = .ok (.ldc2_w 366, 3) := by decide +kernel
theorem dX10_rateSawing_8 : decode cX10_rateSawing 8 = .ok (.ladd, 1) := by decide +kernel
theorem dX10_rateSawing_9 : decode cX10_rateSawing 9 = .ok (.putfield 356, 3) := by decide +kernel
theorem dX10_rateSawing_12 : decode cX10_rateSawing 12 = .ok (.aload_n 0, 1) := by decide +kernel
theorem dX10_rateSawing_13 : decode cX10_rateSawing 13 = .ok (.invokevirtual 344, 3) := by decide +kernel
theorem dX10_rateSawing_16 : decode cX10_rateSawing 16 = .ok (.aload_n 0, 1) := by decide +kernel
theorem dX10_rateSawing_17 : decode cX10_rateSawing 17 = .ok (.getfield 38, 3) := by decide +kernel
theorem dX10_rateSawing_20 : decode cX10_rateSawing 20 = .ok (.getfield 368, 3) := by decide +kernel
theorem dX10_rateSawing_23 : decode cX10_rateSawing 23 = .ok (.iadd, 1) := by decide +kernel
theorem dX10_rateSawing_24 : decode cX10_rateSawing 24 = .ok (.ireturn, 1) := by decide +kernel
set_option maxRecDepth 20000 in
theorem ggX10_rateStruck_X10_rateTurn : GoodIn wsX10_rateStruck wsX10_rateTurn := goodIn_r _ [9, 1, 3, 10, 11, 12, 13, 14, 15, 16, 17, 18, 19, 20, 21, 22, 23, 24, 25, 26, 27, 28, 29, 30, 31, 32, 33, 34, 35, 36, 37, 38] (by decide +kernel) (by decide +kernel)
set_option maxRecDepth 20000 in
theorem gX10_rateStruck_X10_rateTurn : GoodIn wsX10_rateStruck (wsV RX10 338 RX10 yX10_rateTurn wsX10_rateTurn) := goodIn_app (goodIn_of _ (by decide +kernel)) ggX10_rateStruck_X10_rateTurn
theorem dX10_rateStruck_0 : decode cX10_rateStruck 0 = .ok (.aload_n 0, 1) := by decide +kernel
theorem dX10_rateStruck_1 : decode cX10_rateStruck 1 = .ok (.dup, 1) := by decide +kernel
theorem dX10_rateStruck_2 : decode cX10_rateStruck 2 = .ok (.getfield 356, 3) := by decide +kernel
theorem dX10_rateStruck_5 : decode cX10_rateStruck 5 = .ok (.ldc2_w 371, 3) := by decide +kernel
theorem dX10_rateStruck_8 : decode cX10_rateStruck 8 = .ok (.ladd, 1) := by decide +kernel
theorem dX10_rateStruck_9 : decode cX10_rateStruck 9 = .ok (.putfield 356, 3) := by decide +kernel
theorem dX10_rateStruck_12 : decode cX10_rateStruck 12 = .ok (.aload_n 0, 1) := by decide +kernel
theorem dX10_rateStruck_13 : decode cX10_rateStruck 13 = .ok (.invokevirtual 338, 3) := by decide +kernel
theorem dX10_rateStruck_16 : decode cX10_rateStruck 16 = .ok (.aload_n 0, 1) := by decide +kernel
theorem dX10_rateStruck_17 : decode cX10_rateStruck 17 = .ok (.getfield 38, 3) := by decide +kernel
theorem dX10_rateStruck_20 : decode cX10_rateStruck 20 = .ok (.getfield 203, 3) := by decide +kernel
theorem dX10_rateStruck_23 : decode cX10_rateStruck 23 = .ok (.isub, 1) := by decide +kernel
theorem dX10_rateStruck_24 : decode cX10_rateStruck 24 = .ok (.ireturn, 1) := by decide +kernel
theorem dX10_imageOf_0 : decode cX10_imageOf 0 = .ok (.iload_n 1, 1) := by decide +kernel
theorem dX10_imageOf_1 : decode cX10_imageOf 1 = .ok (.ifCond .ne 10, 3) := by decide +kernel
theorem dX10_imageOf_4 : decode cX10_imageOf 4 = .ok (.aload_n 0, 1) := by decide +kernel
theorem dX10_imageOf_5 : decode cX10_imageOf 5 = .ok (.getfield 45, 3) := by decide +kernel
theorem dX10_imageOf_8 : decode cX10_imageOf 8 = .ok (.goto 7, 3) := by decide +kernel
theorem dX10_imageOf_11 : decode cX10_imageOf 11 = .ok (.aload_n 0, 1) := by decide +kernel
theorem dX10_imageOf_12 : decode cX10_imageOf 12 = .ok (.getfield 49, 3) := by decide +kernel
theorem dX10_imageOf_15 : decode cX10_imageOf 15 = .ok (.areturn, 1) := by decide +kernel
set_option maxRecDepth 20000 in
theorem ggX10_keep_X10_imageOf : GoodIn wsX10_keep wsX10_imageOf := goodIn_r _ [11, 12, 13, 36, 37, 38, 39, 40, 41, 42, 43, 44, 45, 46, 47, 48, 49, 50, 51, 52, 53] (by decide +kernel) (by decide +kernel)
set_option maxRecDepth 20000 in
theorem gX10_keep_X10_imageOf : GoodIn wsX10_keep (wsV RX10 373 RX10 yX10_imageOf wsX10_imageOf) := goodIn_app (goodIn_of _ (by decide +kernel)) ggX10_keep_X10_imageOf
set_option maxRecDepth 20000 in
theorem ggX10_keep_X4_copy : GoodIn wsX10_keep wsX4_copy := goodIn_r _ [18, 19, 20, 21, 22, 23, 24, 25, 26, 27, 28, 29, 30, 31, 17, 32, 54, 55, 56, 57, 58, 59, 60, 61, 62, 63] (by decide +kernel) (by decide +kernel)
set_option maxRecDepth 20000 in
theorem gX10_keep_X4_copy : GoodIn wsX10_keep (wsV RX10 378 RX4 yX4_copy wsX4_copy) := goodIn_app (goodIn_of _ (by decide +kernel)) ggX10_keep_X4_copy
theorem dX10_keep_0 : decode cX10_keep 0 = .ok (.iload_n 1, 1) := by decide +kernel
theorem dX10_keep_1 : decode cX10_keep 1 = .ok (.ifCond .lt 8, 3) := by decide +kernel
theorem dX10_keep_4 : decode cX10_keep 4 = .ok (.iload_n 1, 1) := by decide +kernel
theorem dX10_keep_5 : decode cX10_keep 5 = .ok (.iconst 1, 1) := by decide +kernel
theorem dX10_keep_6 : decode cX10_keep 6 = .ok (.if_icmp .le 5, 3) := by decide +kernel
theorem dX10_keep_9 : decode cX10_keep 9 = .ok (.iconst (-1), 1) := by decide +kernel
theorem dX10_keep_10 : decode cX10_keep 10 = .ok (.ireturn, 1) := by decide +kernel
theorem dX10_keep_11 : decode cX10_keep 11 = .ok (.aload_n 0, 1) := by decide +kernel
theorem dX10_keep_12 : decode cX10_keep 12 = .ok (.iload_n 1, 1) := by decide +kernel
theorem dX10_keep_13 : decode cX10_keep 13 = .ok (.invokevirtual 373, 3) := by decide +kernel
theorem dX10_keep_16 : decode cX10_keep 16 = .ok (.astore_n 2, 1) := by decide +kernel
theorem dX10_keep_17 : decode cX10_keep 17 = .ok (.aload_n 2, 1) := by decide +kernel
theorem dX10_keep_18 : decode cX10_keep 18 = .ok (.getfield 377, 3) := by decide +kernel
theorem dX10_keep_21 : decode cX10_keep 21 = .ok (.aload_n 0, 1) := by decide +kernel
theorem dX10_keep_22 : decode cX10_keep 22 = .ok (.getfield 38, 3) := by decide +kernel
theorem dX10_keep_25 : decode cX10_keep 25 = .ok (.invokevirtual 378, 3) := by decide +kernel
theorem dX10_keep_28 : decode cX10_keep 28 = .ok (.aload_n 2, 1) := by decide +kernel
theorem dX10_keep_29 : decode cX10_keep 29 = .ok (.aload_n 0, 1) := by decide +kernel
theorem dX10_keep_30 : decode cX10_keep 30 = .ok (.getfield 103, 3) := by decide +kernel
theorem dX10_keep_33 : decode cX10_keep 33 = .ok (.putfield 382, 3) := by decide +kernel
theorem dX10_keep_36 : decode cX10_keep 36 = .ok (.aload_n 2, 1) := by decide +kernel
theorem dX10_keep_37 : decode cX10_keep 37 = .ok (.iconst 1, 1) := by decide +kernel
theorem dX10_keep_38 : decode cX10_keep 38 = .ok (.putfield 124, 3) := by decide +kernel
theorem dX10_keep_41 : decode cX10_keep 41 = .ok (.aload_n 0, 1) := by decide +kernel
theorem dX10_keep_42 : decode cX10_keep 42 = .ok (.getfield 38, 3) := by decide +kernel
theorem dX10_keep_45 : decode cX10_keep 45 = .ok (.getfield 192, 3) := by decide +kernel
theorem dX10_keep_48 : decode cX10_keep 48 = .ok (.ireturn, 1) := by decide +kernel
set_option maxRecDepth 20000 in
theorem ggX10_back_X10_imageOf : GoodIn wsX10_back wsX10_imageOf := goodIn_r _ [11, 12, 13, 36, 37, 38, 39, 40, 41, 42, 43, 44, 45, 46, 47, 48, 49, 50, 51, 52, 53] (by decide +kernel) (by decide +kernel)
set_option maxRecDepth 20000 in
theorem gX10_back_X10_imageOf : GoodIn wsX10_back (wsV RX10 373 RX10 yX10_imageOf wsX10_imageOf) := goodIn_app (goodIn_of _ (by decide +kernel)) ggX10_back_X10_imageOf
set_option maxRecDepth 20000 in
theorem ggX10_back_X4_copy : GoodIn wsX10_back wsX4_copy := goodIn_r _ [18, 19, 20, 21, 22, 23, 24, 25, 26, 27, 28, 29, 30, 31, 17, 32, 54, 55, 56, 57, 58, 59, 60, 61, 62, 63] (by decide +kernel) (by decide +kernel)
set_option maxRecDepth 20000 in
theorem gX10_back_X4_copy : GoodIn wsX10_back (wsV RX10 378 RX4 yX4_copy wsX4_copy) := goodIn_app (goodIn_of _ (by decide +kernel)) ggX10_back_X4_copy
theorem dX10_back_0 : decode cX10_back 0 = .ok (.iload_n 1, 1) := by decide +kernel
theorem dX10_back_1 : decode cX10_back 1 = .ok (.ifCond .lt 8, 3) := by decide +kernel
theorem dX10_back_4 : decode cX10_back 4 = .ok (.iload_n 1, 1) := by decide +kernel
theorem dX10_back_5 : decode cX10_back 5 = .ok (.iconst 1, 1) := by decide +kernel
theorem dX10_back_6 : decode cX10_back 6 = .ok (.if_icmp .le 5, 3) := by decide +kernel
theorem dX10_back_9 : decode cX10_back 9 = .ok (.iconst (-1), 1) := by decide +kernel
theorem dX10_back_10 : decode cX10_back 10 = .ok (.ireturn, 1) := by decide +kernel
theorem dX10_back_11 : decode cX10_back 11 = .ok (.aload_n 0, 1) := by decide +kernel
theorem dX10_back_12 : decode cX10_back 12 = .ok (.iload_n 1, 1) := by decide +kernel
theorem dX10_back_13 : decode cX10_back 13 = .ok (.invokevirtual 373, 3) := by decide +kernel
theorem dX10_back_16 : decode cX10_back 16 = .ok (.astore_n 2, 1) := by decide +kernel
theorem dX10_back_17 : decode cX10_back 17 = .ok (.aload_n 2, 1) := by decide +kernel
theorem dX10_back_18 : decode cX10_back 18 = .ok (.getfield 124, 3) := by decide +kernel
theorem dX10_back_21 : decode cX10_back 21 = .ok (.ifCond .ne 6, 3) := by decide +kernel
theorem dX10_back_24 : decode cX10_back 24 = .ok (.bipush (-2), 2) := by decide +kernel
theorem dX10_back_26 : decode cX10_back 26 = .ok (.ireturn, 1) := by decide +kernel
theorem dX10_back_27 : decode cX10_back 27 = .ok (.aload_n 0, 1) := by decide +kernel
theorem dX10_back_28 : decode cX10_back 28 = .ok (.getfield 38, 3) := by decide +kernel
theorem dX10_back_31 : decode cX10_back 31 = .ok (.aload_n 2, 1) := by decide +kernel
theorem dX10_back_32 : decode cX10_back 32 = .ok (.getfield 377, 3) := by decide +kernel
theorem dX10_back_35 : decode cX10_back 35 = .ok (.invokevirtual 378, 3) := by decide +kernel
theorem dX10_back_38 : decode cX10_back 38 = .ok (.aload_n 0, 1) := by decide +kernel
theorem dX10_back_39 : decode cX10_back 39 = .ok (.aload_n 2, 1) := by decide +kernel
theorem dX10_back_40 : decode cX10_back 40 = .ok (.getfield 382, 3) := by decide +kernel
theorem dX10_back_43 : decode cX10_back 43 = .ok (.putfield 103, 3) := by decide +kernel
theorem dX10_back_46 : decode cX10_back 46 = .ok (.aload_n 0, 1) := by decide +kernel
theorem dX10_back_47 : decode cX10_back 47 = .ok (.getfield 38, 3) := by decide +kernel
theorem dX10_back_50 : decode cX10_back 50 = .ok (.getfield 192, 3) := by decide +kernel
theorem dX10_back_53 : decode cX10_back 53 = .ok (.ireturn, 1) := by decide +kernel
set_option maxRecDepth 20000 in
theorem ggX10_count_X7_countOf : GoodIn wsX10_count wsX7_countOf := goodIn_r _ [11, 12, 13, 14, 10, 15, 16, 17, 18, 19, 20, 21, 22, 52, 53, 54, 55, 56, 57, 58, 59, 60, 61] (by decide +kernel) (by decide +kernel)
set_option maxRecDepth 20000 in
theorem gX10_count_X7_countOf : GoodIn wsX10_count (wsV RX10 294 RX7 yX7_countOf wsX7_countOf) := goodIn_app (goodIn_of _ (by decide +kernel)) ggX10_count_X7_countOf
theorem dX10_count_0 : decode cX10_count 0 = .ok (.iload_n 1, 1) := by decide +kernel
theorem dX10_count_1 : decode cX10_count 1 = .ok (.tableswitch 87 0 5 #[39, 48, 57, 66, 71, 79], 39) := by decide +kernel
theorem dX10_count_40 : decode cX10_count 40 = .ok (.aload_n 0, 1) := by decide +kernel
theorem dX10_count_41 : decode cX10_count 41 = .ok (.getfield 28, 3) := by decide +kernel
theorem dX10_count_44 : decode cX10_count 44 = .ok (.iconst 0, 1) := by decide +kernel
theorem dX10_count_45 : decode cX10_count 45 = .ok (.invokevirtual 294, 3) := by decide +kernel
theorem dX10_count_48 : decode cX10_count 48 = .ok (.ireturn, 1) := by decide +kernel
theorem dX10_count_49 : decode cX10_count 49 = .ok (.aload_n 0, 1) := by decide +kernel
theorem dX10_count_50 : decode cX10_count 50 = .ok (.getfield 28, 3) := by decide +kernel
theorem dX10_count_53 : decode cX10_count 53 = .ok (.iconst 1, 1) := by decide +kernel
theorem dX10_count_54 : decode cX10_count 54 = .ok (.invokevirtual 294, 3) := by decide +kernel
theorem dX10_count_57 : decode cX10_count 57 = .ok (.ireturn, 1) := by decide +kernel
theorem dX10_count_58 : decode cX10_count 58 = .ok (.aload_n 0, 1) := by decide +kernel
theorem dX10_count_59 : decode cX10_count 59 = .ok (.getfield 28, 3) := by decide +kernel
theorem dX10_count_62 : decode cX10_count 62 = .ok (.iconst 2, 1) := by decide +kernel
theorem dX10_count_63 : decode cX10_count 63 = .ok (.invokevirtual 294, 3) := by decide +kernel
theorem dX10_count_66 : decode cX10_count 66 = .ok (.ireturn, 1) := by decide +kernel
theorem dX10_count_67 : decode cX10_count 67 = .ok (.aload_n 0, 1) := by decide +kernel
theorem dX10_count_68 : decode cX10_count 68 = .ok (.getfield 121, 3) := by decide +kernel
theorem dX10_count_71 : decode cX10_count 71 = .ok (.ireturn, 1) := by decide +kernel
theorem dX10_count_72 : decode cX10_count 72 = .ok (.aload_n 0, 1) := by decide +kernel
theorem dX10_count_73 : decode cX10_count 73 = .ok (.getfield 99, 3) := by decide +kernel
theorem dX10_count_76 : decode cX10_count 76 = .ok (.getfield 323, 3) := by decide +kernel
theorem dX10_count_79 : decode cX10_count 79 = .ok (.ireturn, 1) := by decide +kernel
theorem dX10_count_80 : decode cX10_count 80 = .ok (.aload_n 0, 1) := by decide +kernel
theorem dX10_count_81 : decode cX10_count 81 = .ok (.getfield 12, 3) := by decide +kernel
theorem dX10_count_84 : decode cX10_count 84 = .ok (.getfield 111, 3) := by decide +kernel
theorem dX10_count_87 : decode cX10_count 87 = .ok (.ireturn, 1) := by decide +kernel
theorem dX10_count_88 : decode cX10_count 88 = .ok (.iconst (-1), 1) := by decide +kernel
theorem dX10_count_89 : decode cX10_count 89 = .ok (.ireturn, 1) := by decide +kernel
theorem dX10_trace_0 : decode cX10_trace 0 = .ok (.aload_n 0, 1) := by decide +kernel
theorem dX10_trace_1 : decode cX10_trace 1 = .ok (.getfield 356, 3) := by decide +kernel
theorem dX10_trace_4 : decode cX10_trace 4 = .ok (.lreturn, 1) := by decide +kernel
theorem dX10_at_0 : decode cX10_at 0 = .ok (.iload_n 1, 1) := by decide +kernel
theorem dX10_at_1 : decode cX10_at 1 = .ok (.ifCond .lt 15, 3) := by decide +kernel
theorem dX10_at_4 : decode cX10_at 4 = .ok (.iload_n 1, 1) := by decide +kernel
theorem dX10_at_5 : decode cX10_at 5 = .ok (.aload_n 0, 1) := by decide +kernel
theorem dX10_at_6 : decode cX10_at 6 = .ok (.arraylength, 1) := by decide +kernel
theorem dX10_at_7 : decode cX10_at 7 = .ok (.if_icmp .ge 9, 3) := by decide +kernel
theorem dX10_at_10 : decode cX10_at 10 = .ok (.aload_n 0, 1) := by decide +kernel
theorem dX10_at_11 : decode cX10_at 11 = .ok (.iload_n 1, 1) := by decide +kernel
theorem dX10_at_12 : decode cX10_at 12 = .ok (.iaload, 1) := by decide +kernel
theorem dX10_at_13 : decode cX10_at 13 = .ok (.goto 4, 3) := by decide +kernel
theorem dX10_at_16 : decode cX10_at 16 = .ok (.iconst 0, 1) := by decide +kernel
theorem dX10_at_17 : decode cX10_at 17 = .ok (.ireturn, 1) := by decide +kernel
theorem dX10_set_0 : decode cX10_set 0 = .ok (.iload_n 1, 1) := by decide +kernel
theorem dX10_set_1 : decode cX10_set 1 = .ok (.ifCond .lt 13, 3) := by decide +kernel
theorem dX10_set_4 : decode cX10_set 4 = .ok (.iload_n 1, 1) := by decide +kernel
theorem dX10_set_5 : decode cX10_set 5 = .ok (.aload_n 0, 1) := by decide +kernel
theorem dX10_set_6 : decode cX10_set 6 = .ok (.arraylength, 1) := by decide +kernel
theorem dX10_set_7 : decode cX10_set 7 = .ok (.if_icmp .ge 7, 3) := by decide +kernel
theorem dX10_set_10 : decode cX10_set 10 = .ok (.aload_n 0, 1) := by decide +kernel
theorem dX10_set_11 : decode cX10_set 11 = .ok (.iload_n 1, 1) := by decide +kernel
theorem dX10_set_12 : decode cX10_set 12 = .ok (.iload_n 2, 1) := by decide +kernel
theorem dX10_set_13 : decode cX10_set 13 = .ok (.iastore, 1) := by decide +kernel
theorem dX10_set_14 : decode cX10_set 14 = .ok (.return_, 1) := by decide +kernel
theorem dX10_standOf_0 : decode cX10_standOf 0 = .ok (.iload_n 0, 1) := by decide +kernel
theorem dX10_standOf_1 : decode cX10_standOf 1 = .ok (.bipush 8, 2) := by decide +kernel
theorem dX10_standOf_3 : decode cX10_standOf 3 = .ok (.imul, 1) := by decide +kernel
theorem dX10_standOf_4 : decode cX10_standOf 4 = .ok (.iload_n 1, 1) := by decide +kernel
theorem dX10_standOf_5 : decode cX10_standOf 5 = .ok (.iadd, 1) := by decide +kernel
theorem dX10_standOf_6 : decode cX10_standOf 6 = .ok (.bipush 9, 2) := by decide +kernel
theorem dX10_standOf_8 : decode cX10_standOf 8 = .ok (.imul, 1) := by decide +kernel
theorem dX10_standOf_9 : decode cX10_standOf 9 = .ok (.iload_n 2, 1) := by decide +kernel
theorem dX10_standOf_10 : decode cX10_standOf 10 = .ok (.iadd, 1) := by decide +kernel
theorem dX10_standOf_11 : decode cX10_standOf 11 = .ok (.ireturn, 1) := by decide +kernel
theorem dX10_cellOf_0 : decode cX10_cellOf 0 = .ok (.iload_n 0, 1) := by decide +kernel
theorem dX10_cellOf_1 : decode cX10_cellOf 1 = .ok (.ifCond .lt 10, 3) := by decide +kernel
theorem dX10_cellOf_4 : decode cX10_cellOf 4 = .ok (.iload_n 0, 1) := by decide +kernel
theorem dX10_cellOf_5 : decode cX10_cellOf 5 = .ok (.bipush 72, 2) := by decide +kernel
theorem dX10_cellOf_7 : decode cX10_cellOf 7 = .ok (.idiv, 1) := by decide +kernel
theorem dX10_cellOf_8 : decode cX10_cellOf 8 = .ok (.goto 5, 3) := by decide +kernel
theorem dX10_cellOf_11 : decode cX10_cellOf 11 = .ok (.bipush (-9), 2) := by decide +kernel
theorem dX10_cellOf_13 : decode cX10_cellOf 13 = .ok (.ireturn, 1) := by decide +kernel
theorem dX10_divisorOf_0 : decode cX10_divisorOf 0 = .ok (.lload_n 0, 1) := by decide +kernel
theorem dX10_divisorOf_1 : decode cX10_divisorOf 1 = .ok (.lstore 4, 2) := by decide +kernel
theorem dX10_divisorOf_3 : decode cX10_divisorOf 3 = .ok (.lload_n 2, 1) := by decide +kernel
theorem dX10_divisorOf_4 : decode cX10_divisorOf 4 = .ok (.lstore 6, 2) := by decide +kernel
theorem dX10_divisorOf_6 : decode cX10_divisorOf 6 = .ok (.iconst 0, 1) := by decide +kernel
theorem dX10_divisorOf_7 : decode cX10_divisorOf 7 = .ok (.istore 8, 2) := by decide +kernel
theorem dX10_divisorOf_9 : decode cX10_divisorOf 9 = .ok (.iload 8, 2) := by decide +kernel
theorem dX10_divisorOf_11 : decode cX10_divisorOf 11 = .ok (.bipush 100, 2) := by decide +kernel
theorem dX10_divisorOf_13 : decode cX10_divisorOf 13 = .ok (.if_icmp .ge 31, 3) := by decide +kernel
theorem dX10_divisorOf_16 : decode cX10_divisorOf 16 = .ok (.lload 6, 2) := by decide +kernel
theorem dX10_divisorOf_18 : decode cX10_divisorOf 18 = .ok (.lconst 0, 1) := by decide +kernel
theorem dX10_divisorOf_19 : decode cX10_divisorOf 19 = .ok (.lcmp, 1) := by decide +kernel
theorem dX10_divisorOf_20 : decode cX10_divisorOf 20 = .ok (.ifCond .le 24, 3) := by decide +kernel
theorem dX10_divisorOf_23 : decode cX10_divisorOf 23 = .ok (.lload 4, 2) := by decide +kernel
theorem dX10_divisorOf_25 : decode cX10_divisorOf 25 = .ok (.lload 6, 2) := by decide +kernel
theorem dX10_divisorOf_27 : decode cX10_divisorOf 27 = .ok (.lrem, 1) := by decide +kernel
theorem dX10_divisorOf_28 : decode cX10_divisorOf 28 = .ok (.lstore 9, 2) := by decide +kernel
theorem dX10_divisorOf_30 : decode cX10_divisorOf 30 = .ok (.lload 6, 2) := by decide +kernel
theorem dX10_divisorOf_32 : decode cX10_divisorOf 32 = .ok (.lstore 4, 2) := by decide +kernel
theorem dX10_divisorOf_34 : decode cX10_divisorOf 34 = .ok (.lload 9, 2) := by decide +kernel
theorem dX10_divisorOf_36 : decode cX10_divisorOf 36 = .ok (.lstore 6, 2) := by decide +kernel
theorem dX10_divisorOf_38 : decode cX10_divisorOf 38 = .ok (.iinc 8 1, 3) := by decide +kernel
theorem dX10_divisorOf_41 : decode cX10_divisorOf 41 = .ok (.goto (-32), 3) := by decide +kernel
theorem dX10_divisorOf_44 : decode cX10_divisorOf 44 = .ok (.lload 4, 2) := by decide +kernel
theorem dX10_divisorOf_46 : decode cX10_divisorOf 46 = .ok (.lconst 0, 1) := by decide +kernel
theorem dX10_divisorOf_47 : decode cX10_divisorOf 47 = .ok (.lcmp, 1) := by decide +kernel
theorem dX10_divisorOf_48 : decode cX10_divisorOf 48 = .ok (.ifCond .le 8, 3) := by decide +kernel
theorem dX10_divisorOf_51 : decode cX10_divisorOf 51 = .ok (.lload 4, 2) := by decide +kernel
theorem dX10_divisorOf_53 : decode cX10_divisorOf 53 = .ok (.goto 4, 3) := by decide +kernel
theorem dX10_divisorOf_56 : decode cX10_divisorOf 56 = .ok (.lconst 1, 1) := by decide +kernel
theorem dX10_divisorOf_57 : decode cX10_divisorOf 57 = .ok (.lreturn, 1) := by decide +kernel
set_option maxRecDepth 20000 in
theorem ggX11_init_X11_drafts : GoodIn wsX11_init wsX11_drafts := goodIn_r _ [23, 6, 7, 33, 34, 35, 36, 37, 38, 39, 40, 41, 42, 43, 44, 45, 46, 47, 48, 49, 50, 51, 52, 53, 54, 55, 56, 57, 58, 59, 60, 61, 62, 63, 64] (by decide +kernel) (by decide +kernel)
set_option maxRecDepth 20000 in
theorem gX11_init_X11_drafts : GoodIn wsX11_init (wsV RX11 50 RX11 yX11_drafts wsX11_drafts) := goodIn_app (goodIn_of _ (by decide +kernel)) ggX11_init_X11_drafts
set_option maxRecDepth 20000 in
theorem ggX11_init_X11_adopts : GoodIn wsX11_init wsX11_adopts := goodIn_r _ [27, 6, 7, 28, 11, 29, 30, 31, 22, 32, 8, 33, 34, 35, 36, 37, 38, 39, 40, 41, 42, 43, 44, 45, 46, 47, 48, 49, 50, 51, 52, 53, 54, 55, 56, 57, 58, 59, 60, 61, 62, 63, 64] (by decide +kernel) (by decide +kernel)
set_option maxRecDepth 20000 in
theorem gX11_init_X11_adopts : GoodIn wsX11_init (wsV RX11 53 RX11 yX11_adopts wsX11_adopts) := goodIn_app (goodIn_of _ (by decide +kernel)) ggX11_init_X11_adopts
theorem dX11_init_0 : decode cX11_init 0 = .ok (.aload_n 0, 1) := by decide +kernel
theorem dX11_init_1 : decode cX11_init 1 = .ok (.invokespecial 1, 3) := by decide +kernel
theorem dX11_init_4 : decode cX11_init 4 = .ok (.aload_n 0, 1) := by decide +kernel
theorem dX11_init_5 : decode cX11_init 5 = .ok (.sipush 300, 3) := by decide +kernel
theorem dX11_init_8 : decode cX11_init 8 = .ok (.newarray .int, 2) := by decide +kernel
theorem dX11_init_10 : decode cX11_init 10 = .ok (.putfield 7, 3) := by decide +kernel
theorem dX11_init_13 : decode cX11_init 13 = .ok (.aload_n 0, 1) := by decide +kernel
theorem dX11_init_14 : decode cX11_init 14 = .ok (.bipush 18, 2) := by decide +kernel
theorem dX11_init_16 : decode cX11_init 16 = .ok (.newarray .int, 2) := by decide +kernel
theorem dX11_init_18 : decode cX11_init 18 = .ok (.putfield 13, 3) := by decide +kernel
theorem dX11_init_21 : decode cX11_init 21 = .ok (.aload_n 0, 1) := by decide +kernel
theorem dX11_init_22 : decode cX11_init 22 = .ok (.sipush 512, 3) := by decide +kernel
theorem dX11_init_25 : decode cX11_init 25 = .ok (.newarray .int, 2) := by decide +kernel
theorem dX11_init_27 : decode cX11_init 27 = .ok (.putfield 16, 3) := by decide +kernel
theorem dX11_init_30 : decode cX11_init 30 = .ok (.aload_n 0, 1) := by decide +kernel
theorem dX11_init_31 : decode cX11_init 31 = .ok (.bipush 12, 2) := by decide +kernel
theorem dX11_init_33 : decode cX11_init 33 = .ok (.newarray .int, 2) := by decide +kernel
theorem dX11_init_35 : decode cX11_init 35 = .ok (.putfield 19, 3) := by decide +kernel
theorem dX11_init_38 : decode cX11_init 38 = .ok (.aload_n 0, 1) := by decide +kernel
theorem dX11_init_39 : decode cX11_init 39 = .ok (.bipush 24, 2) := by decide +kernel
theorem dX11_init_41 : decode cX11_init 41 = .ok (.newarray .int, 2) := by decide +kernel
theorem dX11_init_43 : decode cX11_init 43 = .ok (.putfield 22, 3) := by decide +kernel
theorem dX11_init_46 : decode cX11_init 46 = .ok (.aload_n 0, 1) := by decide +kernel
theorem dX11_init_47 : decode cX11_init 47 = .ok (.iconst 2, 1) := by decide +kernel
theorem dX11_init_48 : decode cX11_init 48 = .ok (.newarray .boolean, 2) := by decide +kernel
theorem dX11_init_50 : decode cX11_init 50 = .ok (.putfield 25, 3) := by decide +kernel
theorem dX11_init_53 : decode cX11_init 53 = .ok (.aload_n 0, 1) := by decide +kernel
theorem dX11_init_54 : decode cX11_init 54 = .ok (.iconst 4, 1) := by decide +kernel
theorem dX11_init_55 : decode cX11_init 55 = .ok (.newarray .int, 2) := by decide +kernel
theorem dX11_init_57 : decode cX11_init 57 = .ok (.putfield 29, 3) := by decide +kernel
theorem dX11_init_60 : decode cX11_init 60 = .ok (.aload_n 0, 1) := by decide +kernel
theorem dX11_init_61 : decode cX11_init 61 = .ok (.iconst 4, 1) := by decide +kernel
theorem dX11_init_62 : decode cX11_init 62 = .ok (.newarray .int, 2) := by decide +kernel
theorem dX11_init_64 : decode cX11_init 64 = .ok (.putfield 32, 3) := by decide +kernel
theorem dX11_init_67 : decode cX11_init 67 = .ok (.aload_n 0, 1) := by decide +kernel
theorem dX11_init_68 : decode cX11_init 68 = .ok (.sipush 20480, 3) := by decide +kernel
theorem dX11_init_71 : decode cX11_init 71 = .ok (.newarray .int, 2) := by decide +kernel
theorem dX11_init_73 : decode cX11_init 73 = .ok (.putfield 35, 3) := by decide +kernel
theorem dX11_init_76 : decode cX11_init 76 = .ok (.aload_n 0, 1) := by decide +kernel
theorem dX11_init_77 : decode cX11_init 77 = .ok (.sipush 256, 3) := by decide +kernel
theorem dX11_init_80 : decode cX11_init 80 = .ok (.newarray .int, 2) := by decide +kernel
theorem dX11_init_82 : decode cX11_init 82 = .ok (.putfield 38, 3) := by decide +kernel
theorem dX11_init_85 : decode cX11_init 85 = .ok (.aload_n 0, 1) := by decide +kernel
theorem dX11_init_86 : decode cX11_init 86 = .ok (.sipush 256, 3) := by decide +kernel
theorem dX11_init_89 : decode cX11_init 89 = .ok (.newarray .int, 2) := by decide +kernel
theorem dX11_init_91 : decode cX11_init 91 = .ok (.putfield 41, 3) := by decide +kernel
theorem dX11_init_94 : decode cX11_init 94 = .ok (.aload_n 0, 1) := by decide +kernel
theorem dX11_init_95 : decode cX11_init 95 = .ok (.bipush 16, 2) := by decide +kernel
theorem dX11_init_97 : decode cX11_init 97 = .ok (.newarray .int, 2) := by decide +kernel
theorem dX11_init_99 : decode cX11_init 99 = .ok (.putfield 44, 3) := by decide +kernel
theorem dX11_init_102 : decode cX11_init 102 = .ok (.aload_n 0, 1) := by decide +kernel
theorem dX11_init_103 : decode cX11_init 103 = .ok (.bipush 40, 2) := by decide +kernel
theorem dX11_init_105 : decode cX11_init 105 = .ok (.newarray .int, 2) := by decide +kernel
theorem dX11_init_107 : decode cX11_init 107 = .ok (.putfield 47, 3) := by decide +kernel
theorem dX11_init_110 : decode cX11_init 110 = .ok (.aload_n 0, 1) := by decide +kernel
theorem dX11_init_111 : decode cX11_init 111 = .ok (.getfield 19, 3) := by decide +kernel
theorem dX11_init_114 : decode cX11_init 114 = .ok (.bipush 11, 2) := by decide +kernel
theorem dX11_init_116 : decode cX11_init 116 = .ok (.iconst 1, 1) := by decide +kernel
theorem dX11_init_117 : decode cX11_init 117 = .ok (.iastore, 1) := by decide +kernel
theorem dX11_init_118 : decode cX11_init 118 = .ok (.aload_n 0, 1) := by decide +kernel
theorem dX11_init_119 : decode cX11_init 119 = .ok (.invokevirtual 50, 3) := by decide +kernel
theorem dX11_init_122 : decode cX11_init 122 = .ok (.aload_n 0, 1) := by decide +kernel
theorem dX11_init_123 : decode cX11_init 123 = .ok (.invokevirtual 53, 3) := by decide +kernel
theorem dX11_init_126 : decode cX11_init 126 = .ok (.return_, 1) := by decide +kernel
theorem dX11_in_0 : decode cX11_in 0 = .ok (.iload_n 0, 1) := by decide +kernel
theorem dX11_in_1 : decode cX11_in 1 = .ok (.iload_n 1, 1) := by decide +kernel
theorem dX11_in_2 : decode cX11_in 2 = .ok (.if_icmp .lt 12, 3) := by decide +kernel
theorem dX11_in_5 : decode cX11_in 5 = .ok (.iload_n 0, 1) := by decide +kernel
theorem dX11_in_6 : decode cX11_in 6 = .ok (.iload_n 2, 1) := by decide +kernel
theorem dX11_in_7 : decode cX11_in 7 = .ok (.if_icmp .gt 7, 3) := by decide +kernel
theorem dX11_in_10 : decode cX11_in 10 = .ok (.iconst 1, 1) := by decide +kernel
theorem dX11_in_11 : decode cX11_in 11 = .ok (.goto 4, 3) := by decide +kernel
theorem dX11_in_14 : decode cX11_in 14 = .ok (.iconst 0, 1) := by decide +kernel
theorem dX11_in_15 : decode cX11_in 15 = .ok (.ireturn, 1) := by decide +kernel
set_option maxRecDepth 20000 in
theorem ggX11_type_X11_in : GoodIn wsX11_type wsX11_in := goodIn_r _ [8] (by decide +kernel) (by decide +kernel)
set_option maxRecDepth 20000 in
theorem gX11_type_X11_in : GoodIn wsX11_type (va_wsS RX11 60 yX11_in wsX11_in) := goodIn_app (goodIn_of _ (by decide +kernel)) ggX11_type_X11_in
theorem dX11_type_0 : decode cX11_type 0 = .ok (.aload_n 0, 1) := by decide +kernel
theorem dX11_type_1 : decode cX11_type 1 = .ok (.iconst 0, 1) := by decide +kernel
theorem dX11_type_2 : decode cX11_type 2 = .ok (.putfield 56, 3) := by decide +kernel
theorem dX11_type_5 : decode cX11_type 5 = .ok (.iload_n 3, 1) := by decide +kernel
theorem dX11_type_6 : decode cX11_type 6 = .ok (.iconst 1, 1) := by decide +kernel
theorem dX11_type_7 : decode cX11_type 7 = .ok (.bipush 8, 2) := by decide +kernel
theorem dX11_type_9 : decode cX11_type 9 = .ok (.invokestatic 60, 3) := by decide +kernel
theorem dX11_type_12 : decode cX11_type 12 = .ok (.ifCond .ne 5, 3) := by decide +kernel
theorem dX11_type_15 : decode cX11_type 15 = .ok (.iconst (-1), 1) := by decide +kernel
theorem dX11_type_16 : decode cX11_type 16 = .ok (.ireturn, 1) := by decide +kernel
theorem dX11_type_17 : decode cX11_type 17 = .ok (.aload_n 0, 1) := by decide +kernel
theorem dX11_type_18 : decode cX11_type 18 = .ok (.getfield 64, 3) := by decide +kernel
theorem dX11_type_21 : decode cX11_type 21 = .ok (.iload_n 3, 1) := by decide +kernel
theorem dX11_type_22 : decode cX11_type 22 = .ok (.iadd, 1) := by decide +kernel
theorem dX11_type_23 : decode cX11_type 23 = .ok (.sipush 300, 3) := by decide +kernel
theorem dX11_type_26 : decode cX11_type 26 = .ok (.if_icmp .le 6, 3) := by decide +kernel
theorem dX11_type_29 : decode cX11_type 29 = .ok (.bipush (-3), 2) := by decide +kernel
theorem dX11_type_31 : decode cX11_type 31 = .ok (.ireturn, 1) := by decide +kernel
theorem dX11_type_32 : decode cX11_type 32 = .ok (.iload_n 3, 1) := by decide +kernel
theorem dX11_type_33 : decode cX11_type 33 = .ok (.iconst 1, 1) := by decide +kernel
theorem dX11_type_34 : decode cX11_type 34 = .ok (.isub, 1) := by decide +kernel
theorem dX11_type_35 : decode cX11_type 35 = .ok (.istore 4, 2) := by decide +kernel
theorem dX11_type_37 : decode cX11_type 37 = .ok (.iload 4, 2) := by decide +kernel
theorem dX11_type_39 : decode cX11_type 39 = .ok (.ifCond .lt 40, 3) := by decide +kernel
theorem dX11_type_42 : decode cX11_type 42 = .ok (.aload_n 0, 1) := by decide +kernel
theorem dX11_type_43 : decode cX11_type 43 = .ok (.getfield 7, 3) := by decide +kernel
theorem dX11_type_46 : decode cX11_type 46 = .ok (.aload_n 0, 1) := by decide +kernel
theorem dX11_type_47 : decode cX11_type 47 = .ok (.getfield 64, 3) := by decide +kernel
theorem dX11_type_50 : decode cX11_type 50 = .ok (.lload_n 1, 1) := by decide +kernel
theorem dX11_type_51 : decode cX11_type 51 = .ok (.bipush 8, 2) := by decide +kernel
theorem dX11_type_53 : decode cX11_type 53 = .ok (.iload 4, 2) := by decide +kernel
theorem dX11_type_55 : decode cX11_type 55 = .ok (.imul, 1) := by decide +kernel
theorem dX11_type_56 : decode cX11_type 56 = .ok (.lshr, 1) := by decide +kernel
theorem dX11_type_57 : decode cX11_type 57 = .ok (.ldc2_w 67, 3) := by decide +kernel
theorem dX11_type_60 : decode cX11_type 60 = .ok (.land, 1) := by decide +kernel
theorem dX11_type_61 : decode cX11_type 61 = .ok (.l2i, 1) := by decide +kernel
theorem dX11_type_62 : decode cX11_type 62 = .ok (.iastore, 1) := by decide +kernel
theorem dX11_type_63 : decode cX11_type 63 = .ok (.aload_n 0, 1) := by decide +kernel
theorem dX11_type_64 : decode cX11_type 64 = .ok (.dup, 1) := by decide +kernel
theorem dX11_type_65 : decode cX11_type 65 = .ok (.getfield 64, 3) := by decide +kernel
theorem dX11_type_68 : decode cX11_type 68 = .ok (.iconst 1, 1) := by decide +kernel
theorem dX11_type_69 : decode cX11_type 69 = .ok (.iadd, 1) := by decide +kernel
theorem dX11_type_70 : decode cX11_type 70 = .ok (.putfield 64, 3) := by decide +kernel
theorem dX11_type_73 : decode cX11_type 73 = .ok (.iinc 4 (-1), 3) := by decide +kernel
theorem dX11_type_76 : decode cX11_type 76 = .ok (.goto (-39), 3) := by decide +kernel
theorem dX11_type_79 : decode cX11_type 79 = .ok (.aload_n 0, 1) := by decide +kernel
theorem dX11_type_80 : decode cX11_type 80 = .ok (.getfield 64, 3) := by decide +kernel
theorem dX11_type_83 : decode cX11_type 83 = .ok (.ireturn, 1) := by decide +kernel
theorem dX11_clear_0 : decode cX11_clear 0 = .ok (.aload_n 0, 1) := by decide +kernel
theorem dX11_clear_1 : decode cX11_clear 1 = .ok (.iconst 0, 1) := by decide +kernel
theorem dX11_clear_2 : decode cX11_clear 2 = .ok (.putfield 56, 3) := by decide +kernel
theorem dX11_clear_5 : decode cX11_clear 5 = .ok (.aload_n 0, 1) := by decide +kernel
theorem dX11_clear_6 : decode cX11_clear 6 = .ok (.getfield 64, 3) := by decide +kernel
theorem dX11_clear_9 : decode cX11_clear 9 = .ok (.istore_n 1, 1) := by decide +kernel
theorem dX11_clear_10 : decode cX11_clear 10 = .ok (.aload_n 0, 1) := by decide +kernel
theorem dX11_clear_11 : decode cX11_clear 11 = .ok (.iconst 0, 1) := by decide +kernel
theorem dX11_clear_12 : decode cX11_clear 12 = .ok (.putfield 64, 3) := by decide +kernel
theorem dX11_clear_15 : decode cX11_clear 15 = .ok (.iload_n 1, 1) := by decide +kernel
theorem dX11_clear_16 : decode cX11_clear 16 = .ok (.ireturn, 1) := by decide +kernel
theorem dX11_byteAt_0 : decode cX11_byteAt 0 = .ok (.iload_n 1, 1) := by decide +kernel
theorem dX11_byteAt_1 : decode cX11_byteAt 1 = .ok (.aload_n 0, 1) := by decide +kernel
theorem dX11_byteAt_2 : decode cX11_byteAt 2 = .ok (.getfield 64, 3) := by decide +kernel
theorem dX11_byteAt_5 : decode cX11_byteAt 5 = .ok (.if_icmp .ge 12, 3) := by decide +kernel
theorem dX11_byteAt_8 : decode cX11_byteAt 8 = .ok (.aload_n 0, 1) := by decide +kernel
theorem dX11_byteAt_9 : decode cX11_byteAt 9 = .ok (.getfield 7, 3) := by decide +kernel
theorem dX11_byteAt_12 : decode cX11_byteAt 12 = .ok (.iload_n 1, 1) := by decide +kernel
theorem dX11_byteAt_13 : decode cX11_byteAt 13 = .ok (.iaload, 1) := by decide +kernel
theorem dX11_byteAt_14 : decode cX11_byteAt 14 = .ok (.goto 4, 3) := by decide +kernel
theorem dX11_byteAt_17 : decode cX11_byteAt 17 = .ok (.iconst (-1), 1) := by decide +kernel
theorem dX11_byteAt_18 : decode cX11_byteAt 18 = .ok (.ireturn, 1) := by decide +kernel
theorem dX11_add_0 : decode cX11_add 0 = .ok (.iload_n 2, 1) := by decide +kernel
theorem dX11_add_1 : decode cX11_add 1 = .ok (.ifCond .ne 7, 3) := by decide +kernel
theorem dX11_add_4 : decode cX11_add 4 = .ok (.lload_n 0, 1) := by decide +kernel
theorem dX11_add_5 : decode cX11_add 5 = .ok (.goto 11, 3) := by decide +kernel
theorem dX11_add_8 : decode cX11_add 8 = .ok (.ldc2_w 69, 3) := by decide +kernel
theorem dX11_add_11 : decode cX11_add 11 = .ok (.lload_n 0, 1) := by decide +kernel
theorem dX11_add_12 : decode cX11_add 12 = .ok (.lmul, 1) := by decide +kernel
theorem dX11_add_13 : decode cX11_add 13 = .ok (.iload_n 2, 1) := by decide +kernel
theorem dX11_add_14 : decode cX11_add 14 = .ok (.i2l, 1) := by decide +kernel
theorem dX11_add_15 : decode cX11_add 15 = .ok (.ladd, 1) := by decide +kernel
theorem dX11_add_16 : decode cX11_add 16 = .ok (.lreturn, 1) := by decide +kernel
set_option maxRecDepth 20000 in
theorem ggX11_named_X11_add : GoodIn wsX11_named wsX11_add := goodIn_r _ [4, 5] (by decide +kernel) (by decide +kernel)
set_option maxRecDepth 20000 in
theorem gX11_named_X11_add : GoodIn wsX11_named (va_wsS RX11 71 yX11_add wsX11_add) := goodIn_app (goodIn_of _ (by decide +kernel)) ggX11_named_X11_add
theorem dX11_named_0 : decode cX11_named 0 = .ok (.lconst 0, 1) := by decide +kernel
theorem dX11_named_1 : decode cX11_named 1 = .ok (.iload_n 0, 1) := by decide +kernel
theorem dX11_named_2 : decode cX11_named 2 = .ok (.invokestatic 71, 3) := by decide +kernel
theorem dX11_named_5 : decode cX11_named 5 = .ok (.iload_n 1, 1) := by decide +kernel
theorem dX11_named_6 : decode cX11_named 6 = .ok (.invokestatic 71, 3) := by decide +kernel
theorem dX11_named_9 : decode cX11_named 9 = .ok (.iload_n 2, 1) := by decide +kernel
theorem dX11_named_10 : decode cX11_named 10 = .ok (.invokestatic 71, 3) := by decide +kernel
theorem dX11_named_13 : decode cX11_named 13 = .ok (.iload_n 3, 1) := by decide +kernel
theorem dX11_named_14 : decode cX11_named 14 = .ok (.invokestatic 71, 3) := by decide +kernel
theorem dX11_named_17 : decode cX11_named 17 = .ok (.iload 4, 2) := by decide +kernel
theorem dX11_named_19 : decode cX11_named 19 = .ok (.invokestatic 71, 3) := by decide +kernel
theorem dX11_named_22 : decode cX11_named 22 = .ok (.lreturn, 1) := by decide +kernel
set_option maxRecDepth 20000 in
theorem ggX11_wordOf_X11_named : GoodIn wsX11_wordOf wsX11_named := goodIn_r _ [4, 5, 6, 3, 7, 8] (by decide +kernel) (by decide +kernel)
set_option maxRecDepth 20000 in
theorem gX11_wordOf_X11_named : GoodIn wsX11_wordOf (va_wsS RX11 75 yX11_named wsX11_named) := goodIn_app (goodIn_of _ (by decide +kernel)) ggX11_wordOf_X11_named
theorem dX11_wordOf_0 : decode cX11_wordOf 0 = .ok (.lload_n 0, 1) := by decide +kernel
theorem dX11_wordOf_1 : decode cX11_wordOf 1 = .ok (.bipush 116, 2) := by decide +kernel
theorem dX11_wordOf_3 : decode cX11_wordOf 3 = .ok (.bipush 97, 2) := by decide +kernel
theorem dX11_wordOf_5 : decode cX11_wordOf 5 = .ok (.bipush 98, 2) := by decide +kernel
theorem dX11_wordOf_7 : decode cX11_wordOf 7 = .ok (.bipush 108, 2) := by decide +kernel
theorem dX11_wordOf_9 : decode cX11_wordOf 9 = .ok (.bipush 101, 2) := by decide +kernel
theorem dX11_wordOf_11 : decode cX11_wordOf 11 = .ok (.invokestatic 75, 3) := by decide +kernel
theorem dX11_wordOf_14 : decode cX11_wordOf 14 = .ok (.lcmp, 1) := by decide +kernel
theorem dX11_wordOf_15 : decode cX11_wordOf 15 = .ok (.ifCond .ne 7, 3) := by decide +kernel
theorem dX11_wordOf_18 : decode cX11_wordOf 18 = .ok (.iconst 0, 1) := by decide +kernel
theorem dX11_wordOf_19 : decode cX11_wordOf 19 = .ok (.goto 47, 3) := by decide +kernel
theorem dX11_wordOf_22 : decode cX11_wordOf 22 = .ok (.lload_n 0, 1) := by decide +kernel
theorem dX11_wordOf_23 : decode cX11_wordOf 23 = .ok (.bipush 104, 2) := by decide +kernel
theorem dX11_wordOf_25 : decode cX11_wordOf 25 = .ok (.bipush 111, 2) := by decide +kernel
theorem dX11_wordOf_27 : decode cX11_wordOf 27 = .ok (.bipush 108, 2) := by decide +kernel
theorem dX11_wordOf_29 : decode cX11_wordOf 29 = .ok (.bipush 101, 2) := by decide +kernel
theorem dX11_wordOf_31 : decode cX11_wordOf 31 = .ok (.iconst 0, 1) := by decide +kernel
theorem dX11_wordOf_32 : decode cX11_wordOf 32 = .ok (.invokestatic 75, 3) := by decide +kernel
theorem dX11_wordOf_35 : decode cX11_wordOf 35 = .ok (.lcmp, 1) := by decide +kernel
theorem dX11_wordOf_36 : decode cX11_wordOf 36 = .ok (.ifCond .ne 7, 3) := by decide +kernel
theorem dX11_wordOf_39 : decode cX11_wordOf 39 = .ok (.iconst 1, 1) := by decide +kernel
theorem dX11_wordOf_40 : decode cX11_wordOf 40 = .ok (.goto 26, 3) := by decide +kernel
theorem dX11_wordOf_43 : decode cX11_wordOf 43 = .ok (.lload_n 0, 1) := by decide +kernel
theorem dX11_wordOf_44 : decode cX11_wordOf 44 = .ok (.bipush 98, 2) := by decide +kernel
theorem dX11_wordOf_46 : decode cX11_wordOf 46 = .ok (.bipush 111, 2) := by decide +kernel
theorem dX11_wordOf_48 : decode cX11_wordOf 48 = .ok (.bipush 111, 2) := by decide +kernel
theorem dX11_wordOf_50 : decode cX11_wordOf 50 = .ok (.bipush 107, 2) := by decide +kernel
theorem dX11_wordOf_52 : decode cX11_wordOf 52 = .ok (.iconst 0, 1) := by decide +kernel
theorem dX11_wordOf_53 : decode cX11_wordOf 53 = .ok (.invokestatic 75, 3) := by decide +kernel
theorem dX11_wordOf_56 : decode cX11_wordOf 56 = .ok (.lcmp, 1) := by decide +kernel
theorem dX11_wordOf_57 : decode cX11_wordOf 57 = .ok (.ifCond .ne 7, 3) := by decide +kernel
theorem dX11_wordOf_60 : decode cX11_wordOf 60 = .ok (.iconst 2, 1) := by decide +kernel
theorem dX11_wordOf_61 : decode cX11_wordOf 61 = .ok (.goto 5, 3) := by decide +kernel
theorem dX11_wordOf_64 : decode cX11_wordOf 64 = .ok (.bipush (-9), 2) := by decide +kernel
theorem dX11_wordOf_66 : decode cX11_wordOf 66 = .ok (.istore_n 2, 1) := by decide +kernel
theorem dX11_wordOf_67 : decode cX11_wordOf 67 = .ok (.iload_n 2, 1) := by decide +kernel
theorem dX11_wordOf_68 : decode cX11_wordOf 68 = .ok (.bipush (-9), 2) := by decide +kernel
theorem dX11_wordOf_70 : decode cX11_wordOf 70 = .ok (.if_icmp .eq 7, 3) := by decide +kernel
theorem dX11_wordOf_73 : decode cX11_wordOf 73 = .ok (.iload_n 2, 1) := by decide +kernel
theorem dX11_wordOf_74 : decode cX11_wordOf 74 = .ok (.goto 68, 3) := by decide +kernel
theorem dX11_wordOf_77 : decode cX11_wordOf 77 = .ok (.lload_n 0, 1) := by decide +kernel
theorem dX11_wordOf_78 : decode cX11_wordOf 78 = .ok (.bipush 98, 2) := by decide +kernel
theorem dX11_wordOf_80 : decode cX11_wordOf 80 = .ok (.bipush 101, 2) := by decide +kernel
theorem dX11_wordOf_82 : decode cX11_wordOf 82 = .ok (.bipush 108, 2) := by decide +kernel
theorem dX11_wordOf_84 : decode cX11_wordOf 84 = .ok (.bipush 108, 2) := by decide +kernel
theorem dX11_wordOf_86 : decode cX11_wordOf 86 = .ok (.iconst 0, 1) := by decide +kernel
theorem dX11_wordOf_87 : decode cX11_wordOf 87 = .ok (.invokestatic 75, 3) := by decide +kernel
theorem dX11_wordOf_90 : decode cX11_wordOf 90 = .ok (.lcmp, 1) := by decide +kernel
theorem dX11_wordOf_91 : decode cX11_wordOf 91 = .ok (.ifCond .ne 7, 3) := by decide +kernel
theorem dX11_wordOf_94 : decode cX11_wordOf 94 = .ok (.iconst 3, 1) := by decide +kernel
theorem dX11_wordOf_95 : decode cX11_wordOf 95 = .ok (.goto 47, 3) := by decide +kernel
theorem dX11_wordOf_98 : decode cX11_wordOf 98 = .ok (.lload_n 0, 1) := by decide +kernel
theorem dX11_wordOf_99 : decode cX11_wordOf 99 = .ok (.bipush 116, 2) := by decide +kernel
theorem dX11_wordOf_101 : decode cX11_wordOf 101 = .ok (.bipush 111, 2) := by decide +kernel
theorem dX11_wordOf_103 : decode cX11_wordOf 103 = .ok (.bipush 121, 2) := by decide +kernel
theorem dX11_wordOf_105 : decode cX11_wordOf 105 = .ok (.iconst 0, 1) := by decide +kernel
theorem dX11_wordOf_106 : decode cX11_wordOf 106 = .ok (.iconst 0, 1) := by decide +kernel
theorem dX11_wordOf_107 : decode cX11_wordOf 107 = .ok (.invokestatic 75, 3) := by decide +kernel
theorem dX11_wordOf_110 : decode cX11_wordOf 110 = .ok (.lcmp, 1) := by decide +kernel
theorem dX11_wordOf_111 : decode cX11_wordOf 111 = .ok (.ifCond .ne 7, 3) := by decide +kernel
theorem dX11_wordOf_114 : decode cX11_wordOf 114 = .ok (.iconst 4, 1) := by decide +kernel
theorem dX11_wordOf_115 : decode cX11_wordOf 115 = .ok (.goto 27, 3) := by decide +kernel
theorem dX11_wordOf_118 : decode cX11_wordOf 118 = .ok (.lload_n 0, 1) := by decide +kernel
theorem dX11_wordOf_119 : decode cX11_wordOf 119 = .ok (.bipush 115, 2) := by decide +kernel
theorem dX11_wordOf_121 : decode cX11_wordOf 121 = .ok (.bipush 116, 2) := by decide +kernel
theorem dX11_wordOf_123 : decode cX11_wordOf 123 = .ok (.bipush 97, 2) := by decide +kernel
theorem dX11_wordOf_125 : decode cX11_wordOf 125 = .ok (.bipush 114, 2) := by decide +kernel
theorem dX11_wordOf_127 : decode cX11_wordOf 127 = .ok (.bipush 116, 2) := by decide +kernel
theorem dX11_wordOf_129 : decode cX11_wordOf 129 = .ok (.invokestatic 75, 3) := by decide +kernel
theorem dX11_wordOf_132 : decode cX11_wordOf 132 = .ok (.lcmp, 1) := by decide +kernel
theorem dX11_wordOf_133 : decode cX11_wordOf 133 = .ok (.ifCond .ne 7, 3) := by decide +kernel
theorem dX11_wordOf_136 : decode cX11_wordOf 136 = .ok (.iconst 5, 1) := by decide +kernel
theorem dX11_wordOf_137 : decode cX11_wordOf 137 = .ok (.goto 5, 3) := by decide +kernel
theorem dX11_wordOf_140 : decode cX11_wordOf 140 = .ok (.bipush (-9), 2) := by decide +kernel
theorem dX11_wordOf_142 : decode cX11_wordOf 142 = .ok (.ireturn, 1) := by decide +kernel
set_option maxRecDepth 20000 in
theorem ggX11_advances_X11_byteAt : GoodIn wsX11_advances wsX11_byteAt := goodIn_r _ [9, 10, 11, 25, 26, 27, 28, 29, 30, 31, 32, 33, 34, 35, 36, 37, 38, 39, 40, 41, 42, 43, 44, 45, 46, 47, 48, 49, 50, 51, 52, 53, 54, 55, 56] (by decide +kernel) (by decide +kernel)
set_option maxRecDepth 20000 in
theorem gX11_advances_X11_byteAt : GoodIn wsX11_advances (wsV RX11 82 RX11 yX11_byteAt wsX11_byteAt) := goodIn_app (goodIn_of _ (by decide +kernel)) ggX11_advances_X11_byteAt
set_option maxRecDepth 20000 in
theorem ggX11_advances_X11_in : GoodIn wsX11_advances wsX11_in := goodIn_r _ [14] (by decide +kernel) (by decide +kernel)
set_option maxRecDepth 20000 in
theorem gX11_advances_X11_in : GoodIn wsX11_advances (va_wsS RX11 60 yX11_in wsX11_in) := goodIn_app (goodIn_of _ (by decide +kernel)) ggX11_advances_X11_in
set_option maxRecDepth 20000 in
theorem ggX11_advances_X11_add : GoodIn wsX11_advances wsX11_add := goodIn_r _ [17, 18] (by decide +kernel) (by decide +kernel)
set_option maxRecDepth 20000 in
theorem gX11_advances_X11_add : GoodIn wsX11_advances (va_wsS RX11 71 yX11_add wsX11_add) := goodIn_app (goodIn_of _ (by decide +kernel)) ggX11_advances_X11_add
set_option maxRecDepth 20000 in
theorem ggX11_advances_X11_wordOf : GoodIn wsX11_advances wsX11_wordOf := goodIn_r _ [21, 22, 23, 8, 24, 15, 16, 17, 18] (by decide +kernel) (by decide +kernel)
set_option maxRecDepth 20000 in
theorem gX11_advances_X11_wordOf : GoodIn wsX11_advances (va_wsS RX11 92 yX11_wordOf wsX11_wordOf) := goodIn_app (goodIn_of _ (by decide +kernel)) ggX11_advances_X11_wordOf
theorem dX11_advances_0 : decode cX11_advances 0 = .ok (.aload_n 0, 1) := by decide +kernel
theorem dX11_advances_1 : decode cX11_advances 1 = .ok (.aload_n 0, 1) := by decide +kernel
theorem dX11_advances_2 : decode cX11_advances 2 = .ok (.getfield 79, 3) := by decide +kernel
theorem dX11_advances_5 : decode cX11_advances 5 = .ok (.invokevirtual 82, 3) := by decide +kernel
theorem dX11_advances_8 : decode cX11_advances 8 = .ok (.bipush 32, 2) := by decide +kernel
theorem dX11_advances_10 : decode cX11_advances 10 = .ok (.if_icmp .ne 16, 3) := by decide +kernel
theorem dX11_advances_13 : decode cX11_advances 13 = .ok (.aload_n 0, 1) := by decide +kernel
theorem dX11_advances_14 : decode cX11_advances 14 = .ok (.dup, 1) := by decide +kernel
theorem dX11_advances_15 : decode cX11_advances 15 = .ok (.getfield 79, 3) := by decide +kernel
theorem dX11_advances_18 : decode cX11_advances 18 = .ok (.iconst 1, 1) := by decide +kernel
theorem dX11_advances_19 : decode cX11_advances 19 = .ok (.iadd, 1) := by decide +kernel
theorem dX11_advances_20 : decode cX11_advances 20 = .ok (.putfield 79, 3) := by decide +kernel
theorem dX11_advances_23 : decode cX11_advances 23 = .ok (.goto (-23), 3) := by decide +kernel
theorem dX11_advances_26 : decode cX11_advances 26 = .ok (.aload_n 0, 1) := by decide +kernel
theorem dX11_advances_27 : decode cX11_advances 27 = .ok (.aload_n 0, 1) := by decide +kernel
theorem dX11_advances_28 : decode cX11_advances 28 = .ok (.getfield 79, 3) := by decide +kernel
theorem dX11_advances_31 : decode cX11_advances 31 = .ok (.putfield 86, 3) := by decide +kernel
theorem dX11_advances_34 : decode cX11_advances 34 = .ok (.aload_n 0, 1) := by decide +kernel
theorem dX11_advances_35 : decode cX11_advances 35 = .ok (.aload_n 0, 1) := by decide +kernel
theorem dX11_advances_36 : decode cX11_advances 36 = .ok (.getfield 79, 3) := by decide +kernel
theorem dX11_advances_39 : decode cX11_advances 39 = .ok (.invokevirtual 82, 3) := by decide +kernel
theorem dX11_advances_42 : decode cX11_advances 42 = .ok (.istore_n 1, 1) := by decide +kernel
theorem dX11_advances_43 : decode cX11_advances 43 = .ok (.iload_n 1, 1) := by decide +kernel
theorem dX11_advances_44 : decode cX11_advances 44 = .ok (.ifCond .ge 11, 3) := by decide +kernel
theorem dX11_advances_47 : decode cX11_advances 47 = .ok (.aload_n 0, 1) := by decide +kernel
theorem dX11_advances_48 : decode cX11_advances 48 = .ok (.iconst 0, 1) := by decide +kernel
theorem dX11_advances_49 : decode cX11_advances 49 = .ok (.putfield 89, 3) := by decide +kernel
theorem dX11_advances_52 : decode cX11_advances 52 = .ok (.goto 260, 3) := by decide +kernel
theorem dX11_advances_55 : decode cX11_advances 55 = .ok (.iload_n 1, 1) := by decide +kernel
theorem dX11_advances_56 : decode cX11_advances 56 = .ok (.bipush 97, 2) := by decide +kernel
theorem dX11_advances_58 : decode cX11_advances 58 = .ok (.bipush 122, 2) := by decide +kernel
theorem dX11_advances_60 : decode cX11_advances 60 = .ok (.invokestatic 60, 3) := by decide +kernel
theorem dX11_advances_63 : decode cX11_advances 63 = .ok (.ifCond .eq 96, 3) := by decide +kernel
theorem dX11_advances_66 : decode cX11_advances 66 = .ok (.lconst 0, 1) := by decide +kernel
theorem dX11_advances_67 : decode cX11_advances 67 = .ok (.lstore_n 2, 1) := by decide +kernel
theorem dX11_advances_68 : decode cX11_advances 68 = .ok (.aload_n 0, 1) := by decide +kernel
theorem dX11_advances_69 : decode cX11_advances 69 = .ok (.aload_n 0, 1) := by decide +kernel
theorem dX11_advances_70 : decode cX11_advances 70 = .ok (.getfield 79, 3) := by decide +kernel
theorem dX11_advances_73 : decode cX11_advances 73 = .ok (.invokevirtual 82, 3) := by decide +kernel
theorem dX11_advances_76 : decode cX11_advances 76 = .ok (.bipush 97, 2) := by decide +kernel
theorem dX11_advances_78 : decode cX11_advances 78 = .ok (.bipush 122, 2) := by decide +kernel
theorem dX11_advances_80 : decode cX11_advances 80 = .ok (.invokestatic 60, 3) := by decide +kernel
theorem dX11_advances_83 : decode cX11_advances 83 = .ok (.ifCond .eq 47, 3) := by decide +kernel
theorem dX11_advances_86 : decode cX11_advances 86 = .ok (.aload_n 0, 1) := by decide +kernel
theorem dX11_advances_87 : decode cX11_advances 87 = .ok (.getfield 79, 3) := by decide +kernel
theorem dX11_advances_90 : decode cX11_advances 90 = .ok (.aload_n 0, 1) := by decide +kernel
theorem dX11_advances_91 : decode cX11_advances 91 = .ok (.getfield 86, 3) := by decide +kernel
theorem dX11_advances_94 : decode cX11_advances 94 = .ok (.isub, 1) := by decide +kernel
theorem dX11_advances_95 : decode cX11_advances 95 = .ok (.bipush 6, 2) := by decide +kernel
theorem dX11_advances_97 : decode cX11_advances 97 = .ok (.if_icmp .ge 18, 3) := by decide +kernel
theorem dX11_advances_100 : decode cX11_advances 100 = .ok (.lload_n 2, 1) := by decide +kernel
theorem dX11_advances_101 : decode cX11_advances 101 = .ok (.aload_n 0, 1) := by decide +kernel
theorem dX11_advances_102 : decode cX11_advances 102 = .ok (.aload_n 0, 1) := by decide +kernel
theorem dX11_advances_103 : decode cX11_advances 103 = .ok (.getfield 79, 3) := by decide +kernel
theorem dX11_advances_106 : decode cX11_advances 106 = .ok (.invokevirtual 82, 3) := by decide +kernel
theorem dX11_advances_109 : decode cX11_advances 109 = .ok (.invokestatic 71, 3) := by decide +kernel
theorem dX11_advances_112 : decode cX11_advances 112 = .ok (.goto 4, 3) := by decide +kernel
theorem dX11_advances_115 : decode cX11_advances 115 = .ok (.lload_n 2, 1) := by decide +kernel
theorem dX11_advances_116 : decode cX11_advances 116 = .ok (.lstore_n 2, 1) := by decide +kernel
theorem dX11_advances_117 : decode cX11_advances 117 = .ok (.aload_n 0, 1) := by decide +kernel
theorem dX11_advances_118 : decode cX11_advances 118 = .ok (.dup, 1) := by decide +kernel
theorem dX11_advances_119 : decode cX11_advances 119 = .ok (.getfield 79, 3) := by decide +kernel
theorem dX11_advances_122 : decode cX11_advances 122 = .ok (.iconst 1, 1) := by decide +kernel
theorem dX11_advances_123 : decode cX11_advances 123 = .ok (.iadd, 1) := by decide +kernel
theorem dX11_advances_124 : decode cX11_advances 124 = .ok (.putfield 79, 3) := by decide +kernel
theorem dX11_advances_127 : decode cX11_advances 127 = .ok (.goto (-59), 3) := by decide +kernel
theorem dX11_advances_130 : decode cX11_advances 130 = .ok (.aload_n 0, 1) := by decide +kernel
theorem dX11_advances_131 : decode cX11_advances 131 = .ok (.lload_n 2, 1) := by decide +kernel
theorem dX11_advances_132 : decode cX11_advances 132 = .ok (.invokestatic 92, 3) := by decide +kernel
theorem dX11_advances_135 : decode cX11_advances 135 = .ok (.putfield 96, 3) := by decide +kernel
theorem dX11_advances_138 : decode cX11_advances 138 = .ok (.aload_n 0, 1) := by decide +kernel
theorem dX11_advances_139 : decode cX11_advances 139 = .ok (.aload_n 0, 1) := by decide +kernel
theorem dX11_advances_140 : decode cX11_advances 140 = .ok (.getfield 96, 3) := by decide +kernel
theorem dX11_advances_143 : decode cX11_advances 143 = .ok (.bipush (-9), 2) := by decide +kernel
theorem dX11_advances_145 : decode cX11_advances 145 = .ok (.if_icmp .ne 7, 3) := by decide +kernel
theorem dX11_advances_148 : decode cX11_advances 148 = .ok (.iconst 4, 1) := by decide +kernel
theorem dX11_advances_149 : decode cX11_advances 149 = .ok (.goto 4, 3) := by decide +kernel
theorem dX11_advances_152 : decode cX11_advances 152 = .ok (.iconst 1, 1) := by decide +kernel
theorem dX11_advances_153 : decode cX11_advances 153 = .ok (.putfield 89, 3) := by decide +kernel
theorem dX11_advances_156 : decode cX11_advances 156 = .ok (.goto 156, 3) := by decide +kernel
theorem dX11_advances_159 : decode cX11_advances 159 = .ok (.iload_n 1, 1) := by decide +kernel
theorem dX11_advances_160 : decode cX11_advances 160 = .ok (.bipush 48, 2) := by decide +kernel
theorem dX11_advances_162 : decode cX11_advances 162 = .ok (.bipush 57, 2) := by decide +kernel
theorem dX11_advances_164 : decode cX11_advances 164 = .ok (.invokestatic 60, 3) := by decide +kernel
theorem dX11_advances_167 : decode cX11_advances 167 = .ok (.ifCond .eq 120, 3) := by decide +kernel
theorem dX11_advances_170 : decode cX11_advances 170 = .ok (.aload_n 0, 1) := by decide +kernel
theorem dX11_advances_171 : decode cX11_advances 171 = .ok (.iconst 0, 1) := by decide +kernel
theorem dX11_advances_172 : decode cX11_advances 172 = .ok (.putfield 96, 3) := by decide +kernel
theorem dX11_advances_175 : decode cX11_advances 175 = .ok (.aload_n 0, 1) := by decide +kernel
theorem dX11_advances_176 : decode cX11_advances 176 = .ok (.aload_n 0, 1) := by decide +kernel
theorem dX11_advances_177 : decode cX11_advances 177 = .ok (.getfield 79, 3) := by decide +kernel
theorem dX11_advances_180 : decode cX11_advances 180 = .ok (.invokevirtual 82, 3) := by decide +kernel
theorem dX11_advances_183 : decode cX11_advances 183 = .ok (.bipush 48, 2) := by decide +kernel
theorem dX11_advances_185 : decode cX11_advances 185 = .ok (.bipush 57, 2) := by decide +kernel
theorem dX11_advances_187 : decode cX11_advances 187 = .ok (.invokestatic 60, 3) := by decide +kernel
theorem dX11_advances_190 : decode cX11_advances 190 = .ok (.ifCond .eq 56, 3) := by decide +kernel
theorem dX11_advances_193 : decode cX11_advances 193 = .ok (.aload_n 0, 1) := by decide +kernel
theorem dX11_advances_194 : decode cX11_advances 194 = .ok (.aload_n 0, 1) := by decide +kernel
theorem dX11_advances_195 : decode cX11_advances 195 = .ok (.getfield 96, 3) := by decide +kernel
theorem dX11_advances_198 : decode cX11_advances 198 = .ok (.sipush 999, 3) := by decide +kernel
theorem dX11_advances_201 : decode cX11_advances 201 = .ok (.if_icmp .le 10, 3) := by decide +kernel
theorem dX11_advances_204 : decode cX11_advances 204 = .ok (.aload_n 0, 1) := by decide +kernel
theorem dX11_advances_205 : decode cX11_advances 205 = .ok (.getfield 96, 3) := by decide +kernel
theorem dX11_advances_208 : decode cX11_advances 208 = .ok (.goto 22, 3) := by decide +kernel
theorem dX11_advances_211 : decode cX11_advances 211 = .ok (.bipush 10, 2) := by decide +kernel
theorem dX11_advances_213 : decode cX11_advances 213 = .ok (.aload_n 0, 1) := by decide +kernel
theorem dX11_advances_214 : decode cX11_advances 214 = .ok (.getfield 96, 3) := by decide +kernel
theorem dX11_advances_217 : decode cX11_advances 217 = .ok (.imul, 1) := by decide +kernel
theorem dX11_advances_218 : decode cX11_advances 218 = .ok (.aload_n 0, 1) := by decide +kernel
theorem dX11_advances_219 : decode cX11_advances 219 = .ok (.aload_n 0, 1) := by decide +kernel
theorem dX11_advances_220 : decode cX11_advances 220 = .ok (.getfield 79, 3) := by decide +kernel
theorem dX11_advances_223 : decode cX11_advances 223 = .ok (.invokevirtual 82, 3) := by decide +kernel
theorem dX11_advances_226 : decode cX11_advances 226 = .ok (.iadd, 1) := by decide +kernel
theorem dX11_advances_227 : decode cX11_advances 227 = .ok (.bipush 48, 2) := by decide +kernel
theorem dX11_advances_229 : decode cX11_advances 229 = .ok (.isub, 1) := by decide +kernel
theorem dX11_advances_230 : decode cX11_advances 230 = .ok (.putfield 96, 3) := by decide +kernel
theorem dX11_advances_233 : decode cX11_advances 233 = .ok (.aload_n 0, 1) := by decide +kernel
theorem dX11_advances_234 : decode cX11_advances 234 = .ok (.dup, 1) := by decide +kernel
theorem dX11_advances_235 : decode cX11_advances 235 = .ok (.getfield 79, 3) := by decide +kernel
theorem dX11_advances_238 : decode cX11_advances 238 = .ok (.iconst 1, 1) := by decide +kernel
theorem dX11_advances_239 : decode cX11_advances 239 = .ok (.iadd, 1) := by decide +kernel
theorem dX11_advances_240 : decode cX11_advances 240 = .ok (.putfield 79, 3) := by decide +kernel
theorem dX11_advances_243 : decode cX11_advances 243 = .ok (.goto (-68), 3) := by decide +kernel
theorem dX11_advances_246 : decode cX11_advances 246 = .ok (.aload_n 0, 1) := by decide +kernel
theorem dX11_advances_247 : decode cX11_advances 247 = .ok (.aload_n 0, 1) := by decide +kernel
theorem dX11_advances_248 : decode cX11_advances 248 = .ok (.getfield 96, 3) := by decide +kernel
theorem dX11_advances_251 : decode cX11_advances 251 = .ok (.sipush 999, 3) := by decide +kernel
theorem dX11_advances_254 : decode cX11_advances 254 = .ok (.if_icmp .gt 22, 3) := by decide +kernel
theorem dX11_advances_257 : decode cX11_advances 257 = .ok (.iload_n 1, 1) := by decide +kernel
theorem dX11_advances_258 : decode cX11_advances 258 = .ok (.bipush 48, 2) := by decide +kernel
theorem dX11_advances_260 : decode cX11_advances 260 = .ok (.if_icmp .ne 20, 3) := by decide +kernel
theorem dX11_advances_263 : decode cX11_advances 263 = .ok (.aload_n 0, 1) := by decide +kernel
theorem dX11_advances_264 : decode cX11_advances 264 = .ok (.getfield 79, 3) := by decide +kernel
theorem dX11_advances_267 : decode cX11_advances 267 = .ok (.aload_n 0, 1) := by decide +kernel
theorem dX11_advances_268 : decode cX11_advances 268 = .ok (.getfield 86, 3) := by decide +kernel
theorem dX11_advances_271 : decode cX11_advances 271 = .ok (.isub, 1) := by decide +kernel
theorem dX11_advances_272 : decode cX11_advances 272 = .ok (.iconst 1, 1) := by decide +kernel
theorem dX11_advances_273 : decode cX11_advances 273 = .ok (.if_icmp .le 7, 3) := by decide +kernel
theorem dX11_advances_276 : decode cX11_advances 276 = .ok (.iconst 4, 1) := by decide +kernel
theorem dX11_advances_277 : decode cX11_advances 277 = .ok (.goto 4, 3) := by decide +kernel
theorem dX11_advances_280 : decode cX11_advances 280 = .ok (.iconst 2, 1) := by decide +kernel
theorem dX11_advances_281 : decode cX11_advances 281 = .ok (.putfield 89, 3) := by decide +kernel
theorem dX11_advances_284 : decode cX11_advances 284 = .ok (.goto 28, 3) := by decide +kernel
theorem dX11_advances_287 : decode cX11_advances 287 = .ok (.aload_n 0, 1) := by decide +kernel
theorem dX11_advances_288 : decode cX11_advances 288 = .ok (.dup, 1) := by decide +kernel
theorem dX11_advances_289 : decode cX11_advances 289 = .ok (.getfield 79, 3) := by decide +kernel
theorem dX11_advances_292 : decode cX11_advances 292 = .ok (.iconst 1, 1) := by decide +kernel
theorem dX11_advances_293 : decode cX11_advances 293 = .ok (.iadd, 1) := by decide +kernel
theorem dX11_advances_294 : decode cX11_advances 294 = .ok (.putfield 79, 3) := by decide +kernel
theorem dX11_advances_297 : decode cX11_advances 297 = .ok (.aload_n 0, 1) := by decide +kernel
theorem dX11_advances_298 : decode cX11_advances 298 = .ok (.iload_n 1, 1) := by decide +kernel
theorem dX11_advances_299 : decode cX11_advances 299 = .ok (.bipush 59, 2) := by decide +kernel
theorem dX11_advances_301 : decode cX11_advances 301 = .ok (.if_icmp .ne 7, 3) := by decide +kernel
theorem dX11_advances_304 : decode cX11_advances 304 = .ok (.iconst 3, 1) := by decide +kernel
theorem dX11_advances_305 : decode cX11_advances 305 = .ok (.goto 4, 3) := by decide +kernel
theorem dX11_advances_308 : decode cX11_advances 308 = .ok (.iconst 4, 1) := by decide +kernel
theorem dX11_advances_309 : decode cX11_advances 309 = .ok (.putfield 89, 3) := by decide +kernel
theorem dX11_advances_312 : decode cX11_advances 312 = .ok (.return_, 1) := by decide +kernel
theorem dX11_isWell_0 : decode cX11_isWell 0 = .ok (.aload_n 0, 1) := by decide +kernel
theorem dX11_isWell_1 : decode cX11_isWell 1 = .ok (.getfield 99, 3) := by decide +kernel
theorem dX11_isWell_4 : decode cX11_isWell 4 = .ok (.ifCond .ge 7, 3) := by decide +kernel
theorem dX11_isWell_7 : decode cX11_isWell 7 = .ok (.iconst 1, 1) := by decide +kernel
theorem dX11_isWell_8 : decode cX11_isWell 8 = .ok (.goto 4, 3) := by decide +kernel
theorem dX11_isWell_11 : decode cX11_isWell 11 = .ok (.iconst 0, 1) := by decide +kernel
theorem dX11_isWell_12 : decode cX11_isWell 12 = .ok (.ireturn, 1) := by decide +kernel
set_option maxRecDepth 20000 in
theorem ggX11_takes_X11_isWell : GoodIn wsX11_takes wsX11_isWell := goodIn_r _ [8, 2, 34, 35, 36, 37, 38, 39, 40, 41, 42, 43, 44, 45, 46, 47, 48, 49, 50, 51, 52, 53, 54, 55, 56, 57, 58, 59, 60, 61, 62, 63, 64, 65] (by decide +kernel) (by decide +kernel)
set_option maxRecDepth 20000 in
theorem gX11_takes_X11_isWell : GoodIn wsX11_takes (wsV RX11 102 RX11 yX11_isWell wsX11_isWell) := goodIn_app (goodIn_of _ (by decide +kernel)) ggX11_takes_X11_isWell
set_option maxRecDepth 20000 in
theorem ggX11_takes_X11_advances : GoodIn wsX11_takes wsX11_advances := goodIn_r _ [12, 13, 1, 14, 3, 15, 16, 17, 7, 18, 19, 20, 21, 22, 23, 24, 25, 26, 27, 28, 29, 30, 31, 32, 33, 34, 35, 36, 37, 38, 39, 40, 41, 42, 43, 44, 45, 46, 47, 48, 49, 50, 51, 52, 53, 54, 55, 56, 57, 58, 59, 60, 61, 62, 63, 64, 65] (by decide +kernel) (by decide +kernel)
set_option maxRecDepth 20000 in
theorem gX11_takes_X11_advances : GoodIn wsX11_takes (wsV RX11 106 RX11 yX11_advances wsX11_advances) := goodIn_app (goodIn_of _ (by decide +kernel)) ggX11_takes_X11_advances
theorem dX11_takes_0 : decode cX11_takes 0 = .ok (.aload_n 0, 1) := by decide +kernel
theorem dX11_takes_1 : decode cX11_takes 1 = .ok (.invokevirtual 102, 3) := by decide +kernel
theorem dX11_takes_4 : decode cX11_takes 4 = .ok (.ifCond .ne 5, 3) := by decide +kernel
theorem dX11_takes_7 : decode cX11_takes 7 = .ok (.iconst 0, 1) := by decide +kernel
theorem dX11_takes_8 : decode cX11_takes 8 = .ok (.ireturn, 1) := by decide +kernel
theorem dX11_takes_9 : decode cX11_takes 9 = .ok (.iload_n 1, 1) := by decide +kernel
theorem dX11_takes_10 : decode cX11_takes 10 = .ok (.ifCond .ne 13, 3) := by decide +kernel
theorem dX11_takes_13 : decode cX11_takes 13 = .ok (.aload_n 0, 1) := by decide +kernel
theorem dX11_takes_14 : decode cX11_takes 14 = .ok (.aload_n 0, 1) := by decide +kernel
theorem dX11_takes_15 : decode cX11_takes 15 = .ok (.getfield 86, 3) := by decide +kernel
theorem dX11_takes_18 : decode cX11_takes 18 = .ok (.putfield 99, 3) := by decide +kernel
theorem dX11_takes_21 : decode cX11_takes 21 = .ok (.iconst 0, 1) := by decide +kernel
theorem dX11_takes_22 : decode cX11_takes 22 = .ok (.ireturn, 1) := by decide +kernel
theorem dX11_takes_23 : decode cX11_takes 23 = .ok (.aload_n 0, 1) := by decide +kernel
theorem dX11_takes_24 : decode cX11_takes 24 = .ok (.getfield 96, 3) := by decide +kernel
theorem dX11_takes_27 : decode cX11_takes 27 = .ok (.istore_n 2, 1) := by decide +kernel
theorem dX11_takes_28 : decode cX11_takes 28 = .ok (.aload_n 0, 1) := by decide +kernel
theorem dX11_takes_29 : decode cX11_takes 29 = .ok (.invokevirtual 106, 3) := by decide +kernel
theorem dX11_takes_32 : decode cX11_takes 32 = .ok (.iload_n 2, 1) := by decide +kernel
theorem dX11_takes_33 : decode cX11_takes 33 = .ok (.ireturn, 1) := by decide +kernel
set_option maxRecDepth 20000 in
theorem ggX11_number_X11_in : GoodIn wsX11_number wsX11_in := goodIn_r _ [6] (by decide +kernel) (by decide +kernel)
set_option maxRecDepth 20000 in
theorem gX11_number_X11_in : GoodIn wsX11_number (va_wsS RX11 60 yX11_in wsX11_in) := goodIn_app (goodIn_of _ (by decide +kernel)) ggX11_number_X11_in
set_option maxRecDepth 20000 in
theorem ggX11_number_X11_takes : GoodIn wsX11_number wsX11_takes := goodIn_r _ [10, 11, 12, 2, 13, 14, 15, 5, 16, 17, 18, 19, 20, 21, 1, 22, 23, 24, 25, 26, 27, 3, 4, 6, 28, 29, 30, 31, 32, 33, 34, 35, 36, 37, 38, 39, 40, 41, 42, 43, 44, 45, 46, 47, 48, 49, 50, 51, 52, 53, 54, 55, 56, 57, 58, 59, 60, 61, 62, 63, 64, 65, 66, 67, 68, 69] (by decide +kernel) (by decide +kernel)
set_option maxRecDepth 20000 in
theorem gX11_number_X11_takes : GoodIn wsX11_number (wsV RX11 109 RX11 yX11_takes wsX11_takes) := goodIn_app (goodIn_of _ (by decide +kernel)) ggX11_number_X11_takes
theorem dX11_number_0 : decode cX11_number 0 = .ok (.aload_n 0, 1) := by decide +kernel
theorem dX11_number_1 : decode cX11_number 1 = .ok (.aload_n 0, 1) := by decide +kernel
theorem dX11_number_2 : decode cX11_number 2 = .ok (.getfield 89, 3) := by decide +kernel
theorem dX11_number_5 : decode cX11_number 5 = .ok (.iconst 2, 1) := by decide +kernel
theorem dX11_number_6 : decode cX11_number 6 = .ok (.if_icmp .ne 19, 3) := by decide +kernel
theorem dX11_number_9 : decode cX11_number 9 = .ok (.aload_n 0, 1) := by decide +kernel
theorem dX11_number_10 : decode cX11_number 10 = .ok (.getfield 96, 3) := by decide +kernel
theorem dX11_number_13 : decode cX11_number 13 = .ok (.iload_n 1, 1) := by decide +kernel
theorem dX11_number_14 : decode cX11_number 14 = .ok (.iload_n 2, 1) := by decide +kernel
theorem dX11_number_15 : decode cX11_number 15 = .ok (.invokestatic 60, 3) := by decide +kernel
theorem dX11_number_18 : decode cX11_number 18 = .ok (.ifCond .eq 7, 3) := by decide +kernel
theorem dX11_number_21 : decode cX11_number 21 = .ok (.iconst 1, 1) := by decide +kernel
theorem dX11_number_22 : decode cX11_number 22 = .ok (.goto 4, 3) := by decide +kernel
theorem dX11_number_25 : decode cX11_number 25 = .ok (.iconst 0, 1) := by decide +kernel
theorem dX11_number_26 : decode cX11_number 26 = .ok (.invokevirtual 109, 3) := by decide +kernel
theorem dX11_number_29 : decode cX11_number 29 = .ok (.ireturn, 1) := by decide +kernel
theorem dX11_drafts_0 : decode cX11_drafts 0 = .ok (.iconst 0, 1) := by decide +kernel
theorem dX11_drafts_1 : decode cX11_drafts 1 = .ok (.istore_n 1, 1) := by decide +kernel
theorem dX11_drafts_2 : decode cX11_drafts 2 = .ok (.iload_n 1, 1) := by decide +kernel
theorem dX11_drafts_3 : decode cX11_drafts 3 = .ok (.bipush 9, 2) := by decide +kernel
theorem dX11_drafts_5 : decode cX11_drafts 5 = .ok (.if_icmp .ge 79, 3) := by decide +kernel
theorem dX11_drafts_8 : decode cX11_drafts 8 = .ok (.aload_n 0, 1) := by decide +kernel
theorem dX11_drafts_9 : decode cX11_drafts 9 = .ok (.getfield 13, 3) := by decide +kernel
theorem dX11_drafts_12 : decode cX11_drafts 12 = .ok (.bipush 9, 2) := by decide +kernel
theorem dX11_drafts_14 : decode cX11_drafts 14 = .ok (.iload_n 1, 1) := by decide +kernel
theorem dX11_drafts_15 : decode cX11_drafts 15 = .ok (.iadd, 1) := by decide +kernel
theorem dX11_drafts_16 : decode cX11_drafts 16 = .ok (.iload_n 1, 1) := by decide +kernel
theorem dX11_drafts_17 : decode cX11_drafts 17 = .ok (.iconst 2, 1) := by decide +kernel
theorem dX11_drafts_18 : decode cX11_drafts 18 = .ok (.if_icmp .ge 8, 3) := by decide +kernel
theorem dX11_drafts_21 : decode cX11_drafts 21 = .ok (.bipush 8, 2) := by decide +kernel
theorem dX11_drafts_23 : decode cX11_drafts 23 = .ok (.goto 54, 3) := by decide +kernel
theorem dX11_drafts_26 : decode cX11_drafts 26 = .ok (.iload_n 1, 1) := by decide +kernel
theorem dX11_drafts_27 : decode cX11_drafts 27 = .ok (.iconst 2, 1) := by decide +kernel
theorem dX11_drafts_28 : decode cX11_drafts 28 = .ok (.if_icmp .ne 7, 3) := by decide +kernel
theorem dX11_drafts_31 : decode cX11_drafts 31 = .ok (.iconst 1, 1) := by decide +kernel
theorem dX11_drafts_32 : decode cX11_drafts 32 = .ok (.goto 45, 3) := by decide +kernel
theorem dX11_drafts_35 : decode cX11_drafts 35 = .ok (.iload_n 1, 1) := by decide +kernel
theorem dX11_drafts_36 : decode cX11_drafts 36 = .ok (.iconst 3, 1) := by decide +kernel
theorem dX11_drafts_37 : decode cX11_drafts 37 = .ok (.if_icmp .ne 7, 3) := by decide +kernel
theorem dX11_drafts_40 : decode cX11_drafts 40 = .ok (.iconst 3, 1) := by decide +kernel
theorem dX11_drafts_41 : decode cX11_drafts 41 = .ok (.goto 36, 3) := by decide +kernel
theorem dX11_drafts_44 : decode cX11_drafts 44 = .ok (.iload_n 1, 1) := by decide +kernel
theorem dX11_drafts_45 : decode cX11_drafts 45 = .ok (.iconst 5, 1) := by decide +kernel
theorem dX11_drafts_46 : decode cX11_drafts 46 = .ok (.if_icmp .ne 9, 3) := by decide +kernel
theorem dX11_drafts_49 : decode cX11_drafts 49 = .ok (.sipush 200, 3) := by decide +kernel
theorem dX11_drafts_52 : decode cX11_drafts 52 = .ok (.goto 25, 3) := by decide +kernel
theorem dX11_drafts_55 : decode cX11_drafts 55 = .ok (.iload_n 1, 1) := by decide +kernel
theorem dX11_drafts_56 : decode cX11_drafts 56 = .ok (.bipush 6, 2) := by decide +kernel
theorem dX11_drafts_58 : decode cX11_drafts 58 = .ok (.if_icmp .ne 8, 3) := by decide +kernel
theorem dX11_drafts_61 : decode cX11_drafts 61 = .ok (.bipush (-9), 2) := by decide +kernel
theorem dX11_drafts_63 : decode cX11_drafts 63 = .ok (.goto 14, 3) := by decide +kernel
theorem dX11_drafts_66 : decode cX11_drafts 66 = .ok (.iload_n 1, 1) := by decide +kernel
theorem dX11_drafts_67 : decode cX11_drafts 67 = .ok (.bipush 8, 2) := by decide +kernel
theorem dX11_drafts_69 : decode cX11_drafts 69 = .ok (.if_icmp .ne 7, 3) := by decide +kernel
theorem dX11_drafts_72 : decode cX11_drafts 72 = .ok (.iconst 2, 1) := by decide +kernel
theorem dX11_drafts_73 : decode cX11_drafts 73 = .ok (.goto 4, 3) := by decide +kernel
theorem dX11_drafts_76 : decode cX11_drafts 76 = .ok (.iconst 0, 1) := by decide +kernel
theorem dX11_drafts_77 : decode cX11_drafts 77 = .ok (.iastore, 1) := by decide +kernel
theorem dX11_drafts_78 : decode cX11_drafts 78 = .ok (.iinc 1 1, 3) := by decide +kernel
theorem dX11_drafts_81 : decode cX11_drafts 81 = .ok (.goto (-79), 3) := by decide +kernel
theorem dX11_drafts_84 : decode cX11_drafts 84 = .ok (.iconst 0, 1) := by decide +kernel
theorem dX11_drafts_85 : decode cX11_drafts 85 = .ok (.istore_n 1, 1) := by decide +kernel
theorem dX11_drafts_86 : decode cX11_drafts 86 = .ok (.iload_n 1, 1) := by decide +kernel
theorem dX11_drafts_87 : decode cX11_drafts 87 = .ok (.sipush 256, 3) := by decide +kernel
theorem dX11_drafts_90 : decode cX11_drafts 90 = .ok (.if_icmp .ge 20, 3) := by decide +kernel
theorem dX11_drafts_93 : decode cX11_drafts 93 = .ok (.aload_n 0, 1) := by decide +kernel
theorem dX11_drafts_94 : decode cX11_drafts 94 = .ok (.getfield 16, 3) := by decide +kernel
theorem dX11_drafts_97 : decode cX11_drafts 97 = .ok (.sipush 256, 3) := by decide +kernel
theorem dX11_drafts_100 : decode cX11_drafts 100 = .ok (.iload_n 1, 1) := by decide +kernel
theorem dX11_drafts_101 : decode cX11_drafts 101 = .ok (.iadd, 1) := by decide +kernel
theorem dX11_drafts_102 : decode cX11_drafts 102 = .ok (.iconst 0, 1) := by decide +kernel
theorem dX11_drafts_103 : decode cX11_drafts 103 = .ok (.iastore, 1) := by decide +kernel
theorem dX11_drafts_104 : decode cX11_drafts 104 = .ok (.iinc 1 1, 3) := by decide +kernel
theorem dX11_drafts_107 : decode cX11_drafts 107 = .ok (.goto (-21), 3) := by decide +kernel
theorem dX11_drafts_110 : decode cX11_drafts 110 = .ok (.return_, 1) := by decide +kernel
set_option maxRecDepth 20000 in
theorem ggX11_draftCell_X11_number : GoodIn wsX11_draftCell wsX11_number := goodIn_r _ [6, 7, 8, 9, 10, 5, 11, 12, 13, 14, 15, 16, 17, 18, 19, 20, 21, 22, 23, 24, 25, 26, 27, 28, 29, 30, 31, 32, 33, 34, 35, 36, 37, 38, 39, 40, 41, 42, 43, 44, 45, 46, 47, 48, 49, 50, 51, 52, 53, 54, 55, 56, 57, 58, 59, 60, 61, 62, 63, 64, 65, 66, 67, 68, 69, 70, 71, 72, 73, 74] (by decide +kernel) (by decide +kernel)
set_option maxRecDepth 20000 in
theorem gX11_draftCell_X11_number : GoodIn wsX11_draftCell (wsV RX11 113 RX11 yX11_number wsX11_number) := goodIn_app (goodIn_of _ (by decide +kernel)) ggX11_draftCell_X11_number
theorem dX11_draftCell_0 : decode cX11_draftCell 0 = .ok (.aload_n 0, 1) := by decide +kernel
theorem dX11_draftCell_1 : decode cX11_draftCell 1 = .ok (.iconst 0, 1) := by decide +kernel
theorem dX11_draftCell_2 : decode cX11_draftCell 2 = .ok (.aload_n 0, 1) := by decide +kernel
theorem dX11_draftCell_3 : decode cX11_draftCell 3 = .ok (.getfield 13, 3) := by decide +kernel
theorem dX11_draftCell_6 : decode cX11_draftCell 6 = .ok (.bipush 9, 2) := by decide +kernel
theorem dX11_draftCell_8 : decode cX11_draftCell 8 = .ok (.iaload, 1) := by decide +kernel
theorem dX11_draftCell_9 : decode cX11_draftCell 9 = .ok (.iconst 1, 1) := by decide +kernel
theorem dX11_draftCell_10 : decode cX11_draftCell 10 = .ok (.isub, 1) := by decide +kernel
theorem dX11_draftCell_11 : decode cX11_draftCell 11 = .ok (.invokevirtual 113, 3) := by decide +kernel
theorem dX11_draftCell_14 : decode cX11_draftCell 14 = .ok (.istore_n 1, 1) := by decide +kernel
theorem dX11_draftCell_15 : decode cX11_draftCell 15 = .ok (.aload_n 0, 1) := by decide +kernel
theorem dX11_draftCell_16 : decode cX11_draftCell 16 = .ok (.iconst 0, 1) := by decide +kernel
theorem dX11_draftCell_17 : decode cX11_draftCell 17 = .ok (.aload_n 0, 1) := by decide +kernel
theorem dX11_draftCell_18 : decode cX11_draftCell 18 = .ok (.getfield 13, 3) := by decide +kernel
theorem dX11_draftCell_21 : decode cX11_draftCell 21 = .ok (.bipush 10, 2) := by decide +kernel
theorem dX11_draftCell_23 : decode cX11_draftCell 23 = .ok (.iaload, 1) := by decide +kernel
theorem dX11_draftCell_24 : decode cX11_draftCell 24 = .ok (.iconst 1, 1) := by decide +kernel
theorem dX11_draftCell_25 : decode cX11_draftCell 25 = .ok (.isub, 1) := by decide +kernel
theorem dX11_draftCell_26 : decode cX11_draftCell 26 = .ok (.invokevirtual 113, 3) := by decide +kernel
theorem dX11_draftCell_29 : decode cX11_draftCell 29 = .ok (.istore_n 2, 1) := by decide +kernel
theorem dX11_draftCell_30 : decode cX11_draftCell 30 = .ok (.aload_n 0, 1) := by decide +kernel
theorem dX11_draftCell_31 : decode cX11_draftCell 31 = .ok (.getfield 13, 3) := by decide +kernel
theorem dX11_draftCell_34 : decode cX11_draftCell 34 = .ok (.bipush 9, 2) := by decide +kernel
theorem dX11_draftCell_36 : decode cX11_draftCell 36 = .ok (.iaload, 1) := by decide +kernel
theorem dX11_draftCell_37 : decode cX11_draftCell 37 = .ok (.iload_n 2, 1) := by decide +kernel
theorem dX11_draftCell_38 : decode cX11_draftCell 38 = .ok (.imul, 1) := by decide +kernel
theorem dX11_draftCell_39 : decode cX11_draftCell 39 = .ok (.iload_n 1, 1) := by decide +kernel
theorem dX11_draftCell_40 : decode cX11_draftCell 40 = .ok (.iadd, 1) := by decide +kernel
theorem dX11_draftCell_41 : decode cX11_draftCell 41 = .ok (.ireturn, 1) := by decide +kernel
set_option maxRecDepth 20000 in
theorem ggX11_readsItem_X11_number : GoodIn wsX11_readsItem wsX11_number := goodIn_r _ [7, 8, 9, 10, 11, 6, 12, 13, 14, 15, 16, 17, 18, 19, 20, 21, 22, 23, 24, 25, 26, 27, 28, 29, 30, 31, 32, 33, 34, 35, 36, 37, 38, 39, 40, 41, 42, 43, 48, 49, 50, 51, 52, 53, 54, 55, 56, 57, 58, 59, 60, 61, 62, 63, 64, 65, 66, 67, 68, 69, 70, 71, 72, 73, 74, 75, 76, 77, 78, 79] (by decide +kernel) (by decide +kernel)
set_option maxRecDepth 20000 in
theorem gX11_readsItem_X11_number : GoodIn wsX11_readsItem (wsV RX11 113 RX11 yX11_number wsX11_number) := goodIn_app (goodIn_of _ (by decide +kernel)) ggX11_readsItem_X11_number
set_option maxRecDepth 20000 in
theorem ggX11_readsItem_X11_isWell : GoodIn wsX11_readsItem wsX11_isWell := goodIn_r _ [22, 18, 48, 49, 50, 51, 52, 53, 54, 55, 56, 57, 58, 59, 60, 61, 62, 63, 64, 65, 66, 67, 68, 69, 70, 71, 72, 73, 74, 75, 76, 77, 78, 79] (by decide +kernel) (by decide +kernel)
set_option maxRecDepth 20000 in
theorem gX11_readsItem_X11_isWell : GoodIn wsX11_readsItem (wsV RX11 102 RX11 yX11_isWell wsX11_isWell) := goodIn_app (goodIn_of _ (by decide +kernel)) ggX11_readsItem_X11_isWell
set_option maxRecDepth 20000 in
theorem ggX11_readsItem_X11_draftCell : GoodIn wsX11_readsItem wsX11_draftCell := goodIn_r _ [47, 1, 3, 4, 5, 6, 7, 8, 9, 10, 11, 12, 13, 14, 15, 16, 17, 18, 19, 20, 21, 22, 23, 24, 25, 26, 27, 28, 29, 30, 31, 32, 33, 34, 35, 36, 37, 38, 39, 40, 41, 42, 43, 48, 49, 50, 51, 52, 53, 54, 55, 56, 57, 58, 59, 60, 61, 62, 63, 64, 65, 66, 67, 68, 69, 70, 71, 72, 73, 74, 75, 76, 77, 78, 79] (by decide +kernel) (by decide +kernel)
set_option maxRecDepth 20000 in
theorem gX11_readsItem_X11_draftCell : GoodIn wsX11_readsItem (wsV RX11 117 RX11 yX11_draftCell wsX11_draftCell) := goodIn_app (goodIn_of _ (by decide +kernel)) ggX11_readsItem_X11_draftCell
theorem dX11_readsItem_0 : decode cX11_readsItem 0 = .ok (.iload_n 1, 1) := by decide +kernel
theorem dX11_readsItem_1 : decode cX11_readsItem 1 = .ok (.ifCond .ne 34, 3) := by decide +kernel
theorem dX11_readsItem_4 : decode cX11_readsItem 4 = .ok (.aload_n 0, 1) := by decide +kernel
theorem dX11_readsItem_5 : decode cX11_readsItem 5 = .ok (.getfield 13, 3) := by decide +kernel
theorem dX11_readsItem_8 : decode cX11_readsItem 8 = .ok (.bipush 9, 2) := by decide +kernel
theorem dX11_readsItem_10 : decode cX11_readsItem 10 = .ok (.aload_n 0, 1) := by decide +kernel
theorem dX11_readsItem_11 : decode cX11_readsItem 11 = .ok (.iconst 3, 1) := by decide +kernel
theorem dX11_readsItem_12 : decode cX11_readsItem 12 = .ok (.bipush 16, 2) := by decide +kernel
theorem dX11_readsItem_14 : decode cX11_readsItem 14 = .ok (.invokevirtual 113, 3) := by decide +kernel
theorem dX11_readsItem_17 : decode cX11_readsItem 17 = .ok (.iastore, 1) := by decide +kernel
theorem dX11_readsItem_18 : decode cX11_readsItem 18 = .ok (.aload_n 0, 1) := by decide +kernel
theorem dX11_readsItem_19 : decode cX11_readsItem 19 = .ok (.getfield 13, 3) := by decide +kernel
theorem dX11_readsItem_22 : decode cX11_readsItem 22 = .ok (.bipush 10, 2) := by decide +kernel
theorem dX11_readsItem_24 : decode cX11_readsItem 24 = .ok (.aload_n 0, 1) := by decide +kernel
theorem dX11_readsItem_25 : decode cX11_readsItem 25 = .ok (.iconst 3, 1) := by decide +kernel
theorem dX11_readsItem_26 : decode cX11_readsItem 26 = .ok (.bipush 16, 2) := by decide +kernel
theorem dX11_readsItem_28 : decode cX11_readsItem 28 = .ok (.invokevirtual 113, 3) := by decide +kernel
theorem dX11_readsItem_31 : decode cX11_readsItem 31 = .ok (.iastore, 1) := by decide +kernel
theorem dX11_readsItem_32 : decode cX11_readsItem 32 = .ok (.goto 248, 3) := by decide +kernel
theorem dX11_readsItem_35 : decode cX11_readsItem 35 = .ok (.iload_n 1, 1) := by decide +kernel
theorem dX11_readsItem_36 : decode cX11_readsItem 36 = .ok (.iconst 1, 1) := by decide +kernel
theorem dX11_readsItem_37 : decode cX11_readsItem 37 = .ok (.if_icmp .eq 8, 3) := by decide +kernel
theorem dX11_readsItem_40 : decode cX11_readsItem 40 = .ok (.iload_n 1, 1) := by decide +kernel
theorem dX11_readsItem_41 : decode cX11_readsItem 41 = .ok (.iconst 2, 1) := by decide +kernel
theorem dX11_readsItem_42 : decode cX11_readsItem 42 = .ok (.if_icmp .ne 130, 3) := by decide +kernel
theorem dX11_readsItem_45 : decode cX11_readsItem 45 = .ok (.aload_n 0, 1) := by decide +kernel
theorem dX11_readsItem_46 : decode cX11_readsItem 46 = .ok (.iconst 0, 1) := by decide +kernel
theorem dX11_readsItem_47 : decode cX11_readsItem 47 = .ok (.aload_n 0, 1) := by decide +kernel
theorem dX11_readsItem_48 : decode cX11_readsItem 48 = .ok (.getfield 13, 3) := by decide +kernel
theorem dX11_readsItem_51 : decode cX11_readsItem 51 = .ok (.bipush 9, 2) := by decide +kernel
theorem dX11_readsItem_53 : decode cX11_readsItem 53 = .ok (.iaload, 1) := by decide +kernel
theorem dX11_readsItem_54 : decode cX11_readsItem 54 = .ok (.iconst 1, 1) := by decide +kernel
theorem dX11_readsItem_55 : decode cX11_readsItem 55 = .ok (.isub, 1) := by decide +kernel
theorem dX11_readsItem_56 : decode cX11_readsItem 56 = .ok (.invokevirtual 113, 3) := by decide +kernel
theorem dX11_readsItem_59 : decode cX11_readsItem 59 = .ok (.istore_n 2, 1) := by decide +kernel
theorem dX11_readsItem_60 : decode cX11_readsItem 60 = .ok (.aload_n 0, 1) := by decide +kernel
theorem dX11_readsItem_61 : decode cX11_readsItem 61 = .ok (.iconst 0, 1) := by decide +kernel
theorem dX11_readsItem_62 : decode cX11_readsItem 62 = .ok (.aload_n 0, 1) := by decide +kernel
theorem dX11_readsItem_63 : decode cX11_readsItem 63 = .ok (.getfield 13, 3) := by decide +kernel
theorem dX11_readsItem_66 : decode cX11_readsItem 66 = .ok (.bipush 10, 2) := by decide +kernel
theorem dX11_readsItem_68 : decode cX11_readsItem 68 = .ok (.iaload, 1) := by decide +kernel
theorem dX11_readsItem_69 : decode cX11_readsItem 69 = .ok (.iconst 1, 1) := by decide +kernel
theorem dX11_readsItem_70 : decode cX11_readsItem 70 = .ok (.isub, 1) := by decide +kernel
theorem dX11_readsItem_71 : decode cX11_readsItem 71 = .ok (.invokevirtual 113, 3) := by decide +kernel
theorem dX11_readsItem_74 : decode cX11_readsItem 74 = .ok (.istore_n 3, 1) := by decide +kernel
theorem dX11_readsItem_75 : decode cX11_readsItem 75 = .ok (.aload_n 0, 1) := by decide +kernel
theorem dX11_readsItem_76 : decode cX11_readsItem 76 = .ok (.iconst 1, 1) := by decide +kernel
theorem dX11_readsItem_77 : decode cX11_readsItem 77 = .ok (.aload_n 0, 1) := by decide +kernel
theorem dX11_readsItem_78 : decode cX11_readsItem 78 = .ok (.getfield 13, 3) := by decide +kernel
theorem dX11_readsItem_81 : decode cX11_readsItem 81 = .ok (.bipush 9, 2) := by decide +kernel
theorem dX11_readsItem_83 : decode cX11_readsItem 83 = .ok (.iaload, 1) := by decide +kernel
theorem dX11_readsItem_84 : decode cX11_readsItem 84 = .ok (.iload_n 2, 1) := by decide +kernel
