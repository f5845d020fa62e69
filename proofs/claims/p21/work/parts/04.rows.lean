theorem dX0_init_0 : decode cX0_init 0 = .ok (.aload_n 0, 1) := by decide +kernel
theorem dX0_init_1 : decode cX0_init 1 = .ok (.invokespecial 3, 3) := by decide +kernel
theorem dX0_init_4 : decode cX0_init 4 = .ok (.aload_n 0, 1) := by decide +kernel
theorem dX0_init_5 : decode cX0_init 5 = .ok (.bipush 16, 2) := by decide +kernel
theorem dX0_init_7 : decode cX0_init 7 = .ok (.newarray .boolean, 2) := by decide +kernel
theorem dX0_init_9 : decode cX0_init 9 = .ok (.putfield 9, 3) := by decide +kernel
theorem dX0_init_12 : decode cX0_init 12 = .ok (.aload_n 0, 1) := by decide +kernel
theorem dX0_init_13 : decode cX0_init 13 = .ok (.bipush 16, 2) := by decide +kernel
theorem dX0_init_15 : decode cX0_init 15 = .ok (.newarray .int, 2) := by decide +kernel
theorem dX0_init_17 : decode cX0_init 17 = .ok (.putfield 13, 3) := by decide +kernel
theorem dX0_init_20 : decode cX0_init 20 = .ok (.aload_n 0, 1) := by decide +kernel
theorem dX0_init_21 : decode cX0_init 21 = .ok (.bipush 16, 2) := by decide +kernel
theorem dX0_init_23 : decode cX0_init 23 = .ok (.newarray .int, 2) := by decide +kernel
theorem dX0_init_25 : decode cX0_init 25 = .ok (.putfield 17, 3) := by decide +kernel
theorem dX0_init_28 : decode cX0_init 28 = .ok (.aload_n 0, 1) := by decide +kernel
theorem dX0_init_29 : decode cX0_init 29 = .ok (.sipush 256, 3) := by decide +kernel
theorem dX0_init_32 : decode cX0_init 32 = .ok (.newarray .int, 2) := by decide +kernel
theorem dX0_init_34 : decode cX0_init 34 = .ok (.putfield 20, 3) := by decide +kernel
theorem dX0_init_37 : decode cX0_init 37 = .ok (.aload_n 0, 1) := by decide +kernel
theorem dX0_init_38 : decode cX0_init 38 = .ok (.iconst 0, 1) := by decide +kernel
theorem dX0_init_39 : decode cX0_init 39 = .ok (.putfield 23, 3) := by decide +kernel
theorem dX0_init_42 : decode cX0_init 42 = .ok (.aload_n 0, 1) := by decide +kernel
theorem dX0_init_43 : decode cX0_init 43 = .ok (.sipush 200, 3) := by decide +kernel
theorem dX0_init_46 : decode cX0_init 46 = .ok (.newarray .int, 2) := by decide +kernel
theorem dX0_init_48 : decode cX0_init 48 = .ok (.putfield 27, 3) := by decide +kernel
theorem dX0_init_51 : decode cX0_init 51 = .ok (.aload_n 0, 1) := by decide +kernel
theorem dX0_init_52 : decode cX0_init 52 = .ok (.sipush 200, 3) := by decide +kernel
theorem dX0_init_55 : decode cX0_init 55 = .ok (.newarray .int, 2) := by decide +kernel
theorem dX0_init_57 : decode cX0_init 57 = .ok (.putfield 30, 3) := by decide +kernel
theorem dX0_init_60 : decode cX0_init 60 = .ok (.aload_n 0, 1) := by decide +kernel
theorem dX0_init_61 : decode cX0_init 61 = .ok (.sipush 200, 3) := by decide +kernel
theorem dX0_init_64 : decode cX0_init 64 = .ok (.newarray .int, 2) := by decide +kernel
theorem dX0_init_66 : decode cX0_init 66 = .ok (.putfield 33, 3) := by decide +kernel
theorem dX0_init_69 : decode cX0_init 69 = .ok (.aload_n 0, 1) := by decide +kernel
theorem dX0_init_70 : decode cX0_init 70 = .ok (.sipush 200, 3) := by decide +kernel
theorem dX0_init_73 : decode cX0_init 73 = .ok (.newarray .int, 2) := by decide +kernel
theorem dX0_init_75 : decode cX0_init 75 = .ok (.putfield 36, 3) := by decide +kernel
theorem dX0_init_78 : decode cX0_init 78 = .ok (.aload_n 0, 1) := by decide +kernel
theorem dX0_init_79 : decode cX0_init 79 = .ok (.sipush 200, 3) := by decide +kernel
theorem dX0_init_82 : decode cX0_init 82 = .ok (.newarray .int, 2) := by decide +kernel
theorem dX0_init_84 : decode cX0_init 84 = .ok (.putfield 39, 3) := by decide +kernel
theorem dX0_init_87 : decode cX0_init 87 = .ok (.aload_n 0, 1) := by decide +kernel
theorem dX0_init_88 : decode cX0_init 88 = .ok (.iconst 0, 1) := by decide +kernel
theorem dX0_init_89 : decode cX0_init 89 = .ok (.putfield 42, 3) := by decide +kernel
theorem dX0_init_92 : decode cX0_init 92 = .ok (.aload_n 0, 1) := by decide +kernel
theorem dX0_init_93 : decode cX0_init 93 = .ok (.iconst 0, 1) := by decide +kernel
theorem dX0_init_94 : decode cX0_init 94 = .ok (.putfield 45, 3) := by decide +kernel
theorem dX0_init_97 : decode cX0_init 97 = .ok (.aload_n 0, 1) := by decide +kernel
theorem dX0_init_98 : decode cX0_init 98 = .ok (.sipush 1536, 3) := by decide +kernel
theorem dX0_init_101 : decode cX0_init 101 = .ok (.newarray .int, 2) := by decide +kernel
theorem dX0_init_103 : decode cX0_init 103 = .ok (.putfield 48, 3) := by decide +kernel
theorem dX0_init_106 : decode cX0_init 106 = .ok (.aload_n 0, 1) := by decide +kernel
theorem dX0_init_107 : decode cX0_init 107 = .ok (.bipush 18, 2) := by decide +kernel
theorem dX0_init_109 : decode cX0_init 109 = .ok (.newarray .boolean, 2) := by decide +kernel
theorem dX0_init_111 : decode cX0_init 111 = .ok (.putfield 51, 3) := by decide +kernel
theorem dX0_init_114 : decode cX0_init 114 = .ok (.aload_n 0, 1) := by decide +kernel
theorem dX0_init_115 : decode cX0_init 115 = .ok (.sipush 864, 3) := by decide +kernel
theorem dX0_init_118 : decode cX0_init 118 = .ok (.newarray .int, 2) := by decide +kernel
theorem dX0_init_120 : decode cX0_init 120 = .ok (.putfield 54, 3) := by decide +kernel
theorem dX0_init_123 : decode cX0_init 123 = .ok (.aload_n 0, 1) := by decide +kernel
theorem dX0_init_124 : decode cX0_init 124 = .ok (.bipush 16, 2) := by decide +kernel
theorem dX0_init_126 : decode cX0_init 126 = .ok (.newarray .int, 2) := by decide +kernel
theorem dX0_init_128 : decode cX0_init 128 = .ok (.putfield 57, 3) := by decide +kernel
theorem dX0_init_131 : decode cX0_init 131 = .ok (.iconst 0, 1) := by decide +kernel
theorem dX0_init_132 : decode cX0_init 132 = .ok (.istore_n 1, 1) := by decide +kernel
theorem dX0_init_133 : decode cX0_init 133 = .ok (.iload_n 1, 1) := by decide +kernel
theorem dX0_init_134 : decode cX0_init 134 = .ok (.aload_n 0, 1) := by decide +kernel
theorem dX0_init_135 : decode cX0_init 135 = .ok (.getfield 13, 3) := by decide +kernel
theorem dX0_init_138 : decode cX0_init 138 = .ok (.arraylength, 1) := by decide +kernel
theorem dX0_init_139 : decode cX0_init 139 = .ok (.if_icmp .ge 16, 3) := by decide +kernel
theorem dX0_init_142 : decode cX0_init 142 = .ok (.aload_n 0, 1) := by decide +kernel
theorem dX0_init_143 : decode cX0_init 143 = .ok (.getfield 13, 3) := by decide +kernel
theorem dX0_init_146 : decode cX0_init 146 = .ok (.iload_n 1, 1) := by decide +kernel
theorem dX0_init_147 : decode cX0_init 147 = .ok (.iconst (-1), 1) := by decide +kernel
theorem dX0_init_148 : decode cX0_init 148 = .ok (.iastore, 1) := by decide +kernel
theorem dX0_init_149 : decode cX0_init 149 = .ok (.iinc 1 1, 3) := by decide +kernel
theorem dX0_init_152 : decode cX0_init 152 = .ok (.goto (-19), 3) := by decide +kernel
theorem dX0_init_155 : decode cX0_init 155 = .ok (.iconst 0, 1) := by decide +kernel
theorem dX0_init_156 : decode cX0_init 156 = .ok (.istore_n 1, 1) := by decide +kernel
theorem dX0_init_157 : decode cX0_init 157 = .ok (.iload_n 1, 1) := by decide +kernel
theorem dX0_init_158 : decode cX0_init 158 = .ok (.aload_n 0, 1) := by decide +kernel
theorem dX0_init_159 : decode cX0_init 159 = .ok (.getfield 48, 3) := by decide +kernel
theorem dX0_init_162 : decode cX0_init 162 = .ok (.arraylength, 1) := by decide +kernel
theorem dX0_init_163 : decode cX0_init 163 = .ok (.if_icmp .ge 16, 3) := by decide +kernel
theorem dX0_init_166 : decode cX0_init 166 = .ok (.aload_n 0, 1) := by decide +kernel
theorem dX0_init_167 : decode cX0_init 167 = .ok (.getfield 48, 3) := by decide +kernel
theorem dX0_init_170 : decode cX0_init 170 = .ok (.iload_n 1, 1) := by decide +kernel
theorem dX0_init_171 : decode cX0_init 171 = .ok (.iconst (-1), 1) := by decide +kernel
theorem dX0_init_172 : decode cX0_init 172 = .ok (.iastore, 1) := by decide +kernel
theorem dX0_init_173 : decode cX0_init 173 = .ok (.iinc 1 1, 3) := by decide +kernel
theorem dX0_init_176 : decode cX0_init 176 = .ok (.goto (-19), 3) := by decide +kernel
theorem dX0_init_179 : decode cX0_init 179 = .ok (.iconst 0, 1) := by decide +kernel
theorem dX0_init_180 : decode cX0_init 180 = .ok (.istore_n 1, 1) := by decide +kernel
theorem dX0_init_181 : decode cX0_init 181 = .ok (.iload_n 1, 1) := by decide +kernel
theorem dX0_init_182 : decode cX0_init 182 = .ok (.aload_n 0, 1) := by decide +kernel
theorem dX0_init_183 : decode cX0_init 183 = .ok (.getfield 54, 3) := by decide +kernel
theorem dX0_init_186 : decode cX0_init 186 = .ok (.arraylength, 1) := by decide +kernel
theorem dX0_init_187 : decode cX0_init 187 = .ok (.if_icmp .ge 16, 3) := by decide +kernel
theorem dX0_init_190 : decode cX0_init 190 = .ok (.aload_n 0, 1) := by decide +kernel
theorem dX0_init_191 : decode cX0_init 191 = .ok (.getfield 54, 3) := by decide +kernel
theorem dX0_init_194 : decode cX0_init 194 = .ok (.iload_n 1, 1) := by decide +kernel
theorem dX0_init_195 : decode cX0_init 195 = .ok (.iconst (-1), 1) := by decide +kernel
theorem dX0_init_196 : decode cX0_init 196 = .ok (.iastore, 1) := by decide +kernel
theorem dX0_init_197 : decode cX0_init 197 = .ok (.iinc 1 1, 3) := by decide +kernel
theorem dX0_init_200 : decode cX0_init 200 = .ok (.goto (-19), 3) := by decide +kernel
theorem dX0_init_203 : decode cX0_init 203 = .ok (.return_, 1) := by decide +kernel
theorem dX0_isGood_0 : decode cX0_isGood 0 = .ok (.iload_n 1, 1) := by decide +kernel
theorem dX0_isGood_1 : decode cX0_isGood 1 = .ok (.ifCond .lt 22, 3) := by decide +kernel
theorem dX0_isGood_4 : decode cX0_isGood 4 = .ok (.iload_n 1, 1) := by decide +kernel
theorem dX0_isGood_5 : decode cX0_isGood 5 = .ok (.bipush 16, 2) := by decide +kernel
theorem dX0_isGood_7 : decode cX0_isGood 7 = .ok (.if_icmp .ge 16, 3) := by decide +kernel
theorem dX0_isGood_10 : decode cX0_isGood 10 = .ok (.aload_n 0, 1) := by decide +kernel
theorem dX0_isGood_11 : decode cX0_isGood 11 = .ok (.getfield 9, 3) := by decide +kernel
theorem dX0_isGood_14 : decode cX0_isGood 14 = .ok (.iload_n 1, 1) := by decide +kernel
theorem dX0_isGood_15 : decode cX0_isGood 15 = .ok (.baload, 1) := by decide +kernel
theorem dX0_isGood_16 : decode cX0_isGood 16 = .ok (.ifCond .eq 7, 3) := by decide +kernel
theorem dX0_isGood_19 : decode cX0_isGood 19 = .ok (.iconst 1, 1) := by decide +kernel
theorem dX0_isGood_20 : decode cX0_isGood 20 = .ok (.goto 4, 3) := by decide +kernel
theorem dX0_isGood_23 : decode cX0_isGood 23 = .ok (.iconst 0, 1) := by decide +kernel
theorem dX0_isGood_24 : decode cX0_isGood 24 = .ok (.ireturn, 1) := by decide +kernel
set_option maxRecDepth 20000 in
theorem ggX0_checkGood_X0_isGood : GoodIn wsX0_checkGood wsX0_isGood := goodIn_r _ [7, 8, 9, 10, 11, 12, 13, 14, 15, 16, 17, 18, 19, 20, 21, 22, 23, 24] (by decide +kernel) (by decide +kernel)
set_option maxRecDepth 20000 in
theorem gX0_checkGood_X0_isGood : GoodIn wsX0_checkGood (wsV RX0 119 RX0 yX0_isGood wsX0_isGood) := goodIn_app (goodIn_of _ (by decide +kernel)) ggX0_checkGood_X0_isGood
theorem dX0_checkGood_0 : decode cX0_checkGood 0 = .ok (.aload_n 0, 1) := by decide +kernel
theorem dX0_checkGood_1 : decode cX0_checkGood 1 = .ok (.iload_n 1, 1) := by decide +kernel
theorem dX0_checkGood_2 : decode cX0_checkGood 2 = .ok (.invokevirtual 119, 3) := by decide +kernel
theorem dX0_checkGood_5 : decode cX0_checkGood 5 = .ok (.ifCond .ne 13, 3) := by decide +kernel
theorem dX0_checkGood_8 : decode cX0_checkGood 8 = .ok (.new 122, 3) := by decide +kernel
theorem dX0_checkGood_11 : decode cX0_checkGood 11 = .ok (.dup, 1) := by decide +kernel
theorem dX0_checkGood_12 : decode cX0_checkGood 12 = .ok (.ldc 124, 2) := by decide +kernel
theorem dX0_checkGood_14 : decode cX0_checkGood 14 = .ok (.invokespecial 126, 3) := by decide +kernel
theorem dX0_checkGood_17 : decode cX0_checkGood 17 = .ok (.athrow, 1) := by decide +kernel
theorem dX0_checkGood_18 : decode cX0_checkGood 18 = .ok (.return_, 1) := by decide +kernel
theorem dX0_isEntered_0 : decode cX0_isEntered 0 = .ok (.iload_n 1, 1) := by decide +kernel
theorem dX0_isEntered_1 : decode cX0_isEntered 1 = .ok (.ifCond .lt 15, 3) := by decide +kernel
theorem dX0_isEntered_4 : decode cX0_isEntered 4 = .ok (.iload_n 1, 1) := by decide +kernel
theorem dX0_isEntered_5 : decode cX0_isEntered 5 = .ok (.aload_n 0, 1) := by decide +kernel
theorem dX0_isEntered_6 : decode cX0_isEntered 6 = .ok (.getfield 42, 3) := by decide +kernel
theorem dX0_isEntered_9 : decode cX0_isEntered 9 = .ok (.if_icmp .ge 7, 3) := by decide +kernel
theorem dX0_isEntered_12 : decode cX0_isEntered 12 = .ok (.iconst 1, 1) := by decide +kernel
theorem dX0_isEntered_13 : decode cX0_isEntered 13 = .ok (.goto 4, 3) := by decide +kernel
theorem dX0_isEntered_16 : decode cX0_isEntered 16 = .ok (.iconst 0, 1) := by decide +kernel
theorem dX0_isEntered_17 : decode cX0_isEntered 17 = .ok (.ireturn, 1) := by decide +kernel
theorem dX0_placeOf_0 : decode cX0_placeOf 0 = .ok (.iload_n 0, 1) := by decide +kernel
theorem dX0_placeOf_1 : decode cX0_placeOf 1 = .ok (.bipush 6, 2) := by decide +kernel
theorem dX0_placeOf_3 : decode cX0_placeOf 3 = .ok (.imul, 1) := by decide +kernel
theorem dX0_placeOf_4 : decode cX0_placeOf 4 = .ok (.iload_n 1, 1) := by decide +kernel
theorem dX0_placeOf_5 : decode cX0_placeOf 5 = .ok (.iadd, 1) := by decide +kernel
theorem dX0_placeOf_6 : decode cX0_placeOf 6 = .ok (.istore 4, 2) := by decide +kernel
theorem dX0_placeOf_8 : decode cX0_placeOf 8 = .ok (.iload_n 2, 1) := by decide +kernel
theorem dX0_placeOf_9 : decode cX0_placeOf 9 = .ok (.iconst 1, 1) := by decide +kernel
theorem dX0_placeOf_10 : decode cX0_placeOf 10 = .ok (.iadd, 1) := by decide +kernel
theorem dX0_placeOf_11 : decode cX0_placeOf 11 = .ok (.iconst 4, 1) := by decide +kernel
theorem dX0_placeOf_12 : decode cX0_placeOf 12 = .ok (.imul, 1) := by decide +kernel
theorem dX0_placeOf_13 : decode cX0_placeOf 13 = .ok (.iload_n 3, 1) := by decide +kernel
theorem dX0_placeOf_14 : decode cX0_placeOf 14 = .ok (.iadd, 1) := by decide +kernel
theorem dX0_placeOf_15 : decode cX0_placeOf 15 = .ok (.iconst 1, 1) := by decide +kernel
theorem dX0_placeOf_16 : decode cX0_placeOf 16 = .ok (.iadd, 1) := by decide +kernel
theorem dX0_placeOf_17 : decode cX0_placeOf 17 = .ok (.istore 5, 2) := by decide +kernel
theorem dX0_placeOf_19 : decode cX0_placeOf 19 = .ok (.iload 4, 2) := by decide +kernel
theorem dX0_placeOf_21 : decode cX0_placeOf 21 = .ok (.bipush 16, 2) := by decide +kernel
theorem dX0_placeOf_23 : decode cX0_placeOf 23 = .ok (.imul, 1) := by decide +kernel
theorem dX0_placeOf_24 : decode cX0_placeOf 24 = .ok (.iload 5, 2) := by decide +kernel
theorem dX0_placeOf_26 : decode cX0_placeOf 26 = .ok (.iadd, 1) := by decide +kernel
theorem dX0_placeOf_27 : decode cX0_placeOf 27 = .ok (.ireturn, 1) := by decide +kernel
set_option maxRecDepth 20000 in
theorem ggX0_value_X0_checkSight : GoodIn wsX0_value wsX0_checkSight := goodIn_ca (goodIn_r _ [7, 8, 9, 10, 6, 11, 12, 13, 14, 15, 16, 17, 18, 19, 20, 21, 22, 23, 24, 25, 26, 27, 51, 52, 53, 54, 55, 56, 57, 58, 59, 60, 61, 62, 63, 64, 65, 66] (by decide +kernel) (by decide +kernel)) (goodIn_sub (fun _ h => List.mem_cons_of_mem _ (List.mem_append_right _ h)) (by decide +kernel))
set_option maxRecDepth 20000 in
theorem gX0_value_X0_checkSight : GoodIn wsX0_value (wsV RX0 175 RX0 yX0_checkSight wsX0_checkSight) := goodIn_app (goodIn_of _ (by decide +kernel)) ggX0_value_X0_checkSight
theorem dX0_value_0 : decode cX0_value 0 = .ok (.aload_n 0, 1) := by decide +kernel
theorem dX0_value_1 : decode cX0_value 1 = .ok (.iload_n 1, 1) := by decide +kernel
theorem dX0_value_2 : decode cX0_value 2 = .ok (.iload_n 2, 1) := by decide +kernel
theorem dX0_value_3 : decode cX0_value 3 = .ok (.iload_n 3, 1) := by decide +kernel
theorem dX0_value_4 : decode cX0_value 4 = .ok (.iload 4, 2) := by decide +kernel
theorem dX0_value_6 : decode cX0_value 6 = .ok (.invokevirtual 175, 3) := by decide +kernel
set_option maxRecDepth 20000 in
theorem ggX0_origin_X0_checkSight : GoodIn wsX0_origin wsX0_checkSight := goodIn_ca (goodIn_r _ [5, 6, 7, 8, 4, 9, 10, 11, 12, 13, 14, 15, 16, 17, 18, 19, 20, 21, 22, 23, 24, 25, 39, 40, 41, 42, 43, 44, 45, 46, 47, 48, 49, 50, 51, 52, 53, 54] (by decide +kernel) (by decide +kernel)) (goodIn_sub (fun _ h => List.mem_cons_of_mem _ (List.mem_append_right _ h)) (by decide +kernel))
set_option maxRecDepth 20000 in
theorem gX0_origin_X0_checkSight : GoodIn wsX0_origin (wsV RX0 175 RX0 yX0_checkSight wsX0_checkSight) := goodIn_app (goodIn_of _ (by decide +kernel)) ggX0_origin_X0_checkSight
theorem dX0_origin_0 : decode cX0_origin 0 = .ok (.aload_n 0, 1) := by decide +kernel
theorem dX0_origin_1 : decode cX0_origin 1 = .ok (.iload_n 1, 1) := by decide +kernel
theorem dX0_origin_2 : decode cX0_origin 2 = .ok (.iload_n 2, 1) := by decide +kernel
theorem dX0_origin_3 : decode cX0_origin 3 = .ok (.iload_n 3, 1) := by decide +kernel
theorem dX0_origin_4 : decode cX0_origin 4 = .ok (.iload 4, 2) := by decide +kernel
theorem dX0_origin_6 : decode cX0_origin 6 = .ok (.invokevirtual 175, 3) := by decide +kernel
set_option maxRecDepth 20000 in
theorem ggX0_missing_X0_checkGood : GoodIn wsX0_missing wsX0_checkGood := goodIn_ca (goodIn_r _ [5, 6, 7, 8, 9, 10, 4, 11, 12, 47, 48, 49, 50, 51, 52, 53, 54, 55, 56, 57, 58, 59, 60, 61, 62] (by decide +kernel) (by decide +kernel)) (goodIn_sub (fun _ h => List.mem_cons_of_mem _ (List.mem_append_right _ h)) (by decide +kernel))
set_option maxRecDepth 20000 in
theorem gX0_missing_X0_checkGood : GoodIn wsX0_missing (wsV RX0 77 RX0 yX0_checkGood wsX0_checkGood) := goodIn_app (goodIn_of _ (by decide +kernel)) ggX0_missing_X0_checkGood
set_option maxRecDepth 20000 in
theorem ggX0_missing_X0_checkShop : GoodIn wsX0_missing wsX0_checkShop := goodIn_ca (goodIn_r _ [15, 6, 7] (by decide +kernel) (by decide +kernel)) (goodIn_sub (fun _ h => List.mem_cons_of_mem _ (List.mem_append_right _ h)) (by decide +kernel))
set_option maxRecDepth 20000 in
theorem gX0_missing_X0_checkShop : GoodIn wsX0_missing (va_wsS RX0 138 yX0_checkShop wsX0_checkShop) := goodIn_app (goodIn_of _ (by decide +kernel)) ggX0_missing_X0_checkShop
set_option maxRecDepth 20000 in
theorem ggX0_missing_X0_checkTongue : GoodIn wsX0_missing wsX0_checkTongue := goodIn_ca (goodIn_r _ [18, 6, 7] (by decide +kernel) (by decide +kernel)) (goodIn_sub (fun _ h => List.mem_cons_of_mem _ (List.mem_append_right _ h)) (by decide +kernel))
set_option maxRecDepth 20000 in
theorem gX0_missing_X0_checkTongue : GoodIn wsX0_missing (va_wsS RX0 141 yX0_checkTongue wsX0_checkTongue) := goodIn_app (goodIn_of _ (by decide +kernel)) ggX0_missing_X0_checkTongue
theorem dX0_missing_0 : decode cX0_missing 0 = .ok (.aload_n 0, 1) := by decide +kernel
theorem dX0_missing_1 : decode cX0_missing 1 = .ok (.iload_n 1, 1) := by decide +kernel
theorem dX0_missing_2 : decode cX0_missing 2 = .ok (.invokevirtual 77, 3) := by decide +kernel
theorem dX0_missing_5 : decode cX0_missing 5 = .ok (.iload_n 2, 1) := by decide +kernel
theorem dX0_missing_6 : decode cX0_missing 6 = .ok (.invokestatic 138, 3) := by decide +kernel
theorem dX0_missing_9 : decode cX0_missing 9 = .ok (.iload_n 3, 1) := by decide +kernel
theorem dX0_missing_10 : decode cX0_missing 10 = .ok (.invokestatic 141, 3) := by decide +kernel
set_option maxRecDepth 20000 in
theorem ggX0_complete_X0_checkShop : GoodIn wsX0_complete wsX0_checkShop := goodIn_ca (goodIn_r _ [5, 6, 7] (by decide +kernel) (by decide +kernel)) (goodIn_sub (fun _ h => List.mem_cons_of_mem _ (List.mem_append_right _ h)) (by decide +kernel))
set_option maxRecDepth 20000 in
theorem gX0_complete_X0_checkShop : GoodIn wsX0_complete (va_wsS RX0 138 yX0_checkShop wsX0_checkShop) := goodIn_app (goodIn_of _ (by decide +kernel)) ggX0_complete_X0_checkShop
set_option maxRecDepth 20000 in
theorem ggX0_complete_X0_isComplete : GoodIn wsX0_complete wsX0_isComplete := goodIn_r _ [11, 12, 13, 14, 4, 15, 16, 17, 18, 19, 20, 21, 22, 23, 24, 25, 26, 27, 28, 29, 30, 1, 31, 32, 33, 34, 35, 36, 37, 38, 39, 40, 41, 42, 43, 44, 45, 46, 47, 48, 49, 50, 51, 52, 53, 54, 55, 56, 57, 58, 59] (by decide +kernel) (by decide +kernel)
set_option maxRecDepth 20000 in
theorem gX0_complete_X0_isComplete : GoodIn wsX0_complete (wsV RX0 191 RX0 yX0_isComplete wsX0_isComplete) := goodIn_app (goodIn_of _ (by decide +kernel)) ggX0_complete_X0_isComplete
theorem dX0_complete_0 : decode cX0_complete 0 = .ok (.iload_n 1, 1) := by decide +kernel
theorem dX0_complete_1 : decode cX0_complete 1 = .ok (.invokestatic 138, 3) := by decide +kernel
theorem dX0_complete_4 : decode cX0_complete 4 = .ok (.iconst 0, 1) := by decide +kernel
theorem dX0_complete_5 : decode cX0_complete 5 = .ok (.istore_n 2, 1) := by decide +kernel
theorem dX0_complete_6 : decode cX0_complete 6 = .ok (.iconst 0, 1) := by decide +kernel
theorem dX0_complete_7 : decode cX0_complete 7 = .ok (.istore_n 3, 1) := by decide +kernel
theorem dX0_complete_8 : decode cX0_complete 8 = .ok (.iload_n 3, 1) := by decide +kernel
theorem dX0_complete_9 : decode cX0_complete 9 = .ok (.bipush 16, 2) := by decide +kernel
theorem dX0_complete_11 : decode cX0_complete 11 = .ok (.if_icmp .ge 30, 3) := by decide +kernel
theorem dX0_complete_14 : decode cX0_complete 14 = .ok (.aload_n 0, 1) := by decide +kernel
theorem dX0_complete_15 : decode cX0_complete 15 = .ok (.getfield 9, 3) := by decide +kernel
theorem dX0_complete_18 : decode cX0_complete 18 = .ok (.iload_n 3, 1) := by decide +kernel
theorem dX0_complete_19 : decode cX0_complete 19 = .ok (.baload, 1) := by decide +kernel
theorem dX0_complete_20 : decode cX0_complete 20 = .ok (.ifCond .eq 15, 3) := by decide +kernel
theorem dX0_complete_23 : decode cX0_complete 23 = .ok (.aload_n 0, 1) := by decide +kernel
theorem dX0_complete_24 : decode cX0_complete 24 = .ok (.iload_n 3, 1) := by decide +kernel
theorem dX0_complete_25 : decode cX0_complete 25 = .ok (.iload_n 1, 1) := by decide +kernel
theorem dX0_complete_26 : decode cX0_complete 26 = .ok (.invokevirtual 191, 3) := by decide +kernel
theorem dX0_complete_29 : decode cX0_complete 29 = .ok (.ifCond .eq 6, 3) := by decide +kernel
theorem dX0_complete_32 : decode cX0_complete 32 = .ok (.iinc 2 1, 3) := by decide +kernel
theorem dX0_complete_35 : decode cX0_complete 35 = .ok (.iinc 3 1, 3) := by decide +kernel
theorem dX0_complete_38 : decode cX0_complete 38 = .ok (.goto (-30), 3) := by decide +kernel
theorem dX0_complete_41 : decode cX0_complete 41 = .ok (.iload_n 2, 1) := by decide +kernel
theorem dX0_complete_42 : decode cX0_complete 42 = .ok (.ireturn, 1) := by decide +kernel
set_option maxRecDepth 20000 in
theorem ggX0_price_X0_checkGood : GoodIn wsX0_price wsX0_checkGood := goodIn_ca (goodIn_r _ [7, 8, 9, 10, 11, 12, 6, 13, 14, 54, 55, 56, 57, 58, 59, 60, 61, 62, 63, 64, 65, 66, 67, 68, 69] (by decide +kernel) (by decide +kernel)) (goodIn_sub (fun _ h => List.mem_cons_of_mem _ (List.mem_append_right _ h)) (by decide +kernel))
set_option maxRecDepth 20000 in
theorem gX0_price_X0_checkGood : GoodIn wsX0_price (wsV RX0 77 RX0 yX0_checkGood wsX0_checkGood) := goodIn_app (goodIn_of _ (by decide +kernel)) ggX0_price_X0_checkGood
set_option maxRecDepth 20000 in
theorem ggX0_price_X0_checkShop : GoodIn wsX0_price wsX0_checkShop := goodIn_ca (goodIn_r _ [17, 8, 9] (by decide +kernel) (by decide +kernel)) (goodIn_sub (fun _ h => List.mem_cons_of_mem _ (List.mem_append_right _ h)) (by decide +kernel))
set_option maxRecDepth 20000 in
theorem gX0_price_X0_checkShop : GoodIn wsX0_price (va_wsS RX0 138 yX0_checkShop wsX0_checkShop) := goodIn_app (goodIn_of _ (by decide +kernel)) ggX0_price_X0_checkShop
theorem dX0_price_0 : decode cX0_price 0 = .ok (.aload_n 0, 1) := by decide +kernel
theorem dX0_price_1 : decode cX0_price 1 = .ok (.iload_n 1, 1) := by decide +kernel
theorem dX0_price_2 : decode cX0_price 2 = .ok (.invokevirtual 77, 3) := by decide +kernel
theorem dX0_price_5 : decode cX0_price 5 = .ok (.iload_n 2, 1) := by decide +kernel
theorem dX0_price_6 : decode cX0_price 6 = .ok (.invokestatic 138, 3) := by decide +kernel
theorem dX0_checkAttribute_0 : decode cX0_checkAttribute 0 = .ok (.iload_n 0, 1) := by decide +kernel
theorem dX0_checkAttribute_1 : decode cX0_checkAttribute 1 = .ok (.ifCond .lt 9, 3) := by decide +kernel
theorem dX0_checkAttribute_4 : decode cX0_checkAttribute 4 = .ok (.iload_n 0, 1) := by decide +kernel
theorem dX0_checkAttribute_5 : decode cX0_checkAttribute 5 = .ok (.bipush 6, 2) := by decide +kernel
theorem dX0_checkAttribute_7 : decode cX0_checkAttribute 7 = .ok (.if_icmp .lt 13, 3) := by decide +kernel
theorem dX0_checkAttribute_10 : decode cX0_checkAttribute 10 = .ok (.new 122, 3) := by decide +kernel
theorem dX0_checkAttribute_13 : decode cX0_checkAttribute 13 = .ok (.dup, 1) := by decide +kernel
theorem dX0_checkAttribute_14 : decode cX0_checkAttribute 14 = .ok (.ldc 199, 2) := by decide +kernel
theorem dX0_checkAttribute_16 : decode cX0_checkAttribute 16 = .ok (.invokespecial 126, 3) := by decide +kernel
theorem dX0_checkAttribute_19 : decode cX0_checkAttribute 19 = .ok (.athrow, 1) := by decide +kernel
theorem dX0_checkAttribute_20 : decode cX0_checkAttribute 20 = .ok (.return_, 1) := by decide +kernel
theorem dX0_checkShop_0 : decode cX0_checkShop 0 = .ok (.iload_n 0, 1) := by decide +kernel
theorem dX0_checkShop_1 : decode cX0_checkShop 1 = .ok (.ifCond .lt 8, 3) := by decide +kernel
theorem dX0_checkShop_4 : decode cX0_checkShop 4 = .ok (.iload_n 0, 1) := by decide +kernel
theorem dX0_checkShop_5 : decode cX0_checkShop 5 = .ok (.iconst 3, 1) := by decide +kernel
theorem dX0_checkShop_6 : decode cX0_checkShop 6 = .ok (.if_icmp .lt 13, 3) := by decide +kernel
theorem dX0_checkShop_9 : decode cX0_checkShop 9 = .ok (.new 122, 3) := by decide +kernel
theorem dX0_checkShop_12 : decode cX0_checkShop 12 = .ok (.dup, 1) := by decide +kernel
theorem dX0_checkShop_13 : decode cX0_checkShop 13 = .ok (.ldc 201, 2) := by decide +kernel
theorem dX0_checkShop_15 : decode cX0_checkShop 15 = .ok (.invokespecial 126, 3) := by decide +kernel
theorem dX0_checkShop_18 : decode cX0_checkShop 18 = .ok (.athrow, 1) := by decide +kernel
theorem dX0_checkShop_19 : decode cX0_checkShop 19 = .ok (.return_, 1) := by decide +kernel
theorem dX0_checkTongue_0 : decode cX0_checkTongue 0 = .ok (.iload_n 0, 1) := by decide +kernel
theorem dX0_checkTongue_1 : decode cX0_checkTongue 1 = .ok (.ifCond .lt 8, 3) := by decide +kernel
theorem dX0_checkTongue_4 : decode cX0_checkTongue 4 = .ok (.iload_n 0, 1) := by decide +kernel
theorem dX0_checkTongue_5 : decode cX0_checkTongue 5 = .ok (.iconst 3, 1) := by decide +kernel
theorem dX0_checkTongue_6 : decode cX0_checkTongue 6 = .ok (.if_icmp .lt 13, 3) := by decide +kernel
theorem dX0_checkTongue_9 : decode cX0_checkTongue 9 = .ok (.new 122, 3) := by decide +kernel
theorem dX0_checkTongue_12 : decode cX0_checkTongue 12 = .ok (.dup, 1) := by decide +kernel
theorem dX0_checkTongue_13 : decode cX0_checkTongue 13 = .ok (.ldc 203, 2) := by decide +kernel
theorem dX0_checkTongue_15 : decode cX0_checkTongue 15 = .ok (.invokespecial 126, 3) := by decide +kernel
theorem dX0_checkTongue_18 : decode cX0_checkTongue 18 = .ok (.athrow, 1) := by decide +kernel
theorem dX0_checkTongue_19 : decode cX0_checkTongue 19 = .ok (.return_, 1) := by decide +kernel
set_option maxRecDepth 20000 in
theorem ggX0_checkSight_X0_checkGood : GoodIn wsX0_checkSight wsX0_checkGood := goodIn_ca (goodIn_r _ [5, 6, 7, 8, 9, 10, 4, 11, 12, 22, 23, 24, 25, 26, 27, 28, 29, 30, 31, 32, 33, 34, 35, 36, 37] (by decide +kernel) (by decide +kernel)) (goodIn_sub (fun _ h => List.mem_cons_of_mem _ (List.mem_append_right _ h)) (by decide +kernel))
set_option maxRecDepth 20000 in
theorem gX0_checkSight_X0_checkGood : GoodIn wsX0_checkSight (wsV RX0 77 RX0 yX0_checkGood wsX0_checkGood) := goodIn_app (goodIn_of _ (by decide +kernel)) ggX0_checkSight_X0_checkGood
set_option maxRecDepth 20000 in
theorem ggX0_checkSight_X0_checkAttribute : GoodIn wsX0_checkSight wsX0_checkAttribute := goodIn_ca (goodIn_r _ [15, 6, 7] (by decide +kernel) (by decide +kernel)) (goodIn_sub (fun _ h => List.mem_cons_of_mem _ (List.mem_append_right _ h)) (by decide +kernel))
set_option maxRecDepth 20000 in
theorem gX0_checkSight_X0_checkAttribute : GoodIn wsX0_checkSight (va_wsS RX0 135 yX0_checkAttribute wsX0_checkAttribute) := goodIn_app (goodIn_of _ (by decide +kernel)) ggX0_checkSight_X0_checkAttribute
set_option maxRecDepth 20000 in
theorem ggX0_checkSight_X0_checkShop : GoodIn wsX0_checkSight wsX0_checkShop := goodIn_ca (goodIn_r _ [18, 6, 7] (by decide +kernel) (by decide +kernel)) (goodIn_sub (fun _ h => List.mem_cons_of_mem _ (List.mem_append_right _ h)) (by decide +kernel))
set_option maxRecDepth 20000 in
theorem gX0_checkSight_X0_checkShop : GoodIn wsX0_checkSight (va_wsS RX0 138 yX0_checkShop wsX0_checkShop) := goodIn_app (goodIn_of _ (by decide +kernel)) ggX0_checkSight_X0_checkShop
set_option maxRecDepth 20000 in
theorem ggX0_checkSight_X0_checkTongue : GoodIn wsX0_checkSight wsX0_checkTongue := goodIn_ca (goodIn_r _ [21, 6, 7] (by decide +kernel) (by decide +kernel)) (goodIn_sub (fun _ h => List.mem_cons_of_mem _ (List.mem_append_right _ h)) (by decide +kernel))
set_option maxRecDepth 20000 in
theorem gX0_checkSight_X0_checkTongue : GoodIn wsX0_checkSight (va_wsS RX0 141 yX0_checkTongue wsX0_checkTongue) := goodIn_app (goodIn_of _ (by decide +kernel)) ggX0_checkSight_X0_checkTongue
theorem dX0_checkSight_0 : decode cX0_checkSight 0 = .ok (.aload_n 0, 1) := by decide +kernel
theorem dX0_checkSight_1 : decode cX0_checkSight 1 = .ok (.iload_n 1, 1) := by decide +kernel
theorem dX0_checkSight_2 : decode cX0_checkSight 2 = .ok (.invokevirtual 77, 3) := by decide +kernel
theorem dX0_checkSight_5 : decode cX0_checkSight 5 = .ok (.iload_n 2, 1) := by decide +kernel
theorem dX0_checkSight_6 : decode cX0_checkSight 6 = .ok (.invokestatic 135, 3) := by decide +kernel
theorem dX0_checkSight_9 : decode cX0_checkSight 9 = .ok (.iload_n 3, 1) := by decide +kernel
theorem dX0_checkSight_10 : decode cX0_checkSight 10 = .ok (.invokestatic 138, 3) := by decide +kernel
theorem dX0_checkSight_13 : decode cX0_checkSight 13 = .ok (.iload 4, 2) := by decide +kernel
theorem dX0_checkSight_15 : decode cX0_checkSight 15 = .ok (.invokestatic 141, 3) := by decide +kernel
set_option maxRecDepth 20000 in
theorem ggX0_findValue_X0_findOrigin : GoodIn wsX0_findValue wsX0_findOrigin := goodIn_r _ [6, 7, 8, 9, 10, 5, 11, 12, 13, 14, 15, 16, 17, 18, 19, 20, 26, 27, 28, 29, 30, 31, 32, 33, 34, 35, 36, 37, 38, 39, 40, 41] (by decide +kernel) (by decide +kernel)
set_option maxRecDepth 20000 in
theorem gX0_findValue_X0_findOrigin : GoodIn wsX0_findValue (wsV RX0 184 RX0 yX0_findOrigin wsX0_findOrigin) := goodIn_app (goodIn_of _ (by decide +kernel)) ggX0_findValue_X0_findOrigin
set_option maxRecDepth 20000 in
theorem ggX0_findValue_X0_isEntered : GoodIn wsX0_findValue wsX0_isEntered := goodIn_r _ [24, 25, 26, 27, 28, 29, 30, 31, 32, 33, 34, 35, 36, 37, 38, 39, 40, 41] (by decide +kernel) (by decide +kernel)
set_option maxRecDepth 20000 in
theorem gX0_findValue_X0_isEntered : GoodIn wsX0_findValue (wsV RX0 167 RX0 yX0_isEntered wsX0_isEntered) := goodIn_app (goodIn_of _ (by decide +kernel)) ggX0_findValue_X0_isEntered
theorem dX0_findValue_0 : decode cX0_findValue 0 = .ok (.aload_n 0, 1) := by decide +kernel
theorem dX0_findValue_1 : decode cX0_findValue 1 = .ok (.iload_n 1, 1) := by decide +kernel
theorem dX0_findValue_2 : decode cX0_findValue 2 = .ok (.iload_n 2, 1) := by decide +kernel
theorem dX0_findValue_3 : decode cX0_findValue 3 = .ok (.iload_n 3, 1) := by decide +kernel
theorem dX0_findValue_4 : decode cX0_findValue 4 = .ok (.iload 4, 2) := by decide +kernel
theorem dX0_findValue_6 : decode cX0_findValue 6 = .ok (.invokevirtual 184, 3) := by decide +kernel
theorem dX0_findValue_9 : decode cX0_findValue 9 = .ok (.istore 5, 2) := by decide +kernel
theorem dX0_findValue_11 : decode cX0_findValue 11 = .ok (.aload_n 0, 1) := by decide +kernel
theorem dX0_findValue_12 : decode cX0_findValue 12 = .ok (.iload 5, 2) := by decide +kernel
theorem dX0_findValue_14 : decode cX0_findValue 14 = .ok (.invokevirtual 167, 3) := by decide +kernel
theorem dX0_findValue_17 : decode cX0_findValue 17 = .ok (.ifCond .eq 13, 3) := by decide +kernel
theorem dX0_findValue_20 : decode cX0_findValue 20 = .ok (.aload_n 0, 1) := by decide +kernel
theorem dX0_findValue_21 : decode cX0_findValue 21 = .ok (.getfield 33, 3) := by decide +kernel
theorem dX0_findValue_24 : decode cX0_findValue 24 = .ok (.iload 5, 2) := by decide +kernel
theorem dX0_findValue_26 : decode cX0_findValue 26 = .ok (.iaload, 1) := by decide +kernel
theorem dX0_findValue_27 : decode cX0_findValue 27 = .ok (.goto 4, 3) := by decide +kernel
theorem dX0_findValue_30 : decode cX0_findValue 30 = .ok (.iconst (-1), 1) := by decide +kernel
theorem dX0_findValue_31 : decode cX0_findValue 31 = .ok (.ireturn, 1) := by decide +kernel
set_option maxRecDepth 20000 in
theorem ggX0_findOrigin_X0_isGood : GoodIn wsX0_findOrigin wsX0_isGood := goodIn_r _ [6, 7, 16, 17, 18, 19, 20, 21, 22, 23, 24, 25, 26, 27, 28, 29, 30, 31] (by decide +kernel) (by decide +kernel)
set_option maxRecDepth 20000 in
theorem gX0_findOrigin_X0_isGood : GoodIn wsX0_findOrigin (wsV RX0 119 RX0 yX0_isGood wsX0_isGood) := goodIn_app (goodIn_of _ (by decide +kernel)) ggX0_findOrigin_X0_isGood
set_option maxRecDepth 20000 in
theorem ggX0_findOrigin_X0_findOwnOrigin : GoodIn wsX0_findOrigin wsX0_findOwnOrigin := goodIn_r _ [11, 12, 13, 14, 5, 15, 16, 17, 18, 19, 20, 21, 22, 23, 24, 25, 26, 27, 28, 29, 30, 31] (by decide +kernel) (by decide +kernel)
set_option maxRecDepth 20000 in
theorem gX0_findOrigin_X0_findOwnOrigin : GoodIn wsX0_findOrigin (wsV RX0 205 RX0 yX0_findOwnOrigin wsX0_findOwnOrigin) := goodIn_app (goodIn_of _ (by decide +kernel)) ggX0_findOrigin_X0_findOwnOrigin
theorem dX0_findOrigin_0 : decode cX0_findOrigin 0 = .ok (.iload_n 1, 1) := by decide +kernel
theorem dX0_findOrigin_1 : decode cX0_findOrigin 1 = .ok (.istore 5, 2) := by decide +kernel
theorem dX0_findOrigin_3 : decode cX0_findOrigin 3 = .ok (.iconst 0, 1) := by decide +kernel
theorem dX0_findOrigin_4 : decode cX0_findOrigin 4 = .ok (.istore 6, 2) := by decide +kernel
theorem dX0_findOrigin_6 : decode cX0_findOrigin 6 = .ok (.iload 6, 2) := by decide +kernel
theorem dX0_findOrigin_8 : decode cX0_findOrigin 8 = .ok (.iconst 3, 1) := by decide +kernel
theorem dX0_findOrigin_9 : decode cX0_findOrigin 9 = .ok (.if_icmp .ge 48, 3) := by decide +kernel
theorem dX0_findOrigin_12 : decode cX0_findOrigin 12 = .ok (.aload_n 0, 1) := by decide +kernel
theorem dX0_findOrigin_13 : decode cX0_findOrigin 13 = .ok (.iload 5, 2) := by decide +kernel
theorem dX0_findOrigin_15 : decode cX0_findOrigin 15 = .ok (.invokevirtual 119, 3) := by decide +kernel
theorem dX0_findOrigin_18 : decode cX0_findOrigin 18 = .ok (.ifCond .eq 39, 3) := by decide +kernel
theorem dX0_findOrigin_21 : decode cX0_findOrigin 21 = .ok (.aload_n 0, 1) := by decide +kernel
theorem dX0_findOrigin_22 : decode cX0_findOrigin 22 = .ok (.iload 5, 2) := by decide +kernel
theorem dX0_findOrigin_24 : decode cX0_findOrigin 24 = .ok (.iload_n 2, 1) := by decide +kernel
theorem dX0_findOrigin_25 : decode cX0_findOrigin 25 = .ok (.iload_n 3, 1) := by decide +kernel
theorem dX0_findOrigin_26 : decode cX0_findOrigin 26 = .ok (.iload 4, 2) := by decide +kernel
theorem dX0_findOrigin_28 : decode cX0_findOrigin 28 = .ok (.invokevirtual 205, 3) := by decide +kernel
theorem dX0_findOrigin_31 : decode cX0_findOrigin 31 = .ok (.istore 7, 2) := by decide +kernel
theorem dX0_findOrigin_33 : decode cX0_findOrigin 33 = .ok (.iload 7, 2) := by decide +kernel
theorem dX0_findOrigin_35 : decode cX0_findOrigin 35 = .ok (.iconst (-1), 1) := by decide +kernel
theorem dX0_findOrigin_36 : decode cX0_findOrigin 36 = .ok (.if_icmp .eq 6, 3) := by decide +kernel
theorem dX0_findOrigin_39 : decode cX0_findOrigin 39 = .ok (.iload 7, 2) := by decide +kernel
theorem dX0_findOrigin_41 : decode cX0_findOrigin 41 = .ok (.ireturn, 1) := by decide +kernel
theorem dX0_findOrigin_42 : decode cX0_findOrigin 42 = .ok (.aload_n 0, 1) := by decide +kernel
theorem dX0_findOrigin_43 : decode cX0_findOrigin 43 = .ok (.getfield 13, 3) := by decide +kernel
theorem dX0_findOrigin_46 : decode cX0_findOrigin 46 = .ok (.iload 5, 2) := by decide +kernel
theorem dX0_findOrigin_48 : decode cX0_findOrigin 48 = .ok (.iaload, 1) := by decide +kernel
theorem dX0_findOrigin_49 : decode cX0_findOrigin 49 = .ok (.istore 5, 2) := by decide +kernel
theorem dX0_findOrigin_51 : decode cX0_findOrigin 51 = .ok (.iinc 6 1, 3) := by decide +kernel
theorem dX0_findOrigin_54 : decode cX0_findOrigin 54 = .ok (.goto (-48), 3) := by decide +kernel
theorem dX0_findOrigin_57 : decode cX0_findOrigin 57 = .ok (.iconst (-1), 1) := by decide +kernel
theorem dX0_findOrigin_58 : decode cX0_findOrigin 58 = .ok (.ireturn, 1) := by decide +kernel
set_option maxRecDepth 20000 in
theorem ggX0_findOwnOrigin_X0_placeOf : GoodIn wsX0_findOwnOrigin wsX0_placeOf := goodIn_r _ [5] (by decide +kernel) (by decide +kernel)
set_option maxRecDepth 20000 in
theorem gX0_findOwnOrigin_X0_placeOf : GoodIn wsX0_findOwnOrigin (va_wsS RX0 151 yX0_placeOf wsX0_placeOf) := goodIn_app (goodIn_of _ (by decide +kernel)) ggX0_findOwnOrigin_X0_placeOf
theorem dX0_findOwnOrigin_0 : decode cX0_findOwnOrigin 0 = .ok (.aload_n 0, 1) := by decide +kernel
theorem dX0_findOwnOrigin_1 : decode cX0_findOwnOrigin 1 = .ok (.getfield 48, 3) := by decide +kernel
theorem dX0_findOwnOrigin_4 : decode cX0_findOwnOrigin 4 = .ok (.iload_n 1, 1) := by decide +kernel
theorem dX0_findOwnOrigin_5 : decode cX0_findOwnOrigin 5 = .ok (.iload_n 2, 1) := by decide +kernel
theorem dX0_findOwnOrigin_6 : decode cX0_findOwnOrigin 6 = .ok (.iload_n 3, 1) := by decide +kernel
theorem dX0_findOwnOrigin_7 : decode cX0_findOwnOrigin 7 = .ok (.iload 4, 2) := by decide +kernel
theorem dX0_findOwnOrigin_9 : decode cX0_findOwnOrigin 9 = .ok (.invokestatic 151, 3) := by decide +kernel
theorem dX0_findOwnOrigin_12 : decode cX0_findOwnOrigin 12 = .ok (.iaload, 1) := by decide +kernel
theorem dX0_findOwnOrigin_13 : decode cX0_findOwnOrigin 13 = .ok (.istore 5, 2) := by decide +kernel
theorem dX0_findOwnOrigin_15 : decode cX0_findOwnOrigin 15 = .ok (.iload 5, 2) := by decide +kernel
theorem dX0_findOwnOrigin_17 : decode cX0_findOwnOrigin 17 = .ok (.iconst (-1), 1) := by decide +kernel
theorem dX0_findOwnOrigin_18 : decode cX0_findOwnOrigin 18 = .ok (.if_icmp .ne 17, 3) := by decide +kernel
theorem dX0_findOwnOrigin_21 : decode cX0_findOwnOrigin 21 = .ok (.aload_n 0, 1) := by decide +kernel
theorem dX0_findOwnOrigin_22 : decode cX0_findOwnOrigin 22 = .ok (.getfield 48, 3) := by decide +kernel
theorem dX0_findOwnOrigin_25 : decode cX0_findOwnOrigin 25 = .ok (.iload_n 1, 1) := by decide +kernel
theorem dX0_findOwnOrigin_26 : decode cX0_findOwnOrigin 26 = .ok (.iload_n 2, 1) := by decide +kernel
theorem dX0_findOwnOrigin_27 : decode cX0_findOwnOrigin 27 = .ok (.iload_n 3, 1) := by decide +kernel
theorem dX0_findOwnOrigin_28 : decode cX0_findOwnOrigin 28 = .ok (.iconst (-1), 1) := by decide +kernel
theorem dX0_findOwnOrigin_29 : decode cX0_findOwnOrigin 29 = .ok (.invokestatic 151, 3) := by decide +kernel
theorem dX0_findOwnOrigin_32 : decode cX0_findOwnOrigin 32 = .ok (.iaload, 1) := by decide +kernel
theorem dX0_findOwnOrigin_33 : decode cX0_findOwnOrigin 33 = .ok (.istore 5, 2) := by decide +kernel
theorem dX0_findOwnOrigin_35 : decode cX0_findOwnOrigin 35 = .ok (.iload 5, 2) := by decide +kernel
theorem dX0_findOwnOrigin_37 : decode cX0_findOwnOrigin 37 = .ok (.iconst (-1), 1) := by decide +kernel
theorem dX0_findOwnOrigin_38 : decode cX0_findOwnOrigin 38 = .ok (.if_icmp .ne 18, 3) := by decide +kernel
theorem dX0_findOwnOrigin_41 : decode cX0_findOwnOrigin 41 = .ok (.aload_n 0, 1) := by decide +kernel
theorem dX0_findOwnOrigin_42 : decode cX0_findOwnOrigin 42 = .ok (.getfield 48, 3) := by decide +kernel
theorem dX0_findOwnOrigin_45 : decode cX0_findOwnOrigin 45 = .ok (.iload_n 1, 1) := by decide +kernel
theorem dX0_findOwnOrigin_46 : decode cX0_findOwnOrigin 46 = .ok (.iload_n 2, 1) := by decide +kernel
theorem dX0_findOwnOrigin_47 : decode cX0_findOwnOrigin 47 = .ok (.iconst (-1), 1) := by decide +kernel
theorem dX0_findOwnOrigin_48 : decode cX0_findOwnOrigin 48 = .ok (.iload 4, 2) := by decide +kernel
theorem dX0_findOwnOrigin_50 : decode cX0_findOwnOrigin 50 = .ok (.invokestatic 151, 3) := by decide +kernel
theorem dX0_findOwnOrigin_53 : decode cX0_findOwnOrigin 53 = .ok (.iaload, 1) := by decide +kernel
theorem dX0_findOwnOrigin_54 : decode cX0_findOwnOrigin 54 = .ok (.istore 5, 2) := by decide +kernel
theorem dX0_findOwnOrigin_56 : decode cX0_findOwnOrigin 56 = .ok (.iload 5, 2) := by decide +kernel
theorem dX0_findOwnOrigin_58 : decode cX0_findOwnOrigin 58 = .ok (.iconst (-1), 1) := by decide +kernel
theorem dX0_findOwnOrigin_59 : decode cX0_findOwnOrigin 59 = .ok (.if_icmp .ne 17, 3) := by decide +kernel
theorem dX0_findOwnOrigin_62 : decode cX0_findOwnOrigin 62 = .ok (.aload_n 0, 1) := by decide +kernel
theorem dX0_findOwnOrigin_63 : decode cX0_findOwnOrigin 63 = .ok (.getfield 48, 3) := by decide +kernel
theorem dX0_findOwnOrigin_66 : decode cX0_findOwnOrigin 66 = .ok (.iload_n 1, 1) := by decide +kernel
theorem dX0_findOwnOrigin_67 : decode cX0_findOwnOrigin 67 = .ok (.iload_n 2, 1) := by decide +kernel
theorem dX0_findOwnOrigin_68 : decode cX0_findOwnOrigin 68 = .ok (.iconst (-1), 1) := by decide +kernel
theorem dX0_findOwnOrigin_69 : decode cX0_findOwnOrigin 69 = .ok (.iconst (-1), 1) := by decide +kernel
theorem dX0_findOwnOrigin_70 : decode cX0_findOwnOrigin 70 = .ok (.invokestatic 151, 3) := by decide +kernel
theorem dX0_findOwnOrigin_73 : decode cX0_findOwnOrigin 73 = .ok (.iaload, 1) := by decide +kernel
theorem dX0_findOwnOrigin_74 : decode cX0_findOwnOrigin 74 = .ok (.istore 5, 2) := by decide +kernel
theorem dX0_findOwnOrigin_76 : decode cX0_findOwnOrigin 76 = .ok (.iload 5, 2) := by decide +kernel
theorem dX0_findOwnOrigin_78 : decode cX0_findOwnOrigin 78 = .ok (.ireturn, 1) := by decide +kernel
set_option maxRecDepth 20000 in
theorem ggX0_findMissing_X0_findValue : GoodIn wsX0_findMissing wsX0_findValue := goodIn_r _ [6, 7, 8, 9, 10, 5, 11, 12, 13, 14, 15, 16, 17, 18, 19, 20, 21, 22, 23, 24, 25, 26, 27, 28, 29, 30, 31, 32, 33, 34, 35, 36, 37, 38, 39, 40, 41, 42, 43, 44, 45, 46] (by decide +kernel) (by decide +kernel)
set_option maxRecDepth 20000 in
theorem gX0_findMissing_X0_findValue : GoodIn wsX0_findMissing (wsV RX0 179 RX0 yX0_findValue wsX0_findValue) := goodIn_app (goodIn_of _ (by decide +kernel)) ggX0_findMissing_X0_findValue
theorem dX0_findMissing_0 : decode cX0_findMissing 0 = .ok (.iconst 0, 1) := by decide +kernel
theorem dX0_findMissing_1 : decode cX0_findMissing 1 = .ok (.istore 4, 2) := by decide +kernel
theorem dX0_findMissing_3 : decode cX0_findMissing 3 = .ok (.iconst 0, 1) := by decide +kernel
theorem dX0_findMissing_4 : decode cX0_findMissing 4 = .ok (.istore 5, 2) := by decide +kernel
theorem dX0_findMissing_6 : decode cX0_findMissing 6 = .ok (.iload 5, 2) := by decide +kernel
theorem dX0_findMissing_8 : decode cX0_findMissing 8 = .ok (.bipush 6, 2) := by decide +kernel
theorem dX0_findMissing_10 : decode cX0_findMissing 10 = .ok (.if_icmp .ge 46, 3) := by decide +kernel
theorem dX0_findMissing_13 : decode cX0_findMissing 13 = .ok (.aload_n 0, 1) := by decide +kernel
theorem dX0_findMissing_14 : decode cX0_findMissing 14 = .ok (.getfield 51, 3) := by decide +kernel
theorem dX0_findMissing_17 : decode cX0_findMissing 17 = .ok (.iload_n 2, 1) := by decide +kernel
theorem dX0_findMissing_18 : decode cX0_findMissing 18 = .ok (.bipush 6, 2) := by decide +kernel
theorem dX0_findMissing_20 : decode cX0_findMissing 20 = .ok (.imul, 1) := by decide +kernel
theorem dX0_findMissing_21 : decode cX0_findMissing 21 = .ok (.iload 5, 2) := by decide +kernel
theorem dX0_findMissing_23 : decode cX0_findMissing 23 = .ok (.iadd, 1) := by decide +kernel
theorem dX0_findMissing_24 : decode cX0_findMissing 24 = .ok (.baload, 1) := by decide +kernel
theorem dX0_findMissing_25 : decode cX0_findMissing 25 = .ok (.ifCond .eq 25, 3) := by decide +kernel
theorem dX0_findMissing_28 : decode cX0_findMissing 28 = .ok (.aload_n 0, 1) := by decide +kernel
theorem dX0_findMissing_29 : decode cX0_findMissing 29 = .ok (.iload_n 1, 1) := by decide +kernel
theorem dX0_findMissing_30 : decode cX0_findMissing 30 = .ok (.iload 5, 2) := by decide +kernel
theorem dX0_findMissing_32 : decode cX0_findMissing 32 = .ok (.iload_n 2, 1) := by decide +kernel
theorem dX0_findMissing_33 : decode cX0_findMissing 33 = .ok (.iload_n 3, 1) := by decide +kernel
theorem dX0_findMissing_34 : decode cX0_findMissing 34 = .ok (.invokevirtual 179, 3) := by decide +kernel
theorem dX0_findMissing_37 : decode cX0_findMissing 37 = .ok (.iconst (-1), 1) := by decide +kernel
theorem dX0_findMissing_38 : decode cX0_findMissing 38 = .ok (.if_icmp .ne 12, 3) := by decide +kernel
theorem dX0_findMissing_41 : decode cX0_findMissing 41 = .ok (.iload 4, 2) := by decide +kernel
theorem dX0_findMissing_43 : decode cX0_findMissing 43 = .ok (.iconst 1, 1) := by decide +kernel
theorem dX0_findMissing_44 : decode cX0_findMissing 44 = .ok (.iload 5, 2) := by decide +kernel
theorem dX0_findMissing_46 : decode cX0_findMissing 46 = .ok (.ishl, 1) := by decide +kernel
theorem dX0_findMissing_47 : decode cX0_findMissing 47 = .ok (.ior, 1) := by decide +kernel
theorem dX0_findMissing_48 : decode cX0_findMissing 48 = .ok (.istore 4, 2) := by decide +kernel
theorem dX0_findMissing_50 : decode cX0_findMissing 50 = .ok (.iinc 5 1, 3) := by decide +kernel
theorem dX0_findMissing_53 : decode cX0_findMissing 53 = .ok (.goto (-47), 3) := by decide +kernel
theorem dX0_findMissing_56 : decode cX0_findMissing 56 = .ok (.iload 4, 2) := by decide +kernel
theorem dX0_findMissing_58 : decode cX0_findMissing 58 = .ok (.ireturn, 1) := by decide +kernel
set_option maxRecDepth 20000 in
theorem ggX0_isComplete_X0_findMissing : GoodIn wsX0_isComplete wsX0_findMissing := goodIn_r _ [5, 6, 7, 8, 9, 4, 10, 11, 12, 13, 14, 15, 16, 17, 18, 19, 20, 21, 22, 23, 24, 25, 26, 27, 28, 29, 30, 31, 32, 33, 34, 35, 36, 37, 38, 39, 40, 41, 42, 43, 44, 45, 46, 47, 48, 49, 50] (by decide +kernel) (by decide +kernel)
set_option maxRecDepth 20000 in
theorem gX0_isComplete_X0_findMissing : GoodIn wsX0_isComplete (wsV RX0 187 RX0 yX0_findMissing wsX0_findMissing) := goodIn_app (goodIn_of _ (by decide +kernel)) ggX0_isComplete_X0_findMissing
theorem dX0_isComplete_0 : decode cX0_isComplete 0 = .ok (.iconst 0, 1) := by decide +kernel
theorem dX0_isComplete_1 : decode cX0_isComplete 1 = .ok (.istore_n 3, 1) := by decide +kernel
theorem dX0_isComplete_2 : decode cX0_isComplete 2 = .ok (.iload_n 3, 1) := by decide +kernel
theorem dX0_isComplete_3 : decode cX0_isComplete 3 = .ok (.iconst 3, 1) := by decide +kernel
theorem dX0_isComplete_4 : decode cX0_isComplete 4 = .ok (.if_icmp .ge 21, 3) := by decide +kernel
theorem dX0_isComplete_7 : decode cX0_isComplete 7 = .ok (.aload_n 0, 1) := by decide +kernel
theorem dX0_isComplete_8 : decode cX0_isComplete 8 = .ok (.iload_n 1, 1) := by decide +kernel
theorem dX0_isComplete_9 : decode cX0_isComplete 9 = .ok (.iload_n 2, 1) := by decide +kernel
theorem dX0_isComplete_10 : decode cX0_isComplete 10 = .ok (.iload_n 3, 1) := by decide +kernel
theorem dX0_isComplete_11 : decode cX0_isComplete 11 = .ok (.invokevirtual 187, 3) := by decide +kernel
theorem dX0_isComplete_14 : decode cX0_isComplete 14 = .ok (.ifCond .eq 5, 3) := by decide +kernel
theorem dX0_isComplete_17 : decode cX0_isComplete 17 = .ok (.iconst 0, 1) := by decide +kernel
theorem dX0_isComplete_18 : decode cX0_isComplete 18 = .ok (.ireturn, 1) := by decide +kernel
theorem dX0_isComplete_19 : decode cX0_isComplete 19 = .ok (.iinc 3 1, 3) := by decide +kernel
theorem dX0_isComplete_22 : decode cX0_isComplete 22 = .ok (.goto (-20), 3) := by decide +kernel
theorem dX0_isComplete_25 : decode cX0_isComplete 25 = .ok (.iconst 1, 1) := by decide +kernel
theorem dX0_isComplete_26 : decode cX0_isComplete 26 = .ok (.ireturn, 1) := by decide +kernel
set_option maxRecDepth 20000 in
theorem ggX0_changed_X0_checkShop : GoodIn wsX0_changed wsX0_checkShop := goodIn_ca (goodIn_r _ [4, 5, 6] (by decide +kernel) (by decide +kernel)) (goodIn_sub (fun _ h => List.mem_cons_of_mem _ (List.mem_append_right _ h)) (by decide +kernel))
set_option maxRecDepth 20000 in
theorem gX0_changed_X0_checkShop : GoodIn wsX0_changed (va_wsS RX0 138 yX0_checkShop wsX0_checkShop) := goodIn_app (goodIn_of _ (by decide +kernel)) ggX0_changed_X0_checkShop
set_option maxRecDepth 20000 in
theorem ggX0_changed_X0_findChanged : GoodIn wsX0_changed wsX0_findChanged := goodIn_r _ [10, 11, 12, 13, 3, 14, 15, 16, 17, 18, 19, 20, 21, 22, 23, 24, 25, 26, 27, 28, 29, 30, 31, 32, 33, 34, 35, 36, 37, 38, 39, 40, 41, 42, 43, 44, 45, 46, 47, 48, 49, 50, 51, 52, 53, 54, 55, 56, 57, 58, 59] (by decide +kernel) (by decide +kernel)
set_option maxRecDepth 20000 in
theorem gX0_changed_X0_findChanged : GoodIn wsX0_changed (wsV RX0 215 RX0 yX0_findChanged wsX0_findChanged) := goodIn_app (goodIn_of _ (by decide +kernel)) ggX0_changed_X0_findChanged
theorem dX0_changed_0 : decode cX0_changed 0 = .ok (.iload_n 1, 1) := by decide +kernel
theorem dX0_changed_1 : decode cX0_changed 1 = .ok (.invokestatic 138, 3) := by decide +kernel
theorem dX0_changed_4 : decode cX0_changed 4 = .ok (.aload_n 0, 1) := by decide +kernel
theorem dX0_changed_5 : decode cX0_changed 5 = .ok (.iload_n 1, 1) := by decide +kernel
theorem dX0_changed_6 : decode cX0_changed 6 = .ok (.invokevirtual 215, 3) := by decide +kernel
theorem dX0_changed_9 : decode cX0_changed 9 = .ok (.ireturn, 1) := by decide +kernel
set_option maxRecDepth 20000 in
theorem ggX0_feed_X0_checkShop : GoodIn wsX0_feed wsX0_checkShop := goodIn_ca (goodIn_r _ [4, 5, 6] (by decide +kernel) (by decide +kernel)) (goodIn_sub (fun _ h => List.mem_cons_of_mem _ (List.mem_append_right _ h)) (by decide +kernel))
set_option maxRecDepth 20000 in
theorem gX0_feed_X0_checkShop : GoodIn wsX0_feed (va_wsS RX0 138 yX0_checkShop wsX0_checkShop) := goodIn_app (goodIn_of _ (by decide +kernel)) ggX0_feed_X0_checkShop
theorem dX0_feed_0 : decode cX0_feed 0 = .ok (.iload_n 1, 1) := by decide +kernel
theorem dX0_feed_1 : decode cX0_feed 1 = .ok (.invokestatic 138, 3) := by decide +kernel
set_option maxRecDepth 20000 in
theorem ggX0_findChanged_X0_looksChanged : GoodIn wsX0_findChanged wsX0_looksChanged := goodIn_r _ [5, 6, 7, 8, 9, 4, 10, 11, 12, 13, 14, 15, 16, 17, 18, 19, 20, 21, 22, 23, 24, 25, 26, 27, 28, 29, 30, 31, 32, 33, 34, 35, 36, 37, 38, 39, 40, 41, 42, 43, 44, 45, 46, 47, 48, 49, 50] (by decide +kernel) (by decide +kernel)
set_option maxRecDepth 20000 in
theorem gX0_findChanged_X0_looksChanged : GoodIn wsX0_findChanged (wsV RX0 227 RX0 yX0_looksChanged wsX0_looksChanged) := goodIn_app (goodIn_of _ (by decide +kernel)) ggX0_findChanged_X0_looksChanged
theorem dX0_findChanged_0 : decode cX0_findChanged 0 = .ok (.iconst 0, 1) := by decide +kernel
theorem dX0_findChanged_1 : decode cX0_findChanged 1 = .ok (.istore_n 2, 1) := by decide +kernel
theorem dX0_findChanged_2 : decode cX0_findChanged 2 = .ok (.iconst 0, 1) := by decide +kernel
theorem dX0_findChanged_3 : decode cX0_findChanged 3 = .ok (.istore_n 3, 1) := by decide +kernel
theorem dX0_findChanged_4 : decode cX0_findChanged 4 = .ok (.iload_n 3, 1) := by decide +kernel
theorem dX0_findChanged_5 : decode cX0_findChanged 5 = .ok (.bipush 16, 2) := by decide +kernel
theorem dX0_findChanged_7 : decode cX0_findChanged 7 = .ok (.if_icmp .ge 24, 3) := by decide +kernel
theorem dX0_findChanged_10 : decode cX0_findChanged 10 = .ok (.aload_n 0, 1) := by decide +kernel
theorem dX0_findChanged_11 : decode cX0_findChanged 11 = .ok (.iload_n 3, 1) := by decide +kernel
theorem dX0_findChanged_12 : decode cX0_findChanged 12 = .ok (.iload_n 1, 1) := by decide +kernel
theorem dX0_findChanged_13 : decode cX0_findChanged 13 = .ok (.invokevirtual 227, 3) := by decide +kernel
theorem dX0_findChanged_16 : decode cX0_findChanged 16 = .ok (.ifCond .eq 9, 3) := by decide +kernel
theorem dX0_findChanged_19 : decode cX0_findChanged 19 = .ok (.iload_n 2, 1) := by decide +kernel
theorem dX0_findChanged_20 : decode cX0_findChanged 20 = .ok (.iconst 1, 1) := by decide +kernel
theorem dX0_findChanged_21 : decode cX0_findChanged 21 = .ok (.iload_n 3, 1) := by decide +kernel
theorem dX0_findChanged_22 : decode cX0_findChanged 22 = .ok (.ishl, 1) := by decide +kernel
theorem dX0_findChanged_23 : decode cX0_findChanged 23 = .ok (.ior, 1) := by decide +kernel
theorem dX0_findChanged_24 : decode cX0_findChanged 24 = .ok (.istore_n 2, 1) := by decide +kernel
theorem dX0_findChanged_25 : decode cX0_findChanged 25 = .ok (.iinc 3 1, 3) := by decide +kernel
theorem dX0_findChanged_28 : decode cX0_findChanged 28 = .ok (.goto (-24), 3) := by decide +kernel
theorem dX0_findChanged_31 : decode cX0_findChanged 31 = .ok (.iload_n 2, 1) := by decide +kernel
theorem dX0_findChanged_32 : decode cX0_findChanged 32 = .ok (.ireturn, 1) := by decide +kernel
set_option maxRecDepth 20000 in
theorem ggX0_looksChanged_X0_findValue : GoodIn wsX0_looksChanged wsX0_findValue := goodIn_r _ [6, 7, 8, 9, 10, 5, 11, 12, 13, 14, 15, 16, 17, 18, 19, 20, 21, 22, 23, 24, 25, 26, 27, 28, 29, 30, 31, 32, 33, 34, 35, 36, 37, 38, 39, 40, 41, 42, 43, 44, 45, 46] (by decide +kernel) (by decide +kernel)
set_option maxRecDepth 20000 in
theorem gX0_looksChanged_X0_findValue : GoodIn wsX0_looksChanged (wsV RX0 179 RX0 yX0_findValue wsX0_findValue) := goodIn_app (goodIn_of _ (by decide +kernel)) ggX0_looksChanged_X0_findValue
theorem dX0_looksChanged_0 : decode cX0_looksChanged 0 = .ok (.iload_n 2, 1) := by decide +kernel
theorem dX0_looksChanged_1 : decode cX0_looksChanged 1 = .ok (.sipush 288, 3) := by decide +kernel
theorem dX0_looksChanged_4 : decode cX0_looksChanged 4 = .ok (.imul, 1) := by decide +kernel
theorem dX0_looksChanged_5 : decode cX0_looksChanged 5 = .ok (.iload_n 1, 1) := by decide +kernel
theorem dX0_looksChanged_6 : decode cX0_looksChanged 6 = .ok (.bipush 18, 2) := by decide +kernel
theorem dX0_looksChanged_8 : decode cX0_looksChanged 8 = .ok (.imul, 1) := by decide +kernel
theorem dX0_looksChanged_9 : decode cX0_looksChanged 9 = .ok (.iadd, 1) := by decide +kernel
theorem dX0_looksChanged_10 : decode cX0_looksChanged 10 = .ok (.istore_n 3, 1) := by decide +kernel
theorem dX0_looksChanged_11 : decode cX0_looksChanged 11 = .ok (.iconst 0, 1) := by decide +kernel
theorem dX0_looksChanged_12 : decode cX0_looksChanged 12 = .ok (.istore 4, 2) := by decide +kernel
theorem dX0_looksChanged_14 : decode cX0_looksChanged 14 = .ok (.iload 4, 2) := by decide +kernel
theorem dX0_looksChanged_16 : decode cX0_looksChanged 16 = .ok (.bipush 18, 2) := by decide +kernel
theorem dX0_looksChanged_18 : decode cX0_looksChanged 18 = .ok (.if_icmp .ge 37, 3) := by decide +kernel
theorem dX0_looksChanged_21 : decode cX0_looksChanged 21 = .ok (.aload_n 0, 1) := by decide +kernel
theorem dX0_looksChanged_22 : decode cX0_looksChanged 22 = .ok (.getfield 54, 3) := by decide +kernel
theorem dX0_looksChanged_25 : decode cX0_looksChanged 25 = .ok (.iload_n 3, 1) := by decide +kernel
theorem dX0_looksChanged_26 : decode cX0_looksChanged 26 = .ok (.iload 4, 2) := by decide +kernel
theorem dX0_looksChanged_28 : decode cX0_looksChanged 28 = .ok (.iadd, 1) := by decide +kernel
theorem dX0_looksChanged_29 : decode cX0_looksChanged 29 = .ok (.iaload, 1) := by decide +kernel
theorem dX0_looksChanged_30 : decode cX0_looksChanged 30 = .ok (.aload_n 0, 1) := by decide +kernel
theorem dX0_looksChanged_31 : decode cX0_looksChanged 31 = .ok (.iload_n 1, 1) := by decide +kernel
theorem dX0_looksChanged_32 : decode cX0_looksChanged 32 = .ok (.iload 4, 2) := by decide +kernel
theorem dX0_looksChanged_34 : decode cX0_looksChanged 34 = .ok (.iconst 3, 1) := by decide +kernel
theorem dX0_looksChanged_35 : decode cX0_looksChanged 35 = .ok (.idiv, 1) := by decide +kernel
theorem dX0_looksChanged_36 : decode cX0_looksChanged 36 = .ok (.iload_n 2, 1) := by decide +kernel
theorem dX0_looksChanged_37 : decode cX0_looksChanged 37 = .ok (.iload 4, 2) := by decide +kernel
theorem dX0_looksChanged_39 : decode cX0_looksChanged 39 = .ok (.iconst 3, 1) := by decide +kernel
theorem dX0_looksChanged_40 : decode cX0_looksChanged 40 = .ok (.irem, 1) := by decide +kernel
theorem dX0_looksChanged_41 : decode cX0_looksChanged 41 = .ok (.invokevirtual 179, 3) := by decide +kernel
theorem dX0_looksChanged_44 : decode cX0_looksChanged 44 = .ok (.if_icmp .eq 5, 3) := by decide +kernel
theorem dX0_looksChanged_47 : decode cX0_looksChanged 47 = .ok (.iconst 1, 1) := by decide +kernel
theorem dX0_looksChanged_48 : decode cX0_looksChanged 48 = .ok (.ireturn, 1) := by decide +kernel
theorem dX0_looksChanged_49 : decode cX0_looksChanged 49 = .ok (.iinc 4 1, 3) := by decide +kernel
theorem dX0_looksChanged_52 : decode cX0_looksChanged 52 = .ok (.goto (-38), 3) := by decide +kernel
theorem dX0_looksChanged_55 : decode cX0_looksChanged 55 = .ok (.iconst 0, 1) := by decide +kernel
theorem dX0_looksChanged_56 : decode cX0_looksChanged 56 = .ok (.ireturn, 1) := by decide +kernel
