theorem dX0_init_0 : decode cX0_init 0 = .ok (.aload_n 0, 1) := by decide +kernel
theorem dX0_init_1 : decode cX0_init 1 = .ok (.invokespecial 3, 3) := by decide +kernel
theorem dX0_init_4 : decode cX0_init 4 = .ok (.aload_n 0, 1) := by decide +kernel
theorem dX0_init_5 : decode cX0_init 5 = .ok (.bipush 16, 2) := by decide +kernel
theorem dX0_init_7 : decode cX0_init 7 = .ok (.newarray .boolean, 2) := by decide +kernel
theorem dX0_init_9 : decode cX0_init 9 = .ok (.putfield 9, 3) := by decide +kernel
theorem dX0_init_12 : decode cX0_init 12 = .ok (.aload_n 0, 1) := by decide +kernel
theorem dX0_init_13 : decode cX0_init 13 = .ok (.bipush 16, 2) := by decide +kernel
theorem dX0_init_15 : decode cX0_init 15 = .ok (.newarray .int, 2) := by decide +kernel
theorem dX0_init_17 : decode cX0_init 17 = .ok (.putfield 13, 3) := by decide +kernel
theorem dX0_init_20 : decode cX0_init 20 = .ok (.aload_n 0, 1) := by decide +kernel
theorem dX0_init_21 : decode cX0_init 21 = .ok (.bipush 16, 2) := by decide +kernel
theorem dX0_init_23 : decode cX0_init 23 = .ok (.newarray .int, 2) := by decide +kernel
theorem dX0_init_25 : decode cX0_init 25 = .ok (.putfield 17, 3) := by decide +kernel
theorem dX0_init_28 : decode cX0_init 28 = .ok (.aload_n 0, 1) := by decide +kernel
theorem dX0_init_29 : decode cX0_init 29 = .ok (.sipush 256, 3) := by decide +kernel
theorem dX0_init_32 : decode cX0_init 32 = .ok (.newarray .int, 2) := by decide +kernel
theorem dX0_init_34 : decode cX0_init 34 = .ok (.putfield 20, 3) := by decide +kernel
theorem dX0_init_37 : decode cX0_init 37 = .ok (.aload_n 0, 1) := by decide +kernel
theorem dX0_init_38 : decode cX0_init 38 = .ok (.iconst 0, 1) := by decide +kernel
theorem dX0_init_39 : decode cX0_init 39 = .ok (.putfield 23, 3) := by decide +kernel
theorem dX0_init_42 : decode cX0_init 42 = .ok (.aload_n 0, 1) := by decide +kernel
theorem dX0_init_43 : decode cX0_init 43 = .ok (.sipush 200, 3) := by decide +kernel
theorem dX0_init_46 : decode cX0_init 46 = .ok (.newarray .int, 2) := by decide +kernel
theorem dX0_init_48 : decode cX0_init 48 = .ok (.putfield 27, 3) := by decide +kernel
theorem dX0_init_51 : decode cX0_init 51 = .ok (.aload_n 0, 1) := by decide +kernel
theorem dX0_init_52 : decode cX0_init 52 = .ok (.sipush 200, 3) := by decide +kernel
theorem dX0_init_55 : decode cX0_init 55 = .ok (.newarray .int, 2) := by decide +kernel
theorem dX0_init_57 : decode cX0_init 57 = .ok (.putfield 30, 3) := by decide +kernel
theorem dX0_init_60 : decode cX0_init 60 = .ok (.aload_n 0, 1) := by decide +kernel
theorem dX0_init_61 : decode cX0_init 61 = .ok (.sipush 200, 3) := by decide +kernel
theorem dX0_init_64 : decode cX0_init 64 = .ok (.newarray .int, 2) := by decide +kernel
theorem dX0_init_66 : decode cX0_init 66 = .ok (.putfield 33, 3) := by decide +kernel
theorem dX0_init_69 : decode cX0_init 69 = .ok (.aload_n 0, 1) := by decide +kernel
theorem dX0_init_70 : decode cX0_init 70 = .ok (.sipush 200, 3) := by decide +kernel
theorem dX0_init_73 : decode cX0_init 73 = .ok (.newarray .int, 2) := by decide +kernel
theorem dX0_init_75 : decode cX0_init 75 = .ok (.putfield 36, 3) := by decide +kernel
theorem dX0_init_78 : decode cX0_init 78 = .ok (.aload_n 0, 1) := by decide +kernel
theorem dX0_init_79 : decode cX0_init 79 = .ok (.sipush 200, 3) := by decide +kernel
theorem dX0_init_82 : decode cX0_init 82 = .ok (.newarray .int, 2) := by decide +kernel
theorem dX0_init_84 : decode cX0_init 84 = .ok (.putfield 39, 3) := by decide +kernel
theorem dX0_init_87 : decode cX0_init 87 = .ok (.aload_n 0, 1) := by decide +kernel
theorem dX0_init_88 : decode cX0_init 88 = .ok (.iconst 0, 1) := by decide +kernel
theorem dX0_init_89 : decode cX0_init 89 = .ok (.putfield 42, 3) := by decide +kernel
theorem dX0_init_92 : decode cX0_init 92 = .ok (.aload_n 0, 1) := by decide +kernel
theorem dX0_init_93 : decode cX0_init 93 = .ok (.iconst 0, 1) := by decide +kernel
theorem dX0_init_94 : decode cX0_init 94 = .ok (.putfield 45, 3) := by decide +kernel
theorem dX0_init_97 : decode cX0_init 97 = .ok (.aload_n 0, 1) := by decide +kernel
theorem dX0_init_98 : decode cX0_init 98 = .ok (.sipush 1536, 3) := by decide +kernel
theorem dX0_init_101 : decode cX0_init 101 = .ok (.newarray .int, 2) := by decide +kernel
theorem dX0_init_103 : decode cX0_init 103 = .ok (.putfield 48, 3) := by decide +kernel
theorem dX0_init_106 : decode cX0_init 106 = .ok (.aload_n 0, 1) := by decide +kernel
theorem dX0_init_107 : decode cX0_init 107 = .ok (.bipush 18, 2) := by decide +kernel
theorem dX0_init_109 : decode cX0_init 109 = .ok (.newarray .boolean, 2) := by decide +kernel
theorem dX0_init_111 : decode cX0_init 111 = .ok (.putfield 51, 3) := by decide +kernel
theorem dX0_init_114 : decode cX0_init 114 = .ok (.aload_n 0, 1) := by decide +kernel
theorem dX0_init_115 : decode cX0_init 115 = .ok (.sipush 864, 3) := by decide +kernel
theorem dX0_init_118 : decode cX0_init 118 = .ok (.newarray .int, 2) := by decide +kernel
theorem dX0_init_120 : decode cX0_init 120 = .ok (.putfield 54, 3) := by decide +kernel
theorem dX0_init_123 : decode cX0_init 123 = .ok (.aload_n 0, 1) := by decide +kernel
theorem dX0_init_124 : decode cX0_init 124 = .ok (.bipush 16, 2) := by decide +kernel
theorem dX0_init_126 : decode cX0_init 126 = .ok (.newarray .int, 2) := by decide +kernel
theorem dX0_init_128 : decode cX0_init 128 = .ok (.putfield 57, 3) := by decide +kernel
theorem dX0_init_131 : decode cX0_init 131 = .ok (.iconst 0, 1) := by decide +kernel
theorem dX0_init_132 : decode cX0_init 132 = .ok (.istore_n 1, 1) := by decide +kernel
theorem dX0_init_133 : decode cX0_init 133 = .ok (.iload_n 1, 1) := by decide +kernel
theorem dX0_init_134 : decode cX0_init 134 = .ok (.aload_n 0, 1) := by decide +kernel
theorem dX0_init_135 : decode cX0_init 135 = .ok (.getfield 13, 3) := by decide +kernel
theorem dX0_init_138 : decode cX0_init 138 = .ok (.arraylength, 1) := by decide +kernel
theorem dX0_init_139 : decode cX0_init 139 = .ok (.if_icmp .ge 16, 3) := by decide +kernel
theorem dX0_init_142 : decode cX0_init 142 = .ok (.aload_n 0, 1) := by decide +kernel
theorem dX0_init_143 : decode cX0_init 143 = .ok (.getfield 13, 3) := by decide +kernel
theorem dX0_init_146 : decode cX0_init 146 = .ok (.iload_n 1, 1) := by decide +kernel
theorem dX0_init_147 : decode cX0_init 147 = .ok (.iconst (-1), 1) := by decide +kernel
theorem dX0_init_148 : decode cX0_init 148 = .ok (.iastore, 1) := by decide +kernel
theorem dX0_init_149 : decode cX0_init 149 = .ok (.iinc 1 1, 3) := by decide +kernel
theorem dX0_init_152 : decode cX0_init 152 = .ok (.goto (-19), 3) := by decide +kernel
theorem dX0_init_155 : decode cX0_init 155 = .ok (.iconst 0, 1) := by decide +kernel
theorem dX0_init_156 : decode cX0_init 156 = .ok (.istore_n 1, 1) := by decide +kernel
theorem dX0_init_157 : decode cX0_init 157 = .ok (.iload_n 1, 1) := by decide +kernel
theorem dX0_init_158 : decode cX0_init 158 = .ok (.aload_n 0, 1) := by decide +kernel
theorem dX0_init_159 : decode cX0_init 159 = .ok (.getfield 48, 3) := by decide +kernel
theorem dX0_init_162 : decode cX0_init 162 = .ok (.arraylength, 1) := by decide +kernel
theorem dX0_init_163 : decode cX0_init 163 = .ok (.if_icmp .ge 16, 3) := by decide +kernel
theorem dX0_init_166 : decode cX0_init 166 = .ok (.aload_n 0, 1) := by decide +kernel
theorem dX0_init_167 : decode cX0_init 167 = .ok (.getfield 48, 3) := by decide +kernel
theorem dX0_init_170 : decode cX0_init 170 = .ok (.iload_n 1, 1) := by decide +kernel
theorem dX0_init_171 : decode cX0_init 171 = .ok (.iconst (-1), 1) := by decide +kernel
theorem dX0_init_172 : decode cX0_init 172 = .ok (.iastore, 1) := by decide +kernel
theorem dX0_init_173 : decode cX0_init 173 = .ok (.iinc 1 1, 3) := by decide +kernel
theorem dX0_init_176 : decode cX0_init 176 = .ok (.goto (-19), 3) := by decide +kernel
theorem dX0_init_179 : decode cX0_init 179 = .ok (.iconst 0, 1) := by decide +kernel
theorem dX0_init_180 : decode cX0_init 180 = .ok (.istore_n 1, 1) := by decide +kernel
theorem dX0_init_181 : decode cX0_init 181 = .ok (.iload_n 1, 1) := by decide +kernel
theorem dX0_init_182 : decode cX0_init 182 = .ok (.aload_n 0, 1) := by decide +kernel
theorem dX0_init_183 : decode cX0_init 183 = .ok (.getfield 54, 3) := by decide +kernel
theorem dX0_init_186 : decode cX0_init 186 = .ok (.arraylength, 1) := by decide +kernel
theorem dX0_init_187 : decode cX0_init 187 = .ok (.if_icmp .ge 16, 3) := by decide +kernel
theorem dX0_init_190 : decode cX0_init 190 = .ok (.aload_n 0, 1) := by decide +kernel
theorem dX0_init_191 : decode cX0_init 191 = .ok (.getfield 54, 3) := by decide +kernel
theorem dX0_init_194 : decode cX0_init 194 = .ok (.iload_n 1, 1) := by decide +kernel
theorem dX0_init_195 : decode cX0_init 195 = .ok (.iconst (-1), 1) := by decide +kernel
theorem dX0_init_196 : decode cX0_init 196 = .ok (.iastore, 1) := by decide +kernel
theorem dX0_init_197 : decode cX0_init 197 = .ok (.iinc 1 1, 3) := by decide +kernel
theorem dX0_init_200 : decode cX0_init 200 = .ok (.goto (-19), 3) := by decide +kernel
theorem dX0_init_203 : decode cX0_init 203 = .ok (.return_, 1) := by decide +kernel
set_option maxRecDepth 20000 in
theorem ggX0_addGood_X0_checkParent : GoodIn wsX0_addGood wsX0_checkParent := goodIn_ca (goodIn_r _ [10, 11, 12, 13, 14, 15, 9, 16, 4, 21, 22, 23, 24, 25, 26, 27, 28, 29, 30, 31, 32, 33, 34, 35, 36] (by decide +kernel) (by decide +kernel)) (goodIn_sub (fun _ h => List.mem_cons_of_mem _ (List.mem_append_right _ h)) (by decide +kernel))
set_option maxRecDepth 20000 in
theorem gX0_addGood_X0_checkParent : GoodIn wsX0_addGood (wsV RX0 60 RX0 yX0_checkParent wsX0_checkParent) := goodIn_app (goodIn_of _ (by decide +kernel)) ggX0_addGood_X0_checkParent
set_option maxRecDepth 20000 in
theorem ggX0_addGood_X0_levelOf : GoodIn wsX0_addGood wsX0_levelOf := goodIn_r _ [20, 5, 13, 14, 15, 9, 16, 4, 21, 22, 23, 24, 25, 26, 27, 28, 29, 30, 31, 32, 33, 34, 35, 36] (by decide +kernel) (by decide +kernel)
set_option maxRecDepth 20000 in
theorem gX0_addGood_X0_levelOf : GoodIn wsX0_addGood (wsV RX0 64 RX0 yX0_levelOf wsX0_levelOf) := goodIn_app (goodIn_of _ (by decide +kernel)) ggX0_addGood_X0_levelOf
theorem dX0_addGood_0 : decode cX0_addGood 0 = .ok (.aload_n 0, 1) := by decide +kernel
theorem dX0_addGood_1 : decode cX0_addGood 1 = .ok (.iload_n 1, 1) := by decide +kernel
theorem dX0_addGood_2 : decode cX0_addGood 2 = .ok (.invokevirtual 60, 3) := by decide +kernel
theorem dX0_addGood_5 : decode cX0_addGood 5 = .ok (.aload_n 0, 1) := by decide +kernel
theorem dX0_addGood_6 : decode cX0_addGood 6 = .ok (.iload_n 1, 1) := by decide +kernel
theorem dX0_addGood_7 : decode cX0_addGood 7 = .ok (.invokevirtual 64, 3) := by decide +kernel
theorem dX0_addGood_10 : decode cX0_addGood 10 = .ok (.iconst 1, 1) := by decide +kernel
theorem dX0_addGood_11 : decode cX0_addGood 11 = .ok (.iadd, 1) := by decide +kernel
theorem dX0_addGood_12 : decode cX0_addGood 12 = .ok (.iconst 3, 1) := by decide +kernel
theorem dX0_addGood_13 : decode cX0_addGood 13 = .ok (.if_icmp .lt 13, 3) := by decide +kernel
theorem dX0_addGood_16 : decode cX0_addGood 16 = .ok (.new 68, 3) := by decide +kernel
theorem dX0_addGood_19 : decode cX0_addGood 19 = .ok (.dup, 1) := by decide +kernel
theorem dX0_addGood_20 : decode cX0_addGood 20 = .ok (.ldc 70, 2) := by decide +kernel
theorem dX0_addGood_22 : decode cX0_addGood 22 = .ok (.invokespecial 72, 3) := by decide +kernel
theorem dX0_addGood_25 : decode cX0_addGood 25 = .ok (.athrow, 1) := by decide +kernel
theorem dX0_addGood_26 : decode cX0_addGood 26 = .ok (.aload_n 0, 1) := by decide +kernel
theorem dX0_addGood_27 : decode cX0_addGood 27 = .ok (.getfield 23, 3) := by decide +kernel
theorem dX0_addGood_30 : decode cX0_addGood 30 = .ok (.bipush 16, 2) := by decide +kernel
theorem dX0_addGood_32 : decode cX0_addGood 32 = .ok (.if_icmp .lt 13, 3) := by decide +kernel
theorem dX0_addGood_35 : decode cX0_addGood 35 = .ok (.new 68, 3) := by decide +kernel
theorem dX0_addGood_38 : decode cX0_addGood 38 = .ok (.dup, 1) := by decide +kernel
theorem dX0_addGood_39 : decode cX0_addGood 39 = .ok (.ldc 75, 2) := by decide +kernel
theorem dX0_addGood_41 : decode cX0_addGood 41 = .ok (.invokespecial 72, 3) := by decide +kernel
theorem dX0_addGood_44 : decode cX0_addGood 44 = .ok (.athrow, 1) := by decide +kernel
theorem dX0_addGood_45 : decode cX0_addGood 45 = .ok (.aload_n 0, 1) := by decide +kernel
theorem dX0_addGood_46 : decode cX0_addGood 46 = .ok (.getfield 23, 3) := by decide +kernel
theorem dX0_addGood_49 : decode cX0_addGood 49 = .ok (.istore_n 2, 1) := by decide +kernel
theorem dX0_addGood_50 : decode cX0_addGood 50 = .ok (.aload_n 0, 1) := by decide +kernel
theorem dX0_addGood_51 : decode cX0_addGood 51 = .ok (.dup, 1) := by decide +kernel
theorem dX0_addGood_52 : decode cX0_addGood 52 = .ok (.getfield 23, 3) := by decide +kernel
theorem dX0_addGood_55 : decode cX0_addGood 55 = .ok (.iconst 1, 1) := by decide +kernel
theorem dX0_addGood_56 : decode cX0_addGood 56 = .ok (.iadd, 1) := by decide +kernel
theorem dX0_addGood_57 : decode cX0_addGood 57 = .ok (.putfield 23, 3) := by decide +kernel
theorem dX0_addGood_60 : decode cX0_addGood 60 = .ok (.aload_n 0, 1) := by decide +kernel
theorem dX0_addGood_61 : decode cX0_addGood 61 = .ok (.getfield 9, 3) := by decide +kernel
theorem dX0_addGood_64 : decode cX0_addGood 64 = .ok (.iload_n 2, 1) := by decide +kernel
theorem dX0_addGood_65 : decode cX0_addGood 65 = .ok (.iconst 1, 1) := by decide +kernel
theorem dX0_addGood_66 : decode cX0_addGood 66 = .ok (.bastore, 1) := by decide +kernel
theorem dX0_addGood_67 : decode cX0_addGood 67 = .ok (.aload_n 0, 1) := by decide +kernel
theorem dX0_addGood_68 : decode cX0_addGood 68 = .ok (.getfield 13, 3) := by decide +kernel
theorem dX0_addGood_71 : decode cX0_addGood 71 = .ok (.iload_n 2, 1) := by decide +kernel
theorem dX0_addGood_72 : decode cX0_addGood 72 = .ok (.iload_n 1, 1) := by decide +kernel
theorem dX0_addGood_73 : decode cX0_addGood 73 = .ok (.iastore, 1) := by decide +kernel
theorem dX0_addGood_74 : decode cX0_addGood 74 = .ok (.iload_n 2, 1) := by decide +kernel
theorem dX0_addGood_75 : decode cX0_addGood 75 = .ok (.ireturn, 1) := by decide +kernel
set_option maxRecDepth 20000 in
theorem ggX0_move_X0_checkGood : GoodIn wsX0_move wsX0_checkGood := goodIn_ca (goodIn_r _ [8, 9, 10, 11, 12, 13, 7, 14, 15, 36, 37, 38, 39, 40, 41, 42, 43, 44, 45, 46, 47, 48, 49, 50, 51] (by decide +kernel) (by decide +kernel)) (goodIn_sub (fun _ h => List.mem_cons_of_mem _ (List.mem_append_right _ h)) (by decide +kernel))
set_option maxRecDepth 20000 in
theorem gX0_move_X0_checkGood : GoodIn wsX0_move (wsV RX0 77 RX0 yX0_checkGood wsX0_checkGood) := goodIn_app (goodIn_of _ (by decide +kernel)) ggX0_move_X0_checkGood
set_option maxRecDepth 20000 in
theorem ggX0_move_X0_checkParent : GoodIn wsX0_move wsX0_checkParent := goodIn_ca (goodIn_r _ [19, 9, 10, 11, 12, 13, 7, 14, 15, 36, 37, 38, 39, 40, 41, 42, 43, 44, 45, 46, 47, 48, 49, 50, 51] (by decide +kernel) (by decide +kernel)) (goodIn_sub (fun _ h => List.mem_cons_of_mem _ (List.mem_append_right _ h)) (by decide +kernel))
set_option maxRecDepth 20000 in
theorem gX0_move_X0_checkParent : GoodIn wsX0_move (wsV RX0 60 RX0 yX0_checkParent wsX0_checkParent) := goodIn_app (goodIn_of _ (by decide +kernel)) ggX0_move_X0_checkParent
set_option maxRecDepth 20000 in
theorem ggX0_move_X0_isWithin : GoodIn wsX0_move wsX0_isWithin := goodIn_r _ [23, 3, 11, 12, 13, 7, 14, 15, 36, 37, 38, 39, 40, 41, 42, 43, 44, 45, 46, 47, 48, 49, 50, 51] (by decide +kernel) (by decide +kernel)
set_option maxRecDepth 20000 in
theorem gX0_move_X0_isWithin : GoodIn wsX0_move (wsV RX0 80 RX0 yX0_isWithin wsX0_isWithin) := goodIn_app (goodIn_of _ (by decide +kernel)) ggX0_move_X0_isWithin
set_option maxRecDepth 20000 in
theorem ggX0_move_X0_levelOf : GoodIn wsX0_move wsX0_levelOf := goodIn_r _ [27, 3, 11, 12, 13, 7, 14, 15, 36, 37, 38, 39, 40, 41, 42, 43, 44, 45, 46, 47, 48, 49, 50, 51] (by decide +kernel) (by decide +kernel)
set_option maxRecDepth 20000 in
theorem gX0_move_X0_levelOf : GoodIn wsX0_move (wsV RX0 64 RX0 yX0_levelOf wsX0_levelOf) := goodIn_app (goodIn_of _ (by decide +kernel)) ggX0_move_X0_levelOf
set_option maxRecDepth 20000 in
theorem ggX0_move_X0_levelsWithin : GoodIn wsX0_move wsX0_levelsWithin := goodIn_r _ [31, 32, 33, 34, 35, 24, 25, 26, 7, 27, 3, 11, 12, 13, 14, 15, 20, 21, 22, 23, 36, 37, 38, 39, 40, 41, 42, 43, 44, 45, 46, 47, 48, 49, 50, 51] (by decide +kernel) (by decide +kernel)
set_option maxRecDepth 20000 in
theorem gX0_move_X0_levelsWithin : GoodIn wsX0_move (wsV RX0 86 RX0 yX0_levelsWithin wsX0_levelsWithin) := goodIn_app (goodIn_of _ (by decide +kernel)) ggX0_move_X0_levelsWithin
theorem dX0_move_0 : decode cX0_move 0 = .ok (.aload_n 0, 1) := by decide +kernel
theorem dX0_move_1 : decode cX0_move 1 = .ok (.iload_n 1, 1) := by decide +kernel
theorem dX0_move_2 : decode cX0_move 2 = .ok (.invokevirtual 77, 3) := by decide +kernel
theorem dX0_move_5 : decode cX0_move 5 = .ok (.aload_n 0, 1) := by decide +kernel
theorem dX0_move_6 : decode cX0_move 6 = .ok (.iload_n 2, 1) := by decide +kernel
theorem dX0_move_7 : decode cX0_move 7 = .ok (.invokevirtual 60, 3) := by decide +kernel
theorem dX0_move_10 : decode cX0_move 10 = .ok (.aload_n 0, 1) := by decide +kernel
theorem dX0_move_11 : decode cX0_move 11 = .ok (.iload_n 2, 1) := by decide +kernel
theorem dX0_move_12 : decode cX0_move 12 = .ok (.iload_n 1, 1) := by decide +kernel
theorem dX0_move_13 : decode cX0_move 13 = .ok (.invokevirtual 80, 3) := by decide +kernel
theorem dX0_move_16 : decode cX0_move 16 = .ok (.ifCond .eq 13, 3) := by decide +kernel
theorem dX0_move_19 : decode cX0_move 19 = .ok (.new 68, 3) := by decide +kernel
theorem dX0_move_22 : decode cX0_move 22 = .ok (.dup, 1) := by decide +kernel
theorem dX0_move_23 : decode cX0_move 23 = .ok (.ldc 84, 2) := by decide +kernel
theorem dX0_move_25 : decode cX0_move 25 = .ok (.invokespecial 72, 3) := by decide +kernel
theorem dX0_move_28 : decode cX0_move 28 = .ok (.athrow, 1) := by decide +kernel
theorem dX0_move_29 : decode cX0_move 29 = .ok (.aload_n 0, 1) := by decide +kernel
theorem dX0_move_30 : decode cX0_move 30 = .ok (.iload_n 2, 1) := by decide +kernel
theorem dX0_move_31 : decode cX0_move 31 = .ok (.invokevirtual 64, 3) := by decide +kernel
theorem dX0_move_34 : decode cX0_move 34 = .ok (.aload_n 0, 1) := by decide +kernel
theorem dX0_move_35 : decode cX0_move 35 = .ok (.iload_n 1, 1) := by decide +kernel
theorem dX0_move_36 : decode cX0_move 36 = .ok (.invokevirtual 86, 3) := by decide +kernel
theorem dX0_move_39 : decode cX0_move 39 = .ok (.iadd, 1) := by decide +kernel
theorem dX0_move_40 : decode cX0_move 40 = .ok (.iconst 3, 1) := by decide +kernel
theorem dX0_move_41 : decode cX0_move 41 = .ok (.if_icmp .lt 13, 3) := by decide +kernel
theorem dX0_move_44 : decode cX0_move 44 = .ok (.new 68, 3) := by decide +kernel
theorem dX0_move_47 : decode cX0_move 47 = .ok (.dup, 1) := by decide +kernel
theorem dX0_move_48 : decode cX0_move 48 = .ok (.ldc 89, 2) := by decide +kernel
theorem dX0_move_50 : decode cX0_move 50 = .ok (.invokespecial 72, 3) := by decide +kernel
theorem dX0_move_53 : decode cX0_move 53 = .ok (.athrow, 1) := by decide +kernel
theorem dX0_move_54 : decode cX0_move 54 = .ok (.aload_n 0, 1) := by decide +kernel
theorem dX0_move_55 : decode cX0_move 55 = .ok (.getfield 13, 3) := by decide +kernel
theorem dX0_move_58 : decode cX0_move 58 = .ok (.iload_n 1, 1) := by decide +kernel
theorem dX0_move_59 : decode cX0_move 59 = .ok (.iaload, 1) := by decide +kernel
theorem dX0_move_60 : decode cX0_move 60 = .ok (.istore_n 3, 1) := by decide +kernel
theorem dX0_move_61 : decode cX0_move 61 = .ok (.aload_n 0, 1) := by decide +kernel
theorem dX0_move_62 : decode cX0_move 62 = .ok (.getfield 13, 3) := by decide +kernel
theorem dX0_move_65 : decode cX0_move 65 = .ok (.iload_n 1, 1) := by decide +kernel
theorem dX0_move_66 : decode cX0_move 66 = .ok (.iload_n 2, 1) := by decide +kernel
theorem dX0_move_67 : decode cX0_move 67 = .ok (.iastore, 1) := by decide +kernel
theorem dX0_move_68 : decode cX0_move 68 = .ok (.iload_n 3, 1) := by decide +kernel
theorem dX0_move_69 : decode cX0_move 69 = .ok (.ireturn, 1) := by decide +kernel
set_option maxRecDepth 20000 in
theorem ggX0_delete_X0_checkGood : GoodIn wsX0_delete wsX0_checkGood := goodIn_ca (goodIn_r _ [10, 11, 12, 13, 14, 15, 9, 16, 3, 48, 49, 50, 51, 52, 53, 54, 55, 56, 57, 58, 59, 60, 61, 62, 63] (by decide +kernel) (by decide +kernel)) (goodIn_sub (fun _ h => List.mem_cons_of_mem _ (List.mem_append_right _ h)) (by decide +kernel))
set_option maxRecDepth 20000 in
theorem gX0_delete_X0_checkGood : GoodIn wsX0_delete (wsV RX0 77 RX0 yX0_checkGood wsX0_checkGood) := goodIn_app (goodIn_of _ (by decide +kernel)) ggX0_delete_X0_checkGood
set_option maxRecDepth 20000 in
theorem ggX0_delete_X0_isParent : GoodIn wsX0_delete wsX0_isParent := goodIn_r _ [20, 4, 48, 49, 50, 51, 52, 53, 54, 55, 56, 57, 58, 59, 60, 61, 62, 63] (by decide +kernel) (by decide +kernel)
set_option maxRecDepth 20000 in
theorem gX0_delete_X0_isParent : GoodIn wsX0_delete (wsV RX0 91 RX0 yX0_isParent wsX0_isParent) := goodIn_app (goodIn_of _ (by decide +kernel)) ggX0_delete_X0_isParent
set_option maxRecDepth 20000 in
theorem ggX0_delete_X0_isPart : GoodIn wsX0_delete wsX0_isPart := goodIn_r _ [24, 5, 48, 49, 50, 51, 52, 53, 54, 55, 56, 57, 58, 59, 60, 61, 62, 63] (by decide +kernel) (by decide +kernel)
set_option maxRecDepth 20000 in
theorem gX0_delete_X0_isPart : GoodIn wsX0_delete (wsV RX0 97 RX0 yX0_isPart wsX0_isPart) := goodIn_app (goodIn_of _ (by decide +kernel)) ggX0_delete_X0_isPart
set_option maxRecDepth 20000 in
theorem ggX0_delete_X0_deleteDraftsOf : GoodIn wsX0_delete wsX0_deleteDraftsOf := goodIn_r _ [28, 29, 30, 31, 48, 49, 50, 51, 52, 53, 54, 55, 56, 57, 58, 59, 60, 61, 62, 63] (by decide +kernel) (by decide +kernel)
set_option maxRecDepth 20000 in
theorem gX0_delete_X0_deleteDraftsOf : GoodIn wsX0_delete (wsV RX0 102 RX0 yX0_deleteDraftsOf wsX0_deleteDraftsOf) := goodIn_app (goodIn_of _ (by decide +kernel)) ggX0_delete_X0_deleteDraftsOf
set_option maxRecDepth 20000 in
theorem ggX0_delete_X0_settleHolders : GoodIn wsX0_delete wsX0_settleHolders := goodIn_r _ [35, 36, 29, 31, 37, 38, 39, 40, 41, 9, 42, 43, 44, 45, 46, 47, 48, 49, 50, 51, 52, 53, 54, 55, 56, 57, 58, 59, 60, 61, 62, 63] (by decide +kernel) (by decide +kernel)
set_option maxRecDepth 20000 in
theorem gX0_delete_X0_settleHolders : GoodIn wsX0_delete (wsV RX0 105 RX0 yX0_settleHolders wsX0_settleHolders) := goodIn_app (goodIn_of _ (by decide +kernel)) ggX0_delete_X0_settleHolders
theorem dX0_delete_0 : decode cX0_delete 0 = .ok (.aload_n 0, 1) := by decide +kernel
theorem dX0_delete_1 : decode cX0_delete 1 = .ok (.iload_n 1, 1) := by decide +kernel
theorem dX0_delete_2 : decode cX0_delete 2 = .ok (.invokevirtual 77, 3) := by decide +kernel
theorem dX0_delete_5 : decode cX0_delete 5 = .ok (.aload_n 0, 1) := by decide +kernel
theorem dX0_delete_6 : decode cX0_delete 6 = .ok (.iload_n 1, 1) := by decide +kernel
theorem dX0_delete_7 : decode cX0_delete 7 = .ok (.invokevirtual 91, 3) := by decide +kernel
theorem dX0_delete_10 : decode cX0_delete 10 = .ok (.ifCond .eq 13, 3) := by decide +kernel
theorem dX0_delete_13 : decode cX0_delete 13 = .ok (.new 68, 3) := by decide +kernel
theorem dX0_delete_16 : decode cX0_delete 16 = .ok (.dup, 1) := by decide +kernel
theorem dX0_delete_17 : decode cX0_delete 17 = .ok (.ldc 95, 2) := by decide +kernel
theorem dX0_delete_19 : decode cX0_delete 19 = .ok (.invokespecial 72, 3) := by decide +kernel
theorem dX0_delete_22 : decode cX0_delete 22 = .ok (.athrow, 1) := by decide +kernel
theorem dX0_delete_23 : decode cX0_delete 23 = .ok (.aload_n 0, 1) := by decide +kernel
theorem dX0_delete_24 : decode cX0_delete 24 = .ok (.iload_n 1, 1) := by decide +kernel
theorem dX0_delete_25 : decode cX0_delete 25 = .ok (.invokevirtual 97, 3) := by decide +kernel
theorem dX0_delete_28 : decode cX0_delete 28 = .ok (.ifCond .eq 13, 3) := by decide +kernel
theorem dX0_delete_31 : decode cX0_delete 31 = .ok (.new 68, 3) := by decide +kernel
theorem dX0_delete_34 : decode cX0_delete 34 = .ok (.dup, 1) := by decide +kernel
theorem dX0_delete_35 : decode cX0_delete 35 = .ok (.ldc 100, 2) := by decide +kernel
theorem dX0_delete_37 : decode cX0_delete 37 = .ok (.invokespecial 72, 3) := by decide +kernel
theorem dX0_delete_40 : decode cX0_delete 40 = .ok (.athrow, 1) := by decide +kernel
theorem dX0_delete_41 : decode cX0_delete 41 = .ok (.aload_n 0, 1) := by decide +kernel
theorem dX0_delete_42 : decode cX0_delete 42 = .ok (.getfield 9, 3) := by decide +kernel
theorem dX0_delete_45 : decode cX0_delete 45 = .ok (.iload_n 1, 1) := by decide +kernel
theorem dX0_delete_46 : decode cX0_delete 46 = .ok (.iconst 0, 1) := by decide +kernel
theorem dX0_delete_47 : decode cX0_delete 47 = .ok (.bastore, 1) := by decide +kernel
theorem dX0_delete_48 : decode cX0_delete 48 = .ok (.aload_n 0, 1) := by decide +kernel
theorem dX0_delete_49 : decode cX0_delete 49 = .ok (.getfield 13, 3) := by decide +kernel
theorem dX0_delete_52 : decode cX0_delete 52 = .ok (.iload_n 1, 1) := by decide +kernel
theorem dX0_delete_53 : decode cX0_delete 53 = .ok (.iconst (-1), 1) := by decide +kernel
theorem dX0_delete_54 : decode cX0_delete 54 = .ok (.iastore, 1) := by decide +kernel
theorem dX0_delete_55 : decode cX0_delete 55 = .ok (.iconst 0, 1) := by decide +kernel
theorem dX0_delete_56 : decode cX0_delete 56 = .ok (.istore_n 2, 1) := by decide +kernel
theorem dX0_delete_57 : decode cX0_delete 57 = .ok (.iload_n 2, 1) := by decide +kernel
theorem dX0_delete_58 : decode cX0_delete 58 = .ok (.bipush 16, 2) := by decide +kernel
theorem dX0_delete_60 : decode cX0_delete 60 = .ok (.if_icmp .ge 21, 3) := by decide +kernel
theorem dX0_delete_63 : decode cX0_delete 63 = .ok (.aload_n 0, 1) := by decide +kernel
theorem dX0_delete_64 : decode cX0_delete 64 = .ok (.getfield 20, 3) := by decide +kernel
theorem dX0_delete_67 : decode cX0_delete 67 = .ok (.iload_n 1, 1) := by decide +kernel
theorem dX0_delete_68 : decode cX0_delete 68 = .ok (.bipush 16, 2) := by decide +kernel
theorem dX0_delete_70 : decode cX0_delete 70 = .ok (.imul, 1) := by decide +kernel
theorem dX0_delete_71 : decode cX0_delete 71 = .ok (.iload_n 2, 1) := by decide +kernel
theorem dX0_delete_72 : decode cX0_delete 72 = .ok (.iadd, 1) := by decide +kernel
theorem dX0_delete_73 : decode cX0_delete 73 = .ok (.iconst 0, 1) := by decide +kernel
theorem dX0_delete_74 : decode cX0_delete 74 = .ok (.iastore, 1) := by decide +kernel
theorem dX0_delete_75 : decode cX0_delete 75 = .ok (.iinc 2 1, 3) := by decide +kernel
theorem dX0_delete_78 : decode cX0_delete 78 = .ok (.goto (-21), 3) := by decide +kernel
theorem dX0_delete_81 : decode cX0_delete 81 = .ok (.aload_n 0, 1) := by decide +kernel
theorem dX0_delete_82 : decode cX0_delete 82 = .ok (.iload_n 1, 1) := by decide +kernel
theorem dX0_delete_83 : decode cX0_delete 83 = .ok (.invokevirtual 102, 3) := by decide +kernel
theorem dX0_delete_86 : decode cX0_delete 86 = .ok (.aload_n 0, 1) := by decide +kernel
theorem dX0_delete_87 : decode cX0_delete 87 = .ok (.invokevirtual 105, 3) := by decide +kernel
theorem dX0_delete_90 : decode cX0_delete 90 = .ok (.return_, 1) := by decide +kernel
set_option maxRecDepth 20000 in
theorem ggX0_addPart_X0_checkGood : GoodIn wsX0_addPart wsX0_checkGood := goodIn_ca (goodIn_r _ [10, 11, 12, 13, 14, 15, 9, 16, 17, 18, 19, 20, 21, 22, 23, 24, 25, 26, 27, 28, 29, 30, 31, 32, 33] (by decide +kernel) (by decide +kernel)) (goodIn_sub (fun _ h => List.mem_cons_of_mem _ (List.mem_append_right _ h)) (by decide +kernel))
set_option maxRecDepth 20000 in
theorem gX0_addPart_X0_checkGood : GoodIn wsX0_addPart (wsV RX0 77 RX0 yX0_checkGood wsX0_checkGood) := goodIn_app (goodIn_of _ (by decide +kernel)) ggX0_addPart_X0_checkGood
theorem dX0_addPart_0 : decode cX0_addPart 0 = .ok (.aload_n 0, 1) := by decide +kernel
theorem dX0_addPart_1 : decode cX0_addPart 1 = .ok (.iload_n 1, 1) := by decide +kernel
theorem dX0_addPart_2 : decode cX0_addPart 2 = .ok (.invokevirtual 77, 3) := by decide +kernel
theorem dX0_addPart_5 : decode cX0_addPart 5 = .ok (.aload_n 0, 1) := by decide +kernel
theorem dX0_addPart_6 : decode cX0_addPart 6 = .ok (.iload_n 2, 1) := by decide +kernel
theorem dX0_addPart_7 : decode cX0_addPart 7 = .ok (.invokevirtual 77, 3) := by decide +kernel
theorem dX0_addPart_10 : decode cX0_addPart 10 = .ok (.iload_n 2, 1) := by decide +kernel
theorem dX0_addPart_11 : decode cX0_addPart 11 = .ok (.iload_n 1, 1) := by decide +kernel
theorem dX0_addPart_12 : decode cX0_addPart 12 = .ok (.if_icmp .lt 13, 3) := by decide +kernel
theorem dX0_addPart_15 : decode cX0_addPart 15 = .ok (.new 108, 3) := by decide +kernel
theorem dX0_addPart_18 : decode cX0_addPart 18 = .ok (.dup, 1) := by decide +kernel
theorem dX0_addPart_19 : decode cX0_addPart 19 = .ok (.ldc 110, 2) := by decide +kernel
theorem dX0_addPart_21 : decode cX0_addPart 21 = .ok (.invokespecial 112, 3) := by decide +kernel
theorem dX0_addPart_24 : decode cX0_addPart 24 = .ok (.athrow, 1) := by decide +kernel
theorem dX0_addPart_25 : decode cX0_addPart 25 = .ok (.iload_n 3, 1) := by decide +kernel
theorem dX0_addPart_26 : decode cX0_addPart 26 = .ok (.iconst 1, 1) := by decide +kernel
theorem dX0_addPart_27 : decode cX0_addPart 27 = .ok (.if_icmp .lt 9, 3) := by decide +kernel
theorem dX0_addPart_30 : decode cX0_addPart 30 = .ok (.iload_n 3, 1) := by decide +kernel
theorem dX0_addPart_31 : decode cX0_addPart 31 = .ok (.bipush 20, 2) := by decide +kernel
theorem dX0_addPart_33 : decode cX0_addPart 33 = .ok (.if_icmp .le 13, 3) := by decide +kernel
theorem dX0_addPart_36 : decode cX0_addPart 36 = .ok (.new 108, 3) := by decide +kernel
theorem dX0_addPart_39 : decode cX0_addPart 39 = .ok (.dup, 1) := by decide +kernel
theorem dX0_addPart_40 : decode cX0_addPart 40 = .ok (.ldc 113, 2) := by decide +kernel
theorem dX0_addPart_42 : decode cX0_addPart 42 = .ok (.invokespecial 112, 3) := by decide +kernel
theorem dX0_addPart_45 : decode cX0_addPart 45 = .ok (.athrow, 1) := by decide +kernel
theorem dX0_addPart_46 : decode cX0_addPart 46 = .ok (.iload_n 1, 1) := by decide +kernel
theorem dX0_addPart_47 : decode cX0_addPart 47 = .ok (.bipush 16, 2) := by decide +kernel
theorem dX0_addPart_49 : decode cX0_addPart 49 = .ok (.imul, 1) := by decide +kernel
theorem dX0_addPart_50 : decode cX0_addPart 50 = .ok (.iload_n 2, 1) := by decide +kernel
theorem dX0_addPart_51 : decode cX0_addPart 51 = .ok (.iadd, 1) := by decide +kernel
theorem dX0_addPart_52 : decode cX0_addPart 52 = .ok (.istore 4, 2) := by decide +kernel
theorem dX0_addPart_54 : decode cX0_addPart 54 = .ok (.aload_n 0, 1) := by decide +kernel
theorem dX0_addPart_55 : decode cX0_addPart 55 = .ok (.getfield 20, 3) := by decide +kernel
theorem dX0_addPart_58 : decode cX0_addPart 58 = .ok (.iload 4, 2) := by decide +kernel
theorem dX0_addPart_60 : decode cX0_addPart 60 = .ok (.iaload, 1) := by decide +kernel
theorem dX0_addPart_61 : decode cX0_addPart 61 = .ok (.iload_n 3, 1) := by decide +kernel
theorem dX0_addPart_62 : decode cX0_addPart 62 = .ok (.iadd, 1) := by decide +kernel
theorem dX0_addPart_63 : decode cX0_addPart 63 = .ok (.istore 5, 2) := by decide +kernel
theorem dX0_addPart_65 : decode cX0_addPart 65 = .ok (.iload 5, 2) := by decide +kernel
theorem dX0_addPart_67 : decode cX0_addPart 67 = .ok (.bipush 20, 2) := by decide +kernel
theorem dX0_addPart_69 : decode cX0_addPart 69 = .ok (.if_icmp .le 13, 3) := by decide +kernel
theorem dX0_addPart_72 : decode cX0_addPart 72 = .ok (.new 68, 3) := by decide +kernel
theorem dX0_addPart_75 : decode cX0_addPart 75 = .ok (.dup, 1) := by decide +kernel
theorem dX0_addPart_76 : decode cX0_addPart 76 = .ok (.ldc 115, 2) := by decide +kernel
theorem dX0_addPart_78 : decode cX0_addPart 78 = .ok (.invokespecial 72, 3) := by decide +kernel
theorem dX0_addPart_81 : decode cX0_addPart 81 = .ok (.athrow, 1) := by decide +kernel
theorem dX0_addPart_82 : decode cX0_addPart 82 = .ok (.aload_n 0, 1) := by decide +kernel
theorem dX0_addPart_83 : decode cX0_addPart 83 = .ok (.getfield 20, 3) := by decide +kernel
theorem dX0_addPart_86 : decode cX0_addPart 86 = .ok (.iload 4, 2) := by decide +kernel
theorem dX0_addPart_88 : decode cX0_addPart 88 = .ok (.iload 5, 2) := by decide +kernel
theorem dX0_addPart_90 : decode cX0_addPart 90 = .ok (.iastore, 1) := by decide +kernel
theorem dX0_addPart_91 : decode cX0_addPart 91 = .ok (.iload 5, 2) := by decide +kernel
theorem dX0_addPart_93 : decode cX0_addPart 93 = .ok (.ireturn, 1) := by decide +kernel
set_option maxRecDepth 20000 in
theorem ggX0_setDiscount_X0_checkGood : GoodIn wsX0_setDiscount wsX0_checkGood := goodIn_ca (goodIn_r _ [8, 9, 10, 11, 12, 13, 7, 14, 15, 16, 17, 18, 19, 20, 21, 22, 23, 24, 25, 26, 27, 28, 29, 30, 31] (by decide +kernel) (by decide +kernel)) (goodIn_sub (fun _ h => List.mem_cons_of_mem _ (List.mem_append_right _ h)) (by decide +kernel))
set_option maxRecDepth 20000 in
theorem gX0_setDiscount_X0_checkGood : GoodIn wsX0_setDiscount (wsV RX0 77 RX0 yX0_checkGood wsX0_checkGood) := goodIn_app (goodIn_of _ (by decide +kernel)) ggX0_setDiscount_X0_checkGood
theorem dX0_setDiscount_0 : decode cX0_setDiscount 0 = .ok (.aload_n 0, 1) := by decide +kernel
theorem dX0_setDiscount_1 : decode cX0_setDiscount 1 = .ok (.iload_n 1, 1) := by decide +kernel
theorem dX0_setDiscount_2 : decode cX0_setDiscount 2 = .ok (.invokevirtual 77, 3) := by decide +kernel
theorem dX0_setDiscount_5 : decode cX0_setDiscount 5 = .ok (.iload_n 2, 1) := by decide +kernel
theorem dX0_setDiscount_6 : decode cX0_setDiscount 6 = .ok (.ifCond .lt 9, 3) := by decide +kernel
theorem dX0_setDiscount_9 : decode cX0_setDiscount 9 = .ok (.iload_n 2, 1) := by decide +kernel
theorem dX0_setDiscount_10 : decode cX0_setDiscount 10 = .ok (.bipush 100, 2) := by decide +kernel
theorem dX0_setDiscount_12 : decode cX0_setDiscount 12 = .ok (.if_icmp .le 13, 3) := by decide +kernel
theorem dX0_setDiscount_15 : decode cX0_setDiscount 15 = .ok (.new 108, 3) := by decide +kernel
theorem dX0_setDiscount_18 : decode cX0_setDiscount 18 = .ok (.dup, 1) := by decide +kernel
theorem dX0_setDiscount_19 : decode cX0_setDiscount 19 = .ok (.ldc 117, 2) := by decide +kernel
theorem dX0_setDiscount_21 : decode cX0_setDiscount 21 = .ok (.invokespecial 112, 3) := by decide +kernel
theorem dX0_setDiscount_24 : decode cX0_setDiscount 24 = .ok (.athrow, 1) := by decide +kernel
theorem dX0_setDiscount_25 : decode cX0_setDiscount 25 = .ok (.aload_n 0, 1) := by decide +kernel
theorem dX0_setDiscount_26 : decode cX0_setDiscount 26 = .ok (.getfield 17, 3) := by decide +kernel
theorem dX0_setDiscount_29 : decode cX0_setDiscount 29 = .ok (.iload_n 1, 1) := by decide +kernel
theorem dX0_setDiscount_30 : decode cX0_setDiscount 30 = .ok (.iaload, 1) := by decide +kernel
theorem dX0_setDiscount_31 : decode cX0_setDiscount 31 = .ok (.istore_n 3, 1) := by decide +kernel
theorem dX0_setDiscount_32 : decode cX0_setDiscount 32 = .ok (.aload_n 0, 1) := by decide +kernel
theorem dX0_setDiscount_33 : decode cX0_setDiscount 33 = .ok (.getfield 17, 3) := by decide +kernel
theorem dX0_setDiscount_36 : decode cX0_setDiscount 36 = .ok (.iload_n 1, 1) := by decide +kernel
theorem dX0_setDiscount_37 : decode cX0_setDiscount 37 = .ok (.iload_n 2, 1) := by decide +kernel
theorem dX0_setDiscount_38 : decode cX0_setDiscount 38 = .ok (.iastore, 1) := by decide +kernel
theorem dX0_setDiscount_39 : decode cX0_setDiscount 39 = .ok (.iload_n 3, 1) := by decide +kernel
theorem dX0_setDiscount_40 : decode cX0_setDiscount 40 = .ok (.ireturn, 1) := by decide +kernel
theorem dX0_isGood_0 : decode cX0_isGood 0 = .ok (.iload_n 1, 1) := by decide +kernel
theorem dX0_isGood_1 : decode cX0_isGood 1 = .ok (.ifCond .lt 22, 3) := by decide +kernel
theorem dX0_isGood_4 : decode cX0_isGood 4 = .ok (.iload_n 1, 1) := by decide +kernel
theorem dX0_isGood_5 : decode cX0_isGood 5 = .ok (.bipush 16, 2) := by decide +kernel
theorem dX0_isGood_7 : decode cX0_isGood 7 = .ok (.if_icmp .ge 16, 3) := by decide +kernel
theorem dX0_isGood_10 : decode cX0_isGood 10 = .ok (.aload_n 0, 1) := by decide +kernel
theorem dX0_isGood_11 : decode cX0_isGood 11 = .ok (.getfield 9, 3) := by decide +kernel
theorem dX0_isGood_14 : decode cX0_isGood 14 = .ok (.iload_n 1, 1) := by decide +kernel
theorem dX0_isGood_15 : decode cX0_isGood 15 = .ok (.baload, 1) := by decide +kernel
theorem dX0_isGood_16 : decode cX0_isGood 16 = .ok (.ifCond .eq 7, 3) := by decide +kernel
theorem dX0_isGood_19 : decode cX0_isGood 19 = .ok (.iconst 1, 1) := by decide +kernel
theorem dX0_isGood_20 : decode cX0_isGood 20 = .ok (.goto 4, 3) := by decide +kernel
theorem dX0_isGood_23 : decode cX0_isGood 23 = .ok (.iconst 0, 1) := by decide +kernel
theorem dX0_isGood_24 : decode cX0_isGood 24 = .ok (.ireturn, 1) := by decide +kernel
set_option maxRecDepth 20000 in
theorem ggX0_checkGood_X0_isGood : GoodIn wsX0_checkGood wsX0_isGood := goodIn_r _ [7, 8, 9, 10, 11, 12, 13, 14, 15, 16, 17, 18, 19, 20, 21, 22, 23, 24] (by decide +kernel) (by decide +kernel)
set_option maxRecDepth 20000 in
theorem gX0_checkGood_X0_isGood : GoodIn wsX0_checkGood (wsV RX0 119 RX0 yX0_isGood wsX0_isGood) := goodIn_app (goodIn_of _ (by decide +kernel)) ggX0_checkGood_X0_isGood
theorem dX0_checkGood_0 : decode cX0_checkGood 0 = .ok (.aload_n 0, 1) := by decide +kernel
theorem dX0_checkGood_1 : decode cX0_checkGood 1 = .ok (.iload_n 1, 1) := by decide +kernel
theorem dX0_checkGood_2 : decode cX0_checkGood 2 = .ok (.invokevirtual 119, 3) := by decide +kernel
theorem dX0_checkGood_5 : decode cX0_checkGood 5 = .ok (.ifCond .ne 13, 3) := by decide +kernel
theorem dX0_checkGood_8 : decode cX0_checkGood 8 = .ok (.new 122, 3) := by decide +kernel
theorem dX0_checkGood_11 : decode cX0_checkGood 11 = .ok (.dup, 1) := by decide +kernel
theorem dX0_checkGood_12 : decode cX0_checkGood 12 = .ok (.ldc 124, 2) := by decide +kernel
theorem dX0_checkGood_14 : decode cX0_checkGood 14 = .ok (.invokespecial 126, 3) := by decide +kernel
theorem dX0_checkGood_17 : decode cX0_checkGood 17 = .ok (.athrow, 1) := by decide +kernel
theorem dX0_checkGood_18 : decode cX0_checkGood 18 = .ok (.return_, 1) := by decide +kernel
set_option maxRecDepth 20000 in
theorem ggX0_checkParent_X0_isGood : GoodIn wsX0_checkParent wsX0_isGood := goodIn_r _ [7, 8, 9, 10, 11, 12, 13, 14, 15, 16, 17, 18, 19, 20, 21, 22, 23, 24] (by decide +kernel) (by decide +kernel)
set_option maxRecDepth 20000 in
theorem gX0_checkParent_X0_isGood : GoodIn wsX0_checkParent (wsV RX0 119 RX0 yX0_isGood wsX0_isGood) := goodIn_app (goodIn_of _ (by decide +kernel)) ggX0_checkParent_X0_isGood
theorem dX0_checkParent_0 : decode cX0_checkParent 0 = .ok (.iload_n 1, 1) := by decide +kernel
theorem dX0_checkParent_1 : decode cX0_checkParent 1 = .ok (.iconst (-1), 1) := by decide +kernel
theorem dX0_checkParent_2 : decode cX0_checkParent 2 = .ok (.if_icmp .eq 21, 3) := by decide +kernel
theorem dX0_checkParent_5 : decode cX0_checkParent 5 = .ok (.aload_n 0, 1) := by decide +kernel
theorem dX0_checkParent_6 : decode cX0_checkParent 6 = .ok (.iload_n 1, 1) := by decide +kernel
theorem dX0_checkParent_7 : decode cX0_checkParent 7 = .ok (.invokevirtual 119, 3) := by decide +kernel
theorem dX0_checkParent_10 : decode cX0_checkParent 10 = .ok (.ifCond .ne 13, 3) := by decide +kernel
theorem dX0_checkParent_13 : decode cX0_checkParent 13 = .ok (.new 122, 3) := by decide +kernel
theorem dX0_checkParent_16 : decode cX0_checkParent 16 = .ok (.dup, 1) := by decide +kernel
theorem dX0_checkParent_17 : decode cX0_checkParent 17 = .ok (.ldc 127, 2) := by decide +kernel
theorem dX0_checkParent_19 : decode cX0_checkParent 19 = .ok (.invokespecial 126, 3) := by decide +kernel
theorem dX0_checkParent_22 : decode cX0_checkParent 22 = .ok (.athrow, 1) := by decide +kernel
theorem dX0_checkParent_23 : decode cX0_checkParent 23 = .ok (.return_, 1) := by decide +kernel
set_option maxRecDepth 20000 in
theorem ggX0_levelOf_X0_isGood : GoodIn wsX0_levelOf wsX0_isGood := goodIn_r _ [6, 7, 8, 9, 10, 11, 12, 13, 14, 15, 16, 17, 18, 19, 20, 21, 22, 23] (by decide +kernel) (by decide +kernel)
set_option maxRecDepth 20000 in
theorem gX0_levelOf_X0_isGood : GoodIn wsX0_levelOf (wsV RX0 119 RX0 yX0_isGood wsX0_isGood) := goodIn_app (goodIn_of _ (by decide +kernel)) ggX0_levelOf_X0_isGood
theorem dX0_levelOf_0 : decode cX0_levelOf 0 = .ok (.iconst (-1), 1) := by decide +kernel
theorem dX0_levelOf_1 : decode cX0_levelOf 1 = .ok (.istore_n 2, 1) := by decide +kernel
theorem dX0_levelOf_2 : decode cX0_levelOf 2 = .ok (.iload_n 1, 1) := by decide +kernel
theorem dX0_levelOf_3 : decode cX0_levelOf 3 = .ok (.istore_n 3, 1) := by decide +kernel
theorem dX0_levelOf_4 : decode cX0_levelOf 4 = .ok (.iconst 0, 1) := by decide +kernel
theorem dX0_levelOf_5 : decode cX0_levelOf 5 = .ok (.istore 4, 2) := by decide +kernel
theorem dX0_levelOf_7 : decode cX0_levelOf 7 = .ok (.iload 4, 2) := by decide +kernel
theorem dX0_levelOf_9 : decode cX0_levelOf 9 = .ok (.iconst 3, 1) := by decide +kernel
theorem dX0_levelOf_10 : decode cX0_levelOf 10 = .ok (.if_icmp .ge 27, 3) := by decide +kernel
theorem dX0_levelOf_13 : decode cX0_levelOf 13 = .ok (.aload_n 0, 1) := by decide +kernel
theorem dX0_levelOf_14 : decode cX0_levelOf 14 = .ok (.iload_n 3, 1) := by decide +kernel
theorem dX0_levelOf_15 : decode cX0_levelOf 15 = .ok (.invokevirtual 119, 3) := by decide +kernel
theorem dX0_levelOf_18 : decode cX0_levelOf 18 = .ok (.ifCond .eq 19, 3) := by decide +kernel
theorem dX0_levelOf_21 : decode cX0_levelOf 21 = .ok (.iinc 2 1, 3) := by decide +kernel
theorem dX0_levelOf_24 : decode cX0_levelOf 24 = .ok (.aload_n 0, 1) := by decide +kernel
theorem dX0_levelOf_25 : decode cX0_levelOf 25 = .ok (.getfield 13, 3) := by decide +kernel
theorem dX0_levelOf_28 : decode cX0_levelOf 28 = .ok (.iload_n 3, 1) := by decide +kernel
theorem dX0_levelOf_29 : decode cX0_levelOf 29 = .ok (.iaload, 1) := by decide +kernel
theorem dX0_levelOf_30 : decode cX0_levelOf 30 = .ok (.istore_n 3, 1) := by decide +kernel
theorem dX0_levelOf_31 : decode cX0_levelOf 31 = .ok (.iinc 4 1, 3) := by decide +kernel
theorem dX0_levelOf_34 : decode cX0_levelOf 34 = .ok (.goto (-27), 3) := by decide +kernel
theorem dX0_levelOf_37 : decode cX0_levelOf 37 = .ok (.iload_n 2, 1) := by decide +kernel
theorem dX0_levelOf_38 : decode cX0_levelOf 38 = .ok (.ireturn, 1) := by decide +kernel
set_option maxRecDepth 20000 in
theorem ggX0_isWithin_X0_isGood : GoodIn wsX0_isWithin wsX0_isGood := goodIn_r _ [6, 7, 8, 9, 10, 11, 12, 13, 14, 15, 16, 17, 18, 19, 20, 21, 22, 23] (by decide +kernel) (by decide +kernel)
set_option maxRecDepth 20000 in
theorem gX0_isWithin_X0_isGood : GoodIn wsX0_isWithin (wsV RX0 119 RX0 yX0_isGood wsX0_isGood) := goodIn_app (goodIn_of _ (by decide +kernel)) ggX0_isWithin_X0_isGood
theorem dX0_isWithin_0 : decode cX0_isWithin 0 = .ok (.iload_n 1, 1) := by decide +kernel
theorem dX0_isWithin_1 : decode cX0_isWithin 1 = .ok (.istore_n 3, 1) := by decide +kernel
theorem dX0_isWithin_2 : decode cX0_isWithin 2 = .ok (.iconst 0, 1) := by decide +kernel
theorem dX0_isWithin_3 : decode cX0_isWithin 3 = .ok (.istore 4, 2) := by decide +kernel
theorem dX0_isWithin_5 : decode cX0_isWithin 5 = .ok (.iload 4, 2) := by decide +kernel
theorem dX0_isWithin_7 : decode cX0_isWithin 7 = .ok (.iconst 3, 1) := by decide +kernel
theorem dX0_isWithin_8 : decode cX0_isWithin 8 = .ok (.if_icmp .ge 31, 3) := by decide +kernel
theorem dX0_isWithin_11 : decode cX0_isWithin 11 = .ok (.aload_n 0, 1) := by decide +kernel
theorem dX0_isWithin_12 : decode cX0_isWithin 12 = .ok (.iload_n 3, 1) := by decide +kernel
theorem dX0_isWithin_13 : decode cX0_isWithin 13 = .ok (.invokevirtual 119, 3) := by decide +kernel
theorem dX0_isWithin_16 : decode cX0_isWithin 16 = .ok (.ifCond .eq 23, 3) := by decide +kernel
theorem dX0_isWithin_19 : decode cX0_isWithin 19 = .ok (.iload_n 3, 1) := by decide +kernel
theorem dX0_isWithin_20 : decode cX0_isWithin 20 = .ok (.iload_n 2, 1) := by decide +kernel
theorem dX0_isWithin_21 : decode cX0_isWithin 21 = .ok (.if_icmp .ne 5, 3) := by decide +kernel
theorem dX0_isWithin_24 : decode cX0_isWithin 24 = .ok (.iconst 1, 1) := by decide +kernel
theorem dX0_isWithin_25 : decode cX0_isWithin 25 = .ok (.ireturn, 1) := by decide +kernel
theorem dX0_isWithin_26 : decode cX0_isWithin 26 = .ok (.aload_n 0, 1) := by decide +kernel
theorem dX0_isWithin_27 : decode cX0_isWithin 27 = .ok (.getfield 13, 3) := by decide +kernel
theorem dX0_isWithin_30 : decode cX0_isWithin 30 = .ok (.iload_n 3, 1) := by decide +kernel
theorem dX0_isWithin_31 : decode cX0_isWithin 31 = .ok (.iaload, 1) := by decide +kernel
theorem dX0_isWithin_32 : decode cX0_isWithin 32 = .ok (.istore_n 3, 1) := by decide +kernel
theorem dX0_isWithin_33 : decode cX0_isWithin 33 = .ok (.iinc 4 1, 3) := by decide +kernel
theorem dX0_isWithin_36 : decode cX0_isWithin 36 = .ok (.goto (-31), 3) := by decide +kernel
theorem dX0_isWithin_39 : decode cX0_isWithin 39 = .ok (.iconst 0, 1) := by decide +kernel
theorem dX0_isWithin_40 : decode cX0_isWithin 40 = .ok (.ireturn, 1) := by decide +kernel
set_option maxRecDepth 20000 in
theorem ggX0_levelsWithin_X0_levelOf : GoodIn wsX0_levelsWithin wsX0_levelOf := goodIn_r _ [9, 10, 11, 12, 13, 8, 14, 15, 20, 21, 22, 23, 24, 25, 26, 27, 28, 29, 30, 31, 32, 33, 34, 35] (by decide +kernel) (by decide +kernel)
set_option maxRecDepth 20000 in
theorem gX0_levelsWithin_X0_levelOf : GoodIn wsX0_levelsWithin (wsV RX0 64 RX0 yX0_levelOf wsX0_levelOf) := goodIn_app (goodIn_of _ (by decide +kernel)) ggX0_levelsWithin_X0_levelOf
set_option maxRecDepth 20000 in
theorem ggX0_levelsWithin_X0_isWithin : GoodIn wsX0_levelsWithin wsX0_isWithin := goodIn_r _ [19, 10, 11, 12, 13, 8, 14, 15, 20, 21, 22, 23, 24, 25, 26, 27, 28, 29, 30, 31, 32, 33, 34, 35] (by decide +kernel) (by decide +kernel)
set_option maxRecDepth 20000 in
theorem gX0_levelsWithin_X0_isWithin : GoodIn wsX0_levelsWithin (wsV RX0 80 RX0 yX0_isWithin wsX0_isWithin) := goodIn_app (goodIn_of _ (by decide +kernel)) ggX0_levelsWithin_X0_isWithin
theorem dX0_levelsWithin_0 : decode cX0_levelsWithin 0 = .ok (.aload_n 0, 1) := by decide +kernel
theorem dX0_levelsWithin_1 : decode cX0_levelsWithin 1 = .ok (.iload_n 1, 1) := by decide +kernel
theorem dX0_levelsWithin_2 : decode cX0_levelsWithin 2 = .ok (.invokevirtual 64, 3) := by decide +kernel
theorem dX0_levelsWithin_5 : decode cX0_levelsWithin 5 = .ok (.istore_n 2, 1) := by decide +kernel
theorem dX0_levelsWithin_6 : decode cX0_levelsWithin 6 = .ok (.iconst 0, 1) := by decide +kernel
theorem dX0_levelsWithin_7 : decode cX0_levelsWithin 7 = .ok (.istore_n 3, 1) := by decide +kernel
theorem dX0_levelsWithin_8 : decode cX0_levelsWithin 8 = .ok (.iload_n 3, 1) := by decide +kernel
theorem dX0_levelsWithin_9 : decode cX0_levelsWithin 9 = .ok (.bipush 16, 2) := by decide +kernel
theorem dX0_levelsWithin_11 : decode cX0_levelsWithin 11 = .ok (.if_icmp .ge 28, 3) := by decide +kernel
theorem dX0_levelsWithin_14 : decode cX0_levelsWithin 14 = .ok (.aload_n 0, 1) := by decide +kernel
theorem dX0_levelsWithin_15 : decode cX0_levelsWithin 15 = .ok (.iload_n 3, 1) := by decide +kernel
theorem dX0_levelsWithin_16 : decode cX0_levelsWithin 16 = .ok (.iload_n 1, 1) := by decide +kernel
theorem dX0_levelsWithin_17 : decode cX0_levelsWithin 17 = .ok (.invokevirtual 80, 3) := by decide +kernel
theorem dX0_levelsWithin_20 : decode cX0_levelsWithin 20 = .ok (.ifCond .eq 13, 3) := by decide +kernel
theorem dX0_levelsWithin_23 : decode cX0_levelsWithin 23 = .ok (.iload_n 2, 1) := by decide +kernel
theorem dX0_levelsWithin_24 : decode cX0_levelsWithin 24 = .ok (.aload_n 0, 1) := by decide +kernel
theorem dX0_levelsWithin_25 : decode cX0_levelsWithin 25 = .ok (.iload_n 3, 1) := by decide +kernel
theorem dX0_levelsWithin_26 : decode cX0_levelsWithin 26 = .ok (.invokevirtual 64, 3) := by decide +kernel
theorem dX0_levelsWithin_29 : decode cX0_levelsWithin 29 = .ok (.invokestatic 129, 3) := by decide +kernel
theorem dX0_levelsWithin_32 : decode cX0_levelsWithin 32 = .ok (.istore_n 2, 1) := by decide +kernel
theorem dX0_levelsWithin_33 : decode cX0_levelsWithin 33 = .ok (.iinc 3 1, 3) := by decide +kernel
theorem dX0_levelsWithin_36 : decode cX0_levelsWithin 36 = .ok (.goto (-28), 3) := by decide +kernel
theorem dX0_levelsWithin_39 : decode cX0_levelsWithin 39 = .ok (.iload_n 2, 1) := by decide +kernel
theorem dX0_levelsWithin_40 : decode cX0_levelsWithin 40 = .ok (.aload_n 0, 1) := by decide +kernel
theorem dX0_levelsWithin_41 : decode cX0_levelsWithin 41 = .ok (.iload_n 1, 1) := by decide +kernel
theorem dX0_levelsWithin_42 : decode cX0_levelsWithin 42 = .ok (.invokevirtual 64, 3) := by decide +kernel
theorem dX0_levelsWithin_45 : decode cX0_levelsWithin 45 = .ok (.isub, 1) := by decide +kernel
theorem dX0_levelsWithin_46 : decode cX0_levelsWithin 46 = .ok (.iconst 1, 1) := by decide +kernel
theorem dX0_levelsWithin_47 : decode cX0_levelsWithin 47 = .ok (.iadd, 1) := by decide +kernel
theorem dX0_levelsWithin_48 : decode cX0_levelsWithin 48 = .ok (.ireturn, 1) := by decide +kernel
theorem dX0_isParent_0 : decode cX0_isParent 0 = .ok (.iconst 0, 1) := by decide +kernel
theorem dX0_isParent_1 : decode cX0_isParent 1 = .ok (.istore_n 2, 1) := by decide +kernel
theorem dX0_isParent_2 : decode cX0_isParent 2 = .ok (.iload_n 2, 1) := by decide +kernel
theorem dX0_isParent_3 : decode cX0_isParent 3 = .ok (.bipush 16, 2) := by decide +kernel
theorem dX0_isParent_5 : decode cX0_isParent 5 = .ok (.if_icmp .ge 21, 3) := by decide +kernel
theorem dX0_isParent_8 : decode cX0_isParent 8 = .ok (.aload_n 0, 1) := by decide +kernel
theorem dX0_isParent_9 : decode cX0_isParent 9 = .ok (.getfield 13, 3) := by decide +kernel
theorem dX0_isParent_12 : decode cX0_isParent 12 = .ok (.iload_n 2, 1) := by decide +kernel
theorem dX0_isParent_13 : decode cX0_isParent 13 = .ok (.iaload, 1) := by decide +kernel
theorem dX0_isParent_14 : decode cX0_isParent 14 = .ok (.iload_n 1, 1) := by decide +kernel
theorem dX0_isParent_15 : decode cX0_isParent 15 = .ok (.if_icmp .ne 5, 3) := by decide +kernel
theorem dX0_isParent_18 : decode cX0_isParent 18 = .ok (.iconst 1, 1) := by decide +kernel
theorem dX0_isParent_19 : decode cX0_isParent 19 = .ok (.ireturn, 1) := by decide +kernel
theorem dX0_isParent_20 : decode cX0_isParent 20 = .ok (.iinc 2 1, 3) := by decide +kernel
theorem dX0_isParent_23 : decode cX0_isParent 23 = .ok (.goto (-21), 3) := by decide +kernel
theorem dX0_isParent_26 : decode cX0_isParent 26 = .ok (.iconst 0, 1) := by decide +kernel
theorem dX0_isParent_27 : decode cX0_isParent 27 = .ok (.ireturn, 1) := by decide +kernel
theorem dX0_isPart_0 : decode cX0_isPart 0 = .ok (.iconst 0, 1) := by decide +kernel
theorem dX0_isPart_1 : decode cX0_isPart 1 = .ok (.istore_n 2, 1) := by decide +kernel
theorem dX0_isPart_2 : decode cX0_isPart 2 = .ok (.iload_n 2, 1) := by decide +kernel
theorem dX0_isPart_3 : decode cX0_isPart 3 = .ok (.bipush 16, 2) := by decide +kernel
theorem dX0_isPart_5 : decode cX0_isPart 5 = .ok (.if_icmp .ge 25, 3) := by decide +kernel
theorem dX0_isPart_8 : decode cX0_isPart 8 = .ok (.aload_n 0, 1) := by decide +kernel
theorem dX0_isPart_9 : decode cX0_isPart 9 = .ok (.getfield 20, 3) := by decide +kernel
theorem dX0_isPart_12 : decode cX0_isPart 12 = .ok (.iload_n 2, 1) := by decide +kernel
theorem dX0_isPart_13 : decode cX0_isPart 13 = .ok (.bipush 16, 2) := by decide +kernel
theorem dX0_isPart_15 : decode cX0_isPart 15 = .ok (.imul, 1) := by decide +kernel
theorem dX0_isPart_16 : decode cX0_isPart 16 = .ok (.iload_n 1, 1) := by decide +kernel
theorem dX0_isPart_17 : decode cX0_isPart 17 = .ok (.iadd, 1) := by decide +kernel
theorem dX0_isPart_18 : decode cX0_isPart 18 = .ok (.iaload, 1) := by decide +kernel
theorem dX0_isPart_19 : decode cX0_isPart 19 = .ok (.ifCond .le 5, 3) := by decide +kernel
theorem dX0_isPart_22 : decode cX0_isPart 22 = .ok (.iconst 1, 1) := by decide +kernel
theorem dX0_isPart_23 : decode cX0_isPart 23 = .ok (.ireturn, 1) := by decide +kernel
theorem dX0_isPart_24 : decode cX0_isPart 24 = .ok (.iinc 2 1, 3) := by decide +kernel
theorem dX0_isPart_27 : decode cX0_isPart 27 = .ok (.goto (-25), 3) := by decide +kernel
theorem dX0_isPart_30 : decode cX0_isPart 30 = .ok (.iconst 0, 1) := by decide +kernel
theorem dX0_isPart_31 : decode cX0_isPart 31 = .ok (.ireturn, 1) := by decide +kernel
set_option maxRecDepth 20000 in
theorem ggX0_draft_X0_checkGood : GoodIn wsX0_draft wsX0_checkGood := goodIn_ca (goodIn_r _ [16, 17, 18, 19, 20, 21, 15, 22, 23, 36, 37, 38, 39, 40, 41, 42, 43, 44, 45, 46, 47, 48, 49, 50, 51] (by decide +kernel) (by decide +kernel)) (goodIn_sub (fun _ h => List.mem_cons_of_mem _ (List.mem_append_right _ h)) (by decide +kernel))
set_option maxRecDepth 20000 in
theorem gX0_draft_X0_checkGood : GoodIn wsX0_draft (wsV RX0 77 RX0 yX0_checkGood wsX0_checkGood) := goodIn_app (goodIn_of _ (by decide +kernel)) ggX0_draft_X0_checkGood
set_option maxRecDepth 20000 in
theorem ggX0_draft_X0_checkAttribute : GoodIn wsX0_draft wsX0_checkAttribute := goodIn_ca (goodIn_r _ [26, 17, 18] (by decide +kernel) (by decide +kernel)) (goodIn_sub (fun _ h => List.mem_cons_of_mem _ (List.mem_append_right _ h)) (by decide +kernel))
set_option maxRecDepth 20000 in
theorem gX0_draft_X0_checkAttribute : GoodIn wsX0_draft (va_wsS RX0 135 yX0_checkAttribute wsX0_checkAttribute) := goodIn_app (goodIn_of _ (by decide +kernel)) ggX0_draft_X0_checkAttribute
set_option maxRecDepth 20000 in
theorem ggX0_draft_X0_checkShop : GoodIn wsX0_draft wsX0_checkShop := goodIn_ca (goodIn_r _ [29, 17, 18] (by decide +kernel) (by decide +kernel)) (goodIn_sub (fun _ h => List.mem_cons_of_mem _ (List.mem_append_right _ h)) (by decide +kernel))
set_option maxRecDepth 20000 in
theorem gX0_draft_X0_checkShop : GoodIn wsX0_draft (va_wsS RX0 138 yX0_checkShop wsX0_checkShop) := goodIn_app (goodIn_of _ (by decide +kernel)) ggX0_draft_X0_checkShop
set_option maxRecDepth 20000 in
theorem ggX0_draft_X0_checkTongue : GoodIn wsX0_draft wsX0_checkTongue := goodIn_ca (goodIn_r _ [32, 17, 18] (by decide +kernel) (by decide +kernel)) (goodIn_sub (fun _ h => List.mem_cons_of_mem _ (List.mem_append_right _ h)) (by decide +kernel))
set_option maxRecDepth 20000 in
theorem gX0_draft_X0_checkTongue : GoodIn wsX0_draft (va_wsS RX0 141 yX0_checkTongue wsX0_checkTongue) := goodIn_app (goodIn_of _ (by decide +kernel)) ggX0_draft_X0_checkTongue
set_option maxRecDepth 20000 in
theorem ggX0_draft_X0_placeOf : GoodIn wsX0_draft wsX0_placeOf := goodIn_r _ [35] (by decide +kernel) (by decide +kernel)
set_option maxRecDepth 20000 in
theorem gX0_draft_X0_placeOf : GoodIn wsX0_draft (va_wsS RX0 151 yX0_placeOf wsX0_placeOf) := goodIn_app (goodIn_of _ (by decide +kernel)) ggX0_draft_X0_placeOf
theorem dX0_draft_0 : decode cX0_draft 0 = .ok (.aload_n 0, 1) := by decide +kernel
theorem dX0_draft_1 : decode cX0_draft 1 = .ok (.iload_n 1, 1) := by decide +kernel
theorem dX0_draft_2 : decode cX0_draft 2 = .ok (.invokevirtual 77, 3) := by decide +kernel
theorem dX0_draft_5 : decode cX0_draft 5 = .ok (.iload_n 2, 1) := by decide +kernel
theorem dX0_draft_6 : decode cX0_draft 6 = .ok (.invokestatic 135, 3) := by decide +kernel
theorem dX0_draft_9 : decode cX0_draft 9 = .ok (.iload_n 3, 1) := by decide +kernel
theorem dX0_draft_10 : decode cX0_draft 10 = .ok (.iconst (-1), 1) := by decide +kernel
theorem dX0_draft_11 : decode cX0_draft 11 = .ok (.if_icmp .eq 7, 3) := by decide +kernel
theorem dX0_draft_14 : decode cX0_draft 14 = .ok (.iload_n 3, 1) := by decide +kernel
theorem dX0_draft_15 : decode cX0_draft 15 = .ok (.invokestatic 138, 3) := by decide +kernel
theorem dX0_draft_18 : decode cX0_draft 18 = .ok (.iload 4, 2) := by decide +kernel
theorem dX0_draft_20 : decode cX0_draft 20 = .ok (.iconst (-1), 1) := by decide +kernel
theorem dX0_draft_21 : decode cX0_draft 21 = .ok (.if_icmp .eq 8, 3) := by decide +kernel
theorem dX0_draft_24 : decode cX0_draft 24 = .ok (.iload 4, 2) := by decide +kernel
theorem dX0_draft_26 : decode cX0_draft 26 = .ok (.invokestatic 141, 3) := by decide +kernel
theorem dX0_draft_29 : decode cX0_draft 29 = .ok (.iload 5, 2) := by decide +kernel
theorem dX0_draft_31 : decode cX0_draft 31 = .ok (.iconst (-1), 1) := by decide +kernel
theorem dX0_draft_32 : decode cX0_draft 32 = .ok (.if_icmp .eq 25, 3) := by decide +kernel
theorem dX0_draft_35 : decode cX0_draft 35 = .ok (.iload 5, 2) := by decide +kernel
theorem dX0_draft_37 : decode cX0_draft 37 = .ok (.ifCond .lt 10, 3) := by decide +kernel
theorem dX0_draft_40 : decode cX0_draft 40 = .ok (.iload 5, 2) := by decide +kernel
theorem dX0_draft_42 : decode cX0_draft 42 = .ok (.ldc 144, 2) := by decide +kernel
theorem dX0_draft_44 : decode cX0_draft 44 = .ok (.if_icmp .le 13, 3) := by decide +kernel
theorem dX0_draft_47 : decode cX0_draft 47 = .ok (.new 108, 3) := by decide +kernel
theorem dX0_draft_50 : decode cX0_draft 50 = .ok (.dup, 1) := by decide +kernel
theorem dX0_draft_51 : decode cX0_draft 51 = .ok (.ldc 145, 2) := by decide +kernel
theorem dX0_draft_53 : decode cX0_draft 53 = .ok (.invokespecial 112, 3) := by decide +kernel
theorem dX0_draft_56 : decode cX0_draft 56 = .ok (.athrow, 1) := by decide +kernel
theorem dX0_draft_57 : decode cX0_draft 57 = .ok (.iload 6, 2) := by decide +kernel
theorem dX0_draft_59 : decode cX0_draft 59 = .ok (.ifCond .lt 11, 3) := by decide +kernel
theorem dX0_draft_62 : decode cX0_draft 62 = .ok (.iload 6, 2) := by decide +kernel
theorem dX0_draft_64 : decode cX0_draft 64 = .ok (.sipush 1000, 3) := by decide +kernel
theorem dX0_draft_67 : decode cX0_draft 67 = .ok (.if_icmp .le 13, 3) := by decide +kernel
theorem dX0_draft_70 : decode cX0_draft 70 = .ok (.new 108, 3) := by decide +kernel
theorem dX0_draft_73 : decode cX0_draft 73 = .ok (.dup, 1) := by decide +kernel
theorem dX0_draft_74 : decode cX0_draft 74 = .ok (.ldc 147, 2) := by decide +kernel
theorem dX0_draft_76 : decode cX0_draft 76 = .ok (.invokespecial 112, 3) := by decide +kernel
theorem dX0_draft_79 : decode cX0_draft 79 = .ok (.athrow, 1) := by decide +kernel
theorem dX0_draft_80 : decode cX0_draft 80 = .ok (.aload_n 0, 1) := by decide +kernel
theorem dX0_draft_81 : decode cX0_draft 81 = .ok (.getfield 42, 3) := by decide +kernel
theorem dX0_draft_84 : decode cX0_draft 84 = .ok (.sipush 200, 3) := by decide +kernel
theorem dX0_draft_87 : decode cX0_draft 87 = .ok (.if_icmp .lt 13, 3) := by decide +kernel
theorem dX0_draft_90 : decode cX0_draft 90 = .ok (.new 68, 3) := by decide +kernel
theorem dX0_draft_93 : decode cX0_draft 93 = .ok (.dup, 1) := by decide +kernel
theorem dX0_draft_94 : decode cX0_draft 94 = .ok (.ldc 149, 2) := by decide +kernel
theorem dX0_draft_96 : decode cX0_draft 96 = .ok (.invokespecial 72, 3) := by decide +kernel
theorem dX0_draft_99 : decode cX0_draft 99 = .ok (.athrow, 1) := by decide +kernel
theorem dX0_draft_100 : decode cX0_draft 100 = .ok (.aload_n 0, 1) := by decide +kernel
theorem dX0_draft_101 : decode cX0_draft 101 = .ok (.getfield 42, 3) := by decide +kernel
theorem dX0_draft_104 : decode cX0_draft 104 = .ok (.istore 7, 2) := by decide +kernel
theorem dX0_draft_106 : decode cX0_draft 106 = .ok (.aload_n 0, 1) := by decide +kernel
theorem dX0_draft_107 : decode cX0_draft 107 = .ok (.dup, 1) := by decide +kernel
theorem dX0_draft_108 : decode cX0_draft 108 = .ok (.getfield 42, 3) := by decide +kernel
theorem dX0_draft_111 : decode cX0_draft 111 = .ok (.iconst 1, 1) := by decide +kernel
theorem dX0_draft_112 : decode cX0_draft 112 = .ok (.iadd, 1) := by decide +kernel
theorem dX0_draft_113 : decode cX0_draft 113 = .ok (.putfield 42, 3) := by decide +kernel
theorem dX0_draft_116 : decode cX0_draft 116 = .ok (.aload_n 0, 1) := by decide +kernel
theorem dX0_draft_117 : decode cX0_draft 117 = .ok (.getfield 27, 3) := by decide +kernel
theorem dX0_draft_120 : decode cX0_draft 120 = .ok (.iload 7, 2) := by decide +kernel
theorem dX0_draft_122 : decode cX0_draft 122 = .ok (.iload_n 1, 1) := by decide +kernel
theorem dX0_draft_123 : decode cX0_draft 123 = .ok (.iastore, 1) := by decide +kernel
theorem dX0_draft_124 : decode cX0_draft 124 = .ok (.aload_n 0, 1) := by decide +kernel
theorem dX0_draft_125 : decode cX0_draft 125 = .ok (.getfield 30, 3) := by decide +kernel
theorem dX0_draft_128 : decode cX0_draft 128 = .ok (.iload 7, 2) := by decide +kernel
theorem dX0_draft_130 : decode cX0_draft 130 = .ok (.iload_n 1, 1) := by decide +kernel
theorem dX0_draft_131 : decode cX0_draft 131 = .ok (.iload_n 2, 1) := by decide +kernel
theorem dX0_draft_132 : decode cX0_draft 132 = .ok (.iload_n 3, 1) := by decide +kernel
theorem dX0_draft_133 : decode cX0_draft 133 = .ok (.iload 4, 2) := by decide +kernel
theorem dX0_draft_135 : decode cX0_draft 135 = .ok (.invokestatic 151, 3) := by decide +kernel
theorem dX0_draft_138 : decode cX0_draft 138 = .ok (.iastore, 1) := by decide +kernel
theorem dX0_draft_139 : decode cX0_draft 139 = .ok (.aload_n 0, 1) := by decide +kernel
theorem dX0_draft_140 : decode cX0_draft 140 = .ok (.getfield 33, 3) := by decide +kernel
theorem dX0_draft_143 : decode cX0_draft 143 = .ok (.iload 7, 2) := by decide +kernel
theorem dX0_draft_145 : decode cX0_draft 145 = .ok (.iload 5, 2) := by decide +kernel
theorem dX0_draft_147 : decode cX0_draft 147 = .ok (.iastore, 1) := by decide +kernel
theorem dX0_draft_148 : decode cX0_draft 148 = .ok (.aload_n 0, 1) := by decide +kernel
theorem dX0_draft_149 : decode cX0_draft 149 = .ok (.getfield 36, 3) := by decide +kernel
theorem dX0_draft_152 : decode cX0_draft 152 = .ok (.iload 7, 2) := by decide +kernel
theorem dX0_draft_154 : decode cX0_draft 154 = .ok (.iload 6, 2) := by decide +kernel
theorem dX0_draft_156 : decode cX0_draft 156 = .ok (.iastore, 1) := by decide +kernel
theorem dX0_draft_157 : decode cX0_draft 157 = .ok (.aload_n 0, 1) := by decide +kernel
theorem dX0_draft_158 : decode cX0_draft 158 = .ok (.getfield 39, 3) := by decide +kernel
theorem dX0_draft_161 : decode cX0_draft 161 = .ok (.iload 7, 2) := by decide +kernel
theorem dX0_draft_163 : decode cX0_draft 163 = .ok (.iconst 1, 1) := by decide +kernel
theorem dX0_draft_164 : decode cX0_draft 164 = .ok (.iastore, 1) := by decide +kernel
theorem dX0_draft_165 : decode cX0_draft 165 = .ok (.iload 7, 2) := by decide +kernel
theorem dX0_draft_167 : decode cX0_draft 167 = .ok (.ireturn, 1) := by decide +kernel
set_option maxRecDepth 20000 in
theorem ggX0_approve_X0_checkDraft : GoodIn wsX0_approve wsX0_checkDraft := goodIn_ca (goodIn_r _ [8, 9, 10, 3, 11, 12, 13, 7, 14, 15, 32, 33, 34, 35, 36, 37, 38, 39, 40, 41, 42, 43, 44, 45, 46, 47] (by decide +kernel) (by decide +kernel)) (goodIn_sub (fun _ h => List.mem_cons_of_mem _ (List.mem_append_right _ h)) (by decide +kernel))
set_option maxRecDepth 20000 in
theorem gX0_approve_X0_checkDraft : GoodIn wsX0_approve (wsV RX0 155 RX0 yX0_checkDraft wsX0_checkDraft) := goodIn_app (goodIn_of _ (by decide +kernel)) ggX0_approve_X0_checkDraft
set_option maxRecDepth 20000 in
theorem ggX0_approve_X0_settleHolders : GoodIn wsX0_approve wsX0_settleHolders := goodIn_r _ [19, 20, 15, 3, 21, 22, 23, 24, 25, 7, 26, 27, 11, 12, 13, 14, 32, 33, 34, 35, 36, 37, 38, 39, 40, 41, 42, 43, 44, 45, 46, 47] (by decide +kernel) (by decide +kernel)
set_option maxRecDepth 20000 in
theorem gX0_approve_X0_settleHolders : GoodIn wsX0_approve (wsV RX0 105 RX0 yX0_settleHolders wsX0_settleHolders) := goodIn_app (goodIn_of _ (by decide +kernel)) ggX0_approve_X0_settleHolders
set_option maxRecDepth 20000 in
theorem ggX0_approve_X0_holdsAtItsPlace : GoodIn wsX0_approve wsX0_holdsAtItsPlace := goodIn_r _ [31, 20, 27, 32, 33, 34, 35, 36, 37, 38, 39, 40, 41, 42, 43, 44, 45, 46, 47] (by decide +kernel) (by decide +kernel)
set_option maxRecDepth 20000 in
theorem gX0_approve_X0_holdsAtItsPlace : GoodIn wsX0_approve (wsV RX0 160 RX0 yX0_holdsAtItsPlace wsX0_holdsAtItsPlace) := goodIn_app (goodIn_of _ (by decide +kernel)) ggX0_approve_X0_holdsAtItsPlace
theorem dX0_approve_0 : decode cX0_approve 0 = .ok (.aload_n 0, 1) := by decide +kernel
theorem dX0_approve_1 : decode cX0_approve 1 = .ok (.iload_n 1, 1) := by decide +kernel
theorem dX0_approve_2 : decode cX0_approve 2 = .ok (.invokevirtual 155, 3) := by decide +kernel
theorem dX0_approve_5 : decode cX0_approve 5 = .ok (.aload_n 0, 1) := by decide +kernel
theorem dX0_approve_6 : decode cX0_approve 6 = .ok (.getfield 39, 3) := by decide +kernel
theorem dX0_approve_9 : decode cX0_approve 9 = .ok (.iload_n 1, 1) := by decide +kernel
theorem dX0_approve_10 : decode cX0_approve 10 = .ok (.iaload, 1) := by decide +kernel
theorem dX0_approve_11 : decode cX0_approve 11 = .ok (.iconst 1, 1) := by decide +kernel
theorem dX0_approve_12 : decode cX0_approve 12 = .ok (.if_icmp .eq 13, 3) := by decide +kernel
theorem dX0_approve_15 : decode cX0_approve 15 = .ok (.new 68, 3) := by decide +kernel
theorem dX0_approve_18 : decode cX0_approve 18 = .ok (.dup, 1) := by decide +kernel
theorem dX0_approve_19 : decode cX0_approve 19 = .ok (.ldc 158, 2) := by decide +kernel
theorem dX0_approve_21 : decode cX0_approve 21 = .ok (.invokespecial 72, 3) := by decide +kernel
theorem dX0_approve_24 : decode cX0_approve 24 = .ok (.athrow, 1) := by decide +kernel
theorem dX0_approve_25 : decode cX0_approve 25 = .ok (.aload_n 0, 1) := by decide +kernel
theorem dX0_approve_26 : decode cX0_approve 26 = .ok (.getfield 39, 3) := by decide +kernel
theorem dX0_approve_29 : decode cX0_approve 29 = .ok (.iload_n 1, 1) := by decide +kernel
theorem dX0_approve_30 : decode cX0_approve 30 = .ok (.iconst 2, 1) := by decide +kernel
theorem dX0_approve_31 : decode cX0_approve 31 = .ok (.iastore, 1) := by decide +kernel
theorem dX0_approve_32 : decode cX0_approve 32 = .ok (.aload_n 0, 1) := by decide +kernel
theorem dX0_approve_33 : decode cX0_approve 33 = .ok (.invokevirtual 105, 3) := by decide +kernel
theorem dX0_approve_36 : decode cX0_approve 36 = .ok (.aload_n 0, 1) := by decide +kernel
theorem dX0_approve_37 : decode cX0_approve 37 = .ok (.iload_n 1, 1) := by decide +kernel
theorem dX0_approve_38 : decode cX0_approve 38 = .ok (.invokevirtual 160, 3) := by decide +kernel
theorem dX0_approve_41 : decode cX0_approve 41 = .ok (.ireturn, 1) := by decide +kernel
set_option maxRecDepth 20000 in
theorem ggX0_reject_X0_checkDraft : GoodIn wsX0_reject wsX0_checkDraft := goodIn_ca (goodIn_r _ [8, 9, 10, 3, 11, 12, 13, 7, 14, 15, 32, 33, 34, 35, 36, 37, 38, 39, 40, 41, 42, 43, 44, 45, 46, 47] (by decide +kernel) (by decide +kernel)) (goodIn_sub (fun _ h => List.mem_cons_of_mem _ (List.mem_append_right _ h)) (by decide +kernel))
set_option maxRecDepth 20000 in
theorem gX0_reject_X0_checkDraft : GoodIn wsX0_reject (wsV RX0 155 RX0 yX0_checkDraft wsX0_checkDraft) := goodIn_app (goodIn_of _ (by decide +kernel)) ggX0_reject_X0_checkDraft
set_option maxRecDepth 20000 in
theorem ggX0_reject_X0_holdsAtItsPlace : GoodIn wsX0_reject wsX0_holdsAtItsPlace := goodIn_r _ [19, 20, 21, 32, 33, 34, 35, 36, 37, 38, 39, 40, 41, 42, 43, 44, 45, 46, 47] (by decide +kernel) (by decide +kernel)
set_option maxRecDepth 20000 in
theorem gX0_reject_X0_holdsAtItsPlace : GoodIn wsX0_reject (wsV RX0 160 RX0 yX0_holdsAtItsPlace wsX0_holdsAtItsPlace) := goodIn_app (goodIn_of _ (by decide +kernel)) ggX0_reject_X0_holdsAtItsPlace
set_option maxRecDepth 20000 in
theorem ggX0_reject_X0_settleHolders : GoodIn wsX0_reject wsX0_settleHolders := goodIn_r _ [25, 20, 15, 3, 26, 27, 28, 29, 30, 7, 31, 21, 11, 12, 13, 14, 32, 33, 34, 35, 36, 37, 38, 39, 40, 41, 42, 43, 44, 45, 46, 47] (by decide +kernel) (by decide +kernel)
set_option maxRecDepth 20000 in
theorem gX0_reject_X0_settleHolders : GoodIn wsX0_reject (wsV RX0 105 RX0 yX0_settleHolders wsX0_settleHolders) := goodIn_app (goodIn_of _ (by decide +kernel)) ggX0_reject_X0_settleHolders
theorem dX0_reject_0 : decode cX0_reject 0 = .ok (.aload_n 0, 1) := by decide +kernel
theorem dX0_reject_1 : decode cX0_reject 1 = .ok (.iload_n 1, 1) := by decide +kernel
theorem dX0_reject_2 : decode cX0_reject 2 = .ok (.invokevirtual 155, 3) := by decide +kernel
theorem dX0_reject_5 : decode cX0_reject 5 = .ok (.aload_n 0, 1) := by decide +kernel
theorem dX0_reject_6 : decode cX0_reject 6 = .ok (.getfield 39, 3) := by decide +kernel
theorem dX0_reject_9 : decode cX0_reject 9 = .ok (.iload_n 1, 1) := by decide +kernel
theorem dX0_reject_10 : decode cX0_reject 10 = .ok (.iaload, 1) := by decide +kernel
theorem dX0_reject_11 : decode cX0_reject 11 = .ok (.iconst 3, 1) := by decide +kernel
theorem dX0_reject_12 : decode cX0_reject 12 = .ok (.if_icmp .ne 13, 3) := by decide +kernel
theorem dX0_reject_15 : decode cX0_reject 15 = .ok (.new 68, 3) := by decide +kernel
theorem dX0_reject_18 : decode cX0_reject 18 = .ok (.dup, 1) := by decide +kernel
theorem dX0_reject_19 : decode cX0_reject 19 = .ok (.ldc 163, 2) := by decide +kernel
theorem dX0_reject_21 : decode cX0_reject 21 = .ok (.invokespecial 72, 3) := by decide +kernel
theorem dX0_reject_24 : decode cX0_reject 24 = .ok (.athrow, 1) := by decide +kernel
theorem dX0_reject_25 : decode cX0_reject 25 = .ok (.aload_n 0, 1) := by decide +kernel
theorem dX0_reject_26 : decode cX0_reject 26 = .ok (.iload_n 1, 1) := by decide +kernel
theorem dX0_reject_27 : decode cX0_reject 27 = .ok (.invokevirtual 160, 3) := by decide +kernel
theorem dX0_reject_30 : decode cX0_reject 30 = .ok (.istore_n 2, 1) := by decide +kernel
theorem dX0_reject_31 : decode cX0_reject 31 = .ok (.aload_n 0, 1) := by decide +kernel
theorem dX0_reject_32 : decode cX0_reject 32 = .ok (.getfield 39, 3) := by decide +kernel
theorem dX0_reject_35 : decode cX0_reject 35 = .ok (.iload_n 1, 1) := by decide +kernel
theorem dX0_reject_36 : decode cX0_reject 36 = .ok (.iconst 3, 1) := by decide +kernel
theorem dX0_reject_37 : decode cX0_reject 37 = .ok (.iastore, 1) := by decide +kernel
theorem dX0_reject_38 : decode cX0_reject 38 = .ok (.aload_n 0, 1) := by decide +kernel
theorem dX0_reject_39 : decode cX0_reject 39 = .ok (.invokevirtual 105, 3) := by decide +kernel
theorem dX0_reject_42 : decode cX0_reject 42 = .ok (.iload_n 2, 1) := by decide +kernel
theorem dX0_reject_43 : decode cX0_reject 43 = .ok (.ireturn, 1) := by decide +kernel
set_option maxRecDepth 20000 in
theorem ggX0_pass_X0_settleHolders : GoodIn wsX0_pass wsX0_settleHolders := goodIn_r _ [8, 9, 10, 11, 12, 3, 13, 14, 15, 7, 16, 17, 18, 19, 20, 21, 22, 23, 24, 25, 26, 27, 28, 29, 30, 31, 32, 33, 34, 35, 36, 37] (by decide +kernel) (by decide +kernel)
set_option maxRecDepth 20000 in
theorem gX0_pass_X0_settleHolders : GoodIn wsX0_pass (wsV RX0 105 RX0 yX0_settleHolders wsX0_settleHolders) := goodIn_app (goodIn_of _ (by decide +kernel)) ggX0_pass_X0_settleHolders
theorem dX0_pass_0 : decode cX0_pass 0 = .ok (.iload_n 1, 1) := by decide +kernel
theorem dX0_pass_1 : decode cX0_pass 1 = .ok (.iconst 1, 1) := by decide +kernel
theorem dX0_pass_2 : decode cX0_pass 2 = .ok (.if_icmp .lt 9, 3) := by decide +kernel
theorem dX0_pass_5 : decode cX0_pass 5 = .ok (.iload_n 1, 1) := by decide +kernel
theorem dX0_pass_6 : decode cX0_pass 6 = .ok (.bipush 100, 2) := by decide +kernel
theorem dX0_pass_8 : decode cX0_pass 8 = .ok (.if_icmp .le 13, 3) := by decide +kernel
theorem dX0_pass_11 : decode cX0_pass 11 = .ok (.new 108, 3) := by decide +kernel
theorem dX0_pass_14 : decode cX0_pass 14 = .ok (.dup, 1) := by decide +kernel
theorem dX0_pass_15 : decode cX0_pass 15 = .ok (.ldc 165, 2) := by decide +kernel
theorem dX0_pass_17 : decode cX0_pass 17 = .ok (.invokespecial 112, 3) := by decide +kernel
theorem dX0_pass_20 : decode cX0_pass 20 = .ok (.athrow, 1) := by decide +kernel
theorem dX0_pass_21 : decode cX0_pass 21 = .ok (.aload_n 0, 1) := by decide +kernel
theorem dX0_pass_22 : decode cX0_pass 22 = .ok (.dup, 1) := by decide +kernel
theorem dX0_pass_23 : decode cX0_pass 23 = .ok (.getfield 45, 3) := by decide +kernel
theorem dX0_pass_26 : decode cX0_pass 26 = .ok (.iload_n 1, 1) := by decide +kernel
theorem dX0_pass_27 : decode cX0_pass 27 = .ok (.iadd, 1) := by decide +kernel
theorem dX0_pass_28 : decode cX0_pass 28 = .ok (.putfield 45, 3) := by decide +kernel
theorem dX0_pass_31 : decode cX0_pass 31 = .ok (.aload_n 0, 1) := by decide +kernel
theorem dX0_pass_32 : decode cX0_pass 32 = .ok (.invokevirtual 105, 3) := by decide +kernel
theorem dX0_pass_35 : decode cX0_pass 35 = .ok (.aload_n 0, 1) := by decide +kernel
theorem dX0_pass_36 : decode cX0_pass 36 = .ok (.getfield 45, 3) := by decide +kernel
theorem dX0_pass_39 : decode cX0_pass 39 = .ok (.ireturn, 1) := by decide +kernel
theorem dX0_isEntered_0 : decode cX0_isEntered 0 = .ok (.iload_n 1, 1) := by decide +kernel
theorem dX0_isEntered_1 : decode cX0_isEntered 1 = .ok (.ifCond .lt 15, 3) := by decide +kernel
theorem dX0_isEntered_4 : decode cX0_isEntered 4 = .ok (.iload_n 1, 1) := by decide +kernel
theorem dX0_isEntered_5 : decode cX0_isEntered 5 = .ok (.aload_n 0, 1) := by decide +kernel
theorem dX0_isEntered_6 : decode cX0_isEntered 6 = .ok (.getfield 42, 3) := by decide +kernel
theorem dX0_isEntered_9 : decode cX0_isEntered 9 = .ok (.if_icmp .ge 7, 3) := by decide +kernel
theorem dX0_isEntered_12 : decode cX0_isEntered 12 = .ok (.iconst 1, 1) := by decide +kernel
theorem dX0_isEntered_13 : decode cX0_isEntered 13 = .ok (.goto 4, 3) := by decide +kernel
theorem dX0_isEntered_16 : decode cX0_isEntered 16 = .ok (.iconst 0, 1) := by decide +kernel
theorem dX0_isEntered_17 : decode cX0_isEntered 17 = .ok (.ireturn, 1) := by decide +kernel
set_option maxRecDepth 20000 in
theorem ggX0_checkDraft_X0_isEntered : GoodIn wsX0_checkDraft wsX0_isEntered := goodIn_r _ [8, 9, 10, 11, 12, 13, 14, 15, 16, 17, 18, 19, 20, 21, 22, 23, 24, 25] (by decide +kernel) (by decide +kernel)
set_option maxRecDepth 20000 in
theorem gX0_checkDraft_X0_isEntered : GoodIn wsX0_checkDraft (wsV RX0 167 RX0 yX0_isEntered wsX0_isEntered) := goodIn_app (goodIn_of _ (by decide +kernel)) ggX0_checkDraft_X0_isEntered
theorem dX0_checkDraft_0 : decode cX0_checkDraft 0 = .ok (.aload_n 0, 1) := by decide +kernel
theorem dX0_checkDraft_1 : decode cX0_checkDraft 1 = .ok (.iload_n 1, 1) := by decide +kernel
theorem dX0_checkDraft_2 : decode cX0_checkDraft 2 = .ok (.invokevirtual 167, 3) := by decide +kernel
theorem dX0_checkDraft_5 : decode cX0_checkDraft 5 = .ok (.ifCond .eq 13, 3) := by decide +kernel
theorem dX0_checkDraft_8 : decode cX0_checkDraft 8 = .ok (.aload_n 0, 1) := by decide +kernel
theorem dX0_checkDraft_9 : decode cX0_checkDraft 9 = .ok (.getfield 39, 3) := by decide +kernel
theorem dX0_checkDraft_12 : decode cX0_checkDraft 12 = .ok (.iload_n 1, 1) := by decide +kernel
theorem dX0_checkDraft_13 : decode cX0_checkDraft 13 = .ok (.iaload, 1) := by decide +kernel
theorem dX0_checkDraft_14 : decode cX0_checkDraft 14 = .ok (.iconst 4, 1) := by decide +kernel
theorem dX0_checkDraft_15 : decode cX0_checkDraft 15 = .ok (.if_icmp .ne 13, 3) := by decide +kernel
theorem dX0_checkDraft_18 : decode cX0_checkDraft 18 = .ok (.new 122, 3) := by decide +kernel
theorem dX0_checkDraft_21 : decode cX0_checkDraft 21 = .ok (.dup, 1) := by decide +kernel
theorem dX0_checkDraft_22 : decode cX0_checkDraft 22 = .ok (.ldc 170, 2) := by decide +kernel
theorem dX0_checkDraft_24 : decode cX0_checkDraft 24 = .ok (.invokespecial 126, 3) := by decide +kernel
theorem dX0_checkDraft_27 : decode cX0_checkDraft 27 = .ok (.athrow, 1) := by decide +kernel
theorem dX0_checkDraft_28 : decode cX0_checkDraft 28 = .ok (.return_, 1) := by decide +kernel
theorem dX0_placeOf_0 : decode cX0_placeOf 0 = .ok (.iload_n 0, 1) := by decide +kernel
theorem dX0_placeOf_1 : decode cX0_placeOf 1 = .ok (.bipush 6, 2) := by decide +kernel
theorem dX0_placeOf_3 : decode cX0_placeOf 3 = .ok (.imul, 1) := by decide +kernel
theorem dX0_placeOf_4 : decode cX0_placeOf 4 = .ok (.iload_n 1, 1) := by decide +kernel
theorem dX0_placeOf_5 : decode cX0_placeOf 5 = .ok (.iadd, 1) := by decide +kernel
theorem dX0_placeOf_6 : decode cX0_placeOf 6 = .ok (.istore 4, 2) := by decide +kernel
theorem dX0_placeOf_8 : decode cX0_placeOf 8 = .ok (.iload_n 2, 1) := by decide +kernel
theorem dX0_placeOf_9 : decode cX0_placeOf 9 = .ok (.iconst 1, 1) := by decide +kernel
theorem dX0_placeOf_10 : decode cX0_placeOf 10 = .ok (.iadd, 1) := by decide +kernel
theorem dX0_placeOf_11 : decode cX0_placeOf 11 = .ok (.iconst 4, 1) := by decide +kernel
theorem dX0_placeOf_12 : decode cX0_placeOf 12 = .ok (.imul, 1) := by decide +kernel
theorem dX0_placeOf_13 : decode cX0_placeOf 13 = .ok (.iload_n 3, 1) := by decide +kernel
theorem dX0_placeOf_14 : decode cX0_placeOf 14 = .ok (.iadd, 1) := by decide +kernel
theorem dX0_placeOf_15 : decode cX0_placeOf 15 = .ok (.iconst 1, 1) := by decide +kernel
theorem dX0_placeOf_16 : decode cX0_placeOf 16 = .ok (.iadd, 1) := by decide +kernel
theorem dX0_placeOf_17 : decode cX0_placeOf 17 = .ok (.istore 5, 2) := by decide +kernel
theorem dX0_placeOf_19 : decode cX0_placeOf 19 = .ok (.iload 4, 2) := by decide +kernel
theorem dX0_placeOf_21 : decode cX0_placeOf 21 = .ok (.bipush 16, 2) := by decide +kernel
theorem dX0_placeOf_23 : decode cX0_placeOf 23 = .ok (.imul, 1) := by decide +kernel
theorem dX0_placeOf_24 : decode cX0_placeOf 24 = .ok (.iload 5, 2) := by decide +kernel
theorem dX0_placeOf_26 : decode cX0_placeOf 26 = .ok (.iadd, 1) := by decide +kernel
theorem dX0_placeOf_27 : decode cX0_placeOf 27 = .ok (.ireturn, 1) := by decide +kernel
theorem dX0_holdsAtItsPlace_0 : decode cX0_holdsAtItsPlace 0 = .ok (.aload_n 0, 1) := by decide +kernel
theorem dX0_holdsAtItsPlace_1 : decode cX0_holdsAtItsPlace 1 = .ok (.getfield 48, 3) := by decide +kernel
theorem dX0_holdsAtItsPlace_4 : decode cX0_holdsAtItsPlace 4 = .ok (.aload_n 0, 1) := by decide +kernel
theorem dX0_holdsAtItsPlace_5 : decode cX0_holdsAtItsPlace 5 = .ok (.getfield 30, 3) := by decide +kernel
theorem dX0_holdsAtItsPlace_8 : decode cX0_holdsAtItsPlace 8 = .ok (.iload_n 1, 1) := by decide +kernel
theorem dX0_holdsAtItsPlace_9 : decode cX0_holdsAtItsPlace 9 = .ok (.iaload, 1) := by decide +kernel
theorem dX0_holdsAtItsPlace_10 : decode cX0_holdsAtItsPlace 10 = .ok (.iaload, 1) := by decide +kernel
theorem dX0_holdsAtItsPlace_11 : decode cX0_holdsAtItsPlace 11 = .ok (.iload_n 1, 1) := by decide +kernel
theorem dX0_holdsAtItsPlace_12 : decode cX0_holdsAtItsPlace 12 = .ok (.if_icmp .ne 7, 3) := by decide +kernel
theorem dX0_holdsAtItsPlace_15 : decode cX0_holdsAtItsPlace 15 = .ok (.iconst 1, 1) := by decide +kernel
theorem dX0_holdsAtItsPlace_16 : decode cX0_holdsAtItsPlace 16 = .ok (.goto 4, 3) := by decide +kernel
theorem dX0_holdsAtItsPlace_19 : decode cX0_holdsAtItsPlace 19 = .ok (.iconst 0, 1) := by decide +kernel
theorem dX0_holdsAtItsPlace_20 : decode cX0_holdsAtItsPlace 20 = .ok (.ireturn, 1) := by decide +kernel
theorem dX0_deleteDraftsOf_0 : decode cX0_deleteDraftsOf 0 = .ok (.iconst 0, 1) := by decide +kernel
theorem dX0_deleteDraftsOf_1 : decode cX0_deleteDraftsOf 1 = .ok (.istore_n 2, 1) := by decide +kernel
theorem dX0_deleteDraftsOf_2 : decode cX0_deleteDraftsOf 2 = .ok (.iload_n 2, 1) := by decide +kernel
theorem dX0_deleteDraftsOf_3 : decode cX0_deleteDraftsOf 3 = .ok (.aload_n 0, 1) := by decide +kernel
theorem dX0_deleteDraftsOf_4 : decode cX0_deleteDraftsOf 4 = .ok (.getfield 42, 3) := by decide +kernel
theorem dX0_deleteDraftsOf_7 : decode cX0_deleteDraftsOf 7 = .ok (.if_icmp .ge 26, 3) := by decide +kernel
theorem dX0_deleteDraftsOf_10 : decode cX0_deleteDraftsOf 10 = .ok (.aload_n 0, 1) := by decide +kernel
theorem dX0_deleteDraftsOf_11 : decode cX0_deleteDraftsOf 11 = .ok (.getfield 27, 3) := by decide +kernel
theorem dX0_deleteDraftsOf_14 : decode cX0_deleteDraftsOf 14 = .ok (.iload_n 2, 1) := by decide +kernel
theorem dX0_deleteDraftsOf_15 : decode cX0_deleteDraftsOf 15 = .ok (.iaload, 1) := by decide +kernel
theorem dX0_deleteDraftsOf_16 : decode cX0_deleteDraftsOf 16 = .ok (.iload_n 1, 1) := by decide +kernel
theorem dX0_deleteDraftsOf_17 : decode cX0_deleteDraftsOf 17 = .ok (.if_icmp .ne 10, 3) := by decide +kernel
theorem dX0_deleteDraftsOf_20 : decode cX0_deleteDraftsOf 20 = .ok (.aload_n 0, 1) := by decide +kernel
theorem dX0_deleteDraftsOf_21 : decode cX0_deleteDraftsOf 21 = .ok (.getfield 39, 3) := by decide +kernel
theorem dX0_deleteDraftsOf_24 : decode cX0_deleteDraftsOf 24 = .ok (.iload_n 2, 1) := by decide +kernel
theorem dX0_deleteDraftsOf_25 : decode cX0_deleteDraftsOf 25 = .ok (.iconst 4, 1) := by decide +kernel
theorem dX0_deleteDraftsOf_26 : decode cX0_deleteDraftsOf 26 = .ok (.iastore, 1) := by decide +kernel
theorem dX0_deleteDraftsOf_27 : decode cX0_deleteDraftsOf 27 = .ok (.iinc 2 1, 3) := by decide +kernel
theorem dX0_deleteDraftsOf_30 : decode cX0_deleteDraftsOf 30 = .ok (.goto (-28), 3) := by decide +kernel
theorem dX0_deleteDraftsOf_33 : decode cX0_deleteDraftsOf 33 = .ok (.return_, 1) := by decide +kernel
set_option maxRecDepth 20000 in
theorem ggX0_settleHolders_X0_putHolder : GoodIn wsX0_settleHolders wsX0_putHolder := goodIn_r _ [10, 11, 1, 4, 12, 13, 14, 9, 15, 2, 16, 17, 18, 19, 20, 21, 22, 23, 24, 25, 26, 27, 28, 29, 30, 31] (by decide +kernel) (by decide +kernel)
set_option maxRecDepth 20000 in
theorem gX0_settleHolders_X0_putHolder : GoodIn wsX0_settleHolders (wsV RX0 172 RX0 yX0_putHolder wsX0_putHolder) := goodIn_app (goodIn_of _ (by decide +kernel)) ggX0_settleHolders_X0_putHolder
theorem dX0_settleHolders_0 : decode cX0_settleHolders 0 = .ok (.iconst 0, 1) := by decide +kernel
theorem dX0_settleHolders_1 : decode cX0_settleHolders 1 = .ok (.istore_n 1, 1) := by decide +kernel
theorem dX0_settleHolders_2 : decode cX0_settleHolders 2 = .ok (.iload_n 1, 1) := by decide +kernel
theorem dX0_settleHolders_3 : decode cX0_settleHolders 3 = .ok (.aload_n 0, 1) := by decide +kernel
theorem dX0_settleHolders_4 : decode cX0_settleHolders 4 = .ok (.getfield 48, 3) := by decide +kernel
theorem dX0_settleHolders_7 : decode cX0_settleHolders 7 = .ok (.arraylength, 1) := by decide +kernel
theorem dX0_settleHolders_8 : decode cX0_settleHolders 8 = .ok (.if_icmp .ge 16, 3) := by decide +kernel
theorem dX0_settleHolders_11 : decode cX0_settleHolders 11 = .ok (.aload_n 0, 1) := by decide +kernel
theorem dX0_settleHolders_12 : decode cX0_settleHolders 12 = .ok (.getfield 48, 3) := by decide +kernel
theorem dX0_settleHolders_15 : decode cX0_settleHolders 15 = .ok (.iload_n 1, 1) := by decide +kernel
theorem dX0_settleHolders_16 : decode cX0_settleHolders 16 = .ok (.iconst (-1), 1) := by decide +kernel
theorem dX0_settleHolders_17 : decode cX0_settleHolders 17 = .ok (.iastore, 1) := by decide +kernel
theorem dX0_settleHolders_18 : decode cX0_settleHolders 18 = .ok (.iinc 1 1, 3) := by decide +kernel
theorem dX0_settleHolders_21 : decode cX0_settleHolders 21 = .ok (.goto (-19), 3) := by decide +kernel
theorem dX0_settleHolders_24 : decode cX0_settleHolders 24 = .ok (.iconst 0, 1) := by decide +kernel
theorem dX0_settleHolders_25 : decode cX0_settleHolders 25 = .ok (.istore_n 1, 1) := by decide +kernel
theorem dX0_settleHolders_26 : decode cX0_settleHolders 26 = .ok (.iload_n 1, 1) := by decide +kernel
theorem dX0_settleHolders_27 : decode cX0_settleHolders 27 = .ok (.aload_n 0, 1) := by decide +kernel
theorem dX0_settleHolders_28 : decode cX0_settleHolders 28 = .ok (.getfield 42, 3) := by decide +kernel
theorem dX0_settleHolders_31 : decode cX0_settleHolders 31 = .ok (.if_icmp .ge 37, 3) := by decide +kernel
theorem dX0_settleHolders_34 : decode cX0_settleHolders 34 = .ok (.aload_n 0, 1) := by decide +kernel
theorem dX0_settleHolders_35 : decode cX0_settleHolders 35 = .ok (.getfield 39, 3) := by decide +kernel
theorem dX0_settleHolders_38 : decode cX0_settleHolders 38 = .ok (.iload_n 1, 1) := by decide +kernel
theorem dX0_settleHolders_39 : decode cX0_settleHolders 39 = .ok (.iaload, 1) := by decide +kernel
theorem dX0_settleHolders_40 : decode cX0_settleHolders 40 = .ok (.iconst 2, 1) := by decide +kernel
theorem dX0_settleHolders_41 : decode cX0_settleHolders 41 = .ok (.if_icmp .ne 21, 3) := by decide +kernel
theorem dX0_settleHolders_44 : decode cX0_settleHolders 44 = .ok (.aload_n 0, 1) := by decide +kernel
theorem dX0_settleHolders_45 : decode cX0_settleHolders 45 = .ok (.getfield 36, 3) := by decide +kernel
theorem dX0_settleHolders_48 : decode cX0_settleHolders 48 = .ok (.iload_n 1, 1) := by decide +kernel
theorem dX0_settleHolders_49 : decode cX0_settleHolders 49 = .ok (.iaload, 1) := by decide +kernel
theorem dX0_settleHolders_50 : decode cX0_settleHolders 50 = .ok (.aload_n 0, 1) := by decide +kernel
theorem dX0_settleHolders_51 : decode cX0_settleHolders 51 = .ok (.getfield 45, 3) := by decide +kernel
theorem dX0_settleHolders_54 : decode cX0_settleHolders 54 = .ok (.if_icmp .gt 8, 3) := by decide +kernel
theorem dX0_settleHolders_57 : decode cX0_settleHolders 57 = .ok (.aload_n 0, 1) := by decide +kernel
theorem dX0_settleHolders_58 : decode cX0_settleHolders 58 = .ok (.iload_n 1, 1) := by decide +kernel
theorem dX0_settleHolders_59 : decode cX0_settleHolders 59 = .ok (.invokevirtual 172, 3) := by decide +kernel
theorem dX0_settleHolders_62 : decode cX0_settleHolders 62 = .ok (.iinc 1 1, 3) := by decide +kernel
theorem dX0_settleHolders_65 : decode cX0_settleHolders 65 = .ok (.goto (-39), 3) := by decide +kernel
theorem dX0_settleHolders_68 : decode cX0_settleHolders 68 = .ok (.return_, 1) := by decide +kernel
set_option maxRecDepth 20000 in
theorem ggX0_putHolder_X0_isEntered : GoodIn wsX0_putHolder wsX0_isEntered := goodIn_r _ [8, 9, 10, 11, 12, 13, 14, 15, 16, 17, 18, 19, 20, 21, 22, 23, 24, 25] (by decide +kernel) (by decide +kernel)
set_option maxRecDepth 20000 in
theorem gX0_putHolder_X0_isEntered : GoodIn wsX0_putHolder (wsV RX0 167 RX0 yX0_isEntered wsX0_isEntered) := goodIn_app (goodIn_of _ (by decide +kernel)) ggX0_putHolder_X0_isEntered
theorem dX0_putHolder_0 : decode cX0_putHolder 0 = .ok (.aload_n 0, 1) := by decide +kernel
theorem dX0_putHolder_1 : decode cX0_putHolder 1 = .ok (.getfield 30, 3) := by decide +kernel
theorem dX0_putHolder_4 : decode cX0_putHolder 4 = .ok (.iload_n 1, 1) := by decide +kernel
theorem dX0_putHolder_5 : decode cX0_putHolder 5 = .ok (.iaload, 1) := by decide +kernel
theorem dX0_putHolder_6 : decode cX0_putHolder 6 = .ok (.istore_n 2, 1) := by decide +kernel
theorem dX0_putHolder_7 : decode cX0_putHolder 7 = .ok (.aload_n 0, 1) := by decide +kernel
theorem dX0_putHolder_8 : decode cX0_putHolder 8 = .ok (.getfield 48, 3) := by decide +kernel
theorem dX0_putHolder_11 : decode cX0_putHolder 11 = .ok (.iload_n 2, 1) := by decide +kernel
theorem dX0_putHolder_12 : decode cX0_putHolder 12 = .ok (.iaload, 1) := by decide +kernel
theorem dX0_putHolder_13 : decode cX0_putHolder 13 = .ok (.istore_n 3, 1) := by decide +kernel
theorem dX0_putHolder_14 : decode cX0_putHolder 14 = .ok (.aload_n 0, 1) := by decide +kernel
theorem dX0_putHolder_15 : decode cX0_putHolder 15 = .ok (.iload_n 3, 1) := by decide +kernel
theorem dX0_putHolder_16 : decode cX0_putHolder 16 = .ok (.invokevirtual 167, 3) := by decide +kernel
theorem dX0_putHolder_19 : decode cX0_putHolder 19 = .ok (.ifCond .eq 18, 3) := by decide +kernel
theorem dX0_putHolder_22 : decode cX0_putHolder 22 = .ok (.aload_n 0, 1) := by decide +kernel
theorem dX0_putHolder_23 : decode cX0_putHolder 23 = .ok (.getfield 36, 3) := by decide +kernel
theorem dX0_putHolder_26 : decode cX0_putHolder 26 = .ok (.iload_n 1, 1) := by decide +kernel
theorem dX0_putHolder_27 : decode cX0_putHolder 27 = .ok (.iaload, 1) := by decide +kernel
theorem dX0_putHolder_28 : decode cX0_putHolder 28 = .ok (.aload_n 0, 1) := by decide +kernel
theorem dX0_putHolder_29 : decode cX0_putHolder 29 = .ok (.getfield 36, 3) := by decide +kernel
theorem dX0_putHolder_32 : decode cX0_putHolder 32 = .ok (.iload_n 3, 1) := by decide +kernel
theorem dX0_putHolder_33 : decode cX0_putHolder 33 = .ok (.iaload, 1) := by decide +kernel
theorem dX0_putHolder_34 : decode cX0_putHolder 34 = .ok (.if_icmp .lt 10, 3) := by decide +kernel
theorem dX0_putHolder_37 : decode cX0_putHolder 37 = .ok (.aload_n 0, 1) := by decide +kernel
theorem dX0_putHolder_38 : decode cX0_putHolder 38 = .ok (.getfield 48, 3) := by decide +kernel
theorem dX0_putHolder_41 : decode cX0_putHolder 41 = .ok (.iload_n 2, 1) := by decide +kernel
theorem dX0_putHolder_42 : decode cX0_putHolder 42 = .ok (.iload_n 1, 1) := by decide +kernel
theorem dX0_putHolder_43 : decode cX0_putHolder 43 = .ok (.iastore, 1) := by decide +kernel
theorem dX0_putHolder_44 : decode cX0_putHolder 44 = .ok (.return_, 1) := by decide +kernel
set_option maxRecDepth 20000 in
theorem ggX0_value_X0_checkSight : GoodIn wsX0_value wsX0_checkSight := goodIn_ca (goodIn_r _ [7, 8, 9, 10, 6, 11, 12, 13, 14, 15, 16, 17, 18, 19, 20, 21, 22, 23, 24, 25, 26, 27, 51, 52, 53, 54, 55, 56, 57, 58, 59, 60, 61, 62, 63, 64, 65, 66] (by decide +kernel) (by decide +kernel)) (goodIn_sub (fun _ h => List.mem_cons_of_mem _ (List.mem_append_right _ h)) (by decide +kernel))
set_option maxRecDepth 20000 in
theorem gX0_value_X0_checkSight : GoodIn wsX0_value (wsV RX0 175 RX0 yX0_checkSight wsX0_checkSight) := goodIn_app (goodIn_of _ (by decide +kernel)) ggX0_value_X0_checkSight
set_option maxRecDepth 20000 in
theorem ggX0_value_X0_findValue : GoodIn wsX0_value wsX0_findValue := goodIn_r _ [31, 32, 33, 34, 35, 6, 36, 37, 14, 15, 16, 17, 18, 38, 39, 40, 41, 42, 43, 44, 45, 46, 47, 48, 49, 50, 51, 52, 53, 54, 55, 56, 57, 58, 59, 60, 61, 62, 63, 64, 65, 66] (by decide +kernel) (by decide +kernel)
set_option maxRecDepth 20000 in
theorem gX0_value_X0_findValue : GoodIn wsX0_value (wsV RX0 179 RX0 yX0_findValue wsX0_findValue) := goodIn_app (goodIn_of _ (by decide +kernel)) ggX0_value_X0_findValue
theorem dX0_value_0 : decode cX0_value 0 = .ok (.aload_n 0, 1) := by decide +kernel
theorem dX0_value_1 : decode cX0_value 1 = .ok (.iload_n 1, 1) := by decide +kernel
theorem dX0_value_2 : decode cX0_value 2 = .ok (.iload_n 2, 1) := by decide +kernel
theorem dX0_value_3 : decode cX0_value 3 = .ok (.iload_n 3, 1) := by decide +kernel
theorem dX0_value_4 : decode cX0_value 4 = .ok (.iload 4, 2) := by decide +kernel
theorem dX0_value_6 : decode cX0_value 6 = .ok (.invokevirtual 175, 3) := by decide +kernel
theorem dX0_value_9 : decode cX0_value 9 = .ok (.aload_n 0, 1) := by decide +kernel
theorem dX0_value_10 : decode cX0_value 10 = .ok (.iload_n 1, 1) := by decide +kernel
theorem dX0_value_11 : decode cX0_value 11 = .ok (.iload_n 2, 1) := by decide +kernel
theorem dX0_value_12 : decode cX0_value 12 = .ok (.iload_n 3, 1) := by decide +kernel
theorem dX0_value_13 : decode cX0_value 13 = .ok (.iload 4, 2) := by decide +kernel
theorem dX0_value_15 : decode cX0_value 15 = .ok (.invokevirtual 179, 3) := by decide +kernel
theorem dX0_value_18 : decode cX0_value 18 = .ok (.istore 5, 2) := by decide +kernel
theorem dX0_value_20 : decode cX0_value 20 = .ok (.iload 5, 2) := by decide +kernel
theorem dX0_value_22 : decode cX0_value 22 = .ok (.iconst (-1), 1) := by decide +kernel
theorem dX0_value_23 : decode cX0_value 23 = .ok (.if_icmp .ne 13, 3) := by decide +kernel
theorem dX0_value_26 : decode cX0_value 26 = .ok (.new 68, 3) := by decide +kernel
theorem dX0_value_29 : decode cX0_value 29 = .ok (.dup, 1) := by decide +kernel
theorem dX0_value_30 : decode cX0_value 30 = .ok (.ldc 182, 2) := by decide +kernel
theorem dX0_value_32 : decode cX0_value 32 = .ok (.invokespecial 72, 3) := by decide +kernel
theorem dX0_value_35 : decode cX0_value 35 = .ok (.athrow, 1) := by decide +kernel
theorem dX0_value_36 : decode cX0_value 36 = .ok (.iload 5, 2) := by decide +kernel
theorem dX0_value_38 : decode cX0_value 38 = .ok (.ireturn, 1) := by decide +kernel
set_option maxRecDepth 20000 in
theorem ggX0_origin_X0_checkSight : GoodIn wsX0_origin wsX0_checkSight := goodIn_ca (goodIn_r _ [5, 6, 7, 8, 4, 9, 10, 11, 12, 13, 14, 15, 16, 17, 18, 19, 20, 21, 22, 23, 24, 25, 39, 40, 41, 42, 43, 44, 45, 46, 47, 48, 49, 50, 51, 52, 53, 54] (by decide +kernel) (by decide +kernel)) (goodIn_sub (fun _ h => List.mem_cons_of_mem _ (List.mem_append_right _ h)) (by decide +kernel))
set_option maxRecDepth 20000 in
theorem gX0_origin_X0_checkSight : GoodIn wsX0_origin (wsV RX0 175 RX0 yX0_checkSight wsX0_checkSight) := goodIn_app (goodIn_of _ (by decide +kernel)) ggX0_origin_X0_checkSight
set_option maxRecDepth 20000 in
theorem ggX0_origin_X0_findOrigin : GoodIn wsX0_origin wsX0_findOrigin := goodIn_r _ [29, 30, 12, 13, 14, 4, 15, 16, 31, 32, 33, 34, 35, 36, 37, 38, 39, 40, 41, 42, 43, 44, 45, 46, 47, 48, 49, 50, 51, 52, 53, 54] (by decide +kernel) (by decide +kernel)
set_option maxRecDepth 20000 in
theorem gX0_origin_X0_findOrigin : GoodIn wsX0_origin (wsV RX0 184 RX0 yX0_findOrigin wsX0_findOrigin) := goodIn_app (goodIn_of _ (by decide +kernel)) ggX0_origin_X0_findOrigin
theorem dX0_origin_0 : decode cX0_origin 0 = .ok (.aload_n 0, 1) := by decide +kernel
theorem dX0_origin_1 : decode cX0_origin 1 = .ok (.iload_n 1, 1) := by decide +kernel
theorem dX0_origin_2 : decode cX0_origin 2 = .ok (.iload_n 2, 1) := by decide +kernel
theorem dX0_origin_3 : decode cX0_origin 3 = .ok (.iload_n 3, 1) := by decide +kernel
theorem dX0_origin_4 : decode cX0_origin 4 = .ok (.iload 4, 2) := by decide +kernel
theorem dX0_origin_6 : decode cX0_origin 6 = .ok (.invokevirtual 175, 3) := by decide +kernel
theorem dX0_origin_9 : decode cX0_origin 9 = .ok (.aload_n 0, 1) := by decide +kernel
theorem dX0_origin_10 : decode cX0_origin 10 = .ok (.iload_n 1, 1) := by decide +kernel
theorem dX0_origin_11 : decode cX0_origin 11 = .ok (.iload_n 2, 1) := by decide +kernel
theorem dX0_origin_12 : decode cX0_origin 12 = .ok (.iload_n 3, 1) := by decide +kernel
theorem dX0_origin_13 : decode cX0_origin 13 = .ok (.iload 4, 2) := by decide +kernel
theorem dX0_origin_15 : decode cX0_origin 15 = .ok (.invokevirtual 184, 3) := by decide +kernel
theorem dX0_origin_18 : decode cX0_origin 18 = .ok (.ireturn, 1) := by decide +kernel
set_option maxRecDepth 20000 in
theorem ggX0_told_X0_checkGood : GoodIn wsX0_told wsX0_checkGood := goodIn_ca (goodIn_r _ [6, 7, 8, 9, 10, 11, 5, 12, 13, 14, 15, 16, 17, 18, 19, 20, 21, 22, 23, 24, 25, 26, 27, 28, 29] (by decide +kernel) (by decide +kernel)) (goodIn_sub (fun _ h => List.mem_cons_of_mem _ (List.mem_append_right _ h)) (by decide +kernel))
set_option maxRecDepth 20000 in
theorem gX0_told_X0_checkGood : GoodIn wsX0_told (wsV RX0 77 RX0 yX0_checkGood wsX0_checkGood) := goodIn_app (goodIn_of _ (by decide +kernel)) ggX0_told_X0_checkGood
theorem dX0_told_0 : decode cX0_told 0 = .ok (.aload_n 0, 1) := by decide +kernel
theorem dX0_told_1 : decode cX0_told 1 = .ok (.iload_n 1, 1) := by decide +kernel
theorem dX0_told_2 : decode cX0_told 2 = .ok (.invokevirtual 77, 3) := by decide +kernel
theorem dX0_told_5 : decode cX0_told 5 = .ok (.iload_n 1, 1) := by decide +kernel
theorem dX0_told_6 : decode cX0_told 6 = .ok (.bipush 96, 2) := by decide +kernel
theorem dX0_told_8 : decode cX0_told 8 = .ok (.imul, 1) := by decide +kernel
theorem dX0_told_9 : decode cX0_told 9 = .ok (.istore_n 2, 1) := by decide +kernel
theorem dX0_told_10 : decode cX0_told 10 = .ok (.iconst 0, 1) := by decide +kernel
theorem dX0_told_11 : decode cX0_told 11 = .ok (.istore_n 3, 1) := by decide +kernel
theorem dX0_told_12 : decode cX0_told 12 = .ok (.iconst 0, 1) := by decide +kernel
theorem dX0_told_13 : decode cX0_told 13 = .ok (.istore 4, 2) := by decide +kernel
theorem dX0_told_15 : decode cX0_told 15 = .ok (.iload 4, 2) := by decide +kernel
theorem dX0_told_17 : decode cX0_told 17 = .ok (.bipush 96, 2) := by decide +kernel
theorem dX0_told_19 : decode cX0_told 19 = .ok (.if_icmp .ge 25, 3) := by decide +kernel
theorem dX0_told_22 : decode cX0_told 22 = .ok (.aload_n 0, 1) := by decide +kernel
theorem dX0_told_23 : decode cX0_told 23 = .ok (.getfield 48, 3) := by decide +kernel
theorem dX0_told_26 : decode cX0_told 26 = .ok (.iload_n 2, 1) := by decide +kernel
theorem dX0_told_27 : decode cX0_told 27 = .ok (.iload 4, 2) := by decide +kernel
theorem dX0_told_29 : decode cX0_told 29 = .ok (.iadd, 1) := by decide +kernel
theorem dX0_told_30 : decode cX0_told 30 = .ok (.iaload, 1) := by decide +kernel
theorem dX0_told_31 : decode cX0_told 31 = .ok (.iconst (-1), 1) := by decide +kernel
theorem dX0_told_32 : decode cX0_told 32 = .ok (.if_icmp .eq 6, 3) := by decide +kernel
theorem dX0_told_35 : decode cX0_told 35 = .ok (.iinc 3 1, 3) := by decide +kernel
theorem dX0_told_38 : decode cX0_told 38 = .ok (.iinc 4 1, 3) := by decide +kernel
theorem dX0_told_41 : decode cX0_told 41 = .ok (.goto (-26), 3) := by decide +kernel
theorem dX0_told_44 : decode cX0_told 44 = .ok (.iload_n 3, 1) := by decide +kernel
theorem dX0_told_45 : decode cX0_told 45 = .ok (.ireturn, 1) := by decide +kernel
set_option maxRecDepth 20000 in
theorem ggX0_toggleAsked_X0_checkShop : GoodIn wsX0_toggleAsked wsX0_checkShop := goodIn_ca (goodIn_r _ [5, 6, 7] (by decide +kernel) (by decide +kernel)) (goodIn_sub (fun _ h => List.mem_cons_of_mem _ (List.mem_append_right _ h)) (by decide +kernel))
set_option maxRecDepth 20000 in
theorem gX0_toggleAsked_X0_checkShop : GoodIn wsX0_toggleAsked (va_wsS RX0 138 yX0_checkShop wsX0_checkShop) := goodIn_app (goodIn_of _ (by decide +kernel)) ggX0_toggleAsked_X0_checkShop
set_option maxRecDepth 20000 in
theorem ggX0_toggleAsked_X0_checkAttribute : GoodIn wsX0_toggleAsked wsX0_checkAttribute := goodIn_ca (goodIn_r _ [10, 6, 7] (by decide +kernel) (by decide +kernel)) (goodIn_sub (fun _ h => List.mem_cons_of_mem _ (List.mem_append_right _ h)) (by decide +kernel))
set_option maxRecDepth 20000 in
theorem gX0_toggleAsked_X0_checkAttribute : GoodIn wsX0_toggleAsked (va_wsS RX0 135 yX0_checkAttribute wsX0_checkAttribute) := goodIn_app (goodIn_of _ (by decide +kernel)) ggX0_toggleAsked_X0_checkAttribute
theorem dX0_toggleAsked_0 : decode cX0_toggleAsked 0 = .ok (.iload_n 1, 1) := by decide +kernel
theorem dX0_toggleAsked_1 : decode cX0_toggleAsked 1 = .ok (.invokestatic 138, 3) := by decide +kernel
theorem dX0_toggleAsked_4 : decode cX0_toggleAsked 4 = .ok (.iload_n 2, 1) := by decide +kernel
theorem dX0_toggleAsked_5 : decode cX0_toggleAsked 5 = .ok (.invokestatic 135, 3) := by decide +kernel
theorem dX0_toggleAsked_8 : decode cX0_toggleAsked 8 = .ok (.iload_n 1, 1) := by decide +kernel
theorem dX0_toggleAsked_9 : decode cX0_toggleAsked 9 = .ok (.bipush 6, 2) := by decide +kernel
theorem dX0_toggleAsked_11 : decode cX0_toggleAsked 11 = .ok (.imul, 1) := by decide +kernel
theorem dX0_toggleAsked_12 : decode cX0_toggleAsked 12 = .ok (.iload_n 2, 1) := by decide +kernel
theorem dX0_toggleAsked_13 : decode cX0_toggleAsked 13 = .ok (.iadd, 1) := by decide +kernel
theorem dX0_toggleAsked_14 : decode cX0_toggleAsked 14 = .ok (.istore_n 3, 1) := by decide +kernel
theorem dX0_toggleAsked_15 : decode cX0_toggleAsked 15 = .ok (.aload_n 0, 1) := by decide +kernel
theorem dX0_toggleAsked_16 : decode cX0_toggleAsked 16 = .ok (.getfield 51, 3) := by decide +kernel
theorem dX0_toggleAsked_19 : decode cX0_toggleAsked 19 = .ok (.iload_n 3, 1) := by decide +kernel
theorem dX0_toggleAsked_20 : decode cX0_toggleAsked 20 = .ok (.aload_n 0, 1) := by decide +kernel
theorem dX0_toggleAsked_21 : decode cX0_toggleAsked 21 = .ok (.getfield 51, 3) := by decide +kernel
theorem dX0_toggleAsked_24 : decode cX0_toggleAsked 24 = .ok (.iload_n 3, 1) := by decide +kernel
theorem dX0_toggleAsked_25 : decode cX0_toggleAsked 25 = .ok (.baload, 1) := by decide +kernel
theorem dX0_toggleAsked_26 : decode cX0_toggleAsked 26 = .ok (.ifCond .ne 7, 3) := by decide +kernel
theorem dX0_toggleAsked_29 : decode cX0_toggleAsked 29 = .ok (.iconst 1, 1) := by decide +kernel
theorem dX0_toggleAsked_30 : decode cX0_toggleAsked 30 = .ok (.goto 4, 3) := by decide +kernel
theorem dX0_toggleAsked_33 : decode cX0_toggleAsked 33 = .ok (.iconst 0, 1) := by decide +kernel
theorem dX0_toggleAsked_34 : decode cX0_toggleAsked 34 = .ok (.bastore, 1) := by decide +kernel
theorem dX0_toggleAsked_35 : decode cX0_toggleAsked 35 = .ok (.aload_n 0, 1) := by decide +kernel
theorem dX0_toggleAsked_36 : decode cX0_toggleAsked 36 = .ok (.getfield 51, 3) := by decide +kernel
theorem dX0_toggleAsked_39 : decode cX0_toggleAsked 39 = .ok (.iload_n 3, 1) := by decide +kernel
theorem dX0_toggleAsked_40 : decode cX0_toggleAsked 40 = .ok (.baload, 1) := by decide +kernel
theorem dX0_toggleAsked_41 : decode cX0_toggleAsked 41 = .ok (.ireturn, 1) := by decide +kernel
set_option maxRecDepth 20000 in
theorem ggX0_missing_X0_checkGood : GoodIn wsX0_missing wsX0_checkGood := goodIn_ca (goodIn_r _ [5, 6, 7, 8, 9, 10, 4, 11, 12, 47, 48, 49, 50, 51, 52, 53, 54, 55, 56, 57, 58, 59, 60, 61, 62] (by decide +kernel) (by decide +kernel)) (goodIn_sub (fun _ h => List.mem_cons_of_mem _ (List.mem_append_right _ h)) (by decide +kernel))
set_option maxRecDepth 20000 in
theorem gX0_missing_X0_checkGood : GoodIn wsX0_missing (wsV RX0 77 RX0 yX0_checkGood wsX0_checkGood) := goodIn_app (goodIn_of _ (by decide +kernel)) ggX0_missing_X0_checkGood
set_option maxRecDepth 20000 in
theorem ggX0_missing_X0_checkShop : GoodIn wsX0_missing wsX0_checkShop := goodIn_ca (goodIn_r _ [15, 6, 7] (by decide +kernel) (by decide +kernel)) (goodIn_sub (fun _ h => List.mem_cons_of_mem _ (List.mem_append_right _ h)) (by decide +kernel))
set_option maxRecDepth 20000 in
theorem gX0_missing_X0_checkShop : GoodIn wsX0_missing (va_wsS RX0 138 yX0_checkShop wsX0_checkShop) := goodIn_app (goodIn_of _ (by decide +kernel)) ggX0_missing_X0_checkShop
set_option maxRecDepth 20000 in
theorem ggX0_missing_X0_checkTongue : GoodIn wsX0_missing wsX0_checkTongue := goodIn_ca (goodIn_r _ [18, 6, 7] (by decide +kernel) (by decide +kernel)) (goodIn_sub (fun _ h => List.mem_cons_of_mem _ (List.mem_append_right _ h)) (by decide +kernel))
set_option maxRecDepth 20000 in
theorem gX0_missing_X0_checkTongue : GoodIn wsX0_missing (va_wsS RX0 141 yX0_checkTongue wsX0_checkTongue) := goodIn_app (goodIn_of _ (by decide +kernel)) ggX0_missing_X0_checkTongue
set_option maxRecDepth 20000 in
theorem ggX0_missing_X0_findMissing : GoodIn wsX0_missing wsX0_findMissing := goodIn_r _ [22, 23, 24, 25, 26, 4, 27, 28, 29, 30, 31, 32, 33, 8, 9, 10, 11, 12, 34, 35, 36, 37, 38, 39, 40, 41, 42, 43, 44, 45, 46, 47, 48, 49, 50, 51, 52, 53, 54, 55, 56, 57, 58, 59, 60, 61, 62] (by decide +kernel) (by decide +kernel)
set_option maxRecDepth 20000 in
theorem gX0_missing_X0_findMissing : GoodIn wsX0_missing (wsV RX0 187 RX0 yX0_findMissing wsX0_findMissing) := goodIn_app (goodIn_of _ (by decide +kernel)) ggX0_missing_X0_findMissing
theorem dX0_missing_0 : decode cX0_missing 0 = .ok (.aload_n 0, 1) := by decide +kernel
theorem dX0_missing_1 : decode cX0_missing 1 = .ok (.iload_n 1, 1) := by decide +kernel
theorem dX0_missing_2 : decode cX0_missing 2 = .ok (.invokevirtual 77, 3) := by decide +kernel
theorem dX0_missing_5 : decode cX0_missing 5 = .ok (.iload_n 2, 1) := by decide +kernel
theorem dX0_missing_6 : decode cX0_missing 6 = .ok (.invokestatic 138, 3) := by decide +kernel
theorem dX0_missing_9 : decode cX0_missing 9 = .ok (.iload_n 3, 1) := by decide +kernel
theorem dX0_missing_10 : decode cX0_missing 10 = .ok (.invokestatic 141, 3) := by decide +kernel
theorem dX0_missing_13 : decode cX0_missing 13 = .ok (.aload_n 0, 1) := by decide +kernel
theorem dX0_missing_14 : decode cX0_missing 14 = .ok (.iload_n 1, 1) := by decide +kernel
theorem dX0_missing_15 : decode cX0_missing 15 = .ok (.iload_n 2, 1) := by decide +kernel
theorem dX0_missing_16 : decode cX0_missing 16 = .ok (.iload_n 3, 1) := by decide +kernel
theorem dX0_missing_17 : decode cX0_missing 17 = .ok (.invokevirtual 187, 3) := by decide +kernel
theorem dX0_missing_20 : decode cX0_missing 20 = .ok (.ireturn, 1) := by decide +kernel
set_option maxRecDepth 20000 in
theorem ggX0_complete_X0_checkShop : GoodIn wsX0_complete wsX0_checkShop := goodIn_ca (goodIn_r _ [5, 6, 7] (by decide +kernel) (by decide +kernel)) (goodIn_sub (fun _ h => List.mem_cons_of_mem _ (List.mem_append_right _ h)) (by decide +kernel))
set_option maxRecDepth 20000 in
theorem gX0_complete_X0_checkShop : GoodIn wsX0_complete (va_wsS RX0 138 yX0_checkShop wsX0_checkShop) := goodIn_app (goodIn_of _ (by decide +kernel)) ggX0_complete_X0_checkShop
set_option maxRecDepth 20000 in
theorem ggX0_complete_X0_isComplete : GoodIn wsX0_complete wsX0_isComplete := goodIn_r _ [11, 12, 13, 14, 4, 15, 16, 17, 18, 19, 20, 21, 22, 23, 24, 25, 26, 27, 28, 29, 30, 1, 31, 32, 33, 34, 35, 36, 37, 38, 39, 40, 41, 42, 43, 44, 45, 46, 47, 48, 49, 50, 51, 52, 53, 54, 55, 56, 57, 58, 59] (by decide +kernel) (by decide +kernel)
set_option maxRecDepth 20000 in
theorem gX0_complete_X0_isComplete : GoodIn wsX0_complete (wsV RX0 191 RX0 yX0_isComplete wsX0_isComplete) := goodIn_app (goodIn_of _ (by decide +kernel)) ggX0_complete_X0_isComplete
theorem dX0_complete_0 : decode cX0_complete 0 = .ok (.iload_n 1, 1) := by decide +kernel
theorem dX0_complete_1 : decode cX0_complete 1 = .ok (.invokestatic 138, 3) := by decide +kernel
theorem dX0_complete_4 : decode cX0_complete 4 = .ok (.iconst 0, 1) := by decide +kernel
theorem dX0_complete_5 : decode cX0_complete 5 = .ok (.istore_n 2, 1) := by decide +kernel
theorem dX0_complete_6 : decode cX0_complete 6 = .ok (.iconst 0, 1) := by decide +kernel
theorem dX0_complete_7 : decode cX0_complete 7 = .ok (.istore_n 3, 1) := by decide +kernel
theorem dX0_complete_8 : decode cX0_complete 8 = .ok (.iload_n 3, 1) := by decide +kernel
theorem dX0_complete_9 : decode cX0_complete 9 = .ok (.bipush 16, 2) := by decide +kernel
theorem dX0_complete_11 : decode cX0_complete 11 = .ok (.if_icmp .ge 30, 3) := by decide +kernel
theorem dX0_complete_14 : decode cX0_complete 14 = .ok (.aload_n 0, 1) := by decide +kernel
theorem dX0_complete_15 : decode cX0_complete 15 = .ok (.getfield 9, 3) := by decide +kernel
theorem dX0_complete_18 : decode cX0_complete 18 = .ok (.iload_n 3, 1) := by decide +kernel
theorem dX0_complete_19 : decode cX0_complete 19 = .ok (.baload, 1) := by decide +kernel
theorem dX0_complete_20 : decode cX0_complete 20 = .ok (.ifCond .eq 15, 3) := by decide +kernel
theorem dX0_complete_23 : decode cX0_complete 23 = .ok (.aload_n 0, 1) := by decide +kernel
theorem dX0_complete_24 : decode cX0_complete 24 = .ok (.iload_n 3, 1) := by decide +kernel
theorem dX0_complete_25 : decode cX0_complete 25 = .ok (.iload_n 1, 1) := by decide +kernel
theorem dX0_complete_26 : decode cX0_complete 26 = .ok (.invokevirtual 191, 3) := by decide +kernel
theorem dX0_complete_29 : decode cX0_complete 29 = .ok (.ifCond .eq 6, 3) := by decide +kernel
theorem dX0_complete_32 : decode cX0_complete 32 = .ok (.iinc 2 1, 3) := by decide +kernel
theorem dX0_complete_35 : decode cX0_complete 35 = .ok (.iinc 3 1, 3) := by decide +kernel
theorem dX0_complete_38 : decode cX0_complete 38 = .ok (.goto (-30), 3) := by decide +kernel
theorem dX0_complete_41 : decode cX0_complete 41 = .ok (.iload_n 2, 1) := by decide +kernel
theorem dX0_complete_42 : decode cX0_complete 42 = .ok (.ireturn, 1) := by decide +kernel
set_option maxRecDepth 20000 in
theorem ggX0_price_X0_checkGood : GoodIn wsX0_price wsX0_checkGood := goodIn_ca (goodIn_r _ [7, 8, 9, 10, 11, 12, 6, 13, 14, 54, 55, 56, 57, 58, 59, 60, 61, 62, 63, 64, 65, 66, 67, 68, 69] (by decide +kernel) (by decide +kernel)) (goodIn_sub (fun _ h => List.mem_cons_of_mem _ (List.mem_append_right _ h)) (by decide +kernel))
set_option maxRecDepth 20000 in
theorem gX0_price_X0_checkGood : GoodIn wsX0_price (wsV RX0 77 RX0 yX0_checkGood wsX0_checkGood) := goodIn_app (goodIn_of _ (by decide +kernel)) ggX0_price_X0_checkGood
set_option maxRecDepth 20000 in
theorem ggX0_price_X0_checkShop : GoodIn wsX0_price wsX0_checkShop := goodIn_ca (goodIn_r _ [17, 8, 9] (by decide +kernel) (by decide +kernel)) (goodIn_sub (fun _ h => List.mem_cons_of_mem _ (List.mem_append_right _ h)) (by decide +kernel))
set_option maxRecDepth 20000 in
theorem gX0_price_X0_checkShop : GoodIn wsX0_price (va_wsS RX0 138 yX0_checkShop wsX0_checkShop) := goodIn_app (goodIn_of _ (by decide +kernel)) ggX0_price_X0_checkShop
set_option maxRecDepth 20000 in
theorem ggX0_price_X0_findPrice : GoodIn wsX0_price wsX0_findPrice := goodIn_r _ [21, 22, 23, 24, 25, 6, 26, 27, 28, 29, 30, 31, 32, 10, 11, 12, 13, 14, 33, 34, 35, 36, 37, 38, 39, 40, 41, 42, 43, 44, 45, 46, 47, 48, 49, 50, 51, 52, 53, 54, 55, 56, 57, 58, 59, 60, 61, 62, 63, 64, 65, 66, 67, 68, 69] (by decide +kernel) (by decide +kernel)
set_option maxRecDepth 20000 in
theorem gX0_price_X0_findPrice : GoodIn wsX0_price (wsV RX0 194 RX0 yX0_findPrice wsX0_findPrice) := goodIn_app (goodIn_of _ (by decide +kernel)) ggX0_price_X0_findPrice
theorem dX0_price_0 : decode cX0_price 0 = .ok (.aload_n 0, 1) := by decide +kernel
theorem dX0_price_1 : decode cX0_price 1 = .ok (.iload_n 1, 1) := by decide +kernel
theorem dX0_price_2 : decode cX0_price 2 = .ok (.invokevirtual 77, 3) := by decide +kernel
theorem dX0_price_5 : decode cX0_price 5 = .ok (.iload_n 2, 1) := by decide +kernel
theorem dX0_price_6 : decode cX0_price 6 = .ok (.invokestatic 138, 3) := by decide +kernel
theorem dX0_price_9 : decode cX0_price 9 = .ok (.aload_n 0, 1) := by decide +kernel
theorem dX0_price_10 : decode cX0_price 10 = .ok (.iload_n 1, 1) := by decide +kernel
theorem dX0_price_11 : decode cX0_price 11 = .ok (.iload_n 2, 1) := by decide +kernel
theorem dX0_price_12 : decode cX0_price 12 = .ok (.invokevirtual 194, 3) := by decide +kernel
theorem dX0_price_15 : decode cX0_price 15 = .ok (.istore_n 3, 1) := by decide +kernel
theorem dX0_price_16 : decode cX0_price 16 = .ok (.iload_n 3, 1) := by decide +kernel
theorem dX0_price_17 : decode cX0_price 17 = .ok (.iconst (-1), 1) := by decide +kernel
theorem dX0_price_18 : decode cX0_price 18 = .ok (.if_icmp .ne 13, 3) := by decide +kernel
theorem dX0_price_21 : decode cX0_price 21 = .ok (.new 68, 3) := by decide +kernel
theorem dX0_price_24 : decode cX0_price 24 = .ok (.dup, 1) := by decide +kernel
theorem dX0_price_25 : decode cX0_price 25 = .ok (.ldc 197, 2) := by decide +kernel
theorem dX0_price_27 : decode cX0_price 27 = .ok (.invokespecial 72, 3) := by decide +kernel
theorem dX0_price_30 : decode cX0_price 30 = .ok (.athrow, 1) := by decide +kernel
theorem dX0_price_31 : decode cX0_price 31 = .ok (.iload_n 3, 1) := by decide +kernel
theorem dX0_price_32 : decode cX0_price 32 = .ok (.ireturn, 1) := by decide +kernel
theorem dX0_checkAttribute_0 : decode cX0_checkAttribute 0 = .ok (.iload_n 0, 1) := by decide +kernel
theorem dX0_checkAttribute_1 : decode cX0_checkAttribute 1 = .ok (.ifCond .lt 9, 3) := by decide +kernel
theorem dX0_checkAttribute_4 : decode cX0_checkAttribute 4 = .ok (.iload_n 0, 1) := by decide +kernel
theorem dX0_checkAttribute_5 : decode cX0_checkAttribute 5 = .ok (.bipush 6, 2) := by decide +kernel
theorem dX0_checkAttribute_7 : decode cX0_checkAttribute 7 = .ok (.if_icmp .lt 13, 3) := by decide +kernel
theorem dX0_checkAttribute_10 : decode cX0_checkAttribute 10 = .ok (.new 122, 3) := by decide +kernel
theorem dX0_checkAttribute_13 : decode cX0_checkAttribute 13 = .ok (.dup, 1) := by decide +kernel
theorem dX0_checkAttribute_14 : decode cX0_checkAttribute 14 = .ok (.ldc 199, 2) := by decide +kernel
theorem dX0_checkAttribute_16 : decode cX0_checkAttribute 16 = .ok (.invokespecial 126, 3) := by decide +kernel
theorem dX0_checkAttribute_19 : decode cX0_checkAttribute 19 = .ok (.athrow, 1) := by decide +kernel
theorem dX0_checkAttribute_20 : decode cX0_checkAttribute 20 = .ok (.return_, 1) := by decide +kernel
theorem dX0_checkShop_0 : decode cX0_checkShop 0 = .ok (.iload_n 0, 1) := by decide +kernel
theorem dX0_checkShop_1 : decode cX0_checkShop 1 = .ok (.ifCond .lt 8, 3) := by decide +kernel
theorem dX0_checkShop_4 : decode cX0_checkShop 4 = .ok (.iload_n 0, 1) := by decide +kernel
theorem dX0_checkShop_5 : decode cX0_checkShop 5 = .ok (.iconst 3, 1) := by decide +kernel
theorem dX0_checkShop_6 : decode cX0_checkShop 6 = .ok (.if_icmp .lt 13, 3) := by decide +kernel
theorem dX0_checkShop_9 : decode cX0_checkShop 9 = .ok (.new 122, 3) := by decide +kernel
theorem dX0_checkShop_12 : decode cX0_checkShop 12 = .ok (.dup, 1) := by decide +kernel
theorem dX0_checkShop_13 : decode cX0_checkShop 13 = .ok (.ldc 201, 2) := by decide +kernel
theorem dX0_checkShop_15 : decode cX0_checkShop 15 = .ok (.invokespecial 126, 3) := by decide +kernel
theorem dX0_checkShop_18 : decode cX0_checkShop 18 = .ok (.athrow, 1) := by decide +kernel
theorem dX0_checkShop_19 : decode cX0_checkShop 19 = .ok (.return_, 1) := by decide +kernel
theorem dX0_checkTongue_0 : decode cX0_checkTongue 0 = .ok (.iload_n 0, 1) := by decide +kernel
theorem dX0_checkTongue_1 : decode cX0_checkTongue 1 = .ok (.ifCond .lt 8, 3) := by decide +kernel
theorem dX0_checkTongue_4 : decode cX0_checkTongue 4 = .ok (.iload_n 0, 1) := by decide +kernel
theorem dX0_checkTongue_5 : decode cX0_checkTongue 5 = .ok (.iconst 3, 1) := by decide +kernel
theorem dX0_checkTongue_6 : decode cX0_checkTongue 6 = .ok (.if_icmp .lt 13, 3) := by decide +kernel
theorem dX0_checkTongue_9 : decode cX0_checkTongue 9 = .ok (.new 122, 3) := by decide +kernel
theorem dX0_checkTongue_12 : decode cX0_checkTongue 12 = .ok (.dup, 1) := by decide +kernel
theorem dX0_checkTongue_13 : decode cX0_checkTongue 13 = .ok (.ldc 203, 2) := by decide +kernel
theorem dX0_checkTongue_15 : decode cX0_checkTongue 15 = .ok (.invokespecial 126, 3) := by decide +kernel
theorem dX0_checkTongue_18 : decode cX0_checkTongue 18 = .ok (.athrow, 1) := by decide +kernel
theorem dX0_checkTongue_19 : decode cX0_checkTongue 19 = .ok (.return_, 1) := by decide +kernel
set_option maxRecDepth 20000 in
theorem ggX0_checkSight_X0_checkGood : GoodIn wsX0_checkSight wsX0_checkGood := goodIn_ca (goodIn_r _ [5, 6, 7, 8, 9, 10, 4, 11, 12, 22, 23, 24, 25, 26, 27, 28, 29, 30, 31, 32, 33, 34, 35, 36, 37] (by decide +kernel) (by decide +kernel)) (goodIn_sub (fun _ h => List.mem_cons_of_mem _ (List.mem_append_right _ h)) (by decide +kernel))
set_option maxRecDepth 20000 in
theorem gX0_checkSight_X0_checkGood : GoodIn wsX0_checkSight (wsV RX0 77 RX0 yX0_checkGood wsX0_checkGood) := goodIn_app (goodIn_of _ (by decide +kernel)) ggX0_checkSight_X0_checkGood
set_option maxRecDepth 20000 in
theorem ggX0_checkSight_X0_checkAttribute : GoodIn wsX0_checkSight wsX0_checkAttribute := goodIn_ca (goodIn_r _ [15, 6, 7] (by decide +kernel) (by decide +kernel)) (goodIn_sub (fun _ h => List.mem_cons_of_mem _ (List.mem_append_right _ h)) (by decide +kernel))
set_option maxRecDepth 20000 in
theorem gX0_checkSight_X0_checkAttribute : GoodIn wsX0_checkSight (va_wsS RX0 135 yX0_checkAttribute wsX0_checkAttribute) := goodIn_app (goodIn_of _ (by decide +kernel)) ggX0_checkSight_X0_checkAttribute
set_option maxRecDepth 20000 in
theorem ggX0_checkSight_X0_checkShop : GoodIn wsX0_checkSight wsX0_checkShop := goodIn_ca (goodIn_r _ [18, 6, 7] (by decide +kernel) (by decide +kernel)) (goodIn_sub (fun _ h => List.mem_cons_of_mem _ (List.mem_append_right _ h)) (by decide +kernel))
set_option maxRecDepth 20000 in
theorem gX0_checkSight_X0_checkShop : GoodIn wsX0_checkSight (va_wsS RX0 138 yX0_checkShop wsX0_checkShop) := goodIn_app (goodIn_of _ (by decide +kernel)) ggX0_checkSight_X0_checkShop
set_option maxRecDepth 20000 in
theorem ggX0_checkSight_X0_checkTongue : GoodIn wsX0_checkSight wsX0_checkTongue := goodIn_ca (goodIn_r _ [21, 6, 7] (by decide +kernel) (by decide +kernel)) (goodIn_sub (fun _ h => List.mem_cons_of_mem _ (List.mem_append_right _ h)) (by decide +kernel))
set_option maxRecDepth 20000 in
theorem gX0_checkSight_X0_checkTongue : GoodIn wsX0_checkSight (va_wsS RX0 141 yX0_checkTongue wsX0_checkTongue) := goodIn_app (goodIn_of _ (by decide +kernel)) ggX0_checkSight_X0_checkTongue
theorem dX0_checkSight_0 : decode cX0_checkSight 0 = .ok (.aload_n 0, 1) := by decide +kernel
theorem dX0_checkSight_1 : decode cX0_checkSight 1 = .ok (.iload_n 1, 1) := by decide +kernel
theorem dX0_checkSight_2 : decode cX0_checkSight 2 = .ok (.invokevirtual 77, 3) := by decide +kernel
theorem dX0_checkSight_5 : decode cX0_checkSight 5 = .ok (.iload_n 2, 1) := by decide +kernel
theorem dX0_checkSight_6 : decode cX0_checkSight 6 = .ok (.invokestatic 135, 3) := by decide +kernel
theorem dX0_checkSight_9 : decode cX0_checkSight 9 = .ok (.iload_n 3, 1) := by decide +kernel
theorem dX0_checkSight_10 : decode cX0_checkSight 10 = .ok (.invokestatic 138, 3) := by decide +kernel
theorem dX0_checkSight_13 : decode cX0_checkSight 13 = .ok (.iload 4, 2) := by decide +kernel
theorem dX0_checkSight_15 : decode cX0_checkSight 15 = .ok (.invokestatic 141, 3) := by decide +kernel
theorem dX0_checkSight_18 : decode cX0_checkSight 18 = .ok (.return_, 1) := by decide +kernel
set_option maxRecDepth 20000 in
theorem ggX0_findValue_X0_findOrigin : GoodIn wsX0_findValue wsX0_findOrigin := goodIn_r _ [6, 7, 8, 9, 10, 5, 11, 12, 13, 14, 15, 16, 17, 18, 19, 20, 26, 27, 28, 29, 30, 31, 32, 33, 34, 35, 36, 37, 38, 39, 40, 41] (by decide +kernel) (by decide +kernel)
set_option maxRecDepth 20000 in
theorem gX0_findValue_X0_findOrigin : GoodIn wsX0_findValue (wsV RX0 184 RX0 yX0_findOrigin wsX0_findOrigin) := goodIn_app (goodIn_of _ (by decide +kernel)) ggX0_findValue_X0_findOrigin
set_option maxRecDepth 20000 in
theorem ggX0_findValue_X0_isEntered : GoodIn wsX0_findValue wsX0_isEntered := goodIn_r _ [24, 25, 26, 27, 28, 29, 30, 31, 32, 33, 34, 35, 36, 37, 38, 39, 40, 41] (by decide +kernel) (by decide +kernel)
set_option maxRecDepth 20000 in
theorem gX0_findValue_X0_isEntered : GoodIn wsX0_findValue (wsV RX0 167 RX0 yX0_isEntered wsX0_isEntered) := goodIn_app (goodIn_of _ (by decide +kernel)) ggX0_findValue_X0_isEntered
theorem dX0_findValue_0 : decode cX0_findValue 0 = .ok (.aload_n 0, 1) := by decide +kernel
theorem dX0_findValue_1 : decode cX0_findValue 1 = .ok (.iload_n 1, 1) := by decide +kernel
theorem dX0_findValue_2 : decode cX0_findValue 2 = .ok (.iload_n 2, 1) := by decide +kernel
theorem dX0_findValue_3 : decode cX0_findValue 3 = .ok (.iload_n 3, 1) := by decide +kernel
theorem dX0_findValue_4 : decode cX0_findValue 4 = .ok (.iload 4, 2) := by decide +kernel
theorem dX0_findValue_6 : decode cX0_findValue 6 = .ok (.invokevirtual 184, 3) := by decide +kernel
theorem dX0_findValue_9 : decode cX0_findValue 9 = .ok (.istore 5, 2) := by decide +kernel
theorem dX0_findValue_11 : decode cX0_findValue 11 = .ok (.aload_n 0, 1) := by decide +kernel
theorem dX0_findValue_12 : decode cX0_findValue 12 = .ok (.iload 5, 2) := by decide +kernel
theorem dX0_findValue_14 : decode cX0_findValue 14 = .ok (.invokevirtual 167, 3) := by decide +kernel
theorem dX0_findValue_17 : decode cX0_findValue 17 = .ok (.ifCond .eq 13, 3) := by decide +kernel
theorem dX0_findValue_20 : decode cX0_findValue 20 = .ok (.aload_n 0, 1) := by decide +kernel
theorem dX0_findValue_21 : decode cX0_findValue 21 = .ok (.getfield 33, 3) := by decide +kernel
theorem dX0_findValue_24 : decode cX0_findValue 24 = .ok (.iload 5, 2) := by decide +kernel
theorem dX0_findValue_26 : decode cX0_findValue 26 = .ok (.iaload, 1) := by decide +kernel
theorem dX0_findValue_27 : decode cX0_findValue 27 = .ok (.goto 4, 3) := by decide +kernel
theorem dX0_findValue_30 : decode cX0_findValue 30 = .ok (.iconst (-1), 1) := by decide +kernel
theorem dX0_findValue_31 : decode cX0_findValue 31 = .ok (.ireturn, 1) := by decide +kernel
set_option maxRecDepth 20000 in
theorem ggX0_findOrigin_X0_isGood : GoodIn wsX0_findOrigin wsX0_isGood := goodIn_r _ [6, 7, 16, 17, 18, 19, 20, 21, 22, 23, 24, 25, 26, 27, 28, 29, 30, 31] (by decide +kernel) (by decide +kernel)
set_option maxRecDepth 20000 in
theorem gX0_findOrigin_X0_isGood : GoodIn wsX0_findOrigin (wsV RX0 119 RX0 yX0_isGood wsX0_isGood) := goodIn_app (goodIn_of _ (by decide +kernel)) ggX0_findOrigin_X0_isGood
set_option maxRecDepth 20000 in
theorem ggX0_findOrigin_X0_findOwnOrigin : GoodIn wsX0_findOrigin wsX0_findOwnOrigin := goodIn_r _ [11, 12, 13, 14, 5, 15, 16, 17, 18, 19, 20, 21, 22, 23, 24, 25, 26, 27, 28, 29, 30, 31] (by decide +kernel) (by decide +kernel)
set_option maxRecDepth 20000 in
theorem gX0_findOrigin_X0_findOwnOrigin : GoodIn wsX0_findOrigin (wsV RX0 205 RX0 yX0_findOwnOrigin wsX0_findOwnOrigin) := goodIn_app (goodIn_of _ (by decide +kernel)) ggX0_findOrigin_X0_findOwnOrigin
theorem dX0_findOrigin_0 : decode cX0_findOrigin 0 = .ok (.iload_n 1, 1) := by decide +kernel
theorem dX0_findOrigin_1 : decode cX0_findOrigin 1 = .ok (.istore 5, 2) := by decide +kernel
theorem dX0_findOrigin_3 : decode cX0_findOrigin 3 = .ok (.iconst 0, 1) := by decide +kernel
theorem dX0_findOrigin_4 : decode cX0_findOrigin 4 = .ok (.istore 6, 2) := by decide +kernel
theorem dX0_findOrigin_6 : decode cX0_findOrigin 6 = .ok (.iload 6, 2) := by decide +kernel
theorem dX0_findOrigin_8 : decode cX0_findOrigin 8 = .ok (.iconst 3, 1) := by decide +kernel
theorem dX0_findOrigin_9 : decode cX0_findOrigin 9 = .ok (.if_icmp .ge 48, 3) := by decide +kernel
theorem dX0_findOrigin_12 : decode cX0_findOrigin 12 = .ok (.aload_n 0, 1) := by decide +kernel
theorem dX0_findOrigin_13 : decode cX0_findOrigin 13 = .ok (.iload 5, 2) := by decide +kernel
theorem dX0_findOrigin_15 : decode cX0_findOrigin 15 = .ok (.invokevirtual 119, 3) := by decide +kernel
theorem dX0_findOrigin_18 : decode cX0_findOrigin 18 = .ok (.ifCond .eq 39, 3) := by decide +kernel
theorem dX0_findOrigin_21 : decode cX0_findOrigin 21 = .ok (.aload_n 0, 1) := by decide +kernel
theorem dX0_findOrigin_22 : decode cX0_findOrigin 22 = .ok (.iload 5, 2) := by decide +kernel
theorem dX0_findOrigin_24 : decode cX0_findOrigin 24 = .ok (.iload_n 2, 1) := by decide +kernel
theorem dX0_findOrigin_25 : decode cX0_findOrigin 25 = .ok (.iload_n 3, 1) := by decide +kernel
theorem dX0_findOrigin_26 : decode cX0_findOrigin 26 = .ok (.iload 4, 2) := by decide +kernel
theorem dX0_findOrigin_28 : decode cX0_findOrigin 28 = .ok (.invokevirtual 205, 3) := by decide +kernel
theorem dX0_findOrigin_31 : decode cX0_findOrigin 31 = .ok (.istore 7, 2) := by decide +kernel
theorem dX0_findOrigin_33 : decode cX0_findOrigin 33 = .ok (.iload 7, 2) := by decide +kernel
theorem dX0_findOrigin_35 : decode cX0_findOrigin 35 = .ok (.iconst (-1), 1) := by decide +kernel
theorem dX0_findOrigin_36 : decode cX0_findOrigin 36 = .ok (.if_icmp .eq 6, 3) := by decide +kernel
theorem dX0_findOrigin_39 : decode cX0_findOrigin 39 = .ok (.iload 7, 2) := by decide +kernel
theorem dX0_findOrigin_41 : decode cX0_findOrigin 41 = .ok (.ireturn, 1) := by decide +kernel
theorem dX0_findOrigin_42 : decode cX0_findOrigin 42 = .ok (.aload_n 0, 1) := by decide +kernel
theorem dX0_findOrigin_43 : decode cX0_findOrigin 43 = .ok (.getfield 13, 3) := by decide +kernel
theorem dX0_findOrigin_46 : decode cX0_findOrigin 46 = .ok (.iload 5, 2) := by decide +kernel
theorem dX0_findOrigin_48 : decode cX0_findOrigin 48 = .ok (.iaload, 1) := by decide +kernel
theorem dX0_findOrigin_49 : decode cX0_findOrigin 49 = .ok (.istore 5, 2) := by decide +kernel
theorem dX0_findOrigin_51 : decode cX0_findOrigin 51 = .ok (.iinc 6 1, 3) := by decide +kernel
theorem dX0_findOrigin_54 : decode cX0_findOrigin 54 = .ok (.goto (-48), 3) := by decide +kernel
theorem dX0_findOrigin_57 : decode cX0_findOrigin 57 = .ok (.iconst (-1), 1) := by decide +kernel
theorem dX0_findOrigin_58 : decode cX0_findOrigin 58 = .ok (.ireturn, 1) := by decide +kernel
set_option maxRecDepth 20000 in
theorem ggX0_findOwnOrigin_X0_placeOf : GoodIn wsX0_findOwnOrigin wsX0_placeOf := goodIn_r _ [5] (by decide +kernel) (by decide +kernel)
set_option maxRecDepth 20000 in
theorem gX0_findOwnOrigin_X0_placeOf : GoodIn wsX0_findOwnOrigin (va_wsS RX0 151 yX0_placeOf wsX0_placeOf) := goodIn_app (goodIn_of _ (by decide +kernel)) ggX0_findOwnOrigin_X0_placeOf
theorem dX0_findOwnOrigin_0 : decode cX0_findOwnOrigin 0 = .ok (.aload_n 0, 1) := by decide +kernel
theorem dX0_findOwnOrigin_1 : decode cX0_findOwnOrigin 1 = .ok (.getfield 48, 3) := by decide +kernel
theorem dX0_findOwnOrigin_4 : decode cX0_findOwnOrigin 4 = .ok (.iload_n 1, 1) := by decide +kernel
theorem dX0_findOwnOrigin_5 : decode cX0_findOwnOrigin 5 = .ok (.iload_n 2, 1) := by decide +kernel
theorem dX0_findOwnOrigin_6 : decode cX0_findOwnOrigin 6 = .ok (.iload_n 3, 1) := by decide +kernel
theorem dX0_findOwnOrigin_7 : decode cX0_findOwnOrigin 7 = .ok (.iload 4, 2) := by decide +kernel
theorem dX0_findOwnOrigin_9 : decode cX0_findOwnOrigin 9 = .ok (.invokestatic 151, 3) := by decide +kernel
theorem dX0_findOwnOrigin_12 : decode cX0_findOwnOrigin 12 = .ok (.iaload, 1) := by decide +kernel
theorem dX0_findOwnOrigin_13 : decode cX0_findOwnOrigin 13 = .ok (.istore 5, 2) := by decide +kernel
theorem dX0_findOwnOrigin_15 : decode cX0_findOwnOrigin 15 = .ok (.iload 5, 2) := by decide +kernel
theorem dX0_findOwnOrigin_17 : decode cX0_findOwnOrigin 17 = .ok (.iconst (-1), 1) := by decide +kernel
theorem dX0_findOwnOrigin_18 : decode cX0_findOwnOrigin 18 = .ok (.if_icmp .ne 17, 3) := by decide +kernel
theorem dX0_findOwnOrigin_21 : decode cX0_findOwnOrigin 21 = .ok (.aload_n 0, 1) := by decide +kernel
theorem dX0_findOwnOrigin_22 : decode cX0_findOwnOrigin 22 = .ok (.getfield 48, 3) := by decide +kernel
theorem dX0_findOwnOrigin_25 : decode cX0_findOwnOrigin 25 = .ok (.iload_n 1, 1) := by decide +kernel
theorem dX0_findOwnOrigin_26 : decode cX0_findOwnOrigin 26 = .ok (.iload_n 2, 1) := by decide +kernel
theorem dX0_findOwnOrigin_27 : decode cX0_findOwnOrigin 27 = .ok (.iload_n 3, 1) := by decide +kernel
theorem dX0_findOwnOrigin_28 : decode cX0_findOwnOrigin 28 = .ok (.iconst (-1), 1) := by decide +kernel
theorem dX0_findOwnOrigin_29 : decode cX0_findOwnOrigin 29 = .ok (.invokestatic 151, 3) := by decide +kernel
theorem dX0_findOwnOrigin_32 : decode cX0_findOwnOrigin 32 = .ok (.iaload, 1) := by decide +kernel
theorem dX0_findOwnOrigin_33 : decode cX0_findOwnOrigin 33 = .ok (.istore 5, 2) := by decide +kernel
theorem dX0_findOwnOrigin_35 : decode cX0_findOwnOrigin 35 = .ok (.iload 5, 2) := by decide +kernel
theorem dX0_findOwnOrigin_37 : decode cX0_findOwnOrigin 37 = .ok (.iconst (-1), 1) := by decide +kernel
theorem dX0_findOwnOrigin_38 : decode cX0_findOwnOrigin 38 = .ok (.if_icmp .ne 18, 3) := by decide +kernel
theorem dX0_findOwnOrigin_41 : decode cX0_findOwnOrigin 41 = .ok (.aload_n 0, 1) := by decide +kernel
theorem dX0_findOwnOrigin_42 : decode cX0_findOwnOrigin 42 = .ok (.getfield 48, 3) := by decide +kernel
theorem dX0_findOwnOrigin_45 : decode cX0_findOwnOrigin 45 = .ok (.iload_n 1, 1) := by decide +kernel
theorem dX0_findOwnOrigin_46 : decode cX0_findOwnOrigin 46 = .ok (.iload_n 2, 1) := by decide +kernel
theorem dX0_findOwnOrigin_47 : decode cX0_findOwnOrigin 47 = .ok (.iconst (-1), 1) := by decide +kernel
theorem dX0_findOwnOrigin_48 : decode cX0_findOwnOrigin 48 = .ok (.iload 4, 2) := by decide +kernel
theorem dX0_findOwnOrigin_50 : decode cX0_findOwnOrigin 50 = .ok (.invokestatic 151, 3) := by decide +kernel
theorem dX0_findOwnOrigin_53 : decode cX0_findOwnOrigin 53 = .ok (.iaload, 1) := by decide +kernel
theorem dX0_findOwnOrigin_54 : decode cX0_findOwnOrigin 54 = .ok (.istore 5, 2) := by decide +kernel
theorem dX0_findOwnOrigin_56 : decode cX0_findOwnOrigin 56 = .ok (.iload 5, 2) := by decide +kernel
theorem dX0_findOwnOrigin_58 : decode cX0_findOwnOrigin 58 = .ok (.iconst (-1), 1) := by decide +kernel
theorem dX0_findOwnOrigin_59 : decode cX0_findOwnOrigin 59 = .ok (.if_icmp .ne 17, 3) := by decide +kernel
theorem dX0_findOwnOrigin_62 : decode cX0_findOwnOrigin 62 = .ok (.aload_n 0, 1) := by decide +kernel
theorem dX0_findOwnOrigin_63 : decode cX0_findOwnOrigin 63 = .ok (.getfield 48, 3) := by decide +kernel
theorem dX0_findOwnOrigin_66 : decode cX0_findOwnOrigin 66 = .ok (.iload_n 1, 1) := by decide +kernel
theorem dX0_findOwnOrigin_67 : decode cX0_findOwnOrigin 67 = .ok (.iload_n 2, 1) := by decide +kernel
theorem dX0_findOwnOrigin_68 : decode cX0_findOwnOrigin 68 = .ok (.iconst (-1), 1) := by decide +kernel
theorem dX0_findOwnOrigin_69 : decode cX0_findOwnOrigin 69 = .ok (.iconst (-1), 1) := by decide +kernel
theorem dX0_findOwnOrigin_70 : decode cX0_findOwnOrigin 70 = .ok (.invokestatic 151, 3) := by decide +kernel
theorem dX0_findOwnOrigin_73 : decode cX0_findOwnOrigin 73 = .ok (.iaload, 1) := by decide +kernel
theorem dX0_findOwnOrigin_74 : decode cX0_findOwnOrigin 74 = .ok (.istore 5, 2) := by decide +kernel
theorem dX0_findOwnOrigin_76 : decode cX0_findOwnOrigin 76 = .ok (.iload 5, 2) := by decide +kernel
theorem dX0_findOwnOrigin_78 : decode cX0_findOwnOrigin 78 = .ok (.ireturn, 1) := by decide +kernel
set_option maxRecDepth 20000 in
theorem ggX0_findMissing_X0_findValue : GoodIn wsX0_findMissing wsX0_findValue := goodIn_r _ [6, 7, 8, 9, 10, 5, 11, 12, 13, 14, 15, 16, 17, 18, 19, 20, 21, 22, 23, 24, 25, 26, 27, 28, 29, 30, 31, 32, 33, 34, 35, 36, 37, 38, 39, 40, 41, 42, 43, 44, 45, 46] (by decide +kernel) (by decide +kernel)
set_option maxRecDepth 20000 in
theorem gX0_findMissing_X0_findValue : GoodIn wsX0_findMissing (wsV RX0 179 RX0 yX0_findValue wsX0_findValue) := goodIn_app (goodIn_of _ (by decide +kernel)) ggX0_findMissing_X0_findValue
theorem dX0_findMissing_0 : decode cX0_findMissing 0 = .ok (.iconst 0, 1) := by decide +kernel
theorem dX0_findMissing_1 : decode cX0_findMissing 1 = .ok (.istore 4, 2) := by decide +kernel
theorem dX0_findMissing_3 : decode cX0_findMissing 3 = .ok (.iconst 0, 1) := by decide +kernel
theorem dX0_findMissing_4 : decode cX0_findMissing 4 = .ok (.istore 5, 2) := by decide +kernel
theorem dX0_findMissing_6 : decode cX0_findMissing 6 = .ok (.iload 5, 2) := by decide +kernel
theorem dX0_findMissing_8 : decode cX0_findMissing 8 = .ok (.bipush 6, 2) := by decide +kernel
theorem dX0_findMissing_10 : decode cX0_findMissing 10 = .ok (.if_icmp .ge 46, 3) := by decide +kernel
theorem dX0_findMissing_13 : decode cX0_findMissing 13 = .ok (.aload_n 0, 1) := by decide +kernel
theorem dX0_findMissing_14 : decode cX0_findMissing 14 = .ok (.getfield 51, 3) := by decide +kernel
theorem dX0_findMissing_17 : decode cX0_findMissing 17 = .ok (.iload_n 2, 1) := by decide +kernel
theorem dX0_findMissing_18 : decode cX0_findMissing 18 = .ok (.bipush 6, 2) := by decide +kernel
theorem dX0_findMissing_20 : decode cX0_findMissing 20 = .ok (.imul, 1) := by decide +kernel
theorem dX0_findMissing_21 : decode cX0_findMissing 21 = .ok (.iload 5, 2) := by decide +kernel
theorem dX0_findMissing_23 : decode cX0_findMissing 23 = .ok (.iadd, 1) := by decide +kernel
theorem dX0_findMissing_24 : decode cX0_findMissing 24 = .ok (.baload, 1) := by decide +kernel
theorem dX0_findMissing_25 : decode cX0_findMissing 25 = .ok (.ifCond .eq 25, 3) := by decide +kernel
theorem dX0_findMissing_28 : decode cX0_findMissing 28 = .ok (.aload_n 0, 1) := by decide +kernel
theorem dX0_findMissing_29 : decode cX0_findMissing 29 = .ok (.iload_n 1, 1) := by decide +kernel
theorem dX0_findMissing_30 : decode cX0_findMissing 30 = .ok (.iload 5, 2) := by decide +kernel
theorem dX0_findMissing_32 : decode cX0_findMissing 32 = .ok (.iload_n 2, 1) := by decide +kernel
theorem dX0_findMissing_33 : decode cX0_findMissing 33 = .ok (.iload_n 3, 1) := by decide +kernel
theorem dX0_findMissing_34 : decode cX0_findMissing 34 = .ok (.invokevirtual 179, 3) := by decide +kernel
theorem dX0_findMissing_37 : decode cX0_findMissing 37 = .ok (.iconst (-1), 1) := by decide +kernel
theorem dX0_findMissing_38 : decode cX0_findMissing 38 = .ok (.if_icmp .ne 12, 3) := by decide +kernel
theorem dX0_findMissing_41 : decode cX0_findMissing 41 = .ok (.iload 4, 2) := by decide +kernel
theorem dX0_findMissing_43 : decode cX0_findMissing 43 = .ok (.iconst 1, 1) := by decide +kernel
theorem dX0_findMissing_44 : decode cX0_findMissing 44 = .ok (.iload 5, 2) := by decide +kernel
theorem dX0_findMissing_46 : decode cX0_findMissing 46 = .ok (.ishl, 1) := by decide +kernel
theorem dX0_findMissing_47 : decode cX0_findMissing 47 = .ok (.ior, 1) := by decide +kernel
theorem dX0_findMissing_48 : decode cX0_findMissing 48 = .ok (.istore 4, 2) := by decide +kernel
theorem dX0_findMissing_50 : decode cX0_findMissing 50 = .ok (.iinc 5 1, 3) := by decide +kernel
theorem dX0_findMissing_53 : decode cX0_findMissing 53 = .ok (.goto (-47), 3) := by decide +kernel
theorem dX0_findMissing_56 : decode cX0_findMissing 56 = .ok (.iload 4, 2) := by decide +kernel
theorem dX0_findMissing_58 : decode cX0_findMissing 58 = .ok (.ireturn, 1) := by decide +kernel
set_option maxRecDepth 20000 in
theorem ggX0_isComplete_X0_findMissing : GoodIn wsX0_isComplete wsX0_findMissing := goodIn_r _ [5, 6, 7, 8, 9, 4, 10, 11, 12, 13, 14, 15, 16, 17, 18, 19, 20, 21, 22, 23, 24, 25, 26, 27, 28, 29, 30, 31, 32, 33, 34, 35, 36, 37, 38, 39, 40, 41, 42, 43, 44, 45, 46, 47, 48, 49, 50] (by decide +kernel) (by decide +kernel)
set_option maxRecDepth 20000 in
theorem gX0_isComplete_X0_findMissing : GoodIn wsX0_isComplete (wsV RX0 187 RX0 yX0_findMissing wsX0_findMissing) := goodIn_app (goodIn_of _ (by decide +kernel)) ggX0_isComplete_X0_findMissing
theorem dX0_isComplete_0 : decode cX0_isComplete 0 = .ok (.iconst 0, 1) := by decide +kernel
theorem dX0_isComplete_1 : decode cX0_isComplete 1 = .ok (.istore_n 3, 1) := by decide +kernel
theorem dX0_isComplete_2 : decode cX0_isComplete 2 = .ok (.iload_n 3, 1) := by decide +kernel
theorem dX0_isComplete_3 : decode cX0_isComplete 3 = .ok (.iconst 3, 1) := by decide +kernel
theorem dX0_isComplete_4 : decode cX0_isComplete 4 = .ok (.if_icmp .ge 21, 3) := by decide +kernel
theorem dX0_isComplete_7 : decode cX0_isComplete 7 = .ok (.aload_n 0, 1) := by decide +kernel
theorem dX0_isComplete_8 : decode cX0_isComplete 8 = .ok (.iload_n 1, 1) := by decide +kernel
theorem dX0_isComplete_9 : decode cX0_isComplete 9 = .ok (.iload_n 2, 1) := by decide +kernel
theorem dX0_isComplete_10 : decode cX0_isComplete 10 = .ok (.iload_n 3, 1) := by decide +kernel
theorem dX0_isComplete_11 : decode cX0_isComplete 11 = .ok (.invokevirtual 187, 3) := by decide +kernel
theorem dX0_isComplete_14 : decode cX0_isComplete 14 = .ok (.ifCond .eq 5, 3) := by decide +kernel
theorem dX0_isComplete_17 : decode cX0_isComplete 17 = .ok (.iconst 0, 1) := by decide +kernel
theorem dX0_isComplete_18 : decode cX0_isComplete 18 = .ok (.ireturn, 1) := by decide +kernel
theorem dX0_isComplete_19 : decode cX0_isComplete 19 = .ok (.iinc 3 1, 3) := by decide +kernel
theorem dX0_isComplete_22 : decode cX0_isComplete 22 = .ok (.goto (-20), 3) := by decide +kernel
theorem dX0_isComplete_25 : decode cX0_isComplete 25 = .ok (.iconst 1, 1) := by decide +kernel
theorem dX0_isComplete_26 : decode cX0_isComplete 26 = .ok (.ireturn, 1) := by decide +kernel
set_option maxRecDepth 20000 in
theorem ggX0_findPrice_X0_findValue : GoodIn wsX0_findPrice wsX0_findValue := goodIn_r _ [6, 7, 8, 9, 10, 5, 11, 12, 13, 14, 15, 16, 17, 18, 19, 20, 21, 22, 23, 24, 25, 26, 27, 28, 29, 30, 39, 40, 41, 42, 43, 44, 45, 46, 47, 48, 49, 50, 51, 52, 53, 54] (by decide +kernel) (by decide +kernel)
set_option maxRecDepth 20000 in
theorem gX0_findPrice_X0_findValue : GoodIn wsX0_findPrice (wsV RX0 179 RX0 yX0_findValue wsX0_findValue) := goodIn_app (goodIn_of _ (by decide +kernel)) ggX0_findPrice_X0_findValue
set_option maxRecDepth 20000 in
theorem ggX0_findPrice_X0_sumUpParts : GoodIn wsX0_findPrice wsX0_sumUpParts := goodIn_r _ [34, 35, 1, 36, 37, 38, 39, 40, 41, 42, 43, 44, 45, 46, 47, 48, 49, 50, 51, 52, 53, 54] (by decide +kernel) (by decide +kernel)
set_option maxRecDepth 20000 in
theorem gX0_findPrice_X0_sumUpParts : GoodIn wsX0_findPrice (wsV RX0 208 RX0 yX0_sumUpParts wsX0_sumUpParts) := goodIn_app (goodIn_of _ (by decide +kernel)) ggX0_findPrice_X0_sumUpParts
theorem dX0_findPrice_0 : decode cX0_findPrice 0 = .ok (.iconst 0, 1) := by decide +kernel
theorem dX0_findPrice_1 : decode cX0_findPrice 1 = .ok (.istore_n 3, 1) := by decide +kernel
theorem dX0_findPrice_2 : decode cX0_findPrice 2 = .ok (.iload_n 3, 1) := by decide +kernel
theorem dX0_findPrice_3 : decode cX0_findPrice 3 = .ok (.iload_n 1, 1) := by decide +kernel
theorem dX0_findPrice_4 : decode cX0_findPrice 4 = .ok (.if_icmp .gt 41, 3) := by decide +kernel
theorem dX0_findPrice_7 : decode cX0_findPrice 7 = .ok (.aload_n 0, 1) := by decide +kernel
theorem dX0_findPrice_8 : decode cX0_findPrice 8 = .ok (.iload_n 3, 1) := by decide +kernel
theorem dX0_findPrice_9 : decode cX0_findPrice 9 = .ok (.iconst 0, 1) := by decide +kernel
theorem dX0_findPrice_10 : decode cX0_findPrice 10 = .ok (.iload_n 2, 1) := by decide +kernel
theorem dX0_findPrice_11 : decode cX0_findPrice 11 = .ok (.iconst 0, 1) := by decide +kernel
theorem dX0_findPrice_12 : decode cX0_findPrice 12 = .ok (.invokevirtual 179, 3) := by decide +kernel
theorem dX0_findPrice_15 : decode cX0_findPrice 15 = .ok (.istore 4, 2) := by decide +kernel
theorem dX0_findPrice_17 : decode cX0_findPrice 17 = .ok (.aload_n 0, 1) := by decide +kernel
theorem dX0_findPrice_18 : decode cX0_findPrice 18 = .ok (.getfield 57, 3) := by decide +kernel
theorem dX0_findPrice_21 : decode cX0_findPrice 21 = .ok (.iload_n 3, 1) := by decide +kernel
theorem dX0_findPrice_22 : decode cX0_findPrice 22 = .ok (.iload 4, 2) := by decide +kernel
theorem dX0_findPrice_24 : decode cX0_findPrice 24 = .ok (.iconst (-1), 1) := by decide +kernel
theorem dX0_findPrice_25 : decode cX0_findPrice 25 = .ok (.if_icmp .ne 11, 3) := by decide +kernel
theorem dX0_findPrice_28 : decode cX0_findPrice 28 = .ok (.aload_n 0, 1) := by decide +kernel
theorem dX0_findPrice_29 : decode cX0_findPrice 29 = .ok (.iload_n 3, 1) := by decide +kernel
theorem dX0_findPrice_30 : decode cX0_findPrice 30 = .ok (.invokevirtual 208, 3) := by decide +kernel
theorem dX0_findPrice_33 : decode cX0_findPrice 33 = .ok (.goto 5, 3) := by decide +kernel
theorem dX0_findPrice_36 : decode cX0_findPrice 36 = .ok (.iload 4, 2) := by decide +kernel
theorem dX0_findPrice_38 : decode cX0_findPrice 38 = .ok (.iastore, 1) := by decide +kernel
theorem dX0_findPrice_39 : decode cX0_findPrice 39 = .ok (.iinc 3 1, 3) := by decide +kernel
theorem dX0_findPrice_42 : decode cX0_findPrice 42 = .ok (.goto (-40), 3) := by decide +kernel
theorem dX0_findPrice_45 : decode cX0_findPrice 45 = .ok (.aload_n 0, 1) := by decide +kernel
theorem dX0_findPrice_46 : decode cX0_findPrice 46 = .ok (.getfield 57, 3) := by decide +kernel
theorem dX0_findPrice_49 : decode cX0_findPrice 49 = .ok (.iload_n 1, 1) := by decide +kernel
theorem dX0_findPrice_50 : decode cX0_findPrice 50 = .ok (.iaload, 1) := by decide +kernel
theorem dX0_findPrice_51 : decode cX0_findPrice 51 = .ok (.ireturn, 1) := by decide +kernel
theorem dX0_sumUpParts_0 : decode cX0_sumUpParts 0 = .ok (.iconst 0, 1) := by decide +kernel
theorem dX0_sumUpParts_1 : decode cX0_sumUpParts 1 = .ok (.istore_n 2, 1) := by decide +kernel
theorem dX0_sumUpParts_2 : decode cX0_sumUpParts 2 = .ok (.lconst 0, 1) := by decide +kernel
theorem dX0_sumUpParts_3 : decode cX0_sumUpParts 3 = .ok (.lstore_n 3, 1) := by decide +kernel
theorem dX0_sumUpParts_4 : decode cX0_sumUpParts 4 = .ok (.iconst 0, 1) := by decide +kernel
theorem dX0_sumUpParts_5 : decode cX0_sumUpParts 5 = .ok (.istore 5, 2) := by decide +kernel
theorem dX0_sumUpParts_7 : decode cX0_sumUpParts 7 = .ok (.iload 5, 2) := by decide +kernel
theorem dX0_sumUpParts_9 : decode cX0_sumUpParts 9 = .ok (.iload_n 1, 1) := by decide +kernel
theorem dX0_sumUpParts_10 : decode cX0_sumUpParts 10 = .ok (.if_icmp .ge 58, 3) := by decide +kernel
theorem dX0_sumUpParts_13 : decode cX0_sumUpParts 13 = .ok (.aload_n 0, 1) := by decide +kernel
theorem dX0_sumUpParts_14 : decode cX0_sumUpParts 14 = .ok (.getfield 20, 3) := by decide +kernel
theorem dX0_sumUpParts_17 : decode cX0_sumUpParts 17 = .ok (.iload_n 1, 1) := by decide +kernel
theorem dX0_sumUpParts_18 : decode cX0_sumUpParts 18 = .ok (.bipush 16, 2) := by decide +kernel
theorem dX0_sumUpParts_20 : decode cX0_sumUpParts 20 = .ok (.imul, 1) := by decide +kernel
theorem dX0_sumUpParts_21 : decode cX0_sumUpParts 21 = .ok (.iload 5, 2) := by decide +kernel
theorem dX0_sumUpParts_23 : decode cX0_sumUpParts 23 = .ok (.iadd, 1) := by decide +kernel
theorem dX0_sumUpParts_24 : decode cX0_sumUpParts 24 = .ok (.iaload, 1) := by decide +kernel
theorem dX0_sumUpParts_25 : decode cX0_sumUpParts 25 = .ok (.istore 6, 2) := by decide +kernel
theorem dX0_sumUpParts_27 : decode cX0_sumUpParts 27 = .ok (.iload 6, 2) := by decide +kernel
theorem dX0_sumUpParts_29 : decode cX0_sumUpParts 29 = .ok (.ifCond .le 33, 3) := by decide +kernel
theorem dX0_sumUpParts_32 : decode cX0_sumUpParts 32 = .ok (.aload_n 0, 1) := by decide +kernel
theorem dX0_sumUpParts_33 : decode cX0_sumUpParts 33 = .ok (.getfield 57, 3) := by decide +kernel
theorem dX0_sumUpParts_36 : decode cX0_sumUpParts 36 = .ok (.iload 5, 2) := by decide +kernel
theorem dX0_sumUpParts_38 : decode cX0_sumUpParts 38 = .ok (.iaload, 1) := by decide +kernel
theorem dX0_sumUpParts_39 : decode cX0_sumUpParts 39 = .ok (.iconst (-1), 1) := by decide +kernel
theorem dX0_sumUpParts_40 : decode cX0_sumUpParts 40 = .ok (.if_icmp .ne 5, 3) := by decide +kernel
theorem dX0_sumUpParts_43 : decode cX0_sumUpParts 43 = .ok (.iconst (-1), 1) := by decide +kernel
theorem dX0_sumUpParts_44 : decode cX0_sumUpParts 44 = .ok (.ireturn, 1) := by decide +kernel
theorem dX0_sumUpParts_45 : decode cX0_sumUpParts 45 = .ok (.iconst 1, 1) := by decide +kernel
theorem dX0_sumUpParts_46 : decode cX0_sumUpParts 46 = .ok (.istore_n 2, 1) := by decide +kernel
theorem dX0_sumUpParts_47 : decode cX0_sumUpParts 47 = .ok (.lload_n 3, 1) := by decide +kernel
theorem dX0_sumUpParts_48 : decode cX0_sumUpParts 48 = .ok (.aload_n 0, 1) := by decide +kernel
theorem dX0_sumUpParts_49 : decode cX0_sumUpParts 49 = .ok (.getfield 57, 3) := by decide +kernel
theorem dX0_sumUpParts_52 : decode cX0_sumUpParts 52 = .ok (.iload 5, 2) := by decide +kernel
theorem dX0_sumUpParts_54 : decode cX0_sumUpParts 54 = .ok (.iaload, 1) := by decide +kernel
theorem dX0_sumUpParts_55 : decode cX0_sumUpParts 55 = .ok (.i2l, 1) := by decide +kernel
theorem dX0_sumUpParts_56 : decode cX0_sumUpParts 56 = .ok (.iload 6, 2) := by decide +kernel
theorem dX0_sumUpParts_58 : decode cX0_sumUpParts 58 = .ok (.i2l, 1) := by decide +kernel
theorem dX0_sumUpParts_59 : decode cX0_sumUpParts 59 = .ok (.lmul, 1) := by decide +kernel
theorem dX0_sumUpParts_60 : decode cX0_sumUpParts 60 = .ok (.ladd, 1) := by decide +kernel
theorem dX0_sumUpParts_61 : decode cX0_sumUpParts 61 = .ok (.lstore_n 3, 1) := by decide +kernel
theorem dX0_sumUpParts_62 : decode cX0_sumUpParts 62 = .ok (.iinc 5 1, 3) := by decide +kernel
theorem dX0_sumUpParts_65 : decode cX0_sumUpParts 65 = .ok (.goto (-58), 3) := by decide +kernel
theorem dX0_sumUpParts_68 : decode cX0_sumUpParts 68 = .ok (.lload_n 3, 1) := by decide +kernel
theorem dX0_sumUpParts_69 : decode cX0_sumUpParts 69 = .ok (.bipush 100, 2) := by decide +kernel
theorem dX0_sumUpParts_71 : decode cX0_sumUpParts 71 = .ok (.aload_n 0, 1) := by decide +kernel
theorem dX0_sumUpParts_72 : decode cX0_sumUpParts 72 = .ok (.getfield 17, 3) := by decide +kernel
theorem dX0_sumUpParts_75 : decode cX0_sumUpParts 75 = .ok (.iload_n 1, 1) := by decide +kernel
theorem dX0_sumUpParts_76 : decode cX0_sumUpParts 76 = .ok (.iaload, 1) := by decide +kernel
theorem dX0_sumUpParts_77 : decode cX0_sumUpParts 77 = .ok (.isub, 1) := by decide +kernel
theorem dX0_sumUpParts_78 : decode cX0_sumUpParts 78 = .ok (.i2l, 1) := by decide +kernel
theorem dX0_sumUpParts_79 : decode cX0_sumUpParts 79 = .ok (.lmul, 1) := by decide +kernel
theorem dX0_sumUpParts_80 : decode cX0_sumUpParts 80 = .ok (.ldc2_w 211, 3) := by decide +kernel
theorem dX0_sumUpParts_83 : decode cX0_sumUpParts 83 = .ok (.ldiv, 1) := by decide +kernel
theorem dX0_sumUpParts_84 : decode cX0_sumUpParts 84 = .ok (.lstore 5, 2) := by decide +kernel
theorem dX0_sumUpParts_86 : decode cX0_sumUpParts 86 = .ok (.iload_n 2, 1) := by decide +kernel
theorem dX0_sumUpParts_87 : decode cX0_sumUpParts 87 = .ok (.ifCond .eq 18, 3) := by decide +kernel
theorem dX0_sumUpParts_90 : decode cX0_sumUpParts 90 = .ok (.lload 5, 2) := by decide +kernel
theorem dX0_sumUpParts_92 : decode cX0_sumUpParts 92 = .ok (.ldc2_w 213, 3) := by decide +kernel
theorem dX0_sumUpParts_95 : decode cX0_sumUpParts 95 = .ok (.lcmp, 1) := by decide +kernel
theorem dX0_sumUpParts_96 : decode cX0_sumUpParts 96 = .ok (.ifCond .gt 9, 3) := by decide +kernel
theorem dX0_sumUpParts_99 : decode cX0_sumUpParts 99 = .ok (.lload 5, 2) := by decide +kernel
theorem dX0_sumUpParts_101 : decode cX0_sumUpParts 101 = .ok (.l2i, 1) := by decide +kernel
theorem dX0_sumUpParts_102 : decode cX0_sumUpParts 102 = .ok (.goto 4, 3) := by decide +kernel
theorem dX0_sumUpParts_105 : decode cX0_sumUpParts 105 = .ok (.iconst (-1), 1) := by decide +kernel
theorem dX0_sumUpParts_106 : decode cX0_sumUpParts 106 = .ok (.ireturn, 1) := by decide +kernel
set_option maxRecDepth 20000 in
theorem ggX0_changed_X0_checkShop : GoodIn wsX0_changed wsX0_checkShop := goodIn_ca (goodIn_r _ [4, 5, 6] (by decide +kernel) (by decide +kernel)) (goodIn_sub (fun _ h => List.mem_cons_of_mem _ (List.mem_append_right _ h)) (by decide +kernel))
set_option maxRecDepth 20000 in
theorem gX0_changed_X0_checkShop : GoodIn wsX0_changed (va_wsS RX0 138 yX0_checkShop wsX0_checkShop) := goodIn_app (goodIn_of _ (by decide +kernel)) ggX0_changed_X0_checkShop
set_option maxRecDepth 20000 in
theorem ggX0_changed_X0_findChanged : GoodIn wsX0_changed wsX0_findChanged := goodIn_r _ [10, 11, 12, 13, 3, 14, 15, 16, 17, 18, 19, 20, 21, 22, 23, 24, 25, 26, 27, 28, 29, 30, 31, 32, 33, 34, 35, 36, 37, 38, 39, 40, 41, 42, 43, 44, 45, 46, 47, 48, 49, 50, 51, 52, 53, 54, 55, 56, 57, 58, 59] (by decide +kernel) (by decide +kernel)
set_option maxRecDepth 20000 in
theorem gX0_changed_X0_findChanged : GoodIn wsX0_changed (wsV RX0 215 RX0 yX0_findChanged wsX0_findChanged) := goodIn_app (goodIn_of _ (by decide +kernel)) ggX0_changed_X0_findChanged
theorem dX0_changed_0 : decode cX0_changed 0 = .ok (.iload_n 1, 1) := by decide +kernel
theorem dX0_changed_1 : decode cX0_changed 1 = .ok (.invokestatic 138, 3) := by decide +kernel
theorem dX0_changed_4 : decode cX0_changed 4 = .ok (.aload_n 0, 1) := by decide +kernel
theorem dX0_changed_5 : decode cX0_changed 5 = .ok (.iload_n 1, 1) := by decide +kernel
theorem dX0_changed_6 : decode cX0_changed 6 = .ok (.invokevirtual 215, 3) := by decide +kernel
theorem dX0_changed_9 : decode cX0_changed 9 = .ok (.ireturn, 1) := by decide +kernel
set_option maxRecDepth 20000 in
theorem ggX0_feed_X0_checkShop : GoodIn wsX0_feed wsX0_checkShop := goodIn_ca (goodIn_r _ [4, 5, 6] (by decide +kernel) (by decide +kernel)) (goodIn_sub (fun _ h => List.mem_cons_of_mem _ (List.mem_append_right _ h)) (by decide +kernel))
set_option maxRecDepth 20000 in
theorem gX0_feed_X0_checkShop : GoodIn wsX0_feed (va_wsS RX0 138 yX0_checkShop wsX0_checkShop) := goodIn_app (goodIn_of _ (by decide +kernel)) ggX0_feed_X0_checkShop
set_option maxRecDepth 20000 in
theorem ggX0_feed_X0_findChanged : GoodIn wsX0_feed wsX0_findChanged := goodIn_r _ [10, 11, 12, 13, 3, 14, 15, 16, 17, 18, 19, 20, 21, 22, 23, 24, 25, 26, 27, 28, 29, 30, 31, 32, 33, 34, 35, 36, 37, 38, 39, 40, 41, 42, 43, 55, 56, 57, 58, 59, 60, 61, 62, 63, 64, 65, 66, 67, 68, 69, 70] (by decide +kernel) (by decide +kernel)
set_option maxRecDepth 20000 in
theorem gX0_feed_X0_findChanged : GoodIn wsX0_feed (wsV RX0 215 RX0 yX0_findChanged wsX0_findChanged) := goodIn_app (goodIn_of _ (by decide +kernel)) ggX0_feed_X0_findChanged
set_option maxRecDepth 20000 in
theorem ggX0_feed_X0_rememberSights : GoodIn wsX0_feed wsX0_rememberSights := goodIn_r _ [47, 15, 16, 17, 18, 3, 19, 20, 21, 22, 23, 24, 25, 26, 27, 28, 29, 30, 31, 32, 33, 34, 35, 36, 37, 38, 39, 40, 41, 42, 43, 55, 56, 57, 58, 59, 60, 61, 62, 63, 64, 65, 66, 67, 68, 69, 70] (by decide +kernel) (by decide +kernel)
set_option maxRecDepth 20000 in
theorem gX0_feed_X0_rememberSights : GoodIn wsX0_feed (wsV RX0 218 RX0 yX0_rememberSights wsX0_rememberSights) := goodIn_app (goodIn_of _ (by decide +kernel)) ggX0_feed_X0_rememberSights
set_option maxRecDepth 20000 in
theorem ggX0_feed_J6_bitCount_0f7a4 : GoodIn wsX0_feed wsJ6_bitCount_0f7a4 := goodIn_r _ [51, 52, 53, 54] (by decide +kernel) (by decide +kernel)
set_option maxRecDepth 20000 in
theorem gX0_feed_J6_bitCount_0f7a4 : GoodIn wsX0_feed (va_wsS RX0 222 yJ6_bitCount_0f7a4 wsJ6_bitCount_0f7a4) := goodIn_app (goodIn_of _ (by decide +kernel)) ggX0_feed_J6_bitCount_0f7a4
theorem dX0_feed_0 : decode cX0_feed 0 = .ok (.iload_n 1, 1) := by decide +kernel
theorem dX0_feed_1 : decode cX0_feed 1 = .ok (.invokestatic 138, 3) := by decide +kernel
theorem dX0_feed_4 : decode cX0_feed 4 = .ok (.aload_n 0, 1) := by decide +kernel
theorem dX0_feed_5 : decode cX0_feed 5 = .ok (.iload_n 1, 1) := by decide +kernel
theorem dX0_feed_6 : decode cX0_feed 6 = .ok (.invokevirtual 215, 3) := by decide +kernel
theorem dX0_feed_9 : decode cX0_feed 9 = .ok (.istore_n 2, 1) := by decide +kernel
theorem dX0_feed_10 : decode cX0_feed 10 = .ok (.iconst 0, 1) := by decide +kernel
theorem dX0_feed_11 : decode cX0_feed 11 = .ok (.istore_n 3, 1) := by decide +kernel
theorem dX0_feed_12 : decode cX0_feed 12 = .ok (.iload_n 3, 1) := by decide +kernel
theorem dX0_feed_13 : decode cX0_feed 13 = .ok (.bipush 16, 2) := by decide +kernel
theorem dX0_feed_15 : decode cX0_feed 15 = .ok (.if_icmp .ge 15, 3) := by decide +kernel
theorem dX0_feed_18 : decode cX0_feed 18 = .ok (.aload_n 0, 1) := by decide +kernel
theorem dX0_feed_19 : decode cX0_feed 19 = .ok (.iload_n 3, 1) := by decide +kernel
theorem dX0_feed_20 : decode cX0_feed 20 = .ok (.iload_n 1, 1) := by decide +kernel
theorem dX0_feed_21 : decode cX0_feed 21 = .ok (.invokevirtual 218, 3) := by decide +kernel
theorem dX0_feed_24 : decode cX0_feed 24 = .ok (.iinc 3 1, 3) := by decide +kernel
theorem dX0_feed_27 : decode cX0_feed 27 = .ok (.goto (-15), 3) := by decide +kernel
theorem dX0_feed_30 : decode cX0_feed 30 = .ok (.iload_n 2, 1) := by decide +kernel
theorem dX0_feed_31 : decode cX0_feed 31 = .ok (.invokestatic 222, 3) := by decide +kernel
theorem dX0_feed_34 : decode cX0_feed 34 = .ok (.ireturn, 1) := by decide +kernel
set_option maxRecDepth 20000 in
theorem ggX0_findChanged_X0_looksChanged : GoodIn wsX0_findChanged wsX0_looksChanged := goodIn_r _ [5, 6, 7, 8, 9, 4, 10, 11, 12, 13, 14, 15, 16, 17, 18, 19, 20, 21, 22, 23, 24, 25, 26, 27, 28, 29, 30, 31, 32, 33, 34, 35, 36, 37, 38, 39, 40, 41, 42, 43, 44, 45, 46, 47, 48, 49, 50] (by decide +kernel) (by decide +kernel)
set_option maxRecDepth 20000 in
theorem gX0_findChanged_X0_looksChanged : GoodIn wsX0_findChanged (wsV RX0 227 RX0 yX0_looksChanged wsX0_looksChanged) := goodIn_app (goodIn_of _ (by decide +kernel)) ggX0_findChanged_X0_looksChanged
theorem dX0_findChanged_0 : decode cX0_findChanged 0 = .ok (.iconst 0, 1) := by decide +kernel
theorem dX0_findChanged_1 : decode cX0_findChanged 1 = .ok (.istore_n 2, 1) := by decide +kernel
theorem dX0_findChanged_2 : decode cX0_findChanged 2 = .ok (.iconst 0, 1) := by decide +kernel
theorem dX0_findChanged_3 : decode cX0_findChanged 3 = .ok (.istore_n 3, 1) := by decide +kernel
theorem dX0_findChanged_4 : decode cX0_findChanged 4 = .ok (.iload_n 3, 1) := by decide +kernel
theorem dX0_findChanged_5 : decode cX0_findChanged 5 = .ok (.bipush 16, 2) := by decide +kernel
theorem dX0_findChanged_7 : decode cX0_findChanged 7 = .ok (.if_icmp .ge 24, 3) := by decide +kernel
theorem dX0_findChanged_10 : decode cX0_findChanged 10 = .ok (.aload_n 0, 1) := by decide +kernel
theorem dX0_findChanged_11 : decode cX0_findChanged 11 = .ok (.iload_n 3, 1) := by decide +kernel
theorem dX0_findChanged_12 : decode cX0_findChanged 12 = .ok (.iload_n 1, 1) := by decide +kernel
theorem dX0_findChanged_13 : decode cX0_findChanged 13 = .ok (.invokevirtual 227, 3) := by decide +kernel
theorem dX0_findChanged_16 : decode cX0_findChanged 16 = .ok (.ifCond .eq 9, 3) := by decide +kernel
theorem dX0_findChanged_19 : decode cX0_findChanged 19 = .ok (.iload_n 2, 1) := by decide +kernel
theorem dX0_findChanged_20 : decode cX0_findChanged 20 = .ok (.iconst 1, 1) := by decide +kernel
theorem dX0_findChanged_21 : decode cX0_findChanged 21 = .ok (.iload_n 3, 1) := by decide +kernel
theorem dX0_findChanged_22 : decode cX0_findChanged 22 = .ok (.ishl, 1) := by decide +kernel
theorem dX0_findChanged_23 : decode cX0_findChanged 23 = .ok (.ior, 1) := by decide +kernel
theorem dX0_findChanged_24 : decode cX0_findChanged 24 = .ok (.istore_n 2, 1) := by decide +kernel
theorem dX0_findChanged_25 : decode cX0_findChanged 25 = .ok (.iinc 3 1, 3) := by decide +kernel
theorem dX0_findChanged_28 : decode cX0_findChanged 28 = .ok (.goto (-24), 3) := by decide +kernel
theorem dX0_findChanged_31 : decode cX0_findChanged 31 = .ok (.iload_n 2, 1) := by decide +kernel
theorem dX0_findChanged_32 : decode cX0_findChanged 32 = .ok (.ireturn, 1) := by decide +kernel
set_option maxRecDepth 20000 in
theorem ggX0_looksChanged_X0_findValue : GoodIn wsX0_looksChanged wsX0_findValue := goodIn_r _ [6, 7, 8, 9, 10, 5, 11, 12, 13, 14, 15, 16, 17, 18, 19, 20, 21, 22, 23, 24, 25, 26, 27, 28, 29, 30, 31, 32, 33, 34, 35, 36, 37, 38, 39, 40, 41, 42, 43, 44, 45, 46] (by decide +kernel) (by decide +kernel)
set_option maxRecDepth 20000 in
theorem gX0_looksChanged_X0_findValue : GoodIn wsX0_looksChanged (wsV RX0 179 RX0 yX0_findValue wsX0_findValue) := goodIn_app (goodIn_of _ (by decide +kernel)) ggX0_looksChanged_X0_findValue
theorem dX0_looksChanged_0 : decode cX0_looksChanged 0 = .ok (.iload_n 2, 1) := by decide +kernel
theorem dX0_looksChanged_1 : decode cX0_looksChanged 1 = .ok (.sipush 288, 3) := by decide +kernel
theorem dX0_looksChanged_4 : decode cX0_looksChanged 4 = .ok (.imul, 1) := by decide +kernel
theorem dX0_looksChanged_5 : decode cX0_looksChanged 5 = .ok (.iload_n 1, 1) := by decide +kernel
theorem dX0_looksChanged_6 : decode cX0_looksChanged 6 = .ok (.bipush 18, 2) := by decide +kernel
theorem dX0_looksChanged_8 : decode cX0_looksChanged 8 = .ok (.imul, 1) := by decide +kernel
theorem dX0_looksChanged_9 : decode cX0_looksChanged 9 = .ok (.iadd, 1) := by decide +kernel
theorem dX0_looksChanged_10 : decode cX0_looksChanged 10 = .ok (.istore_n 3, 1) := by decide +kernel
theorem dX0_looksChanged_11 : decode cX0_looksChanged 11 = .ok (.iconst 0, 1) := by decide +kernel
theorem dX0_looksChanged_12 : decode cX0_looksChanged 12 = .ok (.istore 4, 2) := by decide +kernel
theorem dX0_looksChanged_14 : decode cX0_looksChanged 14 = .ok (.iload 4, 2) := by decide +kernel
theorem dX0_looksChanged_16 : decode cX0_looksChanged 16 = .ok (.bipush 18, 2) := by decide +kernel
theorem dX0_looksChanged_18 : decode cX0_looksChanged 18 = .ok (.if_icmp .ge 37, 3) := by decide +kernel
theorem dX0_looksChanged_21 : decode cX0_looksChanged 21 = .ok (.aload_n 0, 1) := by decide +kernel
theorem dX0_looksChanged_22 : decode cX0_looksChanged 22 = .ok (.getfield 54, 3) := by decide +kernel
theorem dX0_looksChanged_25 : decode cX0_looksChanged 25 = .ok (.iload_n 3, 1) := by decide +kernel
theorem dX0_looksChanged_26 : decode cX0_looksChanged 26 = .ok (.iload 4, 2) := by decide +kernel
theorem dX0_looksChanged_28 : decode cX0_looksChanged 28 = .ok (.iadd, 1) := by decide +kernel
theorem dX0_looksChanged_29 : decode cX0_looksChanged 29 = .ok (.iaload, 1) := by decide +kernel
theorem dX0_looksChanged_30 : decode cX0_looksChanged 30 = .ok (.aload_n 0, 1) := by decide +kernel
theorem dX0_looksChanged_31 : decode cX0_looksChanged 31 = .ok (.iload_n 1, 1) := by decide +kernel
theorem dX0_looksChanged_32 : decode cX0_looksChanged 32 = .ok (.iload 4, 2) := by decide +kernel
theorem dX0_looksChanged_34 : decode cX0_looksChanged 34 = .ok (.iconst 3, 1) := by decide +kernel
theorem dX0_looksChanged_35 : decode cX0_looksChanged 35 = .ok (.idiv, 1) := by decide +kernel
theorem dX0_looksChanged_36 : decode cX0_looksChanged 36 = .ok (.iload_n 2, 1) := by decide +kernel
theorem dX0_looksChanged_37 : decode cX0_looksChanged 37 = .ok (.iload 4, 2) := by decide +kernel
theorem dX0_looksChanged_39 : decode cX0_looksChanged 39 = .ok (.iconst 3, 1) := by decide +kernel
theorem dX0_looksChanged_40 : decode cX0_looksChanged 40 = .ok (.irem, 1) := by decide +kernel
theorem dX0_looksChanged_41 : decode cX0_looksChanged 41 = .ok (.invokevirtual 179, 3) := by decide +kernel
theorem dX0_looksChanged_44 : decode cX0_looksChanged 44 = .ok (.if_icmp .eq 5, 3) := by decide +kernel
theorem dX0_looksChanged_47 : decode cX0_looksChanged 47 = .ok (.iconst 1, 1) := by decide +kernel
theorem dX0_looksChanged_48 : decode cX0_looksChanged 48 = .ok (.ireturn, 1) := by decide +kernel
theorem dX0_looksChanged_49 : decode cX0_looksChanged 49 = .ok (.iinc 4 1, 3) := by decide +kernel
theorem dX0_looksChanged_52 : decode cX0_looksChanged 52 = .ok (.goto (-38), 3) := by decide +kernel
theorem dX0_looksChanged_55 : decode cX0_looksChanged 55 = .ok (.iconst 0, 1) := by decide +kernel
theorem dX0_looksChanged_56 : decode cX0_looksChanged 56 = .ok (.ireturn, 1) := by decide +kernel
set_option maxRecDepth 20000 in
theorem ggX0_rememberSights_X0_findValue : GoodIn wsX0_rememberSights wsX0_findValue := goodIn_r _ [6, 7, 8, 9, 10, 5, 11, 12, 13, 14, 15, 16, 17, 18, 19, 20, 21, 22, 23, 24, 25, 26, 27, 28, 29, 30, 31, 32, 33, 34, 35, 36, 37, 38, 39, 40, 41, 42, 43, 44, 45, 46] (by decide +kernel) (by decide +kernel)
set_option maxRecDepth 20000 in
theorem gX0_rememberSights_X0_findValue : GoodIn wsX0_rememberSights (wsV RX0 179 RX0 yX0_findValue wsX0_findValue) := goodIn_app (goodIn_of _ (by decide +kernel)) ggX0_rememberSights_X0_findValue
theorem dX0_rememberSights_0 : decode cX0_rememberSights 0 = .ok (.iload_n 2, 1) := by decide +kernel
theorem dX0_rememberSights_1 : decode cX0_rememberSights 1 = .ok (.sipush 288, 3) := by decide +kernel
theorem dX0_rememberSights_4 : decode cX0_rememberSights 4 = .ok (.imul, 1) := by decide +kernel
theorem dX0_rememberSights_5 : decode cX0_rememberSights 5 = .ok (.iload_n 1, 1) := by decide +kernel
theorem dX0_rememberSights_6 : decode cX0_rememberSights 6 = .ok (.bipush 18, 2) := by decide +kernel
theorem dX0_rememberSights_8 : decode cX0_rememberSights 8 = .ok (.imul, 1) := by decide +kernel
theorem dX0_rememberSights_9 : decode cX0_rememberSights 9 = .ok (.iadd, 1) := by decide +kernel
theorem dX0_rememberSights_10 : decode cX0_rememberSights 10 = .ok (.istore_n 3, 1) := by decide +kernel
theorem dX0_rememberSights_11 : decode cX0_rememberSights 11 = .ok (.iconst 0, 1) := by decide +kernel
theorem dX0_rememberSights_12 : decode cX0_rememberSights 12 = .ok (.istore 4, 2) := by decide +kernel
theorem dX0_rememberSights_14 : decode cX0_rememberSights 14 = .ok (.iload 4, 2) := by decide +kernel
theorem dX0_rememberSights_16 : decode cX0_rememberSights 16 = .ok (.bipush 18, 2) := by decide +kernel
theorem dX0_rememberSights_18 : decode cX0_rememberSights 18 = .ok (.if_icmp .ge 32, 3) := by decide +kernel
theorem dX0_rememberSights_21 : decode cX0_rememberSights 21 = .ok (.aload_n 0, 1) := by decide +kernel
theorem dX0_rememberSights_22 : decode cX0_rememberSights 22 = .ok (.getfield 54, 3) := by decide +kernel
theorem dX0_rememberSights_25 : decode cX0_rememberSights 25 = .ok (.iload_n 3, 1) := by decide +kernel
theorem dX0_rememberSights_26 : decode cX0_rememberSights 26 = .ok (.iload 4, 2) := by decide +kernel
theorem dX0_rememberSights_28 : decode cX0_rememberSights 28 = .ok (.iadd, 1) := by decide +kernel
theorem dX0_rememberSights_29 : decode cX0_rememberSights 29 = .ok (.aload_n 0, 1) := by decide +kernel
theorem dX0_rememberSights_30 : decode cX0_rememberSights 30 = .ok (.iload_n 1, 1) := by decide +kernel
theorem dX0_rememberSights_31 : decode cX0_rememberSights 31 = .ok (.iload 4, 2) := by decide +kernel
theorem dX0_rememberSights_33 : decode cX0_rememberSights 33 = .ok (.iconst 3, 1) := by decide +kernel
theorem dX0_rememberSights_34 : decode cX0_rememberSights 34 = .ok (.idiv, 1) := by decide +kernel
theorem dX0_rememberSights_35 : decode cX0_rememberSights 35 = .ok (.iload_n 2, 1) := by decide +kernel
theorem dX0_rememberSights_36 : decode cX0_rememberSights 36 = .ok (.iload 4, 2) := by decide +kernel
theorem dX0_rememberSights_38 : decode cX0_rememberSights 38 = .ok (.iconst 3, 1) := by decide +kernel
theorem dX0_rememberSights_39 : decode cX0_rememberSights 39 = .ok (.irem, 1) := by decide +kernel
theorem dX0_rememberSights_40 : decode cX0_rememberSights 40 = .ok (.invokevirtual 179, 3) := by decide +kernel
theorem dX0_rememberSights_43 : decode cX0_rememberSights 43 = .ok (.iastore, 1) := by decide +kernel
theorem dX0_rememberSights_44 : decode cX0_rememberSights 44 = .ok (.iinc 4 1, 3) := by decide +kernel
theorem dX0_rememberSights_47 : decode cX0_rememberSights 47 = .ok (.goto (-33), 3) := by decide +kernel
theorem dX0_rememberSights_50 : decode cX0_rememberSights 50 = .ok (.return_, 1) := by decide +kernel
theorem dX1_init_0 : decode cX1_init 0 = .ok (.aload_n 0, 1) := by decide +kernel
theorem dX1_init_1 : decode cX1_init 1 = .ok (.invokespecial 1, 3) := by decide +kernel
theorem dX1_init_4 : decode cX1_init 4 = .ok (.aload_n 0, 1) := by decide +kernel
theorem dX1_init_5 : decode cX1_init 5 = .ok (.bipush 16, 2) := by decide +kernel
theorem dX1_init_7 : decode cX1_init 7 = .ok (.newarray .boolean, 2) := by decide +kernel
theorem dX1_init_9 : decode cX1_init 9 = .ok (.putfield 7, 3) := by decide +kernel
theorem dX1_init_12 : decode cX1_init 12 = .ok (.aload_n 0, 1) := by decide +kernel
theorem dX1_init_13 : decode cX1_init 13 = .ok (.bipush 16, 2) := by decide +kernel
theorem dX1_init_15 : decode cX1_init 15 = .ok (.newarray .int, 2) := by decide +kernel
theorem dX1_init_17 : decode cX1_init 17 = .ok (.putfield 13, 3) := by decide +kernel
theorem dX1_init_20 : decode cX1_init 20 = .ok (.aload_n 0, 1) := by decide +kernel
theorem dX1_init_21 : decode cX1_init 21 = .ok (.bipush 16, 2) := by decide +kernel
theorem dX1_init_23 : decode cX1_init 23 = .ok (.newarray .int, 2) := by decide +kernel
theorem dX1_init_25 : decode cX1_init 25 = .ok (.putfield 17, 3) := by decide +kernel
theorem dX1_init_28 : decode cX1_init 28 = .ok (.aload_n 0, 1) := by decide +kernel
theorem dX1_init_29 : decode cX1_init 29 = .ok (.sipush 256, 3) := by decide +kernel
theorem dX1_init_32 : decode cX1_init 32 = .ok (.newarray .int, 2) := by decide +kernel
theorem dX1_init_34 : decode cX1_init 34 = .ok (.putfield 20, 3) := by decide +kernel
theorem dX1_init_37 : decode cX1_init 37 = .ok (.aload_n 0, 1) := by decide +kernel
theorem dX1_init_38 : decode cX1_init 38 = .ok (.sipush 200, 3) := by decide +kernel
theorem dX1_init_41 : decode cX1_init 41 = .ok (.newarray .int, 2) := by decide +kernel
theorem dX1_init_43 : decode cX1_init 43 = .ok (.putfield 23, 3) := by decide +kernel
theorem dX1_init_46 : decode cX1_init 46 = .ok (.aload_n 0, 1) := by decide +kernel
theorem dX1_init_47 : decode cX1_init 47 = .ok (.sipush 200, 3) := by decide +kernel
theorem dX1_init_50 : decode cX1_init 50 = .ok (.newarray .int, 2) := by decide +kernel
theorem dX1_init_52 : decode cX1_init 52 = .ok (.putfield 26, 3) := by decide +kernel
theorem dX1_init_55 : decode cX1_init 55 = .ok (.aload_n 0, 1) := by decide +kernel
theorem dX1_init_56 : decode cX1_init 56 = .ok (.sipush 200, 3) := by decide +kernel
theorem dX1_init_59 : decode cX1_init 59 = .ok (.newarray .int, 2) := by decide +kernel
theorem dX1_init_61 : decode cX1_init 61 = .ok (.putfield 29, 3) := by decide +kernel
theorem dX1_init_64 : decode cX1_init 64 = .ok (.aload_n 0, 1) := by decide +kernel
theorem dX1_init_65 : decode cX1_init 65 = .ok (.sipush 200, 3) := by decide +kernel
theorem dX1_init_68 : decode cX1_init 68 = .ok (.newarray .int, 2) := by decide +kernel
theorem dX1_init_70 : decode cX1_init 70 = .ok (.putfield 32, 3) := by decide +kernel
theorem dX1_init_73 : decode cX1_init 73 = .ok (.aload_n 0, 1) := by decide +kernel
theorem dX1_init_74 : decode cX1_init 74 = .ok (.sipush 200, 3) := by decide +kernel
theorem dX1_init_77 : decode cX1_init 77 = .ok (.newarray .int, 2) := by decide +kernel
theorem dX1_init_79 : decode cX1_init 79 = .ok (.putfield 35, 3) := by decide +kernel
theorem dX1_init_82 : decode cX1_init 82 = .ok (.aload_n 0, 1) := by decide +kernel
theorem dX1_init_83 : decode cX1_init 83 = .ok (.sipush 200, 3) := by decide +kernel
theorem dX1_init_86 : decode cX1_init 86 = .ok (.newarray .int, 2) := by decide +kernel
theorem dX1_init_88 : decode cX1_init 88 = .ok (.putfield 38, 3) := by decide +kernel
theorem dX1_init_91 : decode cX1_init 91 = .ok (.aload_n 0, 1) := by decide +kernel
theorem dX1_init_92 : decode cX1_init 92 = .ok (.sipush 200, 3) := by decide +kernel
theorem dX1_init_95 : decode cX1_init 95 = .ok (.newarray .int, 2) := by decide +kernel
theorem dX1_init_97 : decode cX1_init 97 = .ok (.putfield 41, 3) := by decide +kernel
theorem dX1_init_100 : decode cX1_init 100 = .ok (.aload_n 0, 1) := by decide +kernel
theorem dX1_init_101 : decode cX1_init 101 = .ok (.bipush 18, 2) := by decide +kernel
theorem dX1_init_103 : decode cX1_init 103 = .ok (.newarray .boolean, 2) := by decide +kernel
theorem dX1_init_105 : decode cX1_init 105 = .ok (.putfield 44, 3) := by decide +kernel
theorem dX1_init_108 : decode cX1_init 108 = .ok (.aload_n 0, 1) := by decide +kernel
theorem dX1_init_109 : decode cX1_init 109 = .ok (.sipush 864, 3) := by decide +kernel
theorem dX1_init_112 : decode cX1_init 112 = .ok (.newarray .int, 2) := by decide +kernel
theorem dX1_init_114 : decode cX1_init 114 = .ok (.putfield 47, 3) := by decide +kernel
theorem dX1_init_117 : decode cX1_init 117 = .ok (.aload_n 0, 1) := by decide +kernel
theorem dX1_init_118 : decode cX1_init 118 = .ok (.bipush 16, 2) := by decide +kernel
theorem dX1_init_120 : decode cX1_init 120 = .ok (.newarray .long, 2) := by decide +kernel
theorem dX1_init_122 : decode cX1_init 122 = .ok (.putfield 50, 3) := by decide +kernel
theorem dX1_init_125 : decode cX1_init 125 = .ok (.iconst 0, 1) := by decide +kernel
theorem dX1_init_126 : decode cX1_init 126 = .ok (.istore_n 1, 1) := by decide +kernel
theorem dX1_init_127 : decode cX1_init 127 = .ok (.iload_n 1, 1) := by decide +kernel
theorem dX1_init_128 : decode cX1_init 128 = .ok (.sipush 864, 3) := by decide +kernel
theorem dX1_init_131 : decode cX1_init 131 = .ok (.if_icmp .ge 16, 3) := by decide +kernel
theorem dX1_init_134 : decode cX1_init 134 = .ok (.aload_n 0, 1) := by decide +kernel
theorem dX1_init_135 : decode cX1_init 135 = .ok (.getfield 47, 3) := by decide +kernel
theorem dX1_init_138 : decode cX1_init 138 = .ok (.iload_n 1, 1) := by decide +kernel
theorem dX1_init_139 : decode cX1_init 139 = .ok (.iconst (-1), 1) := by decide +kernel
theorem dX1_init_140 : decode cX1_init 140 = .ok (.iastore, 1) := by decide +kernel
theorem dX1_init_141 : decode cX1_init 141 = .ok (.iinc 1 1, 3) := by decide +kernel
theorem dX1_init_144 : decode cX1_init 144 = .ok (.goto (-17), 3) := by decide +kernel
theorem dX1_init_147 : decode cX1_init 147 = .ok (.return_, 1) := by decide +kernel
theorem dX1_thrown_0 : decode cX1_thrown 0 = .ok (.aload_n 0, 1) := by decide +kernel
theorem dX1_thrown_1 : decode cX1_thrown 1 = .ok (.getfield 54, 3) := by decide +kernel
theorem dX1_thrown_4 : decode cX1_thrown 4 = .ok (.ireturn, 1) := by decide +kernel
theorem dX1_fails_0 : decode cX1_fails 0 = .ok (.aload_n 0, 1) := by decide +kernel
theorem dX1_fails_1 : decode cX1_fails 1 = .ok (.iload_n 1, 1) := by decide +kernel
theorem dX1_fails_2 : decode cX1_fails 2 = .ok (.putfield 54, 3) := by decide +kernel
theorem dX1_fails_5 : decode cX1_fails 5 = .ok (.iload_n 1, 1) := by decide +kernel
theorem dX1_fails_6 : decode cX1_fails 6 = .ok (.ifCond .le 7, 3) := by decide +kernel
theorem dX1_fails_9 : decode cX1_fails 9 = .ok (.iconst 1, 1) := by decide +kernel
theorem dX1_fails_10 : decode cX1_fails 10 = .ok (.goto 4, 3) := by decide +kernel
theorem dX1_fails_13 : decode cX1_fails 13 = .ok (.iconst 0, 1) := by decide +kernel
theorem dX1_fails_14 : decode cX1_fails 14 = .ok (.ireturn, 1) := by decide +kernel
theorem dX1_isIn_0 : decode cX1_isIn 0 = .ok (.iload_n 0, 1) := by decide +kernel
theorem dX1_isIn_1 : decode cX1_isIn 1 = .ok (.iload_n 1, 1) := by decide +kernel
theorem dX1_isIn_2 : decode cX1_isIn 2 = .ok (.if_icmp .lt 12, 3) := by decide +kernel
theorem dX1_isIn_5 : decode cX1_isIn 5 = .ok (.iload_n 0, 1) := by decide +kernel
theorem dX1_isIn_6 : decode cX1_isIn 6 = .ok (.iload_n 2, 1) := by decide +kernel
theorem dX1_isIn_7 : decode cX1_isIn 7 = .ok (.if_icmp .gt 7, 3) := by decide +kernel
theorem dX1_isIn_10 : decode cX1_isIn 10 = .ok (.iconst 1, 1) := by decide +kernel
theorem dX1_isIn_11 : decode cX1_isIn 11 = .ok (.goto 4, 3) := by decide +kernel
theorem dX1_isIn_14 : decode cX1_isIn 14 = .ok (.iconst 0, 1) := by decide +kernel
theorem dX1_isIn_15 : decode cX1_isIn 15 = .ok (.ireturn, 1) := by decide +kernel
set_option maxRecDepth 20000 in
theorem ggX1_isGood_X1_isIn : GoodIn wsX1_isGood wsX1_isIn := goodIn_r _ [6] (by decide +kernel) (by decide +kernel)
set_option maxRecDepth 20000 in
theorem gX1_isGood_X1_isIn : GoodIn wsX1_isGood (va_wsS RX1 61 yX1_isIn wsX1_isIn) := goodIn_app (goodIn_of _ (by decide +kernel)) ggX1_isGood_X1_isIn
theorem dX1_isGood_0 : decode cX1_isGood 0 = .ok (.iload_n 1, 1) := by decide +kernel
theorem dX1_isGood_1 : decode cX1_isGood 1 = .ok (.iconst 0, 1) := by decide +kernel
theorem dX1_isGood_2 : decode cX1_isGood 2 = .ok (.aload_n 0, 1) := by decide +kernel
theorem dX1_isGood_3 : decode cX1_isGood 3 = .ok (.getfield 58, 3) := by decide +kernel
theorem dX1_isGood_6 : decode cX1_isGood 6 = .ok (.iconst 1, 1) := by decide +kernel
theorem dX1_isGood_7 : decode cX1_isGood 7 = .ok (.isub, 1) := by decide +kernel
theorem dX1_isGood_8 : decode cX1_isGood 8 = .ok (.invokestatic 61, 3) := by decide +kernel
theorem dX1_isGood_11 : decode cX1_isGood 11 = .ok (.ifCond .eq 16, 3) := by decide +kernel
theorem dX1_isGood_14 : decode cX1_isGood 14 = .ok (.aload_n 0, 1) := by decide +kernel
theorem dX1_isGood_15 : decode cX1_isGood 15 = .ok (.getfield 7, 3) := by decide +kernel
theorem dX1_isGood_18 : decode cX1_isGood 18 = .ok (.iload_n 1, 1) := by decide +kernel
theorem dX1_isGood_19 : decode cX1_isGood 19 = .ok (.baload, 1) := by decide +kernel
theorem dX1_isGood_20 : decode cX1_isGood 20 = .ok (.ifCond .eq 7, 3) := by decide +kernel
theorem dX1_isGood_23 : decode cX1_isGood 23 = .ok (.iconst 1, 1) := by decide +kernel
theorem dX1_isGood_24 : decode cX1_isGood 24 = .ok (.goto 4, 3) := by decide +kernel
theorem dX1_isGood_27 : decode cX1_isGood 27 = .ok (.iconst 0, 1) := by decide +kernel
theorem dX1_isGood_28 : decode cX1_isGood 28 = .ok (.ireturn, 1) := by decide +kernel
set_option maxRecDepth 20000 in
theorem ggX1_isShop_X1_isIn : GoodIn wsX1_isShop wsX1_isIn := goodIn_r _ [4] (by decide +kernel) (by decide +kernel)
set_option maxRecDepth 20000 in
theorem gX1_isShop_X1_isIn : GoodIn wsX1_isShop (va_wsS RX1 61 yX1_isIn wsX1_isIn) := goodIn_app (goodIn_of _ (by decide +kernel)) ggX1_isShop_X1_isIn
theorem dX1_isShop_0 : decode cX1_isShop 0 = .ok (.iload_n 0, 1) := by decide +kernel
theorem dX1_isShop_1 : decode cX1_isShop 1 = .ok (.iconst 0, 1) := by decide +kernel
theorem dX1_isShop_2 : decode cX1_isShop 2 = .ok (.iconst 2, 1) := by decide +kernel
theorem dX1_isShop_3 : decode cX1_isShop 3 = .ok (.invokestatic 61, 3) := by decide +kernel
theorem dX1_isShop_6 : decode cX1_isShop 6 = .ok (.ireturn, 1) := by decide +kernel
theorem dX1_level_0 : decode cX1_level 0 = .ok (.iconst 0, 1) := by decide +kernel
theorem dX1_level_1 : decode cX1_level 1 = .ok (.istore_n 2, 1) := by decide +kernel
theorem dX1_level_2 : decode cX1_level 2 = .ok (.aload_n 0, 1) := by decide +kernel
theorem dX1_level_3 : decode cX1_level 3 = .ok (.getfield 13, 3) := by decide +kernel
theorem dX1_level_6 : decode cX1_level 6 = .ok (.iload_n 1, 1) := by decide +kernel
theorem dX1_level_7 : decode cX1_level 7 = .ok (.iaload, 1) := by decide +kernel
theorem dX1_level_8 : decode cX1_level 8 = .ok (.istore_n 3, 1) := by decide +kernel
theorem dX1_level_9 : decode cX1_level 9 = .ok (.iload_n 3, 1) := by decide +kernel
theorem dX1_level_10 : decode cX1_level 10 = .ok (.iconst (-1), 1) := by decide +kernel
theorem dX1_level_11 : decode cX1_level 11 = .ok (.if_icmp .eq 16, 3) := by decide +kernel
theorem dX1_level_14 : decode cX1_level 14 = .ok (.iinc 2 1, 3) := by decide +kernel
theorem dX1_level_17 : decode cX1_level 17 = .ok (.aload_n 0, 1) := by decide +kernel
theorem dX1_level_18 : decode cX1_level 18 = .ok (.getfield 13, 3) := by decide +kernel
theorem dX1_level_21 : decode cX1_level 21 = .ok (.iload_n 3, 1) := by decide +kernel
theorem dX1_level_22 : decode cX1_level 22 = .ok (.iaload, 1) := by decide +kernel
theorem dX1_level_23 : decode cX1_level 23 = .ok (.istore_n 3, 1) := by decide +kernel
theorem dX1_level_24 : decode cX1_level 24 = .ok (.goto (-15), 3) := by decide +kernel
theorem dX1_level_27 : decode cX1_level 27 = .ok (.iload_n 2, 1) := by decide +kernel
theorem dX1_level_28 : decode cX1_level 28 = .ok (.ireturn, 1) := by decide +kernel
theorem dX1_isBelow_0 : decode cX1_isBelow 0 = .ok (.iload_n 1, 1) := by decide +kernel
theorem dX1_isBelow_1 : decode cX1_isBelow 1 = .ok (.istore_n 3, 1) := by decide +kernel
theorem dX1_isBelow_2 : decode cX1_isBelow 2 = .ok (.iload_n 3, 1) := by decide +kernel
theorem dX1_isBelow_3 : decode cX1_isBelow 3 = .ok (.iconst (-1), 1) := by decide +kernel
theorem dX1_isBelow_4 : decode cX1_isBelow 4 = .ok (.if_icmp .eq 18, 3) := by decide +kernel
theorem dX1_isBelow_7 : decode cX1_isBelow 7 = .ok (.iload_n 3, 1) := by decide +kernel
theorem dX1_isBelow_8 : decode cX1_isBelow 8 = .ok (.iload_n 2, 1) := by decide +kernel
theorem dX1_isBelow_9 : decode cX1_isBelow 9 = .ok (.if_icmp .eq 13, 3) := by decide +kernel
theorem dX1_isBelow_12 : decode cX1_isBelow 12 = .ok (.aload_n 0, 1) := by decide +kernel
theorem dX1_isBelow_13 : decode cX1_isBelow 13 = .ok (.getfield 13, 3) := by decide +kernel
theorem dX1_isBelow_16 : decode cX1_isBelow 16 = .ok (.iload_n 3, 1) := by decide +kernel
theorem dX1_isBelow_17 : decode cX1_isBelow 17 = .ok (.iaload, 1) := by decide +kernel
theorem dX1_isBelow_18 : decode cX1_isBelow 18 = .ok (.istore_n 3, 1) := by decide +kernel
theorem dX1_isBelow_19 : decode cX1_isBelow 19 = .ok (.goto (-17), 3) := by decide +kernel
theorem dX1_isBelow_22 : decode cX1_isBelow 22 = .ok (.iload_n 3, 1) := by decide +kernel
theorem dX1_isBelow_23 : decode cX1_isBelow 23 = .ok (.iload_n 2, 1) := by decide +kernel
theorem dX1_isBelow_24 : decode cX1_isBelow 24 = .ok (.if_icmp .ne 7, 3) := by decide +kernel
theorem dX1_isBelow_27 : decode cX1_isBelow 27 = .ok (.iconst 1, 1) := by decide +kernel
theorem dX1_isBelow_28 : decode cX1_isBelow 28 = .ok (.goto 4, 3) := by decide +kernel
theorem dX1_isBelow_31 : decode cX1_isBelow 31 = .ok (.iconst 0, 1) := by decide +kernel
theorem dX1_isBelow_32 : decode cX1_isBelow 32 = .ok (.ireturn, 1) := by decide +kernel
set_option maxRecDepth 20000 in
theorem ggX1_addGood_X1_isGood : GoodIn wsX1_addGood wsX1_isGood := goodIn_r _ [8, 1, 3, 9, 10, 7, 11, 21, 22, 23, 24, 25, 26, 27, 28, 29, 30, 31, 32, 33, 34, 35, 36, 37, 38] (by decide +kernel) (by decide +kernel)
set_option maxRecDepth 20000 in
theorem gX1_addGood_X1_isGood : GoodIn wsX1_addGood (wsV RX1 65 RX1 yX1_isGood wsX1_isGood) := goodIn_app (goodIn_of _ (by decide +kernel)) ggX1_addGood_X1_isGood
set_option maxRecDepth 20000 in
theorem ggX1_addGood_X1_level : GoodIn wsX1_addGood wsX1_level := goodIn_r _ [15, 2, 21, 22, 23, 24, 25, 26, 27, 28, 29, 30, 31, 32, 33, 34, 35, 36, 37, 38] (by decide +kernel) (by decide +kernel)
set_option maxRecDepth 20000 in
theorem gX1_addGood_X1_level : GoodIn wsX1_addGood (wsV RX1 69 RX1 yX1_level wsX1_level) := goodIn_app (goodIn_of _ (by decide +kernel)) ggX1_addGood_X1_level
set_option maxRecDepth 20000 in
theorem ggX1_addGood_X1_fails : GoodIn wsX1_addGood wsX1_fails := goodIn_r _ [19, 20, 21, 22, 23, 24, 25, 26, 27, 28, 29, 30, 31, 32, 33, 34, 35, 36, 37, 38] (by decide +kernel) (by decide +kernel)
set_option maxRecDepth 20000 in
theorem gX1_addGood_X1_fails : GoodIn wsX1_addGood (wsV RX1 73 RX1 yX1_fails wsX1_fails) := goodIn_app (goodIn_of _ (by decide +kernel)) ggX1_addGood_X1_fails
theorem dX1_addGood_0 : decode cX1_addGood 0 = .ok (.iload_n 1, 1) := by decide +kernel
theorem dX1_addGood_1 : decode cX1_addGood 1 = .ok (.iconst (-1), 1) := by decide +kernel
theorem dX1_addGood_2 : decode cX1_addGood 2 = .ok (.if_icmp .eq 11, 3) := by decide +kernel
theorem dX1_addGood_5 : decode cX1_addGood 5 = .ok (.aload_n 0, 1) := by decide +kernel
theorem dX1_addGood_6 : decode cX1_addGood 6 = .ok (.iload_n 1, 1) := by decide +kernel
theorem dX1_addGood_7 : decode cX1_addGood 7 = .ok (.invokevirtual 65, 3) := by decide +kernel
theorem dX1_addGood_10 : decode cX1_addGood 10 = .ok (.ifCond .eq 7, 3) := by decide +kernel
theorem dX1_addGood_13 : decode cX1_addGood 13 = .ok (.iconst 1, 1) := by decide +kernel
theorem dX1_addGood_14 : decode cX1_addGood 14 = .ok (.goto 4, 3) := by decide +kernel
theorem dX1_addGood_17 : decode cX1_addGood 17 = .ok (.iconst 0, 1) := by decide +kernel
theorem dX1_addGood_18 : decode cX1_addGood 18 = .ok (.istore_n 2, 1) := by decide +kernel
theorem dX1_addGood_19 : decode cX1_addGood 19 = .ok (.aload_n 0, 1) := by decide +kernel
theorem dX1_addGood_20 : decode cX1_addGood 20 = .ok (.iload_n 2, 1) := by decide +kernel
theorem dX1_addGood_21 : decode cX1_addGood 21 = .ok (.ifCond .ne 7, 3) := by decide +kernel
theorem dX1_addGood_24 : decode cX1_addGood 24 = .ok (.iconst 1, 1) := by decide +kernel
theorem dX1_addGood_25 : decode cX1_addGood 25 = .ok (.goto 31, 3) := by decide +kernel
theorem dX1_addGood_28 : decode cX1_addGood 28 = .ok (.iload_n 1, 1) := by decide +kernel
theorem dX1_addGood_29 : decode cX1_addGood 29 = .ok (.iconst (-1), 1) := by decide +kernel
theorem dX1_addGood_30 : decode cX1_addGood 30 = .ok (.if_icmp .eq 12, 3) := by decide +kernel
theorem dX1_addGood_33 : decode cX1_addGood 33 = .ok (.aload_n 0, 1) := by decide +kernel
theorem dX1_addGood_34 : decode cX1_addGood 34 = .ok (.iload_n 1, 1) := by decide +kernel
theorem dX1_addGood_35 : decode cX1_addGood 35 = .ok (.invokevirtual 69, 3) := by decide +kernel
theorem dX1_addGood_38 : decode cX1_addGood 38 = .ok (.iconst 2, 1) := by decide +kernel
theorem dX1_addGood_39 : decode cX1_addGood 39 = .ok (.if_icmp .eq 12, 3) := by decide +kernel
theorem dX1_addGood_42 : decode cX1_addGood 42 = .ok (.aload_n 0, 1) := by decide +kernel
theorem dX1_addGood_43 : decode cX1_addGood 43 = .ok (.getfield 58, 3) := by decide +kernel
theorem dX1_addGood_46 : decode cX1_addGood 46 = .ok (.bipush 16, 2) := by decide +kernel
theorem dX1_addGood_48 : decode cX1_addGood 48 = .ok (.if_icmp .ne 7, 3) := by decide +kernel
theorem dX1_addGood_51 : decode cX1_addGood 51 = .ok (.iconst 2, 1) := by decide +kernel
theorem dX1_addGood_52 : decode cX1_addGood 52 = .ok (.goto 4, 3) := by decide +kernel
theorem dX1_addGood_55 : decode cX1_addGood 55 = .ok (.iconst 0, 1) := by decide +kernel
theorem dX1_addGood_56 : decode cX1_addGood 56 = .ok (.invokevirtual 73, 3) := by decide +kernel
theorem dX1_addGood_59 : decode cX1_addGood 59 = .ok (.ifCond .eq 5, 3) := by decide +kernel
theorem dX1_addGood_62 : decode cX1_addGood 62 = .ok (.iconst 0, 1) := by decide +kernel
theorem dX1_addGood_63 : decode cX1_addGood 63 = .ok (.ireturn, 1) := by decide +kernel
theorem dX1_addGood_64 : decode cX1_addGood 64 = .ok (.aload_n 0, 1) := by decide +kernel
theorem dX1_addGood_65 : decode cX1_addGood 65 = .ok (.getfield 13, 3) := by decide +kernel
theorem dX1_addGood_68 : decode cX1_addGood 68 = .ok (.aload_n 0, 1) := by decide +kernel
theorem dX1_addGood_69 : decode cX1_addGood 69 = .ok (.getfield 58, 3) := by decide +kernel
theorem dX1_addGood_72 : decode cX1_addGood 72 = .ok (.iload_n 1, 1) := by decide +kernel
theorem dX1_addGood_73 : decode cX1_addGood 73 = .ok (.iastore, 1) := by decide +kernel
theorem dX1_addGood_74 : decode cX1_addGood 74 = .ok (.aload_n 0, 1) := by decide +kernel
theorem dX1_addGood_75 : decode cX1_addGood 75 = .ok (.getfield 7, 3) := by decide +kernel
theorem dX1_addGood_78 : decode cX1_addGood 78 = .ok (.aload_n 0, 1) := by decide +kernel
theorem dX1_addGood_79 : decode cX1_addGood 79 = .ok (.getfield 58, 3) := by decide +kernel
theorem dX1_addGood_82 : decode cX1_addGood 82 = .ok (.iconst 1, 1) := by decide +kernel
theorem dX1_addGood_83 : decode cX1_addGood 83 = .ok (.bastore, 1) := by decide +kernel
theorem dX1_addGood_84 : decode cX1_addGood 84 = .ok (.aload_n 0, 1) := by decide +kernel
theorem dX1_addGood_85 : decode cX1_addGood 85 = .ok (.dup, 1) := by decide +kernel
theorem dX1_addGood_86 : decode cX1_addGood 86 = .ok (.getfield 58, 3) := by decide +kernel
theorem dX1_addGood_89 : decode cX1_addGood 89 = .ok (.iconst 1, 1) := by decide +kernel
theorem dX1_addGood_90 : decode cX1_addGood 90 = .ok (.iadd, 1) := by decide +kernel
theorem dX1_addGood_91 : decode cX1_addGood 91 = .ok (.putfield 58, 3) := by decide +kernel
theorem dX1_addGood_94 : decode cX1_addGood 94 = .ok (.aload_n 0, 1) := by decide +kernel
theorem dX1_addGood_95 : decode cX1_addGood 95 = .ok (.getfield 58, 3) := by decide +kernel
theorem dX1_addGood_98 : decode cX1_addGood 98 = .ok (.iconst 1, 1) := by decide +kernel
theorem dX1_addGood_99 : decode cX1_addGood 99 = .ok (.isub, 1) := by decide +kernel
theorem dX1_addGood_100 : decode cX1_addGood 100 = .ok (.ireturn, 1) := by decide +kernel
set_option maxRecDepth 20000 in
theorem ggX1_move_X1_isGood : GoodIn wsX1_move wsX1_isGood := goodIn_r _ [8, 1, 2, 9, 10, 7, 11, 25, 26, 27, 28, 29, 30, 31, 32, 33, 34, 35, 36, 37, 38, 39, 40, 41, 42] (by decide +kernel) (by decide +kernel)
set_option maxRecDepth 20000 in
theorem gX1_move_X1_isGood : GoodIn wsX1_move (wsV RX1 65 RX1 yX1_isGood wsX1_isGood) := goodIn_app (goodIn_of _ (by decide +kernel)) ggX1_move_X1_isGood
set_option maxRecDepth 20000 in
theorem ggX1_move_X1_isBelow : GoodIn wsX1_move wsX1_isBelow := goodIn_r _ [15, 3, 25, 26, 27, 28, 29, 30, 31, 32, 33, 34, 35, 36, 37, 38, 39, 40, 41, 42] (by decide +kernel) (by decide +kernel)
set_option maxRecDepth 20000 in
theorem gX1_move_X1_isBelow : GoodIn wsX1_move (wsV RX1 76 RX1 yX1_isBelow wsX1_isBelow) := goodIn_app (goodIn_of _ (by decide +kernel)) ggX1_move_X1_isBelow
set_option maxRecDepth 20000 in
theorem ggX1_move_X1_level : GoodIn wsX1_move wsX1_level := goodIn_r _ [19, 3, 25, 26, 27, 28, 29, 30, 31, 32, 33, 34, 35, 36, 37, 38, 39, 40, 41, 42] (by decide +kernel) (by decide +kernel)
set_option maxRecDepth 20000 in
theorem gX1_move_X1_level : GoodIn wsX1_move (wsV RX1 69 RX1 yX1_level wsX1_level) := goodIn_app (goodIn_of _ (by decide +kernel)) ggX1_move_X1_level
set_option maxRecDepth 20000 in
theorem ggX1_move_X1_fails : GoodIn wsX1_move wsX1_fails := goodIn_r _ [23, 24, 25, 26, 27, 28, 29, 30, 31, 32, 33, 34, 35, 36, 37, 38, 39, 40, 41, 42] (by decide +kernel) (by decide +kernel)
set_option maxRecDepth 20000 in
theorem gX1_move_X1_fails : GoodIn wsX1_move (wsV RX1 73 RX1 yX1_fails wsX1_fails) := goodIn_app (goodIn_of _ (by decide +kernel)) ggX1_move_X1_fails
theorem dX1_move_0 : decode cX1_move 0 = .ok (.aload_n 0, 1) := by decide +kernel
theorem dX1_move_1 : decode cX1_move 1 = .ok (.iload_n 1, 1) := by decide +kernel
theorem dX1_move_2 : decode cX1_move 2 = .ok (.invokevirtual 65, 3) := by decide +kernel
theorem dX1_move_5 : decode cX1_move 5 = .ok (.ifCond .eq 20, 3) := by decide +kernel
theorem dX1_move_8 : decode cX1_move 8 = .ok (.iload_n 2, 1) := by decide +kernel
theorem dX1_move_9 : decode cX1_move 9 = .ok (.iconst (-1), 1) := by decide +kernel
theorem dX1_move_10 : decode cX1_move 10 = .ok (.if_icmp .eq 11, 3) := by decide +kernel
theorem dX1_move_13 : decode cX1_move 13 = .ok (.aload_n 0, 1) := by decide +kernel
theorem dX1_move_14 : decode cX1_move 14 = .ok (.iload_n 2, 1) := by decide +kernel
theorem dX1_move_15 : decode cX1_move 15 = .ok (.invokevirtual 65, 3) := by decide +kernel
theorem dX1_move_18 : decode cX1_move 18 = .ok (.ifCond .eq 7, 3) := by decide +kernel
theorem dX1_move_21 : decode cX1_move 21 = .ok (.iconst 1, 1) := by decide +kernel
theorem dX1_move_22 : decode cX1_move 22 = .ok (.goto 4, 3) := by decide +kernel
theorem dX1_move_25 : decode cX1_move 25 = .ok (.iconst 0, 1) := by decide +kernel
theorem dX1_move_26 : decode cX1_move 26 = .ok (.istore_n 3, 1) := by decide +kernel
theorem dX1_move_27 : decode cX1_move 27 = .ok (.iload_n 3, 1) := by decide +kernel
theorem dX1_move_28 : decode cX1_move 28 = .ok (.ifCond .eq 21, 3) := by decide +kernel
theorem dX1_move_31 : decode cX1_move 31 = .ok (.iload_n 2, 1) := by decide +kernel
theorem dX1_move_32 : decode cX1_move 32 = .ok (.iconst (-1), 1) := by decide +kernel
theorem dX1_move_33 : decode cX1_move 33 = .ok (.if_icmp .eq 12, 3) := by decide +kernel
theorem dX1_move_36 : decode cX1_move 36 = .ok (.aload_n 0, 1) := by decide +kernel
theorem dX1_move_37 : decode cX1_move 37 = .ok (.iload_n 2, 1) := by decide +kernel
theorem dX1_move_38 : decode cX1_move 38 = .ok (.iload_n 1, 1) := by decide +kernel
theorem dX1_move_39 : decode cX1_move 39 = .ok (.invokevirtual 76, 3) := by decide +kernel
theorem dX1_move_42 : decode cX1_move 42 = .ok (.ifCond .ne 7, 3) := by decide +kernel
theorem dX1_move_45 : decode cX1_move 45 = .ok (.iconst 1, 1) := by decide +kernel
theorem dX1_move_46 : decode cX1_move 46 = .ok (.goto 4, 3) := by decide +kernel
theorem dX1_move_49 : decode cX1_move 49 = .ok (.iconst 0, 1) := by decide +kernel
theorem dX1_move_50 : decode cX1_move 50 = .ok (.istore 4, 2) := by decide +kernel
theorem dX1_move_52 : decode cX1_move 52 = .ok (.iload 4, 2) := by decide +kernel
theorem dX1_move_54 : decode cX1_move 54 = .ok (.ifCond .eq 18, 3) := by decide +kernel
theorem dX1_move_57 : decode cX1_move 57 = .ok (.iload_n 2, 1) := by decide +kernel
theorem dX1_move_58 : decode cX1_move 58 = .ok (.iconst (-1), 1) := by decide +kernel
theorem dX1_move_59 : decode cX1_move 59 = .ok (.if_icmp .eq 13, 3) := by decide +kernel
theorem dX1_move_62 : decode cX1_move 62 = .ok (.aload_n 0, 1) := by decide +kernel
theorem dX1_move_63 : decode cX1_move 63 = .ok (.iload_n 2, 1) := by decide +kernel
theorem dX1_move_64 : decode cX1_move 64 = .ok (.invokevirtual 69, 3) := by decide +kernel
theorem dX1_move_67 : decode cX1_move 67 = .ok (.iconst 1, 1) := by decide +kernel
theorem dX1_move_68 : decode cX1_move 68 = .ok (.iadd, 1) := by decide +kernel
theorem dX1_move_69 : decode cX1_move 69 = .ok (.goto 4, 3) := by decide +kernel
theorem dX1_move_72 : decode cX1_move 72 = .ok (.iconst 0, 1) := by decide +kernel
theorem dX1_move_73 : decode cX1_move 73 = .ok (.istore 5, 2) := by decide +kernel
theorem dX1_move_75 : decode cX1_move 75 = .ok (.iconst 0, 1) := by decide +kernel
theorem dX1_move_76 : decode cX1_move 76 = .ok (.istore 6, 2) := by decide +kernel
theorem dX1_move_78 : decode cX1_move 78 = .ok (.iload 6, 2) := by decide +kernel
theorem dX1_move_80 : decode cX1_move 80 = .ok (.aload_n 0, 1) := by decide +kernel
theorem dX1_move_81 : decode cX1_move 81 = .ok (.getfield 58, 3) := by decide +kernel
theorem dX1_move_84 : decode cX1_move 84 = .ok (.if_icmp .ge 60, 3) := by decide +kernel
theorem dX1_move_87 : decode cX1_move 87 = .ok (.iload 4, 2) := by decide +kernel
theorem dX1_move_89 : decode cX1_move 89 = .ok (.ifCond .eq 55, 3) := by decide +kernel
theorem dX1_move_92 : decode cX1_move 92 = .ok (.aload_n 0, 1) := by decide +kernel
theorem dX1_move_93 : decode cX1_move 93 = .ok (.getfield 7, 3) := by decide +kernel
theorem dX1_move_96 : decode cX1_move 96 = .ok (.iload 6, 2) := by decide +kernel
theorem dX1_move_98 : decode cX1_move 98 = .ok (.baload, 1) := by decide +kernel
theorem dX1_move_99 : decode cX1_move 99 = .ok (.ifCond .eq 32, 3) := by decide +kernel
theorem dX1_move_102 : decode cX1_move 102 = .ok (.aload_n 0, 1) := by decide +kernel
theorem dX1_move_103 : decode cX1_move 103 = .ok (.iload 6, 2) := by decide +kernel
theorem dX1_move_105 : decode cX1_move 105 = .ok (.iload_n 1, 1) := by decide +kernel
theorem dX1_move_106 : decode cX1_move 106 = .ok (.invokevirtual 76, 3) := by decide +kernel
theorem dX1_move_109 : decode cX1_move 109 = .ok (.ifCond .eq 22, 3) := by decide +kernel
theorem dX1_move_112 : decode cX1_move 112 = .ok (.aload_n 0, 1) := by decide +kernel
theorem dX1_move_113 : decode cX1_move 113 = .ok (.iload 6, 2) := by decide +kernel
theorem dX1_move_115 : decode cX1_move 115 = .ok (.invokevirtual 69, 3) := by decide +kernel
theorem dX1_move_118 : decode cX1_move 118 = .ok (.aload_n 0, 1) := by decide +kernel
theorem dX1_move_119 : decode cX1_move 119 = .ok (.iload_n 1, 1) := by decide +kernel
theorem dX1_move_120 : decode cX1_move 120 = .ok (.invokevirtual 69, 3) := by decide +kernel
theorem dX1_move_123 : decode cX1_move 123 = .ok (.isub, 1) := by decide +kernel
theorem dX1_move_124 : decode cX1_move 124 = .ok (.iload 5, 2) := by decide +kernel
theorem dX1_move_126 : decode cX1_move 126 = .ok (.iadd, 1) := by decide +kernel
theorem dX1_move_127 : decode cX1_move 127 = .ok (.iconst 3, 1) := by decide +kernel
theorem dX1_move_128 : decode cX1_move 128 = .ok (.if_icmp .ge 7, 3) := by decide +kernel
theorem dX1_move_131 : decode cX1_move 131 = .ok (.iconst 1, 1) := by decide +kernel
theorem dX1_move_132 : decode cX1_move 132 = .ok (.goto 4, 3) := by decide +kernel
theorem dX1_move_135 : decode cX1_move 135 = .ok (.iconst 0, 1) := by decide +kernel
theorem dX1_move_136 : decode cX1_move 136 = .ok (.istore 4, 2) := by decide +kernel
theorem dX1_move_138 : decode cX1_move 138 = .ok (.iinc 6 1, 3) := by decide +kernel
theorem dX1_move_141 : decode cX1_move 141 = .ok (.goto (-63), 3) := by decide +kernel
theorem dX1_move_144 : decode cX1_move 144 = .ok (.aload_n 0, 1) := by decide +kernel
theorem dX1_move_145 : decode cX1_move 145 = .ok (.iload_n 3, 1) := by decide +kernel
theorem dX1_move_146 : decode cX1_move 146 = .ok (.ifCond .ne 7, 3) := by decide +kernel
theorem dX1_move_149 : decode cX1_move 149 = .ok (.iconst 1, 1) := by decide +kernel
theorem dX1_move_150 : decode cX1_move 150 = .ok (.goto 13, 3) := by decide +kernel
theorem dX1_move_153 : decode cX1_move 153 = .ok (.iload 4, 2) := by decide +kernel
theorem dX1_move_155 : decode cX1_move 155 = .ok (.ifCond .eq 7, 3) := by decide +kernel
theorem dX1_move_158 : decode cX1_move 158 = .ok (.iconst 0, 1) := by decide +kernel
theorem dX1_move_159 : decode cX1_move 159 = .ok (.goto 4, 3) := by decide +kernel
theorem dX1_move_162 : decode cX1_move 162 = .ok (.iconst 2, 1) := by decide +kernel
theorem dX1_move_163 : decode cX1_move 163 = .ok (.invokevirtual 73, 3) := by decide +kernel
theorem dX1_move_166 : decode cX1_move 166 = .ok (.ifCond .eq 5, 3) := by decide +kernel
theorem dX1_move_169 : decode cX1_move 169 = .ok (.iconst 0, 1) := by decide +kernel
theorem dX1_move_170 : decode cX1_move 170 = .ok (.ireturn, 1) := by decide +kernel
theorem dX1_move_171 : decode cX1_move 171 = .ok (.aload_n 0, 1) := by decide +kernel
theorem dX1_move_172 : decode cX1_move 172 = .ok (.getfield 13, 3) := by decide +kernel
theorem dX1_move_175 : decode cX1_move 175 = .ok (.iload_n 1, 1) := by decide +kernel
theorem dX1_move_176 : decode cX1_move 176 = .ok (.iaload, 1) := by decide +kernel
theorem dX1_move_177 : decode cX1_move 177 = .ok (.istore 6, 2) := by decide +kernel
theorem dX1_move_179 : decode cX1_move 179 = .ok (.aload_n 0, 1) := by decide +kernel
theorem dX1_move_180 : decode cX1_move 180 = .ok (.getfield 13, 3) := by decide +kernel
theorem dX1_move_183 : decode cX1_move 183 = .ok (.iload_n 1, 1) := by decide +kernel
theorem dX1_move_184 : decode cX1_move 184 = .ok (.iload_n 2, 1) := by decide +kernel
theorem dX1_move_185 : decode cX1_move 185 = .ok (.iastore, 1) := by decide +kernel
theorem dX1_move_186 : decode cX1_move 186 = .ok (.iload 6, 2) := by decide +kernel
theorem dX1_move_188 : decode cX1_move 188 = .ok (.ireturn, 1) := by decide +kernel
set_option maxRecDepth 20000 in
theorem ggX1_delete_X1_isGood : GoodIn wsX1_delete wsX1_isGood := goodIn_r _ [9, 1, 2, 10, 11, 8, 12, 18, 19, 20, 21, 22, 23, 24, 25, 26, 27, 28, 29, 30, 31, 32, 33, 34, 35] (by decide +kernel) (by decide +kernel)
set_option maxRecDepth 20000 in
theorem gX1_delete_X1_isGood : GoodIn wsX1_delete (wsV RX1 65 RX1 yX1_isGood wsX1_isGood) := goodIn_app (goodIn_of _ (by decide +kernel)) ggX1_delete_X1_isGood
set_option maxRecDepth 20000 in
theorem ggX1_delete_X1_fails : GoodIn wsX1_delete wsX1_fails := goodIn_r _ [16, 17, 18, 19, 20, 21, 22, 23, 24, 25, 26, 27, 28, 29, 30, 31, 32, 33, 34, 35] (by decide +kernel) (by decide +kernel)
set_option maxRecDepth 20000 in
theorem gX1_delete_X1_fails : GoodIn wsX1_delete (wsV RX1 73 RX1 yX1_fails wsX1_fails) := goodIn_app (goodIn_of _ (by decide +kernel)) ggX1_delete_X1_fails
theorem dX1_delete_0 : decode cX1_delete 0 = .ok (.aload_n 0, 1) := by decide +kernel
theorem dX1_delete_1 : decode cX1_delete 1 = .ok (.iload_n 1, 1) := by decide +kernel
theorem dX1_delete_2 : decode cX1_delete 2 = .ok (.invokevirtual 65, 3) := by decide +kernel
theorem dX1_delete_5 : decode cX1_delete 5 = .ok (.istore_n 2, 1) := by decide +kernel
theorem dX1_delete_6 : decode cX1_delete 6 = .ok (.iload_n 2, 1) := by decide +kernel
theorem dX1_delete_7 : decode cX1_delete 7 = .ok (.istore_n 3, 1) := by decide +kernel
theorem dX1_delete_8 : decode cX1_delete 8 = .ok (.iconst 0, 1) := by decide +kernel
theorem dX1_delete_9 : decode cX1_delete 9 = .ok (.istore 4, 2) := by decide +kernel
theorem dX1_delete_11 : decode cX1_delete 11 = .ok (.iload 4, 2) := by decide +kernel
theorem dX1_delete_13 : decode cX1_delete 13 = .ok (.aload_n 0, 1) := by decide +kernel
theorem dX1_delete_14 : decode cX1_delete 14 = .ok (.getfield 58, 3) := by decide +kernel
theorem dX1_delete_17 : decode cX1_delete 17 = .ok (.if_icmp .ge 55, 3) := by decide +kernel
theorem dX1_delete_20 : decode cX1_delete 20 = .ok (.iload_n 3, 1) := by decide +kernel
theorem dX1_delete_21 : decode cX1_delete 21 = .ok (.ifCond .eq 51, 3) := by decide +kernel
theorem dX1_delete_24 : decode cX1_delete 24 = .ok (.aload_n 0, 1) := by decide +kernel
theorem dX1_delete_25 : decode cX1_delete 25 = .ok (.getfield 7, 3) := by decide +kernel
theorem dX1_delete_28 : decode cX1_delete 28 = .ok (.iload 4, 2) := by decide +kernel
theorem dX1_delete_30 : decode cX1_delete 30 = .ok (.baload, 1) := by decide +kernel
theorem dX1_delete_31 : decode cX1_delete 31 = .ok (.ifCond .eq 29, 3) := by decide +kernel
theorem dX1_delete_34 : decode cX1_delete 34 = .ok (.aload_n 0, 1) := by decide +kernel
theorem dX1_delete_35 : decode cX1_delete 35 = .ok (.getfield 13, 3) := by decide +kernel
theorem dX1_delete_38 : decode cX1_delete 38 = .ok (.iload 4, 2) := by decide +kernel
theorem dX1_delete_40 : decode cX1_delete 40 = .ok (.iaload, 1) := by decide +kernel
theorem dX1_delete_41 : decode cX1_delete 41 = .ok (.iload_n 1, 1) := by decide +kernel
theorem dX1_delete_42 : decode cX1_delete 42 = .ok (.if_icmp .eq 22, 3) := by decide +kernel
theorem dX1_delete_45 : decode cX1_delete 45 = .ok (.aload_n 0, 1) := by decide +kernel
theorem dX1_delete_46 : decode cX1_delete 46 = .ok (.getfield 20, 3) := by decide +kernel
theorem dX1_delete_49 : decode cX1_delete 49 = .ok (.bipush 16, 2) := by decide +kernel
theorem dX1_delete_51 : decode cX1_delete 51 = .ok (.iload 4, 2) := by decide +kernel
theorem dX1_delete_53 : decode cX1_delete 53 = .ok (.imul, 1) := by decide +kernel
theorem dX1_delete_54 : decode cX1_delete 54 = .ok (.iload_n 1, 1) := by decide +kernel
theorem dX1_delete_55 : decode cX1_delete 55 = .ok (.iadd, 1) := by decide +kernel
theorem dX1_delete_56 : decode cX1_delete 56 = .ok (.iaload, 1) := by decide +kernel
theorem dX1_delete_57 : decode cX1_delete 57 = .ok (.ifCond .ne 7, 3) := by decide +kernel
theorem dX1_delete_60 : decode cX1_delete 60 = .ok (.iconst 1, 1) := by decide +kernel
theorem dX1_delete_61 : decode cX1_delete 61 = .ok (.goto 4, 3) := by decide +kernel
theorem dX1_delete_64 : decode cX1_delete 64 = .ok (.iconst 0, 1) := by decide +kernel
theorem dX1_delete_65 : decode cX1_delete 65 = .ok (.istore_n 3, 1) := by decide +kernel
theorem dX1_delete_66 : decode cX1_delete 66 = .ok (.iinc 4 1, 3) := by decide +kernel
theorem dX1_delete_69 : decode cX1_delete 69 = .ok (.goto (-58), 3) := by decide +kernel
theorem dX1_delete_72 : decode cX1_delete 72 = .ok (.aload_n 0, 1) := by decide +kernel
theorem dX1_delete_73 : decode cX1_delete 73 = .ok (.iload_n 2, 1) := by decide +kernel
theorem dX1_delete_74 : decode cX1_delete 74 = .ok (.ifCond .ne 7, 3) := by decide +kernel
theorem dX1_delete_77 : decode cX1_delete 77 = .ok (.iconst 1, 1) := by decide +kernel
theorem dX1_delete_78 : decode cX1_delete 78 = .ok (.goto 12, 3) := by decide +kernel
theorem dX1_delete_81 : decode cX1_delete 81 = .ok (.iload_n 3, 1) := by decide +kernel
theorem dX1_delete_82 : decode cX1_delete 82 = .ok (.ifCond .eq 7, 3) := by decide +kernel
theorem dX1_delete_85 : decode cX1_delete 85 = .ok (.iconst 0, 1) := by decide +kernel
theorem dX1_delete_86 : decode cX1_delete 86 = .ok (.goto 4, 3) := by decide +kernel
theorem dX1_delete_89 : decode cX1_delete 89 = .ok (.iconst 2, 1) := by decide +kernel
theorem dX1_delete_90 : decode cX1_delete 90 = .ok (.invokevirtual 73, 3) := by decide +kernel
theorem dX1_delete_93 : decode cX1_delete 93 = .ok (.ifCond .ne 10, 3) := by decide +kernel
theorem dX1_delete_96 : decode cX1_delete 96 = .ok (.aload_n 0, 1) := by decide +kernel
theorem dX1_delete_97 : decode cX1_delete 97 = .ok (.getfield 7, 3) := by decide +kernel
theorem dX1_delete_100 : decode cX1_delete 100 = .ok (.iload_n 1, 1) := by decide +kernel
theorem dX1_delete_101 : decode cX1_delete 101 = .ok (.iconst 0, 1) := by decide +kernel
theorem dX1_delete_102 : decode cX1_delete 102 = .ok (.bastore, 1) := by decide +kernel
theorem dX1_delete_103 : decode cX1_delete 103 = .ok (.return_, 1) := by decide +kernel
set_option maxRecDepth 20000 in
theorem ggX1_addPart_X1_isGood : GoodIn wsX1_addPart wsX1_isGood := goodIn_r _ [6, 7, 8, 9, 10, 5, 11, 17, 18, 19, 20, 21, 22, 23, 24, 25, 26, 27, 28, 29, 30, 31, 32, 33, 34] (by decide +kernel) (by decide +kernel)
set_option maxRecDepth 20000 in
theorem gX1_addPart_X1_isGood : GoodIn wsX1_addPart (wsV RX1 65 RX1 yX1_isGood wsX1_isGood) := goodIn_app (goodIn_of _ (by decide +kernel)) ggX1_addPart_X1_isGood
set_option maxRecDepth 20000 in
theorem ggX1_addPart_X1_isIn : GoodIn wsX1_addPart wsX1_isIn := goodIn_r _ [11] (by decide +kernel) (by decide +kernel)
set_option maxRecDepth 20000 in
theorem gX1_addPart_X1_isIn : GoodIn wsX1_addPart (va_wsS RX1 61 yX1_isIn wsX1_isIn) := goodIn_app (goodIn_of _ (by decide +kernel)) ggX1_addPart_X1_isIn
set_option maxRecDepth 20000 in
theorem ggX1_addPart_X1_fails : GoodIn wsX1_addPart wsX1_fails := goodIn_r _ [15, 16, 17, 18, 19, 20, 21, 22, 23, 24, 25, 26, 27, 28, 29, 30, 31, 32, 33, 34] (by decide +kernel) (by decide +kernel)
set_option maxRecDepth 20000 in
theorem gX1_addPart_X1_fails : GoodIn wsX1_addPart (wsV RX1 73 RX1 yX1_fails wsX1_fails) := goodIn_app (goodIn_of _ (by decide +kernel)) ggX1_addPart_X1_fails
theorem dX1_addPart_0 : decode cX1_addPart 0 = .ok (.aload_n 0, 1) := by decide +kernel
theorem dX1_addPart_1 : decode cX1_addPart 1 = .ok (.iload_n 1, 1) := by decide +kernel
theorem dX1_addPart_2 : decode cX1_addPart 2 = .ok (.invokevirtual 65, 3) := by decide +kernel
theorem dX1_addPart_5 : decode cX1_addPart 5 = .ok (.ifCond .eq 15, 3) := by decide +kernel
theorem dX1_addPart_8 : decode cX1_addPart 8 = .ok (.aload_n 0, 1) := by decide +kernel
theorem dX1_addPart_9 : decode cX1_addPart 9 = .ok (.iload_n 2, 1) := by decide +kernel
theorem dX1_addPart_10 : decode cX1_addPart 10 = .ok (.invokevirtual 65, 3) := by decide +kernel
theorem dX1_addPart_13 : decode cX1_addPart 13 = .ok (.ifCond .eq 7, 3) := by decide +kernel
theorem dX1_addPart_16 : decode cX1_addPart 16 = .ok (.iconst 1, 1) := by decide +kernel
theorem dX1_addPart_17 : decode cX1_addPart 17 = .ok (.goto 4, 3) := by decide +kernel
theorem dX1_addPart_20 : decode cX1_addPart 20 = .ok (.iconst 0, 1) := by decide +kernel
theorem dX1_addPart_21 : decode cX1_addPart 21 = .ok (.istore 4, 2) := by decide +kernel
theorem dX1_addPart_23 : decode cX1_addPart 23 = .ok (.iload_n 2, 1) := by decide +kernel
theorem dX1_addPart_24 : decode cX1_addPart 24 = .ok (.iload_n 1, 1) := by decide +kernel
theorem dX1_addPart_25 : decode cX1_addPart 25 = .ok (.if_icmp .ge 17, 3) := by decide +kernel
theorem dX1_addPart_28 : decode cX1_addPart 28 = .ok (.iload_n 3, 1) := by decide +kernel
theorem dX1_addPart_29 : decode cX1_addPart 29 = .ok (.iconst 1, 1) := by decide +kernel
theorem dX1_addPart_30 : decode cX1_addPart 30 = .ok (.bipush 20, 2) := by decide +kernel
theorem dX1_addPart_32 : decode cX1_addPart 32 = .ok (.invokestatic 61, 3) := by decide +kernel
theorem dX1_addPart_35 : decode cX1_addPart 35 = .ok (.ifCond .eq 7, 3) := by decide +kernel
theorem dX1_addPart_38 : decode cX1_addPart 38 = .ok (.iconst 1, 1) := by decide +kernel
theorem dX1_addPart_39 : decode cX1_addPart 39 = .ok (.goto 4, 3) := by decide +kernel
theorem dX1_addPart_42 : decode cX1_addPart 42 = .ok (.iconst 0, 1) := by decide +kernel
theorem dX1_addPart_43 : decode cX1_addPart 43 = .ok (.istore 5, 2) := by decide +kernel
theorem dX1_addPart_45 : decode cX1_addPart 45 = .ok (.aload_n 0, 1) := by decide +kernel
theorem dX1_addPart_46 : decode cX1_addPart 46 = .ok (.iload 4, 2) := by decide +kernel
theorem dX1_addPart_48 : decode cX1_addPart 48 = .ok (.ifCond .ne 7, 3) := by decide +kernel
theorem dX1_addPart_51 : decode cX1_addPart 51 = .ok (.iconst 1, 1) := by decide +kernel
theorem dX1_addPart_52 : decode cX1_addPart 52 = .ok (.goto 35, 3) := by decide +kernel
theorem dX1_addPart_55 : decode cX1_addPart 55 = .ok (.iload 5, 2) := by decide +kernel
theorem dX1_addPart_57 : decode cX1_addPart 57 = .ok (.ifCond .ne 7, 3) := by decide +kernel
theorem dX1_addPart_60 : decode cX1_addPart 60 = .ok (.iconst 2, 1) := by decide +kernel
theorem dX1_addPart_61 : decode cX1_addPart 61 = .ok (.goto 26, 3) := by decide +kernel
theorem dX1_addPart_64 : decode cX1_addPart 64 = .ok (.aload_n 0, 1) := by decide +kernel
theorem dX1_addPart_65 : decode cX1_addPart 65 = .ok (.getfield 20, 3) := by decide +kernel
theorem dX1_addPart_68 : decode cX1_addPart 68 = .ok (.bipush 16, 2) := by decide +kernel
theorem dX1_addPart_70 : decode cX1_addPart 70 = .ok (.iload_n 1, 1) := by decide +kernel
theorem dX1_addPart_71 : decode cX1_addPart 71 = .ok (.imul, 1) := by decide +kernel
theorem dX1_addPart_72 : decode cX1_addPart 72 = .ok (.iload_n 2, 1) := by decide +kernel
theorem dX1_addPart_73 : decode cX1_addPart 73 = .ok (.iadd, 1) := by decide +kernel
theorem dX1_addPart_74 : decode cX1_addPart 74 = .ok (.iaload, 1) := by decide +kernel
theorem dX1_addPart_75 : decode cX1_addPart 75 = .ok (.iload_n 3, 1) := by decide +kernel
theorem dX1_addPart_76 : decode cX1_addPart 76 = .ok (.iadd, 1) := by decide +kernel
theorem dX1_addPart_77 : decode cX1_addPart 77 = .ok (.bipush 20, 2) := by decide +kernel
theorem dX1_addPart_79 : decode cX1_addPart 79 = .ok (.if_icmp .le 7, 3) := by decide +kernel
theorem dX1_addPart_82 : decode cX1_addPart 82 = .ok (.iconst 3, 1) := by decide +kernel
theorem dX1_addPart_83 : decode cX1_addPart 83 = .ok (.goto 4, 3) := by decide +kernel
theorem dX1_addPart_86 : decode cX1_addPart 86 = .ok (.iconst 0, 1) := by decide +kernel
theorem dX1_addPart_87 : decode cX1_addPart 87 = .ok (.invokevirtual 73, 3) := by decide +kernel
theorem dX1_addPart_90 : decode cX1_addPart 90 = .ok (.ifCond .eq 5, 3) := by decide +kernel
theorem dX1_addPart_93 : decode cX1_addPart 93 = .ok (.iconst 0, 1) := by decide +kernel
theorem dX1_addPart_94 : decode cX1_addPart 94 = .ok (.ireturn, 1) := by decide +kernel
theorem dX1_addPart_95 : decode cX1_addPart 95 = .ok (.aload_n 0, 1) := by decide +kernel
theorem dX1_addPart_96 : decode cX1_addPart 96 = .ok (.getfield 20, 3) := by decide +kernel
theorem dX1_addPart_99 : decode cX1_addPart 99 = .ok (.bipush 16, 2) := by decide +kernel
theorem dX1_addPart_101 : decode cX1_addPart 101 = .ok (.iload_n 1, 1) := by decide +kernel
theorem dX1_addPart_102 : decode cX1_addPart 102 = .ok (.imul, 1) := by decide +kernel
theorem dX1_addPart_103 : decode cX1_addPart 103 = .ok (.iload_n 2, 1) := by decide +kernel
theorem dX1_addPart_104 : decode cX1_addPart 104 = .ok (.iadd, 1) := by decide +kernel
theorem dX1_addPart_105 : decode cX1_addPart 105 = .ok (.dup2, 1) := by decide +kernel
theorem dX1_addPart_106 : decode cX1_addPart 106 = .ok (.iaload, 1) := by decide +kernel
theorem dX1_addPart_107 : decode cX1_addPart 107 = .ok (.iload_n 3, 1) := by decide +kernel
theorem dX1_addPart_108 : decode cX1_addPart 108 = .ok (.iadd, 1) := by decide +kernel
theorem dX1_addPart_109 : decode cX1_addPart 109 = .ok (.iastore, 1) := by decide +kernel
theorem dX1_addPart_110 : decode cX1_addPart 110 = .ok (.aload_n 0, 1) := by decide +kernel
theorem dX1_addPart_111 : decode cX1_addPart 111 = .ok (.getfield 20, 3) := by decide +kernel
theorem dX1_addPart_114 : decode cX1_addPart 114 = .ok (.bipush 16, 2) := by decide +kernel
theorem dX1_addPart_116 : decode cX1_addPart 116 = .ok (.iload_n 1, 1) := by decide +kernel
theorem dX1_addPart_117 : decode cX1_addPart 117 = .ok (.imul, 1) := by decide +kernel
theorem dX1_addPart_118 : decode cX1_addPart 118 = .ok (.iload_n 2, 1) := by decide +kernel
theorem dX1_addPart_119 : decode cX1_addPart 119 = .ok (.iadd, 1) := by decide +kernel
theorem dX1_addPart_120 : decode cX1_addPart 120 = .ok (.iaload, 1) := by decide +kernel
theorem dX1_addPart_121 : decode cX1_addPart 121 = .ok (.ireturn, 1) := by decide +kernel
set_option maxRecDepth 20000 in
theorem ggX1_setDiscount_X1_isGood : GoodIn wsX1_setDiscount wsX1_isGood := goodIn_r _ [6, 7, 8, 9, 10, 5, 11, 17, 18, 19, 20, 21, 22, 23, 24, 25, 26, 27, 28, 29, 30, 31, 32, 33, 34] (by decide +kernel) (by decide +kernel)
set_option maxRecDepth 20000 in
theorem gX1_setDiscount_X1_isGood : GoodIn wsX1_setDiscount (wsV RX1 65 RX1 yX1_isGood wsX1_isGood) := goodIn_app (goodIn_of _ (by decide +kernel)) ggX1_setDiscount_X1_isGood
set_option maxRecDepth 20000 in
theorem ggX1_setDiscount_X1_isIn : GoodIn wsX1_setDiscount wsX1_isIn := goodIn_r _ [11] (by decide +kernel) (by decide +kernel)
set_option maxRecDepth 20000 in
theorem gX1_setDiscount_X1_isIn : GoodIn wsX1_setDiscount (va_wsS RX1 61 yX1_isIn wsX1_isIn) := goodIn_app (goodIn_of _ (by decide +kernel)) ggX1_setDiscount_X1_isIn
set_option maxRecDepth 20000 in
theorem ggX1_setDiscount_X1_fails : GoodIn wsX1_setDiscount wsX1_fails := goodIn_r _ [15, 16, 17, 18, 19, 20, 21, 22, 23, 24, 25, 26, 27, 28, 29, 30, 31, 32, 33, 34] (by decide +kernel) (by decide +kernel)
set_option maxRecDepth 20000 in
theorem gX1_setDiscount_X1_fails : GoodIn wsX1_setDiscount (wsV RX1 73 RX1 yX1_fails wsX1_fails) := goodIn_app (goodIn_of _ (by decide +kernel)) ggX1_setDiscount_X1_fails
theorem dX1_setDiscount_0 : decode cX1_setDiscount 0 = .ok (.aload_n 0, 1) := by decide +kernel
theorem dX1_setDiscount_1 : decode cX1_setDiscount 1 = .ok (.aload_n 0, 1) := by decide +kernel
theorem dX1_setDiscount_2 : decode cX1_setDiscount 2 = .ok (.iload_n 1, 1) := by decide +kernel
theorem dX1_setDiscount_3 : decode cX1_setDiscount 3 = .ok (.invokevirtual 65, 3) := by decide +kernel
theorem dX1_setDiscount_6 : decode cX1_setDiscount 6 = .ok (.ifCond .ne 7, 3) := by decide +kernel
theorem dX1_setDiscount_9 : decode cX1_setDiscount 9 = .ok (.iconst 1, 1) := by decide +kernel
theorem dX1_setDiscount_10 : decode cX1_setDiscount 10 = .ok (.goto 18, 3) := by decide +kernel
theorem dX1_setDiscount_13 : decode cX1_setDiscount 13 = .ok (.iload_n 2, 1) := by decide +kernel
theorem dX1_setDiscount_14 : decode cX1_setDiscount 14 = .ok (.iconst 0, 1) := by decide +kernel
theorem dX1_setDiscount_15 : decode cX1_setDiscount 15 = .ok (.bipush 100, 2) := by decide +kernel
theorem dX1_setDiscount_17 : decode cX1_setDiscount 17 = .ok (.invokestatic 61, 3) := by decide +kernel
theorem dX1_setDiscount_20 : decode cX1_setDiscount 20 = .ok (.ifCond .eq 7, 3) := by decide +kernel
theorem dX1_setDiscount_23 : decode cX1_setDiscount 23 = .ok (.iconst 0, 1) := by decide +kernel
theorem dX1_setDiscount_24 : decode cX1_setDiscount 24 = .ok (.goto 4, 3) := by decide +kernel
theorem dX1_setDiscount_27 : decode cX1_setDiscount 27 = .ok (.iconst 2, 1) := by decide +kernel
theorem dX1_setDiscount_28 : decode cX1_setDiscount 28 = .ok (.invokevirtual 73, 3) := by decide +kernel
theorem dX1_setDiscount_31 : decode cX1_setDiscount 31 = .ok (.ifCond .eq 5, 3) := by decide +kernel
theorem dX1_setDiscount_34 : decode cX1_setDiscount 34 = .ok (.iconst 0, 1) := by decide +kernel
theorem dX1_setDiscount_35 : decode cX1_setDiscount 35 = .ok (.ireturn, 1) := by decide +kernel
theorem dX1_setDiscount_36 : decode cX1_setDiscount 36 = .ok (.aload_n 0, 1) := by decide +kernel
theorem dX1_setDiscount_37 : decode cX1_setDiscount 37 = .ok (.getfield 17, 3) := by decide +kernel
theorem dX1_setDiscount_40 : decode cX1_setDiscount 40 = .ok (.iload_n 1, 1) := by decide +kernel
theorem dX1_setDiscount_41 : decode cX1_setDiscount 41 = .ok (.iaload, 1) := by decide +kernel
theorem dX1_setDiscount_42 : decode cX1_setDiscount 42 = .ok (.istore_n 3, 1) := by decide +kernel
theorem dX1_setDiscount_43 : decode cX1_setDiscount 43 = .ok (.aload_n 0, 1) := by decide +kernel
theorem dX1_setDiscount_44 : decode cX1_setDiscount 44 = .ok (.getfield 17, 3) := by decide +kernel
theorem dX1_setDiscount_47 : decode cX1_setDiscount 47 = .ok (.iload_n 1, 1) := by decide +kernel
theorem dX1_setDiscount_48 : decode cX1_setDiscount 48 = .ok (.iload_n 2, 1) := by decide +kernel
theorem dX1_setDiscount_49 : decode cX1_setDiscount 49 = .ok (.iastore, 1) := by decide +kernel
theorem dX1_setDiscount_50 : decode cX1_setDiscount 50 = .ok (.iload_n 3, 1) := by decide +kernel
theorem dX1_setDiscount_51 : decode cX1_setDiscount 51 = .ok (.ireturn, 1) := by decide +kernel
set_option maxRecDepth 20000 in
theorem ggX1_draft_X1_isGood : GoodIn wsX1_draft wsX1_isGood := goodIn_r _ [13, 14, 15, 16, 17, 12, 18, 24, 25, 26, 27, 28, 29, 30, 31, 32, 33, 34, 35, 36, 37, 38, 39, 40, 41] (by decide +kernel) (by decide +kernel)
set_option maxRecDepth 20000 in
theorem gX1_draft_X1_isGood : GoodIn wsX1_draft (wsV RX1 65 RX1 yX1_isGood wsX1_isGood) := goodIn_app (goodIn_of _ (by decide +kernel)) ggX1_draft_X1_isGood
set_option maxRecDepth 20000 in
theorem ggX1_draft_X1_isIn : GoodIn wsX1_draft wsX1_isIn := goodIn_r _ [18] (by decide +kernel) (by decide +kernel)
set_option maxRecDepth 20000 in
theorem gX1_draft_X1_isIn : GoodIn wsX1_draft (va_wsS RX1 61 yX1_isIn wsX1_isIn) := goodIn_app (goodIn_of _ (by decide +kernel)) ggX1_draft_X1_isIn
set_option maxRecDepth 20000 in
theorem ggX1_draft_X1_fails : GoodIn wsX1_draft wsX1_fails := goodIn_r _ [22, 23, 24, 25, 26, 27, 28, 29, 30, 31, 32, 33, 34, 35, 36, 37, 38, 39, 40, 41] (by decide +kernel) (by decide +kernel)
set_option maxRecDepth 20000 in
theorem gX1_draft_X1_fails : GoodIn wsX1_draft (wsV RX1 73 RX1 yX1_fails wsX1_fails) := goodIn_app (goodIn_of _ (by decide +kernel)) ggX1_draft_X1_fails
theorem dX1_draft_0 : decode cX1_draft 0 = .ok (.aload_n 0, 1) := by decide +kernel
theorem dX1_draft_1 : decode cX1_draft 1 = .ok (.iload_n 1, 1) := by decide +kernel
theorem dX1_draft_2 : decode cX1_draft 2 = .ok (.invokevirtual 65, 3) := by decide +kernel
theorem dX1_draft_5 : decode cX1_draft 5 = .ok (.ifCond .eq 35, 3) := by decide +kernel
theorem dX1_draft_8 : decode cX1_draft 8 = .ok (.iload_n 2, 1) := by decide +kernel
theorem dX1_draft_9 : decode cX1_draft 9 = .ok (.iconst 0, 1) := by decide +kernel
theorem dX1_draft_10 : decode cX1_draft 10 = .ok (.iconst 5, 1) := by decide +kernel
theorem dX1_draft_11 : decode cX1_draft 11 = .ok (.invokestatic 61, 3) := by decide +kernel
theorem dX1_draft_14 : decode cX1_draft 14 = .ok (.ifCond .eq 26, 3) := by decide +kernel
theorem dX1_draft_17 : decode cX1_draft 17 = .ok (.iload_n 3, 1) := by decide +kernel
theorem dX1_draft_18 : decode cX1_draft 18 = .ok (.iconst (-1), 1) := by decide +kernel
theorem dX1_draft_19 : decode cX1_draft 19 = .ok (.iconst 2, 1) := by decide +kernel
theorem dX1_draft_20 : decode cX1_draft 20 = .ok (.invokestatic 61, 3) := by decide +kernel
theorem dX1_draft_23 : decode cX1_draft 23 = .ok (.ifCond .eq 17, 3) := by decide +kernel
theorem dX1_draft_26 : decode cX1_draft 26 = .ok (.iload 4, 2) := by decide +kernel
theorem dX1_draft_28 : decode cX1_draft 28 = .ok (.iconst (-1), 1) := by decide +kernel
theorem dX1_draft_29 : decode cX1_draft 29 = .ok (.iconst 2, 1) := by decide +kernel
theorem dX1_draft_30 : decode cX1_draft 30 = .ok (.invokestatic 61, 3) := by decide +kernel
theorem dX1_draft_33 : decode cX1_draft 33 = .ok (.ifCond .eq 7, 3) := by decide +kernel
theorem dX1_draft_36 : decode cX1_draft 36 = .ok (.iconst 1, 1) := by decide +kernel
theorem dX1_draft_37 : decode cX1_draft 37 = .ok (.goto 4, 3) := by decide +kernel
theorem dX1_draft_40 : decode cX1_draft 40 = .ok (.iconst 0, 1) := by decide +kernel
theorem dX1_draft_41 : decode cX1_draft 41 = .ok (.istore 7, 2) := by decide +kernel
theorem dX1_draft_43 : decode cX1_draft 43 = .ok (.iload 5, 2) := by decide +kernel
theorem dX1_draft_45 : decode cX1_draft 45 = .ok (.iconst (-1), 1) := by decide +kernel
theorem dX1_draft_46 : decode cX1_draft 46 = .ok (.ldc 80, 2) := by decide +kernel
theorem dX1_draft_48 : decode cX1_draft 48 = .ok (.invokestatic 61, 3) := by decide +kernel
theorem dX1_draft_51 : decode cX1_draft 51 = .ok (.ifCond .eq 19, 3) := by decide +kernel
theorem dX1_draft_54 : decode cX1_draft 54 = .ok (.iload 6, 2) := by decide +kernel
theorem dX1_draft_56 : decode cX1_draft 56 = .ok (.iconst 0, 1) := by decide +kernel
theorem dX1_draft_57 : decode cX1_draft 57 = .ok (.sipush 1000, 3) := by decide +kernel
theorem dX1_draft_60 : decode cX1_draft 60 = .ok (.invokestatic 61, 3) := by decide +kernel
theorem dX1_draft_63 : decode cX1_draft 63 = .ok (.ifCond .eq 7, 3) := by decide +kernel
theorem dX1_draft_66 : decode cX1_draft 66 = .ok (.iconst 1, 1) := by decide +kernel
theorem dX1_draft_67 : decode cX1_draft 67 = .ok (.goto 4, 3) := by decide +kernel
theorem dX1_draft_70 : decode cX1_draft 70 = .ok (.iconst 0, 1) := by decide +kernel
theorem dX1_draft_71 : decode cX1_draft 71 = .ok (.istore 8, 2) := by decide +kernel
theorem dX1_draft_73 : decode cX1_draft 73 = .ok (.aload_n 0, 1) := by decide +kernel
theorem dX1_draft_74 : decode cX1_draft 74 = .ok (.iload 7, 2) := by decide +kernel
theorem dX1_draft_76 : decode cX1_draft 76 = .ok (.ifCond .ne 7, 3) := by decide +kernel
theorem dX1_draft_79 : decode cX1_draft 79 = .ok (.iconst 1, 1) := by decide +kernel
theorem dX1_draft_80 : decode cX1_draft 80 = .ok (.goto 27, 3) := by decide +kernel
theorem dX1_draft_83 : decode cX1_draft 83 = .ok (.iload 8, 2) := by decide +kernel
theorem dX1_draft_85 : decode cX1_draft 85 = .ok (.ifCond .ne 7, 3) := by decide +kernel
theorem dX1_draft_88 : decode cX1_draft 88 = .ok (.iconst 2, 1) := by decide +kernel
theorem dX1_draft_89 : decode cX1_draft 89 = .ok (.goto 18, 3) := by decide +kernel
theorem dX1_draft_92 : decode cX1_draft 92 = .ok (.aload_n 0, 1) := by decide +kernel
theorem dX1_draft_93 : decode cX1_draft 93 = .ok (.getfield 81, 3) := by decide +kernel
theorem dX1_draft_96 : decode cX1_draft 96 = .ok (.sipush 200, 3) := by decide +kernel
theorem dX1_draft_99 : decode cX1_draft 99 = .ok (.if_icmp .ne 7, 3) := by decide +kernel
theorem dX1_draft_102 : decode cX1_draft 102 = .ok (.iconst 3, 1) := by decide +kernel
theorem dX1_draft_103 : decode cX1_draft 103 = .ok (.goto 4, 3) := by decide +kernel
theorem dX1_draft_106 : decode cX1_draft 106 = .ok (.iconst 0, 1) := by decide +kernel
theorem dX1_draft_107 : decode cX1_draft 107 = .ok (.invokevirtual 73, 3) := by decide +kernel
theorem dX1_draft_110 : decode cX1_draft 110 = .ok (.ifCond .eq 5, 3) := by decide +kernel
theorem dX1_draft_113 : decode cX1_draft 113 = .ok (.iconst 0, 1) := by decide +kernel
theorem dX1_draft_114 : decode cX1_draft 114 = .ok (.ireturn, 1) := by decide +kernel
theorem dX1_draft_115 : decode cX1_draft 115 = .ok (.aload_n 0, 1) := by decide +kernel
theorem dX1_draft_116 : decode cX1_draft 116 = .ok (.getfield 23, 3) := by decide +kernel
theorem dX1_draft_119 : decode cX1_draft 119 = .ok (.aload_n 0, 1) := by decide +kernel
theorem dX1_draft_120 : decode cX1_draft 120 = .ok (.getfield 81, 3) := by decide +kernel
theorem dX1_draft_123 : decode cX1_draft 123 = .ok (.iload_n 1, 1) := by decide +kernel
theorem dX1_draft_124 : decode cX1_draft 124 = .ok (.iastore, 1) := by decide +kernel
theorem dX1_draft_125 : decode cX1_draft 125 = .ok (.aload_n 0, 1) := by decide +kernel
theorem dX1_draft_126 : decode cX1_draft 126 = .ok (.getfield 26, 3) := by decide +kernel
theorem dX1_draft_129 : decode cX1_draft 129 = .ok (.aload_n 0, 1) := by decide +kernel
theorem dX1_draft_130 : decode cX1_draft 130 = .ok (.getfield 81, 3) := by decide +kernel
theorem dX1_draft_133 : decode cX1_draft 133 = .ok (.iload_n 2, 1) := by decide +kernel
theorem dX1_draft_134 : decode cX1_draft 134 = .ok (.iastore, 1) := by decide +kernel
theorem dX1_draft_135 : decode cX1_draft 135 = .ok (.aload_n 0, 1) := by decide +kernel
theorem dX1_draft_136 : decode cX1_draft 136 = .ok (.getfield 29, 3) := by decide +kernel
theorem dX1_draft_139 : decode cX1_draft 139 = .ok (.aload_n 0, 1) := by decide +kernel
theorem dX1_draft_140 : decode cX1_draft 140 = .ok (.getfield 81, 3) := by decide +kernel
theorem dX1_draft_143 : decode cX1_draft 143 = .ok (.iload_n 3, 1) := by decide +kernel
theorem dX1_draft_144 : decode cX1_draft 144 = .ok (.iastore, 1) := by decide +kernel
theorem dX1_draft_145 : decode cX1_draft 145 = .ok (.aload_n 0, 1) := by decide +kernel
theorem dX1_draft_146 : decode cX1_draft 146 = .ok (.getfield 32, 3) := by decide +kernel
theorem dX1_draft_149 : decode cX1_draft 149 = .ok (.aload_n 0, 1) := by decide +kernel
theorem dX1_draft_150 : decode cX1_draft 150 = .ok (.getfield 81, 3) := by decide +kernel
theorem dX1_draft_153 : decode cX1_draft 153 = .ok (.iload 4, 2) := by decide +kernel
theorem dX1_draft_155 : decode cX1_draft 155 = .ok (.iastore, 1) := by decide +kernel
theorem dX1_draft_156 : decode cX1_draft 156 = .ok (.aload_n 0, 1) := by decide +kernel
theorem dX1_draft_157 : decode cX1_draft 157 = .ok (.getfield 35, 3) := by decide +kernel
theorem dX1_draft_160 : decode cX1_draft 160 = .ok (.aload_n 0, 1) := by decide +kernel
theorem dX1_draft_161 : decode cX1_draft 161 = .ok (.getfield 81, 3) := by decide +kernel
theorem dX1_draft_164 : decode cX1_draft 164 = .ok (.iload 5, 2) := by decide +kernel
theorem dX1_draft_166 : decode cX1_draft 166 = .ok (.iastore, 1) := by decide +kernel
theorem dX1_draft_167 : decode cX1_draft 167 = .ok (.aload_n 0, 1) := by decide +kernel
theorem dX1_draft_168 : decode cX1_draft 168 = .ok (.getfield 38, 3) := by decide +kernel
theorem dX1_draft_171 : decode cX1_draft 171 = .ok (.aload_n 0, 1) := by decide +kernel
theorem dX1_draft_172 : decode cX1_draft 172 = .ok (.getfield 81, 3) := by decide +kernel
theorem dX1_draft_175 : decode cX1_draft 175 = .ok (.iload 6, 2) := by decide +kernel
theorem dX1_draft_177 : decode cX1_draft 177 = .ok (.iastore, 1) := by decide +kernel
theorem dX1_draft_178 : decode cX1_draft 178 = .ok (.aload_n 0, 1) := by decide +kernel
theorem dX1_draft_179 : decode cX1_draft 179 = .ok (.dup, 1) := by decide +kernel
theorem dX1_draft_180 : decode cX1_draft 180 = .ok (.getfield 81, 3) := by decide +kernel
theorem dX1_draft_183 : decode cX1_draft 183 = .ok (.iconst 1, 1) := by decide +kernel
theorem dX1_draft_184 : decode cX1_draft 184 = .ok (.iadd, 1) := by decide +kernel
theorem dX1_draft_185 : decode cX1_draft 185 = .ok (.putfield 81, 3) := by decide +kernel
theorem dX1_draft_188 : decode cX1_draft 188 = .ok (.aload_n 0, 1) := by decide +kernel
theorem dX1_draft_189 : decode cX1_draft 189 = .ok (.getfield 81, 3) := by decide +kernel
theorem dX1_draft_192 : decode cX1_draft 192 = .ok (.iconst 1, 1) := by decide +kernel
theorem dX1_draft_193 : decode cX1_draft 193 = .ok (.isub, 1) := by decide +kernel
theorem dX1_draft_194 : decode cX1_draft 194 = .ok (.ireturn, 1) := by decide +kernel
theorem dX1_holds_0 : decode cX1_holds 0 = .ok (.iconst (-1), 1) := by decide +kernel
theorem dX1_holds_1 : decode cX1_holds 1 = .ok (.istore 5, 2) := by decide +kernel
theorem dX1_holds_3 : decode cX1_holds 3 = .ok (.iconst 0, 1) := by decide +kernel
theorem dX1_holds_4 : decode cX1_holds 4 = .ok (.istore 6, 2) := by decide +kernel
theorem dX1_holds_6 : decode cX1_holds 6 = .ok (.iload 6, 2) := by decide +kernel
theorem dX1_holds_8 : decode cX1_holds 8 = .ok (.aload_n 0, 1) := by decide +kernel
theorem dX1_holds_9 : decode cX1_holds 9 = .ok (.getfield 81, 3) := by decide +kernel
theorem dX1_holds_12 : decode cX1_holds 12 = .ok (.if_icmp .ge 123, 3) := by decide +kernel
theorem dX1_holds_15 : decode cX1_holds 15 = .ok (.aload_n 0, 1) := by decide +kernel
theorem dX1_holds_16 : decode cX1_holds 16 = .ok (.getfield 23, 3) := by decide +kernel
theorem dX1_holds_19 : decode cX1_holds 19 = .ok (.iload 6, 2) := by decide +kernel
theorem dX1_holds_21 : decode cX1_holds 21 = .ok (.iaload, 1) := by decide +kernel
theorem dX1_holds_22 : decode cX1_holds 22 = .ok (.iload_n 1, 1) := by decide +kernel
theorem dX1_holds_23 : decode cX1_holds 23 = .ok (.if_icmp .ne 66, 3) := by decide +kernel
theorem dX1_holds_26 : decode cX1_holds 26 = .ok (.aload_n 0, 1) := by decide +kernel
theorem dX1_holds_27 : decode cX1_holds 27 = .ok (.getfield 26, 3) := by decide +kernel
theorem dX1_holds_30 : decode cX1_holds 30 = .ok (.iload 6, 2) := by decide +kernel
theorem dX1_holds_32 : decode cX1_holds 32 = .ok (.iaload, 1) := by decide +kernel
theorem dX1_holds_33 : decode cX1_holds 33 = .ok (.iload_n 2, 1) := by decide +kernel
theorem dX1_holds_34 : decode cX1_holds 34 = .ok (.if_icmp .ne 55, 3) := by decide +kernel
theorem dX1_holds_37 : decode cX1_holds 37 = .ok (.aload_n 0, 1) := by decide +kernel
theorem dX1_holds_38 : decode cX1_holds 38 = .ok (.getfield 29, 3) := by decide +kernel
theorem dX1_holds_41 : decode cX1_holds 41 = .ok (.iload 6, 2) := by decide +kernel
theorem dX1_holds_43 : decode cX1_holds 43 = .ok (.iaload, 1) := by decide +kernel
theorem dX1_holds_44 : decode cX1_holds 44 = .ok (.iload_n 3, 1) := by decide +kernel
theorem dX1_holds_45 : decode cX1_holds 45 = .ok (.if_icmp .ne 44, 3) := by decide +kernel
theorem dX1_holds_48 : decode cX1_holds 48 = .ok (.aload_n 0, 1) := by decide +kernel
theorem dX1_holds_49 : decode cX1_holds 49 = .ok (.getfield 32, 3) := by decide +kernel
theorem dX1_holds_52 : decode cX1_holds 52 = .ok (.iload 6, 2) := by decide +kernel
theorem dX1_holds_54 : decode cX1_holds 54 = .ok (.iaload, 1) := by decide +kernel
theorem dX1_holds_55 : decode cX1_holds 55 = .ok (.iload 4, 2) := by decide +kernel
theorem dX1_holds_57 : decode cX1_holds 57 = .ok (.if_icmp .ne 32, 3) := by decide +kernel
theorem dX1_holds_60 : decode cX1_holds 60 = .ok (.aload_n 0, 1) := by decide +kernel
theorem dX1_holds_61 : decode cX1_holds 61 = .ok (.getfield 41, 3) := by decide +kernel
theorem dX1_holds_64 : decode cX1_holds 64 = .ok (.iload 6, 2) := by decide +kernel
theorem dX1_holds_66 : decode cX1_holds 66 = .ok (.iaload, 1) := by decide +kernel
theorem dX1_holds_67 : decode cX1_holds 67 = .ok (.iconst 1, 1) := by decide +kernel
theorem dX1_holds_68 : decode cX1_holds 68 = .ok (.if_icmp .ne 21, 3) := by decide +kernel
theorem dX1_holds_71 : decode cX1_holds 71 = .ok (.aload_n 0, 1) := by decide +kernel
theorem dX1_holds_72 : decode cX1_holds 72 = .ok (.getfield 38, 3) := by decide +kernel
theorem dX1_holds_75 : decode cX1_holds 75 = .ok (.iload 6, 2) := by decide +kernel
theorem dX1_holds_77 : decode cX1_holds 77 = .ok (.iaload, 1) := by decide +kernel
theorem dX1_holds_78 : decode cX1_holds 78 = .ok (.aload_n 0, 1) := by decide +kernel
theorem dX1_holds_79 : decode cX1_holds 79 = .ok (.getfield 84, 3) := by decide +kernel
theorem dX1_holds_82 : decode cX1_holds 82 = .ok (.if_icmp .gt 7, 3) := by decide +kernel
theorem dX1_holds_85 : decode cX1_holds 85 = .ok (.iconst 1, 1) := by decide +kernel
theorem dX1_holds_86 : decode cX1_holds 86 = .ok (.goto 4, 3) := by decide +kernel
theorem dX1_holds_89 : decode cX1_holds 89 = .ok (.iconst 0, 1) := by decide +kernel
theorem dX1_holds_90 : decode cX1_holds 90 = .ok (.istore 7, 2) := by decide +kernel
theorem dX1_holds_92 : decode cX1_holds 92 = .ok (.iload 7, 2) := by decide +kernel
theorem dX1_holds_94 : decode cX1_holds 94 = .ok (.ifCond .eq 31, 3) := by decide +kernel
theorem dX1_holds_97 : decode cX1_holds 97 = .ok (.iload 5, 2) := by decide +kernel
theorem dX1_holds_99 : decode cX1_holds 99 = .ok (.iconst (-1), 1) := by decide +kernel
theorem dX1_holds_100 : decode cX1_holds 100 = .ok (.if_icmp .eq 20, 3) := by decide +kernel
theorem dX1_holds_103 : decode cX1_holds 103 = .ok (.aload_n 0, 1) := by decide +kernel
theorem dX1_holds_104 : decode cX1_holds 104 = .ok (.getfield 38, 3) := by decide +kernel
theorem dX1_holds_107 : decode cX1_holds 107 = .ok (.iload 6, 2) := by decide +kernel
theorem dX1_holds_109 : decode cX1_holds 109 = .ok (.iaload, 1) := by decide +kernel
theorem dX1_holds_110 : decode cX1_holds 110 = .ok (.aload_n 0, 1) := by decide +kernel
theorem dX1_holds_111 : decode cX1_holds 111 = .ok (.getfield 38, 3) := by decide +kernel
theorem dX1_holds_114 : decode cX1_holds 114 = .ok (.iload 5, 2) := by decide +kernel
theorem dX1_holds_116 : decode cX1_holds 116 = .ok (.iaload, 1) := by decide +kernel
theorem dX1_holds_117 : decode cX1_holds 117 = .ok (.if_icmp .lt 8, 3) := by decide +kernel
theorem dX1_holds_120 : decode cX1_holds 120 = .ok (.iload 6, 2) := by decide +kernel
theorem dX1_holds_122 : decode cX1_holds 122 = .ok (.goto 5, 3) := by decide +kernel
theorem dX1_holds_125 : decode cX1_holds 125 = .ok (.iload 5, 2) := by decide +kernel
theorem dX1_holds_127 : decode cX1_holds 127 = .ok (.istore 5, 2) := by decide +kernel
theorem dX1_holds_129 : decode cX1_holds 129 = .ok (.iinc 6 1, 3) := by decide +kernel
theorem dX1_holds_132 : decode cX1_holds 132 = .ok (.goto (-126), 3) := by decide +kernel
theorem dX1_holds_135 : decode cX1_holds 135 = .ok (.iload 5, 2) := by decide +kernel
theorem dX1_holds_137 : decode cX1_holds 137 = .ok (.ireturn, 1) := by decide +kernel
set_option maxRecDepth 20000 in
theorem ggX1_isHolding_X1_holds : GoodIn wsX1_isHolding wsX1_holds := goodIn_r _ [9, 10, 1, 2, 3, 4, 11, 12, 13, 14, 15, 16, 17, 18, 19, 20, 21, 22, 23, 24, 25, 26, 27, 28, 29, 30, 31] (by decide +kernel) (by decide +kernel)
set_option maxRecDepth 20000 in
theorem gX1_isHolding_X1_holds : GoodIn wsX1_isHolding (wsV RX1 87 RX1 yX1_holds wsX1_holds) := goodIn_app (goodIn_of _ (by decide +kernel)) ggX1_isHolding_X1_holds
theorem dX1_isHolding_0 : decode cX1_isHolding 0 = .ok (.aload_n 0, 1) := by decide +kernel
theorem dX1_isHolding_1 : decode cX1_isHolding 1 = .ok (.aload_n 0, 1) := by decide +kernel
theorem dX1_isHolding_2 : decode cX1_isHolding 2 = .ok (.getfield 23, 3) := by decide +kernel
theorem dX1_isHolding_5 : decode cX1_isHolding 5 = .ok (.iload_n 1, 1) := by decide +kernel
theorem dX1_isHolding_6 : decode cX1_isHolding 6 = .ok (.iaload, 1) := by decide +kernel
theorem dX1_isHolding_7 : decode cX1_isHolding 7 = .ok (.aload_n 0, 1) := by decide +kernel
theorem dX1_isHolding_8 : decode cX1_isHolding 8 = .ok (.getfield 26, 3) := by decide +kernel
theorem dX1_isHolding_11 : decode cX1_isHolding 11 = .ok (.iload_n 1, 1) := by decide +kernel
theorem dX1_isHolding_12 : decode cX1_isHolding 12 = .ok (.iaload, 1) := by decide +kernel
theorem dX1_isHolding_13 : decode cX1_isHolding 13 = .ok (.aload_n 0, 1) := by decide +kernel
theorem dX1_isHolding_14 : decode cX1_isHolding 14 = .ok (.getfield 29, 3) := by decide +kernel
theorem dX1_isHolding_17 : decode cX1_isHolding 17 = .ok (.iload_n 1, 1) := by decide +kernel
theorem dX1_isHolding_18 : decode cX1_isHolding 18 = .ok (.iaload, 1) := by decide +kernel
theorem dX1_isHolding_19 : decode cX1_isHolding 19 = .ok (.aload_n 0, 1) := by decide +kernel
theorem dX1_isHolding_20 : decode cX1_isHolding 20 = .ok (.getfield 32, 3) := by decide +kernel
theorem dX1_isHolding_23 : decode cX1_isHolding 23 = .ok (.iload_n 1, 1) := by decide +kernel
theorem dX1_isHolding_24 : decode cX1_isHolding 24 = .ok (.iaload, 1) := by decide +kernel
theorem dX1_isHolding_25 : decode cX1_isHolding 25 = .ok (.invokevirtual 87, 3) := by decide +kernel
theorem dX1_isHolding_28 : decode cX1_isHolding 28 = .ok (.iload_n 1, 1) := by decide +kernel
theorem dX1_isHolding_29 : decode cX1_isHolding 29 = .ok (.if_icmp .ne 7, 3) := by decide +kernel
theorem dX1_isHolding_32 : decode cX1_isHolding 32 = .ok (.iconst 1, 1) := by decide +kernel
theorem dX1_isHolding_33 : decode cX1_isHolding 33 = .ok (.goto 4, 3) := by decide +kernel
theorem dX1_isHolding_36 : decode cX1_isHolding 36 = .ok (.iconst 0, 1) := by decide +kernel
theorem dX1_isHolding_37 : decode cX1_isHolding 37 = .ok (.ireturn, 1) := by decide +kernel
set_option maxRecDepth 20000 in
theorem ggX1_isDraft_X1_isIn : GoodIn wsX1_isDraft wsX1_isIn := goodIn_r _ [7] (by decide +kernel) (by decide +kernel)
set_option maxRecDepth 20000 in
theorem gX1_isDraft_X1_isIn : GoodIn wsX1_isDraft (va_wsS RX1 61 yX1_isIn wsX1_isIn) := goodIn_app (goodIn_of _ (by decide +kernel)) ggX1_isDraft_X1_isIn
theorem dX1_isDraft_0 : decode cX1_isDraft 0 = .ok (.iload_n 1, 1) := by decide +kernel
theorem dX1_isDraft_1 : decode cX1_isDraft 1 = .ok (.iconst 0, 1) := by decide +kernel
theorem dX1_isDraft_2 : decode cX1_isDraft 2 = .ok (.aload_n 0, 1) := by decide +kernel
theorem dX1_isDraft_3 : decode cX1_isDraft 3 = .ok (.getfield 81, 3) := by decide +kernel
theorem dX1_isDraft_6 : decode cX1_isDraft 6 = .ok (.iconst 1, 1) := by decide +kernel
theorem dX1_isDraft_7 : decode cX1_isDraft 7 = .ok (.isub, 1) := by decide +kernel
theorem dX1_isDraft_8 : decode cX1_isDraft 8 = .ok (.invokestatic 61, 3) := by decide +kernel
theorem dX1_isDraft_11 : decode cX1_isDraft 11 = .ok (.ifCond .eq 21, 3) := by decide +kernel
theorem dX1_isDraft_14 : decode cX1_isDraft 14 = .ok (.aload_n 0, 1) := by decide +kernel
theorem dX1_isDraft_15 : decode cX1_isDraft 15 = .ok (.getfield 7, 3) := by decide +kernel
theorem dX1_isDraft_18 : decode cX1_isDraft 18 = .ok (.aload_n 0, 1) := by decide +kernel
theorem dX1_isDraft_19 : decode cX1_isDraft 19 = .ok (.getfield 23, 3) := by decide +kernel
theorem dX1_isDraft_22 : decode cX1_isDraft 22 = .ok (.iload_n 1, 1) := by decide +kernel
theorem dX1_isDraft_23 : decode cX1_isDraft 23 = .ok (.iaload, 1) := by decide +kernel
theorem dX1_isDraft_24 : decode cX1_isDraft 24 = .ok (.baload, 1) := by decide +kernel
theorem dX1_isDraft_25 : decode cX1_isDraft 25 = .ok (.ifCond .eq 7, 3) := by decide +kernel
theorem dX1_isDraft_28 : decode cX1_isDraft 28 = .ok (.iconst 1, 1) := by decide +kernel
theorem dX1_isDraft_29 : decode cX1_isDraft 29 = .ok (.goto 4, 3) := by decide +kernel
theorem dX1_isDraft_32 : decode cX1_isDraft 32 = .ok (.iconst 0, 1) := by decide +kernel
theorem dX1_isDraft_33 : decode cX1_isDraft 33 = .ok (.ireturn, 1) := by decide +kernel
set_option maxRecDepth 20000 in
theorem ggX1_approve_X1_isDraft : GoodIn wsX1_approve wsX1_isDraft := goodIn_r _ [6, 7, 8, 9, 10, 11, 5, 12, 31, 32, 33, 34, 35, 36, 37, 38, 39, 40, 41, 42, 43, 44, 45, 46, 47, 48] (by decide +kernel) (by decide +kernel)
set_option maxRecDepth 20000 in
theorem gX1_approve_X1_isDraft : GoodIn wsX1_approve (wsV RX1 91 RX1 yX1_isDraft wsX1_isDraft) := goodIn_app (goodIn_of _ (by decide +kernel)) ggX1_approve_X1_isDraft
set_option maxRecDepth 20000 in
theorem ggX1_approve_X1_fails : GoodIn wsX1_approve wsX1_fails := goodIn_r _ [16, 17, 31, 32, 33, 34, 35, 36, 37, 38, 39, 40, 41, 42, 43, 44, 45, 46, 47, 48] (by decide +kernel) (by decide +kernel)
set_option maxRecDepth 20000 in
theorem gX1_approve_X1_fails : GoodIn wsX1_approve (wsV RX1 73 RX1 yX1_fails wsX1_fails) := goodIn_app (goodIn_of _ (by decide +kernel)) ggX1_approve_X1_fails
set_option maxRecDepth 20000 in
theorem ggX1_approve_X1_isHolding : GoodIn wsX1_approve wsX1_isHolding := goodIn_r _ [21, 9, 22, 23, 24, 25, 26, 27, 5, 28, 7, 1, 29, 30, 31, 32, 33, 34, 35, 36, 37, 38, 39, 40, 41, 42, 43, 44, 45, 46, 47, 48] (by decide +kernel) (by decide +kernel)
set_option maxRecDepth 20000 in
theorem gX1_approve_X1_isHolding : GoodIn wsX1_approve (wsV RX1 94 RX1 yX1_isHolding wsX1_isHolding) := goodIn_app (goodIn_of _ (by decide +kernel)) ggX1_approve_X1_isHolding
theorem dX1_approve_0 : decode cX1_approve 0 = .ok (.aload_n 0, 1) := by decide +kernel
theorem dX1_approve_1 : decode cX1_approve 1 = .ok (.iload_n 1, 1) := by decide +kernel
theorem dX1_approve_2 : decode cX1_approve 2 = .ok (.invokevirtual 91, 3) := by decide +kernel
theorem dX1_approve_5 : decode cX1_approve 5 = .ok (.istore_n 2, 1) := by decide +kernel
theorem dX1_approve_6 : decode cX1_approve 6 = .ok (.aload_n 0, 1) := by decide +kernel
theorem dX1_approve_7 : decode cX1_approve 7 = .ok (.iload_n 2, 1) := by decide +kernel
theorem dX1_approve_8 : decode cX1_approve 8 = .ok (.ifCond .ne 7, 3) := by decide +kernel
theorem dX1_approve_11 : decode cX1_approve 11 = .ok (.iconst 1, 1) := by decide +kernel
theorem dX1_approve_12 : decode cX1_approve 12 = .ok (.goto 17, 3) := by decide +kernel
theorem dX1_approve_15 : decode cX1_approve 15 = .ok (.aload_n 0, 1) := by decide +kernel
theorem dX1_approve_16 : decode cX1_approve 16 = .ok (.getfield 41, 3) := by decide +kernel
theorem dX1_approve_19 : decode cX1_approve 19 = .ok (.iload_n 1, 1) := by decide +kernel
theorem dX1_approve_20 : decode cX1_approve 20 = .ok (.iaload, 1) := by decide +kernel
theorem dX1_approve_21 : decode cX1_approve 21 = .ok (.ifCond .ne 7, 3) := by decide +kernel
theorem dX1_approve_24 : decode cX1_approve 24 = .ok (.iconst 0, 1) := by decide +kernel
theorem dX1_approve_25 : decode cX1_approve 25 = .ok (.goto 4, 3) := by decide +kernel
theorem dX1_approve_28 : decode cX1_approve 28 = .ok (.iconst 2, 1) := by decide +kernel
theorem dX1_approve_29 : decode cX1_approve 29 = .ok (.invokevirtual 73, 3) := by decide +kernel
theorem dX1_approve_32 : decode cX1_approve 32 = .ok (.ifCond .eq 5, 3) := by decide +kernel
theorem dX1_approve_35 : decode cX1_approve 35 = .ok (.iconst 0, 1) := by decide +kernel
theorem dX1_approve_36 : decode cX1_approve 36 = .ok (.ireturn, 1) := by decide +kernel
theorem dX1_approve_37 : decode cX1_approve 37 = .ok (.aload_n 0, 1) := by decide +kernel
theorem dX1_approve_38 : decode cX1_approve 38 = .ok (.getfield 41, 3) := by decide +kernel
theorem dX1_approve_41 : decode cX1_approve 41 = .ok (.iload_n 1, 1) := by decide +kernel
theorem dX1_approve_42 : decode cX1_approve 42 = .ok (.iconst 1, 1) := by decide +kernel
theorem dX1_approve_43 : decode cX1_approve 43 = .ok (.iastore, 1) := by decide +kernel
theorem dX1_approve_44 : decode cX1_approve 44 = .ok (.aload_n 0, 1) := by decide +kernel
theorem dX1_approve_45 : decode cX1_approve 45 = .ok (.iload_n 1, 1) := by decide +kernel
theorem dX1_approve_46 : decode cX1_approve 46 = .ok (.invokevirtual 94, 3) := by decide +kernel
theorem dX1_approve_49 : decode cX1_approve 49 = .ok (.ireturn, 1) := by decide +kernel
set_option maxRecDepth 20000 in
theorem ggX1_reject_X1_isDraft : GoodIn wsX1_reject wsX1_isDraft := goodIn_r _ [6, 7, 8, 9, 10, 11, 5, 12, 31, 32, 33, 34, 35, 36, 37, 38, 39, 40, 41, 42, 43, 44, 45, 46, 47, 48] (by decide +kernel) (by decide +kernel)
set_option maxRecDepth 20000 in
theorem gX1_reject_X1_isDraft : GoodIn wsX1_reject (wsV RX1 91 RX1 yX1_isDraft wsX1_isDraft) := goodIn_app (goodIn_of _ (by decide +kernel)) ggX1_reject_X1_isDraft
set_option maxRecDepth 20000 in
theorem ggX1_reject_X1_fails : GoodIn wsX1_reject wsX1_fails := goodIn_r _ [16, 17, 31, 32, 33, 34, 35, 36, 37, 38, 39, 40, 41, 42, 43, 44, 45, 46, 47, 48] (by decide +kernel) (by decide +kernel)
set_option maxRecDepth 20000 in
theorem gX1_reject_X1_fails : GoodIn wsX1_reject (wsV RX1 73 RX1 yX1_fails wsX1_fails) := goodIn_app (goodIn_of _ (by decide +kernel)) ggX1_reject_X1_fails
set_option maxRecDepth 20000 in
theorem ggX1_reject_X1_isHolding : GoodIn wsX1_reject wsX1_isHolding := goodIn_r _ [21, 9, 22, 23, 24, 25, 26, 27, 5, 28, 7, 1, 29, 30, 31, 32, 33, 34, 35, 36, 37, 38, 39, 40, 41, 42, 43, 44, 45, 46, 47, 48] (by decide +kernel) (by decide +kernel)
set_option maxRecDepth 20000 in
theorem gX1_reject_X1_isHolding : GoodIn wsX1_reject (wsV RX1 94 RX1 yX1_isHolding wsX1_isHolding) := goodIn_app (goodIn_of _ (by decide +kernel)) ggX1_reject_X1_isHolding
theorem dX1_reject_0 : decode cX1_reject 0 = .ok (.aload_n 0, 1) := by decide +kernel
theorem dX1_reject_1 : decode cX1_reject 1 = .ok (.iload_n 1, 1) := by decide +kernel
theorem dX1_reject_2 : decode cX1_reject 2 = .ok (.invokevirtual 91, 3) := by decide +kernel
theorem dX1_reject_5 : decode cX1_reject 5 = .ok (.istore_n 2, 1) := by decide +kernel
theorem dX1_reject_6 : decode cX1_reject 6 = .ok (.aload_n 0, 1) := by decide +kernel
theorem dX1_reject_7 : decode cX1_reject 7 = .ok (.iload_n 2, 1) := by decide +kernel
theorem dX1_reject_8 : decode cX1_reject 8 = .ok (.ifCond .ne 7, 3) := by decide +kernel
theorem dX1_reject_11 : decode cX1_reject 11 = .ok (.iconst 1, 1) := by decide +kernel
theorem dX1_reject_12 : decode cX1_reject 12 = .ok (.goto 18, 3) := by decide +kernel
theorem dX1_reject_15 : decode cX1_reject 15 = .ok (.aload_n 0, 1) := by decide +kernel
theorem dX1_reject_16 : decode cX1_reject 16 = .ok (.getfield 41, 3) := by decide +kernel
theorem dX1_reject_19 : decode cX1_reject 19 = .ok (.iload_n 1, 1) := by decide +kernel
theorem dX1_reject_20 : decode cX1_reject 20 = .ok (.iaload, 1) := by decide +kernel
theorem dX1_reject_21 : decode cX1_reject 21 = .ok (.iconst 2, 1) := by decide +kernel
theorem dX1_reject_22 : decode cX1_reject 22 = .ok (.if_icmp .ne 7, 3) := by decide +kernel
theorem dX1_reject_25 : decode cX1_reject 25 = .ok (.iconst 2, 1) := by decide +kernel
theorem dX1_reject_26 : decode cX1_reject 26 = .ok (.goto 4, 3) := by decide +kernel
theorem dX1_reject_29 : decode cX1_reject 29 = .ok (.iconst 0, 1) := by decide +kernel
theorem dX1_reject_30 : decode cX1_reject 30 = .ok (.invokevirtual 73, 3) := by decide +kernel
theorem dX1_reject_33 : decode cX1_reject 33 = .ok (.ifCond .eq 5, 3) := by decide +kernel
theorem dX1_reject_36 : decode cX1_reject 36 = .ok (.iconst 0, 1) := by decide +kernel
theorem dX1_reject_37 : decode cX1_reject 37 = .ok (.ireturn, 1) := by decide +kernel
theorem dX1_reject_38 : decode cX1_reject 38 = .ok (.aload_n 0, 1) := by decide +kernel
theorem dX1_reject_39 : decode cX1_reject 39 = .ok (.iload_n 1, 1) := by decide +kernel
theorem dX1_reject_40 : decode cX1_reject 40 = .ok (.invokevirtual 94, 3) := by decide +kernel
theorem dX1_reject_43 : decode cX1_reject 43 = .ok (.istore_n 3, 1) := by decide +kernel
theorem dX1_reject_44 : decode cX1_reject 44 = .ok (.aload_n 0, 1) := by decide +kernel
theorem dX1_reject_45 : decode cX1_reject 45 = .ok (.getfield 41, 3) := by decide +kernel
theorem dX1_reject_48 : decode cX1_reject 48 = .ok (.iload_n 1, 1) := by decide +kernel
theorem dX1_reject_49 : decode cX1_reject 49 = .ok (.iconst 2, 1) := by decide +kernel
theorem dX1_reject_50 : decode cX1_reject 50 = .ok (.iastore, 1) := by decide +kernel
theorem dX1_reject_51 : decode cX1_reject 51 = .ok (.iload_n 3, 1) := by decide +kernel
theorem dX1_reject_52 : decode cX1_reject 52 = .ok (.ireturn, 1) := by decide +kernel
set_option maxRecDepth 20000 in
theorem ggX1_pass_X1_isIn : GoodIn wsX1_pass wsX1_isIn := goodIn_r _ [5] (by decide +kernel) (by decide +kernel)
set_option maxRecDepth 20000 in
theorem gX1_pass_X1_isIn : GoodIn wsX1_pass (va_wsS RX1 61 yX1_isIn wsX1_isIn) := goodIn_app (goodIn_of _ (by decide +kernel)) ggX1_pass_X1_isIn
set_option maxRecDepth 20000 in
theorem ggX1_pass_X1_fails : GoodIn wsX1_pass wsX1_fails := goodIn_r _ [9, 10, 11, 12, 13, 14, 15, 16, 17, 18, 19, 20, 21, 22, 23, 24, 25, 26, 27, 28] (by decide +kernel) (by decide +kernel)
set_option maxRecDepth 20000 in
theorem gX1_pass_X1_fails : GoodIn wsX1_pass (wsV RX1 73 RX1 yX1_fails wsX1_fails) := goodIn_app (goodIn_of _ (by decide +kernel)) ggX1_pass_X1_fails
theorem dX1_pass_0 : decode cX1_pass 0 = .ok (.aload_n 0, 1) := by decide +kernel
theorem dX1_pass_1 : decode cX1_pass 1 = .ok (.iload_n 1, 1) := by decide +kernel
theorem dX1_pass_2 : decode cX1_pass 2 = .ok (.iconst 1, 1) := by decide +kernel
theorem dX1_pass_3 : decode cX1_pass 3 = .ok (.bipush 100, 2) := by decide +kernel
theorem dX1_pass_5 : decode cX1_pass 5 = .ok (.invokestatic 61, 3) := by decide +kernel
theorem dX1_pass_8 : decode cX1_pass 8 = .ok (.ifCond .eq 7, 3) := by decide +kernel
theorem dX1_pass_11 : decode cX1_pass 11 = .ok (.iconst 0, 1) := by decide +kernel
theorem dX1_pass_12 : decode cX1_pass 12 = .ok (.goto 4, 3) := by decide +kernel
theorem dX1_pass_15 : decode cX1_pass 15 = .ok (.iconst 1, 1) := by decide +kernel
theorem dX1_pass_16 : decode cX1_pass 16 = .ok (.invokevirtual 73, 3) := by decide +kernel
theorem dX1_pass_19 : decode cX1_pass 19 = .ok (.ifCond .eq 5, 3) := by decide +kernel
theorem dX1_pass_22 : decode cX1_pass 22 = .ok (.iconst 0, 1) := by decide +kernel
theorem dX1_pass_23 : decode cX1_pass 23 = .ok (.ireturn, 1) := by decide +kernel
theorem dX1_pass_24 : decode cX1_pass 24 = .ok (.aload_n 0, 1) := by decide +kernel
theorem dX1_pass_25 : decode cX1_pass 25 = .ok (.dup, 1) := by decide +kernel
theorem dX1_pass_26 : decode cX1_pass 26 = .ok (.getfield 84, 3) := by decide +kernel
theorem dX1_pass_29 : decode cX1_pass 29 = .ok (.iload_n 1, 1) := by decide +kernel
theorem dX1_pass_30 : decode cX1_pass 30 = .ok (.iadd, 1) := by decide +kernel
theorem dX1_pass_31 : decode cX1_pass 31 = .ok (.putfield 84, 3) := by decide +kernel
theorem dX1_pass_34 : decode cX1_pass 34 = .ok (.aload_n 0, 1) := by decide +kernel
theorem dX1_pass_35 : decode cX1_pass 35 = .ok (.getfield 84, 3) := by decide +kernel
theorem dX1_pass_38 : decode cX1_pass 38 = .ok (.ireturn, 1) := by decide +kernel
set_option maxRecDepth 20000 in
theorem ggX1_originOf_X1_holds : GoodIn wsX1_originOf wsX1_holds := goodIn_r _ [6, 7, 8, 9, 10, 11, 12, 13, 14, 15, 16, 17, 18, 19, 20, 21, 22, 23, 24, 25, 26, 27, 28, 29, 30, 31, 32] (by decide +kernel) (by decide +kernel)
set_option maxRecDepth 20000 in
theorem gX1_originOf_X1_holds : GoodIn wsX1_originOf (wsV RX1 87 RX1 yX1_holds wsX1_holds) := goodIn_app (goodIn_of _ (by decide +kernel)) ggX1_originOf_X1_holds
theorem dX1_originOf_0 : decode cX1_originOf 0 = .ok (.iload_n 1, 1) := by decide +kernel
theorem dX1_originOf_1 : decode cX1_originOf 1 = .ok (.istore 5, 2) := by decide +kernel
theorem dX1_originOf_3 : decode cX1_originOf 3 = .ok (.iload 5, 2) := by decide +kernel
theorem dX1_originOf_5 : decode cX1_originOf 5 = .ok (.iconst (-1), 1) := by decide +kernel
theorem dX1_originOf_6 : decode cX1_originOf 6 = .ok (.if_icmp .eq 72, 3) := by decide +kernel
theorem dX1_originOf_9 : decode cX1_originOf 9 = .ok (.iconst 0, 1) := by decide +kernel
theorem dX1_originOf_10 : decode cX1_originOf 10 = .ok (.istore 6, 2) := by decide +kernel
theorem dX1_originOf_12 : decode cX1_originOf 12 = .ok (.iload 6, 2) := by decide +kernel
theorem dX1_originOf_14 : decode cX1_originOf 14 = .ok (.iconst 4, 1) := by decide +kernel
theorem dX1_originOf_15 : decode cX1_originOf 15 = .ok (.if_icmp .ge 51, 3) := by decide +kernel
theorem dX1_originOf_18 : decode cX1_originOf 18 = .ok (.aload_n 0, 1) := by decide +kernel
theorem dX1_originOf_19 : decode cX1_originOf 19 = .ok (.iload 5, 2) := by decide +kernel
theorem dX1_originOf_21 : decode cX1_originOf 21 = .ok (.iload_n 2, 1) := by decide +kernel
theorem dX1_originOf_22 : decode cX1_originOf 22 = .ok (.iload 6, 2) := by decide +kernel
theorem dX1_originOf_24 : decode cX1_originOf 24 = .ok (.iconst 2, 1) := by decide +kernel
theorem dX1_originOf_25 : decode cX1_originOf 25 = .ok (.if_icmp .ge 7, 3) := by decide +kernel
theorem dX1_originOf_28 : decode cX1_originOf 28 = .ok (.iload_n 3, 1) := by decide +kernel
theorem dX1_originOf_29 : decode cX1_originOf 29 = .ok (.goto 4, 3) := by decide +kernel
theorem dX1_originOf_32 : decode cX1_originOf 32 = .ok (.iconst (-1), 1) := by decide +kernel
theorem dX1_originOf_33 : decode cX1_originOf 33 = .ok (.iload 6, 2) := by decide +kernel
theorem dX1_originOf_35 : decode cX1_originOf 35 = .ok (.iconst 2, 1) := by decide +kernel
theorem dX1_originOf_36 : decode cX1_originOf 36 = .ok (.irem, 1) := by decide +kernel
theorem dX1_originOf_37 : decode cX1_originOf 37 = .ok (.ifCond .ne 8, 3) := by decide +kernel
theorem dX1_originOf_40 : decode cX1_originOf 40 = .ok (.iload 4, 2) := by decide +kernel
theorem dX1_originOf_42 : decode cX1_originOf 42 = .ok (.goto 4, 3) := by decide +kernel
theorem dX1_originOf_45 : decode cX1_originOf 45 = .ok (.iconst (-1), 1) := by decide +kernel
theorem dX1_originOf_46 : decode cX1_originOf 46 = .ok (.invokevirtual 87, 3) := by decide +kernel
theorem dX1_originOf_49 : decode cX1_originOf 49 = .ok (.istore 7, 2) := by decide +kernel
theorem dX1_originOf_51 : decode cX1_originOf 51 = .ok (.iload 7, 2) := by decide +kernel
theorem dX1_originOf_53 : decode cX1_originOf 53 = .ok (.iconst (-1), 1) := by decide +kernel
theorem dX1_originOf_54 : decode cX1_originOf 54 = .ok (.if_icmp .eq 6, 3) := by decide +kernel
theorem dX1_originOf_57 : decode cX1_originOf 57 = .ok (.iload 7, 2) := by decide +kernel
theorem dX1_originOf_59 : decode cX1_originOf 59 = .ok (.ireturn, 1) := by decide +kernel
theorem dX1_originOf_60 : decode cX1_originOf 60 = .ok (.iinc 6 1, 3) := by decide +kernel
theorem dX1_originOf_63 : decode cX1_originOf 63 = .ok (.goto (-51), 3) := by decide +kernel
theorem dX1_originOf_66 : decode cX1_originOf 66 = .ok (.aload_n 0, 1) := by decide +kernel
theorem dX1_originOf_67 : decode cX1_originOf 67 = .ok (.getfield 13, 3) := by decide +kernel
theorem dX1_originOf_70 : decode cX1_originOf 70 = .ok (.iload 5, 2) := by decide +kernel
theorem dX1_originOf_72 : decode cX1_originOf 72 = .ok (.iaload, 1) := by decide +kernel
theorem dX1_originOf_73 : decode cX1_originOf 73 = .ok (.istore 5, 2) := by decide +kernel
theorem dX1_originOf_75 : decode cX1_originOf 75 = .ok (.goto (-72), 3) := by decide +kernel
theorem dX1_originOf_78 : decode cX1_originOf 78 = .ok (.iconst (-1), 1) := by decide +kernel
theorem dX1_originOf_79 : decode cX1_originOf 79 = .ok (.ireturn, 1) := by decide +kernel
set_option maxRecDepth 20000 in
theorem ggX1_valueOf_X1_originOf : GoodIn wsX1_valueOf wsX1_originOf := goodIn_r _ [6, 7, 8, 9, 10, 5, 11, 12, 13, 14, 15, 16, 17, 18, 19, 20, 21, 22, 23, 24, 25, 26, 27, 28, 29, 30, 31, 32, 33, 34, 35, 36, 37] (by decide +kernel) (by decide +kernel)
set_option maxRecDepth 20000 in
theorem gX1_valueOf_X1_originOf : GoodIn wsX1_valueOf (wsV RX1 97 RX1 yX1_originOf wsX1_originOf) := goodIn_app (goodIn_of _ (by decide +kernel)) ggX1_valueOf_X1_originOf
theorem dX1_valueOf_0 : decode cX1_valueOf 0 = .ok (.aload_n 0, 1) := by decide +kernel
theorem dX1_valueOf_1 : decode cX1_valueOf 1 = .ok (.iload_n 1, 1) := by decide +kernel
theorem dX1_valueOf_2 : decode cX1_valueOf 2 = .ok (.iload_n 2, 1) := by decide +kernel
theorem dX1_valueOf_3 : decode cX1_valueOf 3 = .ok (.iload_n 3, 1) := by decide +kernel
theorem dX1_valueOf_4 : decode cX1_valueOf 4 = .ok (.iload 4, 2) := by decide +kernel
theorem dX1_valueOf_6 : decode cX1_valueOf 6 = .ok (.invokevirtual 97, 3) := by decide +kernel
theorem dX1_valueOf_9 : decode cX1_valueOf 9 = .ok (.istore 5, 2) := by decide +kernel
theorem dX1_valueOf_11 : decode cX1_valueOf 11 = .ok (.iload 5, 2) := by decide +kernel
theorem dX1_valueOf_13 : decode cX1_valueOf 13 = .ok (.iconst (-1), 1) := by decide +kernel
theorem dX1_valueOf_14 : decode cX1_valueOf 14 = .ok (.if_icmp .ne 7, 3) := by decide +kernel
theorem dX1_valueOf_17 : decode cX1_valueOf 17 = .ok (.iconst (-1), 1) := by decide +kernel
theorem dX1_valueOf_18 : decode cX1_valueOf 18 = .ok (.goto 10, 3) := by decide +kernel
theorem dX1_valueOf_21 : decode cX1_valueOf 21 = .ok (.aload_n 0, 1) := by decide +kernel
theorem dX1_valueOf_22 : decode cX1_valueOf 22 = .ok (.getfield 35, 3) := by decide +kernel
theorem dX1_valueOf_25 : decode cX1_valueOf 25 = .ok (.iload 5, 2) := by decide +kernel
theorem dX1_valueOf_27 : decode cX1_valueOf 27 = .ok (.iaload, 1) := by decide +kernel
theorem dX1_valueOf_28 : decode cX1_valueOf 28 = .ok (.ireturn, 1) := by decide +kernel
set_option maxRecDepth 20000 in
theorem ggX1_isPlace_X1_isGood : GoodIn wsX1_isPlace wsX1_isGood := goodIn_r _ [5, 6, 7, 8, 9, 4, 10, 14, 15, 16, 17, 18, 19, 20, 21, 22, 23, 24, 25, 26, 27, 28, 29, 30, 31] (by decide +kernel) (by decide +kernel)
set_option maxRecDepth 20000 in
theorem gX1_isPlace_X1_isGood : GoodIn wsX1_isPlace (wsV RX1 65 RX1 yX1_isGood wsX1_isGood) := goodIn_app (goodIn_of _ (by decide +kernel)) ggX1_isPlace_X1_isGood
set_option maxRecDepth 20000 in
theorem ggX1_isPlace_X1_isIn : GoodIn wsX1_isPlace wsX1_isIn := goodIn_r _ [10] (by decide +kernel) (by decide +kernel)
set_option maxRecDepth 20000 in
theorem gX1_isPlace_X1_isIn : GoodIn wsX1_isPlace (va_wsS RX1 61 yX1_isIn wsX1_isIn) := goodIn_app (goodIn_of _ (by decide +kernel)) ggX1_isPlace_X1_isIn
set_option maxRecDepth 20000 in
theorem ggX1_isPlace_X1_isShop : GoodIn wsX1_isPlace wsX1_isShop := goodIn_r _ [13, 8, 9, 4, 10] (by decide +kernel) (by decide +kernel)
set_option maxRecDepth 20000 in
theorem gX1_isPlace_X1_isShop : GoodIn wsX1_isPlace (va_wsS RX1 100 yX1_isShop wsX1_isShop) := goodIn_app (goodIn_of _ (by decide +kernel)) ggX1_isPlace_X1_isShop
theorem dX1_isPlace_0 : decode cX1_isPlace 0 = .ok (.aload_n 0, 1) := by decide +kernel
theorem dX1_isPlace_1 : decode cX1_isPlace 1 = .ok (.iload_n 1, 1) := by decide +kernel
theorem dX1_isPlace_2 : decode cX1_isPlace 2 = .ok (.invokevirtual 65, 3) := by decide +kernel
theorem dX1_isPlace_5 : decode cX1_isPlace 5 = .ok (.ifCond .eq 33, 3) := by decide +kernel
theorem dX1_isPlace_8 : decode cX1_isPlace 8 = .ok (.iload_n 2, 1) := by decide +kernel
theorem dX1_isPlace_9 : decode cX1_isPlace 9 = .ok (.iconst 0, 1) := by decide +kernel
theorem dX1_isPlace_10 : decode cX1_isPlace 10 = .ok (.iconst 5, 1) := by decide +kernel
theorem dX1_isPlace_11 : decode cX1_isPlace 11 = .ok (.invokestatic 61, 3) := by decide +kernel
theorem dX1_isPlace_14 : decode cX1_isPlace 14 = .ok (.ifCond .eq 24, 3) := by decide +kernel
theorem dX1_isPlace_17 : decode cX1_isPlace 17 = .ok (.iload_n 3, 1) := by decide +kernel
theorem dX1_isPlace_18 : decode cX1_isPlace 18 = .ok (.invokestatic 100, 3) := by decide +kernel
theorem dX1_isPlace_21 : decode cX1_isPlace 21 = .ok (.ifCond .eq 17, 3) := by decide +kernel
theorem dX1_isPlace_24 : decode cX1_isPlace 24 = .ok (.iload 4, 2) := by decide +kernel
theorem dX1_isPlace_26 : decode cX1_isPlace 26 = .ok (.iconst 0, 1) := by decide +kernel
theorem dX1_isPlace_27 : decode cX1_isPlace 27 = .ok (.iconst 2, 1) := by decide +kernel
theorem dX1_isPlace_28 : decode cX1_isPlace 28 = .ok (.invokestatic 61, 3) := by decide +kernel
theorem dX1_isPlace_31 : decode cX1_isPlace 31 = .ok (.ifCond .eq 7, 3) := by decide +kernel
theorem dX1_isPlace_34 : decode cX1_isPlace 34 = .ok (.iconst 1, 1) := by decide +kernel
theorem dX1_isPlace_35 : decode cX1_isPlace 35 = .ok (.goto 4, 3) := by decide +kernel
theorem dX1_isPlace_38 : decode cX1_isPlace 38 = .ok (.iconst 0, 1) := by decide +kernel
theorem dX1_isPlace_39 : decode cX1_isPlace 39 = .ok (.ireturn, 1) := by decide +kernel
set_option maxRecDepth 20000 in
theorem ggX1_value_X1_isPlace : GoodIn wsX1_value wsX1_isPlace := goodIn_r _ [5, 6, 7, 8, 4, 9, 10, 11, 12, 13, 14, 15, 16, 17, 45, 46, 47, 48, 49, 50, 51, 52, 53, 54, 55, 56, 57, 58, 59, 60, 61, 62] (by decide +kernel) (by decide +kernel)
set_option maxRecDepth 20000 in
theorem gX1_value_X1_isPlace : GoodIn wsX1_value (wsV RX1 103 RX1 yX1_isPlace wsX1_isPlace) := goodIn_app (goodIn_of _ (by decide +kernel)) ggX1_value_X1_isPlace
set_option maxRecDepth 20000 in
theorem ggX1_value_X1_valueOf : GoodIn wsX1_value wsX1_valueOf := goodIn_r _ [21, 22, 23, 24, 25, 4, 26, 27, 28, 29, 30, 31, 32, 33, 34, 35, 36, 37, 38, 39, 45, 46, 47, 48, 49, 50, 51, 52, 53, 54, 55, 56, 57, 58, 59, 60, 61, 62] (by decide +kernel) (by decide +kernel)
set_option maxRecDepth 20000 in
theorem gX1_value_X1_valueOf : GoodIn wsX1_value (wsV RX1 107 RX1 yX1_valueOf wsX1_valueOf) := goodIn_app (goodIn_of _ (by decide +kernel)) ggX1_value_X1_valueOf
set_option maxRecDepth 20000 in
theorem ggX1_value_X1_fails : GoodIn wsX1_value wsX1_fails := goodIn_r _ [43, 44, 45, 46, 47, 48, 49, 50, 51, 52, 53, 54, 55, 56, 57, 58, 59, 60, 61, 62] (by decide +kernel) (by decide +kernel)
set_option maxRecDepth 20000 in
theorem gX1_value_X1_fails : GoodIn wsX1_value (wsV RX1 73 RX1 yX1_fails wsX1_fails) := goodIn_app (goodIn_of _ (by decide +kernel)) ggX1_value_X1_fails
theorem dX1_value_0 : decode cX1_value 0 = .ok (.aload_n 0, 1) := by decide +kernel
theorem dX1_value_1 : decode cX1_value 1 = .ok (.iload_n 1, 1) := by decide +kernel
theorem dX1_value_2 : decode cX1_value 2 = .ok (.iload_n 2, 1) := by decide +kernel
theorem dX1_value_3 : decode cX1_value 3 = .ok (.iload_n 3, 1) := by decide +kernel
theorem dX1_value_4 : decode cX1_value 4 = .ok (.iload 4, 2) := by decide +kernel
theorem dX1_value_6 : decode cX1_value 6 = .ok (.invokevirtual 103, 3) := by decide +kernel
theorem dX1_value_9 : decode cX1_value 9 = .ok (.istore 5, 2) := by decide +kernel
theorem dX1_value_11 : decode cX1_value 11 = .ok (.aload_n 0, 1) := by decide +kernel
theorem dX1_value_12 : decode cX1_value 12 = .ok (.iload 5, 2) := by decide +kernel
theorem dX1_value_14 : decode cX1_value 14 = .ok (.ifCond .ne 7, 3) := by decide +kernel
theorem dX1_value_17 : decode cX1_value 17 = .ok (.iconst 1, 1) := by decide +kernel
theorem dX1_value_18 : decode cX1_value 18 = .ok (.goto 21, 3) := by decide +kernel
theorem dX1_value_21 : decode cX1_value 21 = .ok (.aload_n 0, 1) := by decide +kernel
theorem dX1_value_22 : decode cX1_value 22 = .ok (.iload_n 1, 1) := by decide +kernel
theorem dX1_value_23 : decode cX1_value 23 = .ok (.iload_n 2, 1) := by decide +kernel
theorem dX1_value_24 : decode cX1_value 24 = .ok (.iload_n 3, 1) := by decide +kernel
theorem dX1_value_25 : decode cX1_value 25 = .ok (.iload 4, 2) := by decide +kernel
theorem dX1_value_27 : decode cX1_value 27 = .ok (.invokevirtual 107, 3) := by decide +kernel
theorem dX1_value_30 : decode cX1_value 30 = .ok (.iconst (-1), 1) := by decide +kernel
theorem dX1_value_31 : decode cX1_value 31 = .ok (.if_icmp .ne 7, 3) := by decide +kernel
theorem dX1_value_34 : decode cX1_value 34 = .ok (.iconst 2, 1) := by decide +kernel
theorem dX1_value_35 : decode cX1_value 35 = .ok (.goto 4, 3) := by decide +kernel
theorem dX1_value_38 : decode cX1_value 38 = .ok (.iconst 0, 1) := by decide +kernel
theorem dX1_value_39 : decode cX1_value 39 = .ok (.invokevirtual 73, 3) := by decide +kernel
theorem dX1_value_42 : decode cX1_value 42 = .ok (.ifCond .eq 7, 3) := by decide +kernel
theorem dX1_value_45 : decode cX1_value 45 = .ok (.iconst 0, 1) := by decide +kernel
theorem dX1_value_46 : decode cX1_value 46 = .ok (.goto 12, 3) := by decide +kernel
theorem dX1_value_49 : decode cX1_value 49 = .ok (.aload_n 0, 1) := by decide +kernel
theorem dX1_value_50 : decode cX1_value 50 = .ok (.iload_n 1, 1) := by decide +kernel
theorem dX1_value_51 : decode cX1_value 51 = .ok (.iload_n 2, 1) := by decide +kernel
theorem dX1_value_52 : decode cX1_value 52 = .ok (.iload_n 3, 1) := by decide +kernel
theorem dX1_value_53 : decode cX1_value 53 = .ok (.iload 4, 2) := by decide +kernel
theorem dX1_value_55 : decode cX1_value 55 = .ok (.invokevirtual 107, 3) := by decide +kernel
theorem dX1_value_58 : decode cX1_value 58 = .ok (.ireturn, 1) := by decide +kernel
set_option maxRecDepth 20000 in
theorem ggX1_origin_X1_isPlace : GoodIn wsX1_origin wsX1_isPlace := goodIn_r _ [5, 6, 7, 8, 4, 9, 10, 11, 12, 13, 14, 15, 16, 17, 40, 41, 42, 43, 44, 45, 46, 47, 48, 49, 50, 51, 52, 53, 54, 55, 56, 57] (by decide +kernel) (by decide +kernel)
set_option maxRecDepth 20000 in
theorem gX1_origin_X1_isPlace : GoodIn wsX1_origin (wsV RX1 103 RX1 yX1_isPlace wsX1_isPlace) := goodIn_app (goodIn_of _ (by decide +kernel)) ggX1_origin_X1_isPlace
set_option maxRecDepth 20000 in
theorem ggX1_origin_X1_fails : GoodIn wsX1_origin wsX1_fails := goodIn_r _ [21, 22, 40, 41, 42, 43, 44, 45, 46, 47, 48, 49, 50, 51, 52, 53, 54, 55, 56, 57] (by decide +kernel) (by decide +kernel)
set_option maxRecDepth 20000 in
theorem gX1_origin_X1_fails : GoodIn wsX1_origin (wsV RX1 73 RX1 yX1_fails wsX1_fails) := goodIn_app (goodIn_of _ (by decide +kernel)) ggX1_origin_X1_fails
set_option maxRecDepth 20000 in
theorem ggX1_origin_X1_originOf : GoodIn wsX1_origin wsX1_originOf := goodIn_r _ [26, 27, 28, 29, 30, 4, 31, 32, 33, 34, 35, 36, 37, 38, 39, 40, 41, 42, 43, 44, 45, 46, 47, 48, 49, 50, 51, 52, 53, 54, 55, 56, 57] (by decide +kernel) (by decide +kernel)
set_option maxRecDepth 20000 in
theorem gX1_origin_X1_originOf : GoodIn wsX1_origin (wsV RX1 97 RX1 yX1_originOf wsX1_originOf) := goodIn_app (goodIn_of _ (by decide +kernel)) ggX1_origin_X1_originOf
theorem dX1_origin_0 : decode cX1_origin 0 = .ok (.aload_n 0, 1) := by decide +kernel
theorem dX1_origin_1 : decode cX1_origin 1 = .ok (.aload_n 0, 1) := by decide +kernel
theorem dX1_origin_2 : decode cX1_origin 2 = .ok (.iload_n 1, 1) := by decide +kernel
theorem dX1_origin_3 : decode cX1_origin 3 = .ok (.iload_n 2, 1) := by decide +kernel
theorem dX1_origin_4 : decode cX1_origin 4 = .ok (.iload_n 3, 1) := by decide +kernel
theorem dX1_origin_5 : decode cX1_origin 5 = .ok (.iload 4, 2) := by decide +kernel
theorem dX1_origin_7 : decode cX1_origin 7 = .ok (.invokevirtual 103, 3) := by decide +kernel
theorem dX1_origin_10 : decode cX1_origin 10 = .ok (.ifCond .eq 7, 3) := by decide +kernel
theorem dX1_origin_13 : decode cX1_origin 13 = .ok (.iconst 0, 1) := by decide +kernel
theorem dX1_origin_14 : decode cX1_origin 14 = .ok (.goto 4, 3) := by decide +kernel
theorem dX1_origin_17 : decode cX1_origin 17 = .ok (.iconst 1, 1) := by decide +kernel
theorem dX1_origin_18 : decode cX1_origin 18 = .ok (.invokevirtual 73, 3) := by decide +kernel
theorem dX1_origin_21 : decode cX1_origin 21 = .ok (.ifCond .eq 7, 3) := by decide +kernel
theorem dX1_origin_24 : decode cX1_origin 24 = .ok (.iconst 0, 1) := by decide +kernel
theorem dX1_origin_25 : decode cX1_origin 25 = .ok (.goto 12, 3) := by decide +kernel
theorem dX1_origin_28 : decode cX1_origin 28 = .ok (.aload_n 0, 1) := by decide +kernel
theorem dX1_origin_29 : decode cX1_origin 29 = .ok (.iload_n 1, 1) := by decide +kernel
theorem dX1_origin_30 : decode cX1_origin 30 = .ok (.iload_n 2, 1) := by decide +kernel
theorem dX1_origin_31 : decode cX1_origin 31 = .ok (.iload_n 3, 1) := by decide +kernel
theorem dX1_origin_32 : decode cX1_origin 32 = .ok (.iload 4, 2) := by decide +kernel
theorem dX1_origin_34 : decode cX1_origin 34 = .ok (.invokevirtual 97, 3) := by decide +kernel
theorem dX1_origin_37 : decode cX1_origin 37 = .ok (.ireturn, 1) := by decide +kernel
set_option maxRecDepth 20000 in
theorem ggX1_told_X1_isGood : GoodIn wsX1_told wsX1_isGood := goodIn_r _ [7, 8, 9, 10, 11, 6, 12, 32, 33, 34, 35, 36, 37, 38, 39, 40, 41, 42, 43, 44, 45, 46, 47, 48, 49] (by decide +kernel) (by decide +kernel)
set_option maxRecDepth 20000 in
theorem gX1_told_X1_isGood : GoodIn wsX1_told (wsV RX1 65 RX1 yX1_isGood wsX1_isGood) := goodIn_app (goodIn_of _ (by decide +kernel)) ggX1_told_X1_isGood
set_option maxRecDepth 20000 in
theorem ggX1_told_X1_fails : GoodIn wsX1_told wsX1_fails := goodIn_r _ [16, 17, 32, 33, 34, 35, 36, 37, 38, 39, 40, 41, 42, 43, 44, 45, 46, 47, 48, 49] (by decide +kernel) (by decide +kernel)
set_option maxRecDepth 20000 in
theorem gX1_told_X1_fails : GoodIn wsX1_told (wsV RX1 73 RX1 yX1_fails wsX1_fails) := goodIn_app (goodIn_of _ (by decide +kernel)) ggX1_told_X1_fails
set_option maxRecDepth 20000 in
theorem ggX1_told_X1_isHolding : GoodIn wsX1_told wsX1_isHolding := goodIn_r _ [21, 2, 22, 23, 24, 25, 26, 27, 6, 28, 1, 29, 30, 31, 32, 33, 34, 35, 36, 37, 38, 39, 40, 41, 42, 43, 44, 45, 46, 47, 48, 49] (by decide +kernel) (by decide +kernel)
set_option maxRecDepth 20000 in
theorem gX1_told_X1_isHolding : GoodIn wsX1_told (wsV RX1 94 RX1 yX1_isHolding wsX1_isHolding) := goodIn_app (goodIn_of _ (by decide +kernel)) ggX1_told_X1_isHolding
theorem dX1_told_0 : decode cX1_told 0 = .ok (.aload_n 0, 1) := by decide +kernel
theorem dX1_told_1 : decode cX1_told 1 = .ok (.aload_n 0, 1) := by decide +kernel
theorem dX1_told_2 : decode cX1_told 2 = .ok (.iload_n 1, 1) := by decide +kernel
theorem dX1_told_3 : decode cX1_told 3 = .ok (.invokevirtual 65, 3) := by decide +kernel
theorem dX1_told_6 : decode cX1_told 6 = .ok (.ifCond .eq 7, 3) := by decide +kernel
theorem dX1_told_9 : decode cX1_told 9 = .ok (.iconst 0, 1) := by decide +kernel
theorem dX1_told_10 : decode cX1_told 10 = .ok (.goto 4, 3) := by decide +kernel
theorem dX1_told_13 : decode cX1_told 13 = .ok (.iconst 1, 1) := by decide +kernel
theorem dX1_told_14 : decode cX1_told 14 = .ok (.invokevirtual 73, 3) := by decide +kernel
theorem dX1_told_17 : decode cX1_told 17 = .ok (.ifCond .eq 5, 3) := by decide +kernel
theorem dX1_told_20 : decode cX1_told 20 = .ok (.iconst 0, 1) := by decide +kernel
theorem dX1_told_21 : decode cX1_told 21 = .ok (.ireturn, 1) := by decide +kernel
theorem dX1_told_22 : decode cX1_told 22 = .ok (.iconst 0, 1) := by decide +kernel
theorem dX1_told_23 : decode cX1_told 23 = .ok (.istore_n 2, 1) := by decide +kernel
theorem dX1_told_24 : decode cX1_told 24 = .ok (.iconst 0, 1) := by decide +kernel
theorem dX1_told_25 : decode cX1_told 25 = .ok (.istore_n 3, 1) := by decide +kernel
theorem dX1_told_26 : decode cX1_told 26 = .ok (.iload_n 3, 1) := by decide +kernel
theorem dX1_told_27 : decode cX1_told 27 = .ok (.aload_n 0, 1) := by decide +kernel
theorem dX1_told_28 : decode cX1_told 28 = .ok (.getfield 81, 3) := by decide +kernel
theorem dX1_told_31 : decode cX1_told 31 = .ok (.if_icmp .ge 35, 3) := by decide +kernel
theorem dX1_told_34 : decode cX1_told 34 = .ok (.iload_n 2, 1) := by decide +kernel
theorem dX1_told_35 : decode cX1_told 35 = .ok (.aload_n 0, 1) := by decide +kernel
theorem dX1_told_36 : decode cX1_told 36 = .ok (.getfield 23, 3) := by decide +kernel
theorem dX1_told_39 : decode cX1_told 39 = .ok (.iload_n 3, 1) := by decide +kernel
theorem dX1_told_40 : decode cX1_told 40 = .ok (.iaload, 1) := by decide +kernel
theorem dX1_told_41 : decode cX1_told 41 = .ok (.iload_n 1, 1) := by decide +kernel
theorem dX1_told_42 : decode cX1_told 42 = .ok (.if_icmp .ne 15, 3) := by decide +kernel
theorem dX1_told_45 : decode cX1_told 45 = .ok (.aload_n 0, 1) := by decide +kernel
theorem dX1_told_46 : decode cX1_told 46 = .ok (.iload_n 3, 1) := by decide +kernel
theorem dX1_told_47 : decode cX1_told 47 = .ok (.invokevirtual 94, 3) := by decide +kernel
theorem dX1_told_50 : decode cX1_told 50 = .ok (.ifCond .eq 7, 3) := by decide +kernel
theorem dX1_told_53 : decode cX1_told 53 = .ok (.iconst 1, 1) := by decide +kernel
theorem dX1_told_54 : decode cX1_told 54 = .ok (.goto 4, 3) := by decide +kernel
theorem dX1_told_57 : decode cX1_told 57 = .ok (.iconst 0, 1) := by decide +kernel
theorem dX1_told_58 : decode cX1_told 58 = .ok (.iadd, 1) := by decide +kernel
theorem dX1_told_59 : decode cX1_told 59 = .ok (.istore_n 2, 1) := by decide +kernel
theorem dX1_told_60 : decode cX1_told 60 = .ok (.iinc 3 1, 3) := by decide +kernel
theorem dX1_told_63 : decode cX1_told 63 = .ok (.goto (-37), 3) := by decide +kernel
theorem dX1_told_66 : decode cX1_told 66 = .ok (.iload_n 2, 1) := by decide +kernel
theorem dX1_told_67 : decode cX1_told 67 = .ok (.ireturn, 1) := by decide +kernel
set_option maxRecDepth 20000 in
theorem ggX1_toggleAsked_X1_isShop : GoodIn wsX1_toggleAsked wsX1_isShop := goodIn_r _ [5, 6, 7, 4, 8] (by decide +kernel) (by decide +kernel)
set_option maxRecDepth 20000 in
theorem gX1_toggleAsked_X1_isShop : GoodIn wsX1_toggleAsked (va_wsS RX1 100 yX1_isShop wsX1_isShop) := goodIn_app (goodIn_of _ (by decide +kernel)) ggX1_toggleAsked_X1_isShop
set_option maxRecDepth 20000 in
theorem ggX1_toggleAsked_X1_isIn : GoodIn wsX1_toggleAsked wsX1_isIn := goodIn_r _ [8] (by decide +kernel) (by decide +kernel)
set_option maxRecDepth 20000 in
theorem gX1_toggleAsked_X1_isIn : GoodIn wsX1_toggleAsked (va_wsS RX1 61 yX1_isIn wsX1_isIn) := goodIn_app (goodIn_of _ (by decide +kernel)) ggX1_toggleAsked_X1_isIn
set_option maxRecDepth 20000 in
theorem ggX1_toggleAsked_X1_fails : GoodIn wsX1_toggleAsked wsX1_fails := goodIn_r _ [12, 13, 14, 15, 16, 17, 18, 19, 20, 21, 22, 23, 24, 25, 26, 27, 28, 29, 30, 31] (by decide +kernel) (by decide +kernel)
set_option maxRecDepth 20000 in
theorem gX1_toggleAsked_X1_fails : GoodIn wsX1_toggleAsked (wsV RX1 73 RX1 yX1_fails wsX1_fails) := goodIn_app (goodIn_of _ (by decide +kernel)) ggX1_toggleAsked_X1_fails
theorem dX1_toggleAsked_0 : decode cX1_toggleAsked 0 = .ok (.aload_n 0, 1) := by decide +kernel
theorem dX1_toggleAsked_1 : decode cX1_toggleAsked 1 = .ok (.iload_n 1, 1) := by decide +kernel
theorem dX1_toggleAsked_2 : decode cX1_toggleAsked 2 = .ok (.invokestatic 100, 3) := by decide +kernel
theorem dX1_toggleAsked_5 : decode cX1_toggleAsked 5 = .ok (.ifCond .eq 16, 3) := by decide +kernel
theorem dX1_toggleAsked_8 : decode cX1_toggleAsked 8 = .ok (.iload_n 2, 1) := by decide +kernel
theorem dX1_toggleAsked_9 : decode cX1_toggleAsked 9 = .ok (.iconst 0, 1) := by decide +kernel
theorem dX1_toggleAsked_10 : decode cX1_toggleAsked 10 = .ok (.iconst 5, 1) := by decide +kernel
theorem dX1_toggleAsked_11 : decode cX1_toggleAsked 11 = .ok (.invokestatic 61, 3) := by decide +kernel
theorem dX1_toggleAsked_14 : decode cX1_toggleAsked 14 = .ok (.ifCond .eq 7, 3) := by decide +kernel
theorem dX1_toggleAsked_17 : decode cX1_toggleAsked 17 = .ok (.iconst 0, 1) := by decide +kernel
theorem dX1_toggleAsked_18 : decode cX1_toggleAsked 18 = .ok (.goto 4, 3) := by decide +kernel
theorem dX1_toggleAsked_21 : decode cX1_toggleAsked 21 = .ok (.iconst 1, 1) := by decide +kernel
theorem dX1_toggleAsked_22 : decode cX1_toggleAsked 22 = .ok (.invokevirtual 73, 3) := by decide +kernel
theorem dX1_toggleAsked_25 : decode cX1_toggleAsked 25 = .ok (.ifCond .eq 5, 3) := by decide +kernel
theorem dX1_toggleAsked_28 : decode cX1_toggleAsked 28 = .ok (.iconst 0, 1) := by decide +kernel
theorem dX1_toggleAsked_29 : decode cX1_toggleAsked 29 = .ok (.ireturn, 1) := by decide +kernel
theorem dX1_toggleAsked_30 : decode cX1_toggleAsked 30 = .ok (.bipush 6, 2) := by decide +kernel
theorem dX1_toggleAsked_32 : decode cX1_toggleAsked 32 = .ok (.iload_n 1, 1) := by decide +kernel
theorem dX1_toggleAsked_33 : decode cX1_toggleAsked 33 = .ok (.imul, 1) := by decide +kernel
theorem dX1_toggleAsked_34 : decode cX1_toggleAsked 34 = .ok (.iload_n 2, 1) := by decide +kernel
theorem dX1_toggleAsked_35 : decode cX1_toggleAsked 35 = .ok (.iadd, 1) := by decide +kernel
theorem dX1_toggleAsked_36 : decode cX1_toggleAsked 36 = .ok (.istore_n 3, 1) := by decide +kernel
theorem dX1_toggleAsked_37 : decode cX1_toggleAsked 37 = .ok (.aload_n 0, 1) := by decide +kernel
theorem dX1_toggleAsked_38 : decode cX1_toggleAsked 38 = .ok (.getfield 44, 3) := by decide +kernel
theorem dX1_toggleAsked_41 : decode cX1_toggleAsked 41 = .ok (.iload_n 3, 1) := by decide +kernel
theorem dX1_toggleAsked_42 : decode cX1_toggleAsked 42 = .ok (.aload_n 0, 1) := by decide +kernel
theorem dX1_toggleAsked_43 : decode cX1_toggleAsked 43 = .ok (.getfield 44, 3) := by decide +kernel
theorem dX1_toggleAsked_46 : decode cX1_toggleAsked 46 = .ok (.iload_n 3, 1) := by decide +kernel
theorem dX1_toggleAsked_47 : decode cX1_toggleAsked 47 = .ok (.baload, 1) := by decide +kernel
theorem dX1_toggleAsked_48 : decode cX1_toggleAsked 48 = .ok (.ifCond .ne 7, 3) := by decide +kernel
theorem dX1_toggleAsked_51 : decode cX1_toggleAsked 51 = .ok (.iconst 1, 1) := by decide +kernel
theorem dX1_toggleAsked_52 : decode cX1_toggleAsked 52 = .ok (.goto 4, 3) := by decide +kernel
theorem dX1_toggleAsked_55 : decode cX1_toggleAsked 55 = .ok (.iconst 0, 1) := by decide +kernel
theorem dX1_toggleAsked_56 : decode cX1_toggleAsked 56 = .ok (.bastore, 1) := by decide +kernel
theorem dX1_toggleAsked_57 : decode cX1_toggleAsked 57 = .ok (.aload_n 0, 1) := by decide +kernel
theorem dX1_toggleAsked_58 : decode cX1_toggleAsked 58 = .ok (.getfield 44, 3) := by decide +kernel
theorem dX1_toggleAsked_61 : decode cX1_toggleAsked 61 = .ok (.iload_n 3, 1) := by decide +kernel
theorem dX1_toggleAsked_62 : decode cX1_toggleAsked 62 = .ok (.baload, 1) := by decide +kernel
theorem dX1_toggleAsked_63 : decode cX1_toggleAsked 63 = .ok (.ireturn, 1) := by decide +kernel
set_option maxRecDepth 20000 in
theorem ggX1_lacks_X1_valueOf : GoodIn wsX1_lacks wsX1_valueOf := goodIn_r _ [6, 7, 8, 9, 10, 5, 11, 12, 13, 14, 15, 16, 17, 18, 19, 20, 21, 22, 23, 24, 25, 26, 27, 28, 29, 30, 31, 32, 33, 34, 35, 36, 37, 38, 39, 40, 41, 42] (by decide +kernel) (by decide +kernel)
set_option maxRecDepth 20000 in
theorem gX1_lacks_X1_valueOf : GoodIn wsX1_lacks (wsV RX1 107 RX1 yX1_valueOf wsX1_valueOf) := goodIn_app (goodIn_of _ (by decide +kernel)) ggX1_lacks_X1_valueOf
theorem dX1_lacks_0 : decode cX1_lacks 0 = .ok (.iconst 0, 1) := by decide +kernel
theorem dX1_lacks_1 : decode cX1_lacks 1 = .ok (.istore 4, 2) := by decide +kernel
theorem dX1_lacks_3 : decode cX1_lacks 3 = .ok (.iconst 0, 1) := by decide +kernel
theorem dX1_lacks_4 : decode cX1_lacks 4 = .ok (.istore 5, 2) := by decide +kernel
theorem dX1_lacks_6 : decode cX1_lacks 6 = .ok (.iload 5, 2) := by decide +kernel
theorem dX1_lacks_8 : decode cX1_lacks 8 = .ok (.bipush 6, 2) := by decide +kernel
theorem dX1_lacks_10 : decode cX1_lacks 10 = .ok (.if_icmp .ge 50, 3) := by decide +kernel
theorem dX1_lacks_13 : decode cX1_lacks 13 = .ok (.iload 4, 2) := by decide +kernel
theorem dX1_lacks_15 : decode cX1_lacks 15 = .ok (.aload_n 0, 1) := by decide +kernel
theorem dX1_lacks_16 : decode cX1_lacks 16 = .ok (.getfield 44, 3) := by decide +kernel
theorem dX1_lacks_19 : decode cX1_lacks 19 = .ok (.bipush 6, 2) := by decide +kernel
theorem dX1_lacks_21 : decode cX1_lacks 21 = .ok (.iload_n 2, 1) := by decide +kernel
theorem dX1_lacks_22 : decode cX1_lacks 22 = .ok (.imul, 1) := by decide +kernel
theorem dX1_lacks_23 : decode cX1_lacks 23 = .ok (.iload 5, 2) := by decide +kernel
theorem dX1_lacks_25 : decode cX1_lacks 25 = .ok (.iadd, 1) := by decide +kernel
theorem dX1_lacks_26 : decode cX1_lacks 26 = .ok (.baload, 1) := by decide +kernel
theorem dX1_lacks_27 : decode cX1_lacks 27 = .ok (.ifCond .eq 23, 3) := by decide +kernel
theorem dX1_lacks_30 : decode cX1_lacks 30 = .ok (.aload_n 0, 1) := by decide +kernel
theorem dX1_lacks_31 : decode cX1_lacks 31 = .ok (.iload_n 1, 1) := by decide +kernel
theorem dX1_lacks_32 : decode cX1_lacks 32 = .ok (.iload 5, 2) := by decide +kernel
theorem dX1_lacks_34 : decode cX1_lacks 34 = .ok (.iload_n 2, 1) := by decide +kernel
theorem dX1_lacks_35 : decode cX1_lacks 35 = .ok (.iload_n 3, 1) := by decide +kernel
theorem dX1_lacks_36 : decode cX1_lacks 36 = .ok (.invokevirtual 107, 3) := by decide +kernel
theorem dX1_lacks_39 : decode cX1_lacks 39 = .ok (.iconst (-1), 1) := by decide +kernel
theorem dX1_lacks_40 : decode cX1_lacks 40 = .ok (.if_icmp .ne 10, 3) := by decide +kernel
theorem dX1_lacks_43 : decode cX1_lacks 43 = .ok (.iconst 1, 1) := by decide +kernel
theorem dX1_lacks_44 : decode cX1_lacks 44 = .ok (.iload 5, 2) := by decide +kernel
theorem dX1_lacks_46 : decode cX1_lacks 46 = .ok (.ishl, 1) := by decide +kernel
theorem dX1_lacks_47 : decode cX1_lacks 47 = .ok (.goto 4, 3) := by decide +kernel
theorem dX1_lacks_50 : decode cX1_lacks 50 = .ok (.iconst 0, 1) := by decide +kernel
theorem dX1_lacks_51 : decode cX1_lacks 51 = .ok (.ior, 1) := by decide +kernel
theorem dX1_lacks_52 : decode cX1_lacks 52 = .ok (.istore 4, 2) := by decide +kernel
theorem dX1_lacks_54 : decode cX1_lacks 54 = .ok (.iinc 5 1, 3) := by decide +kernel
theorem dX1_lacks_57 : decode cX1_lacks 57 = .ok (.goto (-51), 3) := by decide +kernel
theorem dX1_lacks_60 : decode cX1_lacks 60 = .ok (.iload 4, 2) := by decide +kernel
theorem dX1_lacks_62 : decode cX1_lacks 62 = .ok (.ireturn, 1) := by decide +kernel
set_option maxRecDepth 20000 in
theorem ggX1_missing_X1_isPlace : GoodIn wsX1_missing wsX1_isPlace := goodIn_r _ [5, 6, 7, 8, 4, 9, 10, 11, 12, 13, 14, 15, 16, 17, 50, 51, 52, 53, 54, 55, 56, 57, 58, 59, 60, 61, 62, 63, 64, 65, 66, 67] (by decide +kernel) (by decide +kernel)
set_option maxRecDepth 20000 in
theorem gX1_missing_X1_isPlace : GoodIn wsX1_missing (wsV RX1 103 RX1 yX1_isPlace wsX1_isPlace) := goodIn_app (goodIn_of _ (by decide +kernel)) ggX1_missing_X1_isPlace
set_option maxRecDepth 20000 in
theorem ggX1_missing_X1_fails : GoodIn wsX1_missing wsX1_fails := goodIn_r _ [21, 22, 50, 51, 52, 53, 54, 55, 56, 57, 58, 59, 60, 61, 62, 63, 64, 65, 66, 67] (by decide +kernel) (by decide +kernel)
set_option maxRecDepth 20000 in
theorem gX1_missing_X1_fails : GoodIn wsX1_missing (wsV RX1 73 RX1 yX1_fails wsX1_fails) := goodIn_app (goodIn_of _ (by decide +kernel)) ggX1_missing_X1_fails
set_option maxRecDepth 20000 in
theorem ggX1_missing_X1_lacks : GoodIn wsX1_missing wsX1_lacks := goodIn_r _ [26, 27, 28, 29, 30, 4, 31, 32, 33, 34, 35, 36, 37, 38, 39, 40, 41, 42, 43, 44, 45, 46, 47, 48, 49, 50, 51, 52, 53, 54, 55, 56, 57, 58, 59, 60, 61, 62, 63, 64, 65, 66, 67] (by decide +kernel) (by decide +kernel)
set_option maxRecDepth 20000 in
theorem gX1_missing_X1_lacks : GoodIn wsX1_missing (wsV RX1 110 RX1 yX1_lacks wsX1_lacks) := goodIn_app (goodIn_of _ (by decide +kernel)) ggX1_missing_X1_lacks
theorem dX1_missing_0 : decode cX1_missing 0 = .ok (.aload_n 0, 1) := by decide +kernel
theorem dX1_missing_1 : decode cX1_missing 1 = .ok (.aload_n 0, 1) := by decide +kernel
theorem dX1_missing_2 : decode cX1_missing 2 = .ok (.iload_n 1, 1) := by decide +kernel
theorem dX1_missing_3 : decode cX1_missing 3 = .ok (.iconst 0, 1) := by decide +kernel
theorem dX1_missing_4 : decode cX1_missing 4 = .ok (.iload_n 2, 1) := by decide +kernel
theorem dX1_missing_5 : decode cX1_missing 5 = .ok (.iload_n 3, 1) := by decide +kernel
theorem dX1_missing_6 : decode cX1_missing 6 = .ok (.invokevirtual 103, 3) := by decide +kernel
theorem dX1_missing_9 : decode cX1_missing 9 = .ok (.ifCond .eq 7, 3) := by decide +kernel
theorem dX1_missing_12 : decode cX1_missing 12 = .ok (.iconst 0, 1) := by decide +kernel
theorem dX1_missing_13 : decode cX1_missing 13 = .ok (.goto 4, 3) := by decide +kernel
theorem dX1_missing_16 : decode cX1_missing 16 = .ok (.iconst 1, 1) := by decide +kernel
theorem dX1_missing_17 : decode cX1_missing 17 = .ok (.invokevirtual 73, 3) := by decide +kernel
theorem dX1_missing_20 : decode cX1_missing 20 = .ok (.ifCond .eq 7, 3) := by decide +kernel
theorem dX1_missing_23 : decode cX1_missing 23 = .ok (.iconst 0, 1) := by decide +kernel
theorem dX1_missing_24 : decode cX1_missing 24 = .ok (.goto 10, 3) := by decide +kernel
theorem dX1_missing_27 : decode cX1_missing 27 = .ok (.aload_n 0, 1) := by decide +kernel
theorem dX1_missing_28 : decode cX1_missing 28 = .ok (.iload_n 1, 1) := by decide +kernel
theorem dX1_missing_29 : decode cX1_missing 29 = .ok (.iload_n 2, 1) := by decide +kernel
theorem dX1_missing_30 : decode cX1_missing 30 = .ok (.iload_n 3, 1) := by decide +kernel
theorem dX1_missing_31 : decode cX1_missing 31 = .ok (.invokevirtual 110, 3) := by decide +kernel
theorem dX1_missing_34 : decode cX1_missing 34 = .ok (.ireturn, 1) := by decide +kernel
set_option maxRecDepth 20000 in
theorem ggX1_complete_X1_isShop : GoodIn wsX1_complete wsX1_isShop := goodIn_r _ [6, 7, 8, 5, 9] (by decide +kernel) (by decide +kernel)
set_option maxRecDepth 20000 in
theorem gX1_complete_X1_isShop : GoodIn wsX1_complete (va_wsS RX1 100 yX1_isShop wsX1_isShop) := goodIn_app (goodIn_of _ (by decide +kernel)) ggX1_complete_X1_isShop
set_option maxRecDepth 20000 in
theorem ggX1_complete_X1_fails : GoodIn wsX1_complete wsX1_fails := goodIn_r _ [13, 14, 42, 43, 44, 45, 46, 47, 48, 49, 50, 51, 52, 53, 54, 55, 56, 57, 58, 59] (by decide +kernel) (by decide +kernel)
set_option maxRecDepth 20000 in
theorem gX1_complete_X1_fails : GoodIn wsX1_complete (wsV RX1 73 RX1 yX1_fails wsX1_fails) := goodIn_app (goodIn_of _ (by decide +kernel)) ggX1_complete_X1_fails
set_option maxRecDepth 20000 in
theorem ggX1_complete_X1_lacks : GoodIn wsX1_complete wsX1_lacks := goodIn_r _ [18, 19, 20, 21, 22, 5, 23, 24, 25, 26, 27, 28, 29, 30, 31, 32, 33, 34, 35, 36, 37, 38, 39, 40, 41, 42, 43, 44, 45, 46, 47, 48, 49, 50, 51, 52, 53, 54, 55, 56, 57, 58, 59] (by decide +kernel) (by decide +kernel)
set_option maxRecDepth 20000 in
theorem gX1_complete_X1_lacks : GoodIn wsX1_complete (wsV RX1 110 RX1 yX1_lacks wsX1_lacks) := goodIn_app (goodIn_of _ (by decide +kernel)) ggX1_complete_X1_lacks
theorem dX1_complete_0 : decode cX1_complete 0 = .ok (.aload_n 0, 1) := by decide +kernel
theorem dX1_complete_1 : decode cX1_complete 1 = .ok (.iload_n 1, 1) := by decide +kernel
theorem dX1_complete_2 : decode cX1_complete 2 = .ok (.invokestatic 100, 3) := by decide +kernel
theorem dX1_complete_5 : decode cX1_complete 5 = .ok (.ifCond .eq 7, 3) := by decide +kernel
theorem dX1_complete_8 : decode cX1_complete 8 = .ok (.iconst 0, 1) := by decide +kernel
theorem dX1_complete_9 : decode cX1_complete 9 = .ok (.goto 4, 3) := by decide +kernel
theorem dX1_complete_12 : decode cX1_complete 12 = .ok (.iconst 1, 1) := by decide +kernel
theorem dX1_complete_13 : decode cX1_complete 13 = .ok (.invokevirtual 73, 3) := by decide +kernel
theorem dX1_complete_16 : decode cX1_complete 16 = .ok (.ifCond .eq 5, 3) := by decide +kernel
theorem dX1_complete_19 : decode cX1_complete 19 = .ok (.iconst 0, 1) := by decide +kernel
theorem dX1_complete_20 : decode cX1_complete 20 = .ok (.ireturn, 1) := by decide +kernel
theorem dX1_complete_21 : decode cX1_complete 21 = .ok (.iconst 0, 1) := by decide +kernel
theorem dX1_complete_22 : decode cX1_complete 22 = .ok (.istore_n 2, 1) := by decide +kernel
theorem dX1_complete_23 : decode cX1_complete 23 = .ok (.iconst 0, 1) := by decide +kernel
theorem dX1_complete_24 : decode cX1_complete 24 = .ok (.istore_n 3, 1) := by decide +kernel
theorem dX1_complete_25 : decode cX1_complete 25 = .ok (.iload_n 3, 1) := by decide +kernel
theorem dX1_complete_26 : decode cX1_complete 26 = .ok (.aload_n 0, 1) := by decide +kernel
theorem dX1_complete_27 : decode cX1_complete 27 = .ok (.getfield 58, 3) := by decide +kernel
theorem dX1_complete_30 : decode cX1_complete 30 = .ok (.if_icmp .ge 71, 3) := by decide +kernel
theorem dX1_complete_33 : decode cX1_complete 33 = .ok (.iconst 0, 1) := by decide +kernel
theorem dX1_complete_34 : decode cX1_complete 34 = .ok (.istore 4, 2) := by decide +kernel
theorem dX1_complete_36 : decode cX1_complete 36 = .ok (.iconst 0, 1) := by decide +kernel
theorem dX1_complete_37 : decode cX1_complete 37 = .ok (.istore 5, 2) := by decide +kernel
theorem dX1_complete_39 : decode cX1_complete 39 = .ok (.iload 5, 2) := by decide +kernel
theorem dX1_complete_41 : decode cX1_complete 41 = .ok (.iconst 3, 1) := by decide +kernel
theorem dX1_complete_42 : decode cX1_complete 42 = .ok (.if_icmp .ge 31, 3) := by decide +kernel
theorem dX1_complete_45 : decode cX1_complete 45 = .ok (.aload_n 0, 1) := by decide +kernel
theorem dX1_complete_46 : decode cX1_complete 46 = .ok (.getfield 7, 3) := by decide +kernel
theorem dX1_complete_49 : decode cX1_complete 49 = .ok (.iload_n 3, 1) := by decide +kernel
theorem dX1_complete_50 : decode cX1_complete 50 = .ok (.baload, 1) := by decide +kernel
theorem dX1_complete_51 : decode cX1_complete 51 = .ok (.ifCond .eq 22, 3) := by decide +kernel
theorem dX1_complete_54 : decode cX1_complete 54 = .ok (.iload 4, 2) := by decide +kernel
theorem dX1_complete_56 : decode cX1_complete 56 = .ok (.aload_n 0, 1) := by decide +kernel
theorem dX1_complete_57 : decode cX1_complete 57 = .ok (.iload_n 3, 1) := by decide +kernel
theorem dX1_complete_58 : decode cX1_complete 58 = .ok (.iload_n 1, 1) := by decide +kernel
theorem dX1_complete_59 : decode cX1_complete 59 = .ok (.iload 5, 2) := by decide +kernel
theorem dX1_complete_61 : decode cX1_complete 61 = .ok (.invokevirtual 110, 3) := by decide +kernel
theorem dX1_complete_64 : decode cX1_complete 64 = .ok (.ior, 1) := by decide +kernel
theorem dX1_complete_65 : decode cX1_complete 65 = .ok (.istore 4, 2) := by decide +kernel
theorem dX1_complete_67 : decode cX1_complete 67 = .ok (.iinc 5 1, 3) := by decide +kernel
theorem dX1_complete_70 : decode cX1_complete 70 = .ok (.goto (-31), 3) := by decide +kernel
theorem dX1_complete_73 : decode cX1_complete 73 = .ok (.iload_n 2, 1) := by decide +kernel
theorem dX1_complete_74 : decode cX1_complete 74 = .ok (.aload_n 0, 1) := by decide +kernel
theorem dX1_complete_75 : decode cX1_complete 75 = .ok (.getfield 7, 3) := by decide +kernel
theorem dX1_complete_78 : decode cX1_complete 78 = .ok (.iload_n 3, 1) := by decide +kernel
theorem dX1_complete_79 : decode cX1_complete 79 = .ok (.baload, 1) := by decide +kernel
theorem dX1_complete_80 : decode cX1_complete 80 = .ok (.ifCond .eq 12, 3) := by decide +kernel
theorem dX1_complete_83 : decode cX1_complete 83 = .ok (.iload 4, 2) := by decide +kernel
theorem dX1_complete_85 : decode cX1_complete 85 = .ok (.ifCond .ne 7, 3) := by decide +kernel
theorem dX1_complete_88 : decode cX1_complete 88 = .ok (.iconst 1, 1) := by decide +kernel
theorem dX1_complete_89 : decode cX1_complete 89 = .ok (.goto 4, 3) := by decide +kernel
theorem dX1_complete_92 : decode cX1_complete 92 = .ok (.iconst 0, 1) := by decide +kernel
theorem dX1_complete_93 : decode cX1_complete 93 = .ok (.iadd, 1) := by decide +kernel
theorem dX1_complete_94 : decode cX1_complete 94 = .ok (.istore_n 2, 1) := by decide +kernel
theorem dX1_complete_95 : decode cX1_complete 95 = .ok (.iinc 3 1, 3) := by decide +kernel
theorem dX1_complete_98 : decode cX1_complete 98 = .ok (.goto (-73), 3) := by decide +kernel
theorem dX1_complete_101 : decode cX1_complete 101 = .ok (.iload_n 2, 1) := by decide +kernel
theorem dX1_complete_102 : decode cX1_complete 102 = .ok (.ireturn, 1) := by decide +kernel
theorem dX1_bundle_0 : decode cX1_bundle 0 = .ok (.lconst 0, 1) := by decide +kernel
theorem dX1_bundle_1 : decode cX1_bundle 1 = .ok (.lstore_n 2, 1) := by decide +kernel
theorem dX1_bundle_2 : decode cX1_bundle 2 = .ok (.iconst 0, 1) := by decide +kernel
theorem dX1_bundle_3 : decode cX1_bundle 3 = .ok (.istore 4, 2) := by decide +kernel
theorem dX1_bundle_5 : decode cX1_bundle 5 = .ok (.iconst 1, 1) := by decide +kernel
theorem dX1_bundle_6 : decode cX1_bundle 6 = .ok (.istore 5, 2) := by decide +kernel
theorem dX1_bundle_8 : decode cX1_bundle 8 = .ok (.iconst 0, 1) := by decide +kernel
theorem dX1_bundle_9 : decode cX1_bundle 9 = .ok (.istore 6, 2) := by decide +kernel
theorem dX1_bundle_11 : decode cX1_bundle 11 = .ok (.iload 6, 2) := by decide +kernel
theorem dX1_bundle_13 : decode cX1_bundle 13 = .ok (.iload_n 1, 1) := by decide +kernel
theorem dX1_bundle_14 : decode cX1_bundle 14 = .ok (.if_icmp .ge 99, 3) := by decide +kernel
theorem dX1_bundle_17 : decode cX1_bundle 17 = .ok (.aload_n 0, 1) := by decide +kernel
theorem dX1_bundle_18 : decode cX1_bundle 18 = .ok (.getfield 20, 3) := by decide +kernel
theorem dX1_bundle_21 : decode cX1_bundle 21 = .ok (.bipush 16, 2) := by decide +kernel
theorem dX1_bundle_23 : decode cX1_bundle 23 = .ok (.iload_n 1, 1) := by decide +kernel
theorem dX1_bundle_24 : decode cX1_bundle 24 = .ok (.imul, 1) := by decide +kernel
theorem dX1_bundle_25 : decode cX1_bundle 25 = .ok (.iload 6, 2) := by decide +kernel
theorem dX1_bundle_27 : decode cX1_bundle 27 = .ok (.iadd, 1) := by decide +kernel
theorem dX1_bundle_28 : decode cX1_bundle 28 = .ok (.iaload, 1) := by decide +kernel
theorem dX1_bundle_29 : decode cX1_bundle 29 = .ok (.istore 7, 2) := by decide +kernel
theorem dX1_bundle_31 : decode cX1_bundle 31 = .ok (.iload 4, 2) := by decide +kernel
theorem dX1_bundle_33 : decode cX1_bundle 33 = .ok (.ifCond .ne 8, 3) := by decide +kernel
theorem dX1_bundle_36 : decode cX1_bundle 36 = .ok (.iload 7, 2) := by decide +kernel
theorem dX1_bundle_38 : decode cX1_bundle 38 = .ok (.ifCond .le 7, 3) := by decide +kernel
theorem dX1_bundle_41 : decode cX1_bundle 41 = .ok (.iconst 1, 1) := by decide +kernel
theorem dX1_bundle_42 : decode cX1_bundle 42 = .ok (.goto 4, 3) := by decide +kernel
theorem dX1_bundle_45 : decode cX1_bundle 45 = .ok (.iconst 0, 1) := by decide +kernel
theorem dX1_bundle_46 : decode cX1_bundle 46 = .ok (.istore 4, 2) := by decide +kernel
theorem dX1_bundle_48 : decode cX1_bundle 48 = .ok (.iload 5, 2) := by decide +kernel
theorem dX1_bundle_50 : decode cX1_bundle 50 = .ok (.ifCond .eq 26, 3) := by decide +kernel
theorem dX1_bundle_53 : decode cX1_bundle 53 = .ok (.iload 7, 2) := by decide +kernel
theorem dX1_bundle_55 : decode cX1_bundle 55 = .ok (.ifCond .eq 17, 3) := by decide +kernel
theorem dX1_bundle_58 : decode cX1_bundle 58 = .ok (.aload_n 0, 1) := by decide +kernel
theorem dX1_bundle_59 : decode cX1_bundle 59 = .ok (.getfield 50, 3) := by decide +kernel
theorem dX1_bundle_62 : decode cX1_bundle 62 = .ok (.iload 6, 2) := by decide +kernel
theorem dX1_bundle_64 : decode cX1_bundle 64 = .ok (.laload, 1) := by decide +kernel
theorem dX1_bundle_65 : decode cX1_bundle 65 = .ok (.ldc2_w 114, 3) := by decide +kernel
theorem dX1_bundle_68 : decode cX1_bundle 68 = .ok (.lcmp, 1) := by decide +kernel
theorem dX1_bundle_69 : decode cX1_bundle 69 = .ok (.ifCond .eq 7, 3) := by decide +kernel
theorem dX1_bundle_72 : decode cX1_bundle 72 = .ok (.iconst 1, 1) := by decide +kernel
theorem dX1_bundle_73 : decode cX1_bundle 73 = .ok (.goto 4, 3) := by decide +kernel
theorem dX1_bundle_76 : decode cX1_bundle 76 = .ok (.iconst 0, 1) := by decide +kernel
theorem dX1_bundle_77 : decode cX1_bundle 77 = .ok (.istore 5, 2) := by decide +kernel
theorem dX1_bundle_79 : decode cX1_bundle 79 = .ok (.lload_n 2, 1) := by decide +kernel
theorem dX1_bundle_80 : decode cX1_bundle 80 = .ok (.iload 7, 2) := by decide +kernel
theorem dX1_bundle_82 : decode cX1_bundle 82 = .ok (.ifCond .le 22, 3) := by decide +kernel
theorem dX1_bundle_85 : decode cX1_bundle 85 = .ok (.iload 5, 2) := by decide +kernel
theorem dX1_bundle_87 : decode cX1_bundle 87 = .ok (.ifCond .eq 17, 3) := by decide +kernel
theorem dX1_bundle_90 : decode cX1_bundle 90 = .ok (.iload 7, 2) := by decide +kernel
theorem dX1_bundle_92 : decode cX1_bundle 92 = .ok (.i2l, 1) := by decide +kernel
theorem dX1_bundle_93 : decode cX1_bundle 93 = .ok (.aload_n 0, 1) := by decide +kernel
theorem dX1_bundle_94 : decode cX1_bundle 94 = .ok (.getfield 50, 3) := by decide +kernel
theorem dX1_bundle_97 : decode cX1_bundle 97 = .ok (.iload 6, 2) := by decide +kernel
theorem dX1_bundle_99 : decode cX1_bundle 99 = .ok (.laload, 1) := by decide +kernel
theorem dX1_bundle_100 : decode cX1_bundle 100 = .ok (.lmul, 1) := by decide +kernel
theorem dX1_bundle_101 : decode cX1_bundle 101 = .ok (.goto 4, 3) := by decide +kernel
theorem dX1_bundle_104 : decode cX1_bundle 104 = .ok (.lconst 0, 1) := by decide +kernel
theorem dX1_bundle_105 : decode cX1_bundle 105 = .ok (.ladd, 1) := by decide +kernel
theorem dX1_bundle_106 : decode cX1_bundle 106 = .ok (.lstore_n 2, 1) := by decide +kernel
theorem dX1_bundle_107 : decode cX1_bundle 107 = .ok (.iinc 6 1, 3) := by decide +kernel
theorem dX1_bundle_110 : decode cX1_bundle 110 = .ok (.goto (-99), 3) := by decide +kernel
theorem dX1_bundle_113 : decode cX1_bundle 113 = .ok (.lload_n 2, 1) := by decide +kernel
theorem dX1_bundle_114 : decode cX1_bundle 114 = .ok (.bipush 100, 2) := by decide +kernel
theorem dX1_bundle_116 : decode cX1_bundle 116 = .ok (.aload_n 0, 1) := by decide +kernel
theorem dX1_bundle_117 : decode cX1_bundle 117 = .ok (.getfield 17, 3) := by decide +kernel
theorem dX1_bundle_120 : decode cX1_bundle 120 = .ok (.iload_n 1, 1) := by decide +kernel
theorem dX1_bundle_121 : decode cX1_bundle 121 = .ok (.iaload, 1) := by decide +kernel
theorem dX1_bundle_122 : decode cX1_bundle 122 = .ok (.isub, 1) := by decide +kernel
theorem dX1_bundle_123 : decode cX1_bundle 123 = .ok (.i2l, 1) := by decide +kernel
theorem dX1_bundle_124 : decode cX1_bundle 124 = .ok (.lmul, 1) := by decide +kernel
theorem dX1_bundle_125 : decode cX1_bundle 125 = .ok (.ldc2_w 116, 3) := by decide +kernel
theorem dX1_bundle_128 : decode cX1_bundle 128 = .ok (.ldiv, 1) := by decide +kernel
theorem dX1_bundle_129 : decode cX1_bundle 129 = .ok (.lstore 6, 2) := by decide +kernel
theorem dX1_bundle_131 : decode cX1_bundle 131 = .ok (.iload 4, 2) := by decide +kernel
theorem dX1_bundle_133 : decode cX1_bundle 133 = .ok (.ifCond .eq 22, 3) := by decide +kernel
theorem dX1_bundle_136 : decode cX1_bundle 136 = .ok (.iload 5, 2) := by decide +kernel
theorem dX1_bundle_138 : decode cX1_bundle 138 = .ok (.ifCond .eq 17, 3) := by decide +kernel
theorem dX1_bundle_141 : decode cX1_bundle 141 = .ok (.lload 6, 2) := by decide +kernel
theorem dX1_bundle_143 : decode cX1_bundle 143 = .ok (.ldc2_w 118, 3) := by decide +kernel
theorem dX1_bundle_146 : decode cX1_bundle 146 = .ok (.lcmp, 1) := by decide +kernel
theorem dX1_bundle_147 : decode cX1_bundle 147 = .ok (.ifCond .gt 8, 3) := by decide +kernel
theorem dX1_bundle_150 : decode cX1_bundle 150 = .ok (.lload 6, 2) := by decide +kernel
theorem dX1_bundle_152 : decode cX1_bundle 152 = .ok (.goto 6, 3) := by decide +kernel
theorem dX1_bundle_155 : decode cX1_bundle 155 = .ok (.ldc2_w 114, 3) := by decide +kernel
theorem dX1_bundle_158 : decode cX1_bundle 158 = .ok (.lreturn, 1) := by decide +kernel
set_option maxRecDepth 20000 in
theorem ggX1_price_X1_isGood : GoodIn wsX1_price wsX1_isGood := goodIn_r _ [8, 9, 1, 10, 11, 7, 12, 51, 52, 53, 54, 55, 56, 57, 58, 59, 60, 61, 62, 63, 64, 65, 66, 67, 68] (by decide +kernel) (by decide +kernel)
set_option maxRecDepth 20000 in
theorem gX1_price_X1_isGood : GoodIn wsX1_price (wsV RX1 65 RX1 yX1_isGood wsX1_isGood) := goodIn_app (goodIn_of _ (by decide +kernel)) ggX1_price_X1_isGood
set_option maxRecDepth 20000 in
theorem ggX1_price_X1_isShop : GoodIn wsX1_price wsX1_isShop := goodIn_r _ [15, 10, 11, 7, 12] (by decide +kernel) (by decide +kernel)
set_option maxRecDepth 20000 in
theorem gX1_price_X1_isShop : GoodIn wsX1_price (va_wsS RX1 100 yX1_isShop wsX1_isShop) := goodIn_app (goodIn_of _ (by decide +kernel)) ggX1_price_X1_isShop
set_option maxRecDepth 20000 in
theorem ggX1_price_X1_valueOf : GoodIn wsX1_price wsX1_valueOf := goodIn_r _ [19, 20, 21, 22, 23, 7, 24, 25, 26, 27, 28, 29, 30, 31, 32, 33, 34, 35, 36, 37, 51, 52, 53, 54, 55, 56, 57, 58, 59, 60, 61, 62, 63, 64, 65, 66, 67, 68] (by decide +kernel) (by decide +kernel)
set_option maxRecDepth 20000 in
theorem gX1_price_X1_valueOf : GoodIn wsX1_price (wsV RX1 107 RX1 yX1_valueOf wsX1_valueOf) := goodIn_app (goodIn_of _ (by decide +kernel)) ggX1_price_X1_valueOf
set_option maxRecDepth 20000 in
theorem ggX1_price_X1_bundle : GoodIn wsX1_price wsX1_bundle := goodIn_r _ [41, 42, 2, 3, 43, 44, 45, 51, 52, 53, 54, 55, 56, 57, 58, 59, 60, 61, 62, 63, 64, 65, 66, 67, 68] (by decide +kernel) (by decide +kernel)
set_option maxRecDepth 20000 in
theorem gX1_price_X1_bundle : GoodIn wsX1_price (wsV RX1 120 RX1 yX1_bundle wsX1_bundle) := goodIn_app (goodIn_of _ (by decide +kernel)) ggX1_price_X1_bundle
set_option maxRecDepth 20000 in
theorem ggX1_price_X1_fails : GoodIn wsX1_price wsX1_fails := goodIn_r _ [49, 50, 51, 52, 53, 54, 55, 56, 57, 58, 59, 60, 61, 62, 63, 64, 65, 66, 67, 68] (by decide +kernel) (by decide +kernel)
set_option maxRecDepth 20000 in
theorem gX1_price_X1_fails : GoodIn wsX1_price (wsV RX1 73 RX1 yX1_fails wsX1_fails) := goodIn_app (goodIn_of _ (by decide +kernel)) ggX1_price_X1_fails
theorem dX1_price_0 : decode cX1_price 0 = .ok (.aload_n 0, 1) := by decide +kernel
theorem dX1_price_1 : decode cX1_price 1 = .ok (.iload_n 1, 1) := by decide +kernel
theorem dX1_price_2 : decode cX1_price 2 = .ok (.invokevirtual 65, 3) := by decide +kernel
theorem dX1_price_5 : decode cX1_price 5 = .ok (.ifCond .eq 14, 3) := by decide +kernel
theorem dX1_price_8 : decode cX1_price 8 = .ok (.iload_n 2, 1) := by decide +kernel
theorem dX1_price_9 : decode cX1_price 9 = .ok (.invokestatic 100, 3) := by decide +kernel
theorem dX1_price_12 : decode cX1_price 12 = .ok (.ifCond .eq 7, 3) := by decide +kernel
theorem dX1_price_15 : decode cX1_price 15 = .ok (.iconst 1, 1) := by decide +kernel
theorem dX1_price_16 : decode cX1_price 16 = .ok (.goto 4, 3) := by decide +kernel
theorem dX1_price_19 : decode cX1_price 19 = .ok (.iconst 0, 1) := by decide +kernel
theorem dX1_price_20 : decode cX1_price 20 = .ok (.istore_n 3, 1) := by decide +kernel
theorem dX1_price_21 : decode cX1_price 21 = .ok (.iconst 0, 1) := by decide +kernel
theorem dX1_price_22 : decode cX1_price 22 = .ok (.istore 4, 2) := by decide +kernel
theorem dX1_price_24 : decode cX1_price 24 = .ok (.iload_n 3, 1) := by decide +kernel
theorem dX1_price_25 : decode cX1_price 25 = .ok (.ifCond .eq 65, 3) := by decide +kernel
theorem dX1_price_28 : decode cX1_price 28 = .ok (.iload 4, 2) := by decide +kernel
theorem dX1_price_30 : decode cX1_price 30 = .ok (.iload_n 1, 1) := by decide +kernel
theorem dX1_price_31 : decode cX1_price 31 = .ok (.if_icmp .gt 59, 3) := by decide +kernel
theorem dX1_price_34 : decode cX1_price 34 = .ok (.aload_n 0, 1) := by decide +kernel
theorem dX1_price_35 : decode cX1_price 35 = .ok (.getfield 7, 3) := by decide +kernel
theorem dX1_price_38 : decode cX1_price 38 = .ok (.iload 4, 2) := by decide +kernel
theorem dX1_price_40 : decode cX1_price 40 = .ok (.baload, 1) := by decide +kernel
theorem dX1_price_41 : decode cX1_price 41 = .ok (.ifCond .eq 15, 3) := by decide +kernel
theorem dX1_price_44 : decode cX1_price 44 = .ok (.aload_n 0, 1) := by decide +kernel
theorem dX1_price_45 : decode cX1_price 45 = .ok (.iload 4, 2) := by decide +kernel
theorem dX1_price_47 : decode cX1_price 47 = .ok (.iconst 0, 1) := by decide +kernel
theorem dX1_price_48 : decode cX1_price 48 = .ok (.iload_n 2, 1) := by decide +kernel
theorem dX1_price_49 : decode cX1_price 49 = .ok (.iconst 0, 1) := by decide +kernel
theorem dX1_price_50 : decode cX1_price 50 = .ok (.invokevirtual 107, 3) := by decide +kernel
theorem dX1_price_53 : decode cX1_price 53 = .ok (.goto 4, 3) := by decide +kernel
theorem dX1_price_56 : decode cX1_price 56 = .ok (.iconst (-1), 1) := by decide +kernel
theorem dX1_price_57 : decode cX1_price 57 = .ok (.istore 5, 2) := by decide +kernel
theorem dX1_price_59 : decode cX1_price 59 = .ok (.aload_n 0, 1) := by decide +kernel
theorem dX1_price_60 : decode cX1_price 60 = .ok (.getfield 50, 3) := by decide +kernel
theorem dX1_price_63 : decode cX1_price 63 = .ok (.iload 4, 2) := by decide +kernel
theorem dX1_price_65 : decode cX1_price 65 = .ok (.iload 5, 2) := by decide +kernel
theorem dX1_price_67 : decode cX1_price 67 = .ok (.iconst (-1), 1) := by decide +kernel
theorem dX1_price_68 : decode cX1_price 68 = .ok (.if_icmp .ne 12, 3) := by decide +kernel
theorem dX1_price_71 : decode cX1_price 71 = .ok (.aload_n 0, 1) := by decide +kernel
theorem dX1_price_72 : decode cX1_price 72 = .ok (.iload 4, 2) := by decide +kernel
theorem dX1_price_74 : decode cX1_price 74 = .ok (.invokevirtual 120, 3) := by decide +kernel
theorem dX1_price_77 : decode cX1_price 77 = .ok (.goto 6, 3) := by decide +kernel
theorem dX1_price_80 : decode cX1_price 80 = .ok (.iload 5, 2) := by decide +kernel
theorem dX1_price_82 : decode cX1_price 82 = .ok (.i2l, 1) := by decide +kernel
theorem dX1_price_83 : decode cX1_price 83 = .ok (.lastore, 1) := by decide +kernel
theorem dX1_price_84 : decode cX1_price 84 = .ok (.iinc 4 1, 3) := by decide +kernel
theorem dX1_price_87 : decode cX1_price 87 = .ok (.goto (-63), 3) := by decide +kernel
theorem dX1_price_90 : decode cX1_price 90 = .ok (.aload_n 0, 1) := by decide +kernel
theorem dX1_price_91 : decode cX1_price 91 = .ok (.iload_n 3, 1) := by decide +kernel
theorem dX1_price_92 : decode cX1_price 92 = .ok (.ifCond .ne 7, 3) := by decide +kernel
theorem dX1_price_95 : decode cX1_price 95 = .ok (.iconst 1, 1) := by decide +kernel
theorem dX1_price_96 : decode cX1_price 96 = .ok (.goto 21, 3) := by decide +kernel
theorem dX1_price_99 : decode cX1_price 99 = .ok (.aload_n 0, 1) := by decide +kernel
theorem dX1_price_100 : decode cX1_price 100 = .ok (.getfield 50, 3) := by decide +kernel
theorem dX1_price_103 : decode cX1_price 103 = .ok (.iload_n 1, 1) := by decide +kernel
theorem dX1_price_104 : decode cX1_price 104 = .ok (.laload, 1) := by decide +kernel
theorem dX1_price_105 : decode cX1_price 105 = .ok (.ldc2_w 114, 3) := by decide +kernel
theorem dX1_price_108 : decode cX1_price 108 = .ok (.lcmp, 1) := by decide +kernel
theorem dX1_price_109 : decode cX1_price 109 = .ok (.ifCond .ne 7, 3) := by decide +kernel
theorem dX1_price_112 : decode cX1_price 112 = .ok (.iconst 2, 1) := by decide +kernel
theorem dX1_price_113 : decode cX1_price 113 = .ok (.goto 4, 3) := by decide +kernel
theorem dX1_price_116 : decode cX1_price 116 = .ok (.iconst 0, 1) := by decide +kernel
theorem dX1_price_117 : decode cX1_price 117 = .ok (.invokevirtual 73, 3) := by decide +kernel
theorem dX1_price_120 : decode cX1_price 120 = .ok (.ifCond .eq 7, 3) := by decide +kernel
theorem dX1_price_123 : decode cX1_price 123 = .ok (.iconst 0, 1) := by decide +kernel
theorem dX1_price_124 : decode cX1_price 124 = .ok (.goto 10, 3) := by decide +kernel
theorem dX1_price_127 : decode cX1_price 127 = .ok (.aload_n 0, 1) := by decide +kernel
theorem dX1_price_128 : decode cX1_price 128 = .ok (.getfield 50, 3) := by decide +kernel
theorem dX1_price_131 : decode cX1_price 131 = .ok (.iload_n 1, 1) := by decide +kernel
theorem dX1_price_132 : decode cX1_price 132 = .ok (.laload, 1) := by decide +kernel
theorem dX1_price_133 : decode cX1_price 133 = .ok (.l2i, 1) := by decide +kernel
theorem dX1_price_134 : decode cX1_price 134 = .ok (.ireturn, 1) := by decide +kernel
theorem dX1_place_0 : decode cX1_place 0 = .ok (.iconst 3, 1) := by decide +kernel
theorem dX1_place_1 : decode cX1_place 1 = .ok (.bipush 6, 2) := by decide +kernel
theorem dX1_place_3 : decode cX1_place 3 = .ok (.bipush 16, 2) := by decide +kernel
theorem dX1_place_5 : decode cX1_place 5 = .ok (.iload_n 0, 1) := by decide +kernel
theorem dX1_place_6 : decode cX1_place 6 = .ok (.imul, 1) := by decide +kernel
theorem dX1_place_7 : decode cX1_place 7 = .ok (.iload_n 1, 1) := by decide +kernel
theorem dX1_place_8 : decode cX1_place 8 = .ok (.iadd, 1) := by decide +kernel
theorem dX1_place_9 : decode cX1_place 9 = .ok (.imul, 1) := by decide +kernel
theorem dX1_place_10 : decode cX1_place 10 = .ok (.iload_n 2, 1) := by decide +kernel
theorem dX1_place_11 : decode cX1_place 11 = .ok (.iadd, 1) := by decide +kernel
theorem dX1_place_12 : decode cX1_place 12 = .ok (.imul, 1) := by decide +kernel
theorem dX1_place_13 : decode cX1_place 13 = .ok (.iload_n 3, 1) := by decide +kernel
theorem dX1_place_14 : decode cX1_place 14 = .ok (.iadd, 1) := by decide +kernel
theorem dX1_place_15 : decode cX1_place 15 = .ok (.ireturn, 1) := by decide +kernel
set_option maxRecDepth 20000 in
theorem ggX1_sees_X1_valueOf : GoodIn wsX1_sees wsX1_valueOf := goodIn_r _ [6, 7, 8, 9, 10, 5, 11, 12, 13, 14, 15, 16, 17, 18, 19, 20, 21, 22, 23, 24, 25, 26, 27, 28, 29, 30, 31, 32, 33, 34, 35, 36, 37, 38, 39, 40, 41, 42] (by decide +kernel) (by decide +kernel)
set_option maxRecDepth 20000 in
theorem gX1_sees_X1_valueOf : GoodIn wsX1_sees (wsV RX1 107 RX1 yX1_valueOf wsX1_valueOf) := goodIn_app (goodIn_of _ (by decide +kernel)) ggX1_sees_X1_valueOf
theorem dX1_sees_0 : decode cX1_sees 0 = .ok (.aload_n 0, 1) := by decide +kernel
theorem dX1_sees_1 : decode cX1_sees 1 = .ok (.getfield 7, 3) := by decide +kernel
theorem dX1_sees_4 : decode cX1_sees 4 = .ok (.iload_n 2, 1) := by decide +kernel
theorem dX1_sees_5 : decode cX1_sees 5 = .ok (.baload, 1) := by decide +kernel
theorem dX1_sees_6 : decode cX1_sees 6 = .ok (.ifCond .eq 15, 3) := by decide +kernel
theorem dX1_sees_9 : decode cX1_sees 9 = .ok (.aload_n 0, 1) := by decide +kernel
theorem dX1_sees_10 : decode cX1_sees 10 = .ok (.iload_n 2, 1) := by decide +kernel
theorem dX1_sees_11 : decode cX1_sees 11 = .ok (.iload_n 3, 1) := by decide +kernel
theorem dX1_sees_12 : decode cX1_sees 12 = .ok (.iload_n 1, 1) := by decide +kernel
theorem dX1_sees_13 : decode cX1_sees 13 = .ok (.iload 4, 2) := by decide +kernel
theorem dX1_sees_15 : decode cX1_sees 15 = .ok (.invokevirtual 107, 3) := by decide +kernel
theorem dX1_sees_18 : decode cX1_sees 18 = .ok (.goto 4, 3) := by decide +kernel
theorem dX1_sees_21 : decode cX1_sees 21 = .ok (.iconst (-1), 1) := by decide +kernel
theorem dX1_sees_22 : decode cX1_sees 22 = .ok (.ireturn, 1) := by decide +kernel
set_option maxRecDepth 20000 in
theorem ggX1_differs_X1_place : GoodIn wsX1_differs wsX1_place := goodIn_r _ [6] (by decide +kernel) (by decide +kernel)
set_option maxRecDepth 20000 in
theorem gX1_differs_X1_place : GoodIn wsX1_differs (va_wsS RX1 124 yX1_place wsX1_place) := goodIn_app (goodIn_of _ (by decide +kernel)) ggX1_differs_X1_place
set_option maxRecDepth 20000 in
theorem ggX1_differs_X1_sees : GoodIn wsX1_differs wsX1_sees := goodIn_r _ [10, 11, 12, 13, 14, 5, 15, 16, 17, 18, 19, 20, 21, 22, 23, 24, 25, 26, 27, 28, 29, 30, 31, 32, 33, 34, 35, 36, 37, 38, 39, 40, 41, 42, 43, 44, 45, 46, 47, 48, 49, 50, 51] (by decide +kernel) (by decide +kernel)
set_option maxRecDepth 20000 in
theorem gX1_differs_X1_sees : GoodIn wsX1_differs (wsV RX1 127 RX1 yX1_sees wsX1_sees) := goodIn_app (goodIn_of _ (by decide +kernel)) ggX1_differs_X1_sees
theorem dX1_differs_0 : decode cX1_differs 0 = .ok (.iconst 0, 1) := by decide +kernel
theorem dX1_differs_1 : decode cX1_differs 1 = .ok (.istore_n 2, 1) := by decide +kernel
theorem dX1_differs_2 : decode cX1_differs 2 = .ok (.iconst 0, 1) := by decide +kernel
theorem dX1_differs_3 : decode cX1_differs 3 = .ok (.istore_n 3, 1) := by decide +kernel
theorem dX1_differs_4 : decode cX1_differs 4 = .ok (.iload_n 3, 1) := by decide +kernel
theorem dX1_differs_5 : decode cX1_differs 5 = .ok (.aload_n 0, 1) := by decide +kernel
theorem dX1_differs_6 : decode cX1_differs 6 = .ok (.getfield 58, 3) := by decide +kernel
theorem dX1_differs_9 : decode cX1_differs 9 = .ok (.if_icmp .ge 74, 3) := by decide +kernel
theorem dX1_differs_12 : decode cX1_differs 12 = .ok (.iconst 0, 1) := by decide +kernel
theorem dX1_differs_13 : decode cX1_differs 13 = .ok (.istore 4, 2) := by decide +kernel
theorem dX1_differs_15 : decode cX1_differs 15 = .ok (.iload 4, 2) := by decide +kernel
theorem dX1_differs_17 : decode cX1_differs 17 = .ok (.bipush 18, 2) := by decide +kernel
theorem dX1_differs_19 : decode cX1_differs 19 = .ok (.if_icmp .ge 58, 3) := by decide +kernel
theorem dX1_differs_22 : decode cX1_differs 22 = .ok (.aload_n 0, 1) := by decide +kernel
theorem dX1_differs_23 : decode cX1_differs 23 = .ok (.getfield 47, 3) := by decide +kernel
theorem dX1_differs_26 : decode cX1_differs 26 = .ok (.iload_n 1, 1) := by decide +kernel
theorem dX1_differs_27 : decode cX1_differs 27 = .ok (.iload_n 3, 1) := by decide +kernel
theorem dX1_differs_28 : decode cX1_differs 28 = .ok (.iload 4, 2) := by decide +kernel
theorem dX1_differs_30 : decode cX1_differs 30 = .ok (.iconst 3, 1) := by decide +kernel
theorem dX1_differs_31 : decode cX1_differs 31 = .ok (.idiv, 1) := by decide +kernel
theorem dX1_differs_32 : decode cX1_differs 32 = .ok (.iload 4, 2) := by decide +kernel
theorem dX1_differs_34 : decode cX1_differs 34 = .ok (.iconst 3, 1) := by decide +kernel
theorem dX1_differs_35 : decode cX1_differs 35 = .ok (.irem, 1) := by decide +kernel
theorem dX1_differs_36 : decode cX1_differs 36 = .ok (.invokestatic 124, 3) := by decide +kernel
theorem dX1_differs_39 : decode cX1_differs 39 = .ok (.iaload, 1) := by decide +kernel
theorem dX1_differs_40 : decode cX1_differs 40 = .ok (.istore 5, 2) := by decide +kernel
theorem dX1_differs_42 : decode cX1_differs 42 = .ok (.iload_n 2, 1) := by decide +kernel
theorem dX1_differs_43 : decode cX1_differs 43 = .ok (.iload 5, 2) := by decide +kernel
theorem dX1_differs_45 : decode cX1_differs 45 = .ok (.aload_n 0, 1) := by decide +kernel
theorem dX1_differs_46 : decode cX1_differs 46 = .ok (.iload_n 1, 1) := by decide +kernel
theorem dX1_differs_47 : decode cX1_differs 47 = .ok (.iload_n 3, 1) := by decide +kernel
theorem dX1_differs_48 : decode cX1_differs 48 = .ok (.iload 4, 2) := by decide +kernel
theorem dX1_differs_50 : decode cX1_differs 50 = .ok (.iconst 3, 1) := by decide +kernel
theorem dX1_differs_51 : decode cX1_differs 51 = .ok (.idiv, 1) := by decide +kernel
theorem dX1_differs_52 : decode cX1_differs 52 = .ok (.iload 4, 2) := by decide +kernel
theorem dX1_differs_54 : decode cX1_differs 54 = .ok (.iconst 3, 1) := by decide +kernel
theorem dX1_differs_55 : decode cX1_differs 55 = .ok (.irem, 1) := by decide +kernel
theorem dX1_differs_56 : decode cX1_differs 56 = .ok (.invokevirtual 127, 3) := by decide +kernel
theorem dX1_differs_59 : decode cX1_differs 59 = .ok (.if_icmp .ne 7, 3) := by decide +kernel
theorem dX1_differs_62 : decode cX1_differs 62 = .ok (.iconst 0, 1) := by decide +kernel
theorem dX1_differs_63 : decode cX1_differs 63 = .ok (.goto 6, 3) := by decide +kernel
theorem dX1_differs_66 : decode cX1_differs 66 = .ok (.iconst 1, 1) := by decide +kernel
theorem dX1_differs_67 : decode cX1_differs 67 = .ok (.iload_n 3, 1) := by decide +kernel
theorem dX1_differs_68 : decode cX1_differs 68 = .ok (.ishl, 1) := by decide +kernel
theorem dX1_differs_69 : decode cX1_differs 69 = .ok (.ior, 1) := by decide +kernel
theorem dX1_differs_70 : decode cX1_differs 70 = .ok (.istore_n 2, 1) := by decide +kernel
theorem dX1_differs_71 : decode cX1_differs 71 = .ok (.iinc 4 1, 3) := by decide +kernel
theorem dX1_differs_74 : decode cX1_differs 74 = .ok (.goto (-59), 3) := by decide +kernel
theorem dX1_differs_77 : decode cX1_differs 77 = .ok (.iinc 3 1, 3) := by decide +kernel
theorem dX1_differs_80 : decode cX1_differs 80 = .ok (.goto (-76), 3) := by decide +kernel
theorem dX1_differs_83 : decode cX1_differs 83 = .ok (.iload_n 2, 1) := by decide +kernel
theorem dX1_differs_84 : decode cX1_differs 84 = .ok (.ireturn, 1) := by decide +kernel
set_option maxRecDepth 20000 in
theorem ggX1_changed_X1_isShop : GoodIn wsX1_changed wsX1_isShop := goodIn_r _ [4, 5, 6, 3, 7] (by decide +kernel) (by decide +kernel)
set_option maxRecDepth 20000 in
theorem gX1_changed_X1_isShop : GoodIn wsX1_changed (va_wsS RX1 100 yX1_isShop wsX1_isShop) := goodIn_app (goodIn_of _ (by decide +kernel)) ggX1_changed_X1_isShop
set_option maxRecDepth 20000 in
theorem ggX1_changed_X1_fails : GoodIn wsX1_changed wsX1_fails := goodIn_r _ [11, 12, 49, 50, 51, 52, 53, 54, 55, 56, 57, 58, 59, 60, 61, 62, 63, 64, 65, 66] (by decide +kernel) (by decide +kernel)
set_option maxRecDepth 20000 in
theorem gX1_changed_X1_fails : GoodIn wsX1_changed (wsV RX1 73 RX1 yX1_fails wsX1_fails) := goodIn_app (goodIn_of _ (by decide +kernel)) ggX1_changed_X1_fails
set_option maxRecDepth 20000 in
theorem ggX1_changed_X1_differs : GoodIn wsX1_changed wsX1_differs := goodIn_r _ [16, 17, 18, 19, 20, 3, 21, 22, 23, 24, 25, 26, 27, 28, 29, 30, 31, 32, 33, 34, 35, 36, 37, 38, 39, 40, 41, 42, 43, 44, 45, 46, 47, 48, 49, 50, 51, 52, 53, 54, 55, 56, 57, 58, 59, 60, 61, 62, 63, 64, 65, 66] (by decide +kernel) (by decide +kernel)
set_option maxRecDepth 20000 in
theorem gX1_changed_X1_differs : GoodIn wsX1_changed (wsV RX1 130 RX1 yX1_differs wsX1_differs) := goodIn_app (goodIn_of _ (by decide +kernel)) ggX1_changed_X1_differs
theorem dX1_changed_0 : decode cX1_changed 0 = .ok (.aload_n 0, 1) := by decide +kernel
theorem dX1_changed_1 : decode cX1_changed 1 = .ok (.iload_n 1, 1) := by decide +kernel
theorem dX1_changed_2 : decode cX1_changed 2 = .ok (.invokestatic 100, 3) := by decide +kernel
theorem dX1_changed_5 : decode cX1_changed 5 = .ok (.ifCond .eq 7, 3) := by decide +kernel
theorem dX1_changed_8 : decode cX1_changed 8 = .ok (.iconst 0, 1) := by decide +kernel
theorem dX1_changed_9 : decode cX1_changed 9 = .ok (.goto 4, 3) := by decide +kernel
theorem dX1_changed_12 : decode cX1_changed 12 = .ok (.iconst 1, 1) := by decide +kernel
theorem dX1_changed_13 : decode cX1_changed 13 = .ok (.invokevirtual 73, 3) := by decide +kernel
theorem dX1_changed_16 : decode cX1_changed 16 = .ok (.ifCond .eq 7, 3) := by decide +kernel
theorem dX1_changed_19 : decode cX1_changed 19 = .ok (.iconst 0, 1) := by decide +kernel
theorem dX1_changed_20 : decode cX1_changed 20 = .ok (.goto 8, 3) := by decide +kernel
theorem dX1_changed_23 : decode cX1_changed 23 = .ok (.aload_n 0, 1) := by decide +kernel
theorem dX1_changed_24 : decode cX1_changed 24 = .ok (.iload_n 1, 1) := by decide +kernel
theorem dX1_changed_25 : decode cX1_changed 25 = .ok (.invokevirtual 130, 3) := by decide +kernel
theorem dX1_changed_28 : decode cX1_changed 28 = .ok (.ireturn, 1) := by decide +kernel
set_option maxRecDepth 20000 in
theorem ggX1_feed_X1_isShop : GoodIn wsX1_feed wsX1_isShop := goodIn_r _ [6, 7, 8, 5, 9] (by decide +kernel) (by decide +kernel)
set_option maxRecDepth 20000 in
theorem gX1_feed_X1_isShop : GoodIn wsX1_feed (va_wsS RX1 100 yX1_isShop wsX1_isShop) := goodIn_app (goodIn_of _ (by decide +kernel)) ggX1_feed_X1_isShop
set_option maxRecDepth 20000 in
theorem ggX1_feed_X1_fails : GoodIn wsX1_feed wsX1_fails := goodIn_r _ [13, 14, 49, 50, 51, 52, 53, 54, 55, 56, 57, 58, 59, 60, 61, 62, 63, 64, 65, 66] (by decide +kernel) (by decide +kernel)
set_option maxRecDepth 20000 in
theorem gX1_feed_X1_fails : GoodIn wsX1_feed (wsV RX1 73 RX1 yX1_fails wsX1_fails) := goodIn_app (goodIn_of _ (by decide +kernel)) ggX1_feed_X1_fails
set_option maxRecDepth 20000 in
theorem ggX1_feed_X1_differs : GoodIn wsX1_feed wsX1_differs := goodIn_r _ [18, 1, 2, 19, 20, 5, 21, 22, 23, 24, 25, 26, 27, 28, 29, 30, 31, 32, 33, 34, 35, 36, 37, 38, 39, 40, 41, 42, 43, 44, 45, 46, 47, 48, 49, 50, 51, 52, 53, 54, 55, 56, 57, 58, 59, 60, 61, 62, 63, 64, 65, 66] (by decide +kernel) (by decide +kernel)
set_option maxRecDepth 20000 in
theorem gX1_feed_X1_differs : GoodIn wsX1_feed (wsV RX1 130 RX1 yX1_differs wsX1_differs) := goodIn_app (goodIn_of _ (by decide +kernel)) ggX1_feed_X1_differs
set_option maxRecDepth 20000 in
theorem ggX1_feed_X1_place : GoodIn wsX1_feed wsX1_place := goodIn_r _ [21] (by decide +kernel) (by decide +kernel)
set_option maxRecDepth 20000 in
theorem gX1_feed_X1_place : GoodIn wsX1_feed (va_wsS RX1 124 yX1_place wsX1_place) := goodIn_app (goodIn_of _ (by decide +kernel)) ggX1_feed_X1_place
set_option maxRecDepth 20000 in
theorem ggX1_feed_X1_sees : GoodIn wsX1_feed wsX1_sees := goodIn_r _ [25, 26, 27, 28, 29, 5, 30, 31, 32, 33, 34, 35, 36, 37, 38, 39, 40, 41, 42, 43, 44, 45, 46, 47, 48, 49, 50, 51, 52, 53, 54, 55, 56, 57, 58, 59, 60, 61, 62, 63, 64, 65, 66] (by decide +kernel) (by decide +kernel)
set_option maxRecDepth 20000 in
theorem gX1_feed_X1_sees : GoodIn wsX1_feed (wsV RX1 127 RX1 yX1_sees wsX1_sees) := goodIn_app (goodIn_of _ (by decide +kernel)) ggX1_feed_X1_sees
theorem dX1_feed_0 : decode cX1_feed 0 = .ok (.aload_n 0, 1) := by decide +kernel
theorem dX1_feed_1 : decode cX1_feed 1 = .ok (.iload_n 1, 1) := by decide +kernel
theorem dX1_feed_2 : decode cX1_feed 2 = .ok (.invokestatic 100, 3) := by decide +kernel
theorem dX1_feed_5 : decode cX1_feed 5 = .ok (.ifCond .eq 7, 3) := by decide +kernel
theorem dX1_feed_8 : decode cX1_feed 8 = .ok (.iconst 0, 1) := by decide +kernel
theorem dX1_feed_9 : decode cX1_feed 9 = .ok (.goto 4, 3) := by decide +kernel
theorem dX1_feed_12 : decode cX1_feed 12 = .ok (.iconst 1, 1) := by decide +kernel
theorem dX1_feed_13 : decode cX1_feed 13 = .ok (.invokevirtual 73, 3) := by decide +kernel
theorem dX1_feed_16 : decode cX1_feed 16 = .ok (.ifCond .eq 5, 3) := by decide +kernel
theorem dX1_feed_19 : decode cX1_feed 19 = .ok (.iconst 0, 1) := by decide +kernel
theorem dX1_feed_20 : decode cX1_feed 20 = .ok (.ireturn, 1) := by decide +kernel
theorem dX1_feed_21 : decode cX1_feed 21 = .ok (.aload_n 0, 1) := by decide +kernel
theorem dX1_feed_22 : decode cX1_feed 22 = .ok (.iload_n 1, 1) := by decide +kernel
theorem dX1_feed_23 : decode cX1_feed 23 = .ok (.invokevirtual 130, 3) := by decide +kernel
theorem dX1_feed_26 : decode cX1_feed 26 = .ok (.istore_n 2, 1) := by decide +kernel
theorem dX1_feed_27 : decode cX1_feed 27 = .ok (.iconst 0, 1) := by decide +kernel
theorem dX1_feed_28 : decode cX1_feed 28 = .ok (.istore_n 3, 1) := by decide +kernel
theorem dX1_feed_29 : decode cX1_feed 29 = .ok (.iconst 0, 1) := by decide +kernel
theorem dX1_feed_30 : decode cX1_feed 30 = .ok (.istore 4, 2) := by decide +kernel
theorem dX1_feed_32 : decode cX1_feed 32 = .ok (.iload 4, 2) := by decide +kernel
theorem dX1_feed_34 : decode cX1_feed 34 = .ok (.aload_n 0, 1) := by decide +kernel
theorem dX1_feed_35 : decode cX1_feed 35 = .ok (.getfield 58, 3) := by decide +kernel
theorem dX1_feed_38 : decode cX1_feed 38 = .ok (.if_icmp .ge 68, 3) := by decide +kernel
theorem dX1_feed_41 : decode cX1_feed 41 = .ok (.iload_n 3, 1) := by decide +kernel
theorem dX1_feed_42 : decode cX1_feed 42 = .ok (.iload_n 2, 1) := by decide +kernel
theorem dX1_feed_43 : decode cX1_feed 43 = .ok (.iload 4, 2) := by decide +kernel
theorem dX1_feed_45 : decode cX1_feed 45 = .ok (.ishr, 1) := by decide +kernel
theorem dX1_feed_46 : decode cX1_feed 46 = .ok (.iconst 1, 1) := by decide +kernel
theorem dX1_feed_47 : decode cX1_feed 47 = .ok (.iand, 1) := by decide +kernel
theorem dX1_feed_48 : decode cX1_feed 48 = .ok (.iadd, 1) := by decide +kernel
theorem dX1_feed_49 : decode cX1_feed 49 = .ok (.istore_n 3, 1) := by decide +kernel
theorem dX1_feed_50 : decode cX1_feed 50 = .ok (.iconst 0, 1) := by decide +kernel
theorem dX1_feed_51 : decode cX1_feed 51 = .ok (.istore 5, 2) := by decide +kernel
theorem dX1_feed_53 : decode cX1_feed 53 = .ok (.iload 5, 2) := by decide +kernel
theorem dX1_feed_55 : decode cX1_feed 55 = .ok (.bipush 18, 2) := by decide +kernel
theorem dX1_feed_57 : decode cX1_feed 57 = .ok (.if_icmp .ge 43, 3) := by decide +kernel
theorem dX1_feed_60 : decode cX1_feed 60 = .ok (.aload_n 0, 1) := by decide +kernel
theorem dX1_feed_61 : decode cX1_feed 61 = .ok (.getfield 47, 3) := by decide +kernel
theorem dX1_feed_64 : decode cX1_feed 64 = .ok (.iload_n 1, 1) := by decide +kernel
theorem dX1_feed_65 : decode cX1_feed 65 = .ok (.iload 4, 2) := by decide +kernel
theorem dX1_feed_67 : decode cX1_feed 67 = .ok (.iload 5, 2) := by decide +kernel
theorem dX1_feed_69 : decode cX1_feed 69 = .ok (.iconst 3, 1) := by decide +kernel
theorem dX1_feed_70 : decode cX1_feed 70 = .ok (.idiv, 1) := by decide +kernel
theorem dX1_feed_71 : decode cX1_feed 71 = .ok (.iload 5, 2) := by decide +kernel
theorem dX1_feed_73 : decode cX1_feed 73 = .ok (.iconst 3, 1) := by decide +kernel
theorem dX1_feed_74 : decode cX1_feed 74 = .ok (.irem, 1) := by decide +kernel
theorem dX1_feed_75 : decode cX1_feed 75 = .ok (.invokestatic 124, 3) := by decide +kernel
theorem dX1_feed_78 : decode cX1_feed 78 = .ok (.aload_n 0, 1) := by decide +kernel
theorem dX1_feed_79 : decode cX1_feed 79 = .ok (.iload_n 1, 1) := by decide +kernel
theorem dX1_feed_80 : decode cX1_feed 80 = .ok (.iload 4, 2) := by decide +kernel
theorem dX1_feed_82 : decode cX1_feed 82 = .ok (.iload 5, 2) := by decide +kernel
theorem dX1_feed_84 : decode cX1_feed 84 = .ok (.iconst 3, 1) := by decide +kernel
theorem dX1_feed_85 : decode cX1_feed 85 = .ok (.idiv, 1) := by decide +kernel
theorem dX1_feed_86 : decode cX1_feed 86 = .ok (.iload 5, 2) := by decide +kernel
theorem dX1_feed_88 : decode cX1_feed 88 = .ok (.iconst 3, 1) := by decide +kernel
theorem dX1_feed_89 : decode cX1_feed 89 = .ok (.irem, 1) := by decide +kernel
theorem dX1_feed_90 : decode cX1_feed 90 = .ok (.invokevirtual 127, 3) := by decide +kernel
theorem dX1_feed_93 : decode cX1_feed 93 = .ok (.iastore, 1) := by decide +kernel
theorem dX1_feed_94 : decode cX1_feed 94 = .ok (.iinc 5 1, 3) := by decide +kernel
theorem dX1_feed_97 : decode cX1_feed 97 = .ok (.goto (-44), 3) := by decide +kernel
theorem dX1_feed_100 : decode cX1_feed 100 = .ok (.iinc 4 1, 3) := by decide +kernel
theorem dX1_feed_103 : decode cX1_feed 103 = .ok (.goto (-71), 3) := by decide +kernel
theorem dX1_feed_106 : decode cX1_feed 106 = .ok (.iload_n 3, 1) := by decide +kernel
theorem dX1_feed_107 : decode cX1_feed 107 = .ok (.ireturn, 1) := by decide +kernel
theorem dJ6_bitCount_0f7a4_0 : decode cJ6_bitCount_0f7a4 0 = .ok (.iload_n 0, 1) := by decide +kernel
theorem dJ6_bitCount_0f7a4_1 : decode cJ6_bitCount_0f7a4 1 = .ok (.iload_n 0, 1) := by decide +kernel
theorem dJ6_bitCount_0f7a4_2 : decode cJ6_bitCount_0f7a4 2 = .ok (.iconst 1, 1) := by decide +kernel
theorem dJ6_bitCount_0f7a4_3 : decode cJ6_bitCount_0f7a4 3 = .ok (.iushr, 1) := by decide +kernel
theorem dJ6_bitCount_0f7a4_4 : decode cJ6_bitCount_0f7a4 4 = .ok (.ldc_w 265, 3) := by decide +kernel
theorem dJ6_bitCount_0f7a4_7 : decode cJ6_bitCount_0f7a4 7 = .ok (.iand, 1) := by decide +kernel
theorem dJ6_bitCount_0f7a4_8 : decode cJ6_bitCount_0f7a4 8 = .ok (.isub, 1) := by decide +kernel
theorem dJ6_bitCount_0f7a4_9 : decode cJ6_bitCount_0f7a4 9 = .ok (.istore_n 0, 1) := by decide +kernel
theorem dJ6_bitCount_0f7a4_10 : decode cJ6_bitCount_0f7a4 10 = .ok (.iload_n 0, 1) := by decide +kernel
theorem dJ6_bitCount_0f7a4_11 : decode cJ6_bitCount_0f7a4 11 = .ok (.ldc_w 266, 3) := by decide +kernel
theorem dJ6_bitCount_0f7a4_14 : decode cJ6_bitCount_0f7a4 14 = .ok (.iand, 1) := by decide +kernel
theorem dJ6_bitCount_0f7a4_15 : decode cJ6_bitCount_0f7a4 15 = .ok (.iload_n 0, 1) := by decide +kernel
theorem dJ6_bitCount_0f7a4_16 : decode cJ6_bitCount_0f7a4 16 = .ok (.iconst 2, 1) := by decide +kernel
theorem dJ6_bitCount_0f7a4_17 : decode cJ6_bitCount_0f7a4 17 = .ok (.iushr, 1) := by decide +kernel
theorem dJ6_bitCount_0f7a4_18 : decode cJ6_bitCount_0f7a4 18 = .ok (.ldc_w 266, 3) := by decide +kernel
theorem dJ6_bitCount_0f7a4_21 : decode cJ6_bitCount_0f7a4 21 = .ok (.iand, 1) := by decide +kernel
theorem dJ6_bitCount_0f7a4_22 : decode cJ6_bitCount_0f7a4 22 = .ok (.iadd, 1) := by decide +kernel
theorem dJ6_bitCount_0f7a4_23 : decode cJ6_bitCount_0f7a4 23 = .ok (.istore_n 0, 1) := by decide +kernel
theorem dJ6_bitCount_0f7a4_24 : decode cJ6_bitCount_0f7a4 24 = .ok (.iload_n 0, 1) := by decide +kernel
theorem dJ6_bitCount_0f7a4_25 : decode cJ6_bitCount_0f7a4 25 = .ok (.iload_n 0, 1) := by decide +kernel
theorem dJ6_bitCount_0f7a4_26 : decode cJ6_bitCount_0f7a4 26 = .ok (.iconst 4, 1) := by decide +kernel
theorem dJ6_bitCount_0f7a4_27 : decode cJ6_bitCount_0f7a4 27 = .ok (.iushr, 1) := by decide +kernel
theorem dJ6_bitCount_0f7a4_28 : decode cJ6_bitCount_0f7a4 28 = .ok (.iadd, 1) := by decide +kernel
theorem dJ6_bitCount_0f7a4_29 : decode cJ6_bitCount_0f7a4 29 = .ok (.ldc_w 267, 3) := by decide +kernel
theorem dJ6_bitCount_0f7a4_32 : decode cJ6_bitCount_0f7a4 32 = .ok (.iand, 1) := by decide +kernel
theorem dJ6_bitCount_0f7a4_33 : decode cJ6_bitCount_0f7a4 33 = .ok (.istore_n 0, 1) := by decide +kernel
theorem dJ6_bitCount_0f7a4_34 : decode cJ6_bitCount_0f7a4 34 = .ok (.iload_n 0, 1) := by decide +kernel
theorem dJ6_bitCount_0f7a4_35 : decode cJ6_bitCount_0f7a4 35 = .ok (.iload_n 0, 1) := by decide +kernel
theorem dJ6_bitCount_0f7a4_36 : decode cJ6_bitCount_0f7a4 36 = .ok (.bipush 8, 2) := by decide +kernel
theorem dJ6_bitCount_0f7a4_38 : decode cJ6_bitCount_0f7a4 38 = .ok (.iushr, 1) := by decide +kernel
theorem dJ6_bitCount_0f7a4_39 : decode cJ6_bitCount_0f7a4 39 = .ok (.iadd, 1) := by decide +kernel
theorem dJ6_bitCount_0f7a4_40 : decode cJ6_bitCount_0f7a4 40 = .ok (.istore_n 0, 1) := by decide +kernel
theorem dJ6_bitCount_0f7a4_41 : decode cJ6_bitCount_0f7a4 41 = .ok (.iload_n 0, 1) := by decide +kernel
theorem dJ6_bitCount_0f7a4_42 : decode cJ6_bitCount_0f7a4 42 = .ok (.iload_n 0, 1) := by decide +kernel
theorem dJ6_bitCount_0f7a4_43 : decode cJ6_bitCount_0f7a4 43 = .ok (.bipush 16, 2) := by decide +kernel
theorem dJ6_bitCount_0f7a4_45 : decode cJ6_bitCount_0f7a4 45 = .ok (.iushr, 1) := by decide +kernel
theorem dJ6_bitCount_0f7a4_46 : decode cJ6_bitCount_0f7a4 46 = .ok (.iadd, 1) := by decide +kernel
theorem dJ6_bitCount_0f7a4_47 : decode cJ6_bitCount_0f7a4 47 = .ok (.istore_n 0, 1) := by decide +kernel
theorem dJ6_bitCount_0f7a4_48 : decode cJ6_bitCount_0f7a4 48 = .ok (.iload_n 0, 1) := by decide +kernel
theorem dJ6_bitCount_0f7a4_49 : decode cJ6_bitCount_0f7a4 49 = .ok (.bipush 63, 2) := by decide +kernel
theorem dJ6_bitCount_0f7a4_51 : decode cJ6_bitCount_0f7a4 51 = .ok (.iand, 1) := by decide +kernel
theorem dJ6_bitCount_0f7a4_52 : decode cJ6_bitCount_0f7a4 52 = .ok (.ireturn, 1) := by decide +kernel
theorem dJ9_max_7cf53_0 : decode cJ9_max_7cf53 0 = .ok (.iload_n 0, 1) := by decide +kernel
theorem dJ9_max_7cf53_1 : decode cJ9_max_7cf53 1 = .ok (.iload_n 1, 1) := by decide +kernel
theorem dJ9_max_7cf53_2 : decode cJ9_max_7cf53 2 = .ok (.if_icmp .lt 7, 3) := by decide +kernel
theorem dJ9_max_7cf53_5 : decode cJ9_max_7cf53 5 = .ok (.iload_n 0, 1) := by decide +kernel
theorem dJ9_max_7cf53_6 : decode cJ9_max_7cf53 6 = .ok (.goto 4, 3) := by decide +kernel
theorem dJ9_max_7cf53_9 : decode cJ9_max_7cf53 9 = .ok (.iload_n 1, 1) := by decide +kernel
theorem dJ9_max_7cf53_10 : decode cJ9_max_7cf53 10 = .ok (.ireturn, 1) := by decide +kernel
