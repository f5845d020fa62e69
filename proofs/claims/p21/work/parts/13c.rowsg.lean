theorem goodIn_cc {big a : List Cond} {c : Cond} (hc : GoodIn big [c]) (ha : GoodIn big a) : GoodIn big (c :: a) := fun w h => (List.mem_cons.mp h).elim (fun e => hc w (List.mem_cons.mpr (Or.inl e))) (ha w)
set_option maxRecDepth 20000 in
theorem ggL_does_X0_feed : GoodIn wsL_does wsX0_feed := goodIn_ca (goodIn_r _ [133, 124, 125, 7, 126, 18, 19, 134, 135, 136, 137, 138, 139, 140, 141, 142, 143, 144, 145, 146, 147, 148, 149, 150, 151, 13, 20, 21, 22, 23, 12, 152, 153, 154, 155, 76, 156, 157, 158, 84, 85, 86, 87, 69, 159, 160, 161, 162, 163, 164, 165, 166, 167, 168, 169, 170, 171, 172, 173, 174, 175, 176, 177, 178, 179, 180, 181, 182, 183, 184, 185] (by decide +kernel) (by decide +kernel)) (goodIn_sub (fun _ h => List.mem_cons_of_mem _ (List.mem_append_left _ (List.mem_append_right _ h))) (by decide +kernel))
set_option maxRecDepth 20000 in
theorem gL_does_X0_feed : GoodIn wsL_does (wsV RL 49 RX0 yX0_feed wsX0_feed) := goodIn_app (goodIn_of _ (by decide +kernel)) ggL_does_X0_feed
set_option maxRecDepth 20000 in
theorem ggL_asks_X0_value : GoodIn wsL_asks wsX0_value := goodIn_ca (goodIn_ca (goodIn_r _ [7, 8, 9, 10, 11, 12, 6, 13, 14, 15, 16, 17, 18, 19, 20, 21, 22, 23, 24, 25, 26, 27, 28, 29, 30, 31, 32, 33, 34, 35, 36, 37, 38, 39, 40, 41, 42, 43, 44, 45, 46, 47, 48, 49, 50, 51, 52, 53, 54, 55, 56, 112, 113, 114, 115, 116, 117, 118, 119, 120, 121, 122, 123, 124, 125, 126, 127] (by decide +kernel) (by decide +kernel)) (goodIn_sub (fun _ h => List.mem_cons_of_mem _ (List.mem_append_left _ (List.mem_append_right _ h))) (by decide +kernel))) (goodIn_sub (fun _ h => List.mem_cons_of_mem _ (List.mem_append_right _ h)) (by decide +kernel))
set_option maxRecDepth 20000 in
theorem gL_asks_X0_value : GoodIn wsL_asks (wsV RL 62 RX0 yX0_value wsX0_value) := goodIn_app (goodIn_of _ (by decide +kernel)) ggL_asks_X0_value
set_option maxRecDepth 20000 in
theorem ggL_asks_X0_origin : GoodIn wsL_asks wsX0_origin := goodIn_ca (goodIn_r _ [60, 10, 11, 12, 6, 13, 14, 15, 16, 17, 18, 19, 20, 21, 22, 23, 24, 25, 26, 27, 28, 29, 30, 31, 32, 33, 39, 40, 41, 42, 43, 44, 45, 46, 47, 48, 49, 50, 51, 112, 113, 114, 115, 116, 117, 118, 119, 120, 121, 122, 123, 124, 125, 126, 127] (by decide +kernel) (by decide +kernel)) (goodIn_sub (fun _ h => List.mem_cons_of_mem _ (List.mem_append_right _ h)) (by decide +kernel))
set_option maxRecDepth 20000 in
theorem gL_asks_X0_origin : GoodIn wsL_asks (wsV RL 66 RX0 yX0_origin wsX0_origin) := goodIn_app (goodIn_of _ (by decide +kernel)) ggL_asks_X0_origin
set_option maxRecDepth 20000 in
theorem ggL_asks_X0_missing : GoodIn wsL_asks wsX0_missing := goodIn_ca (goodIn_r _ [68, 14, 15, 16, 6, 17, 18, 19, 20, 21, 22, 23, 24, 28, 29, 30, 31, 32, 33, 69, 70, 71, 72, 73, 34, 35, 36, 37, 38, 39, 40, 41, 42, 43, 44, 45, 46, 47, 48, 49, 50, 51, 52, 53, 54, 55, 56, 112, 113, 114, 115, 116, 117, 118, 119, 120, 121, 122, 123, 124, 125, 126, 127] (by decide +kernel) (by decide +kernel)) (goodIn_sub (fun _ h => List.mem_cons_of_mem _ (List.mem_append_right _ h)) (by decide +kernel))
set_option maxRecDepth 20000 in
theorem gL_asks_X0_missing : GoodIn wsL_asks (wsV RL 72 RX0 yX0_missing wsX0_missing) := goodIn_app (goodIn_of _ (by decide +kernel)) ggL_asks_X0_missing
set_option maxRecDepth 20000 in
theorem ggL_asks_X0_complete : GoodIn wsL_asks wsX0_complete := goodIn_ca (goodIn_r _ [77, 24, 28, 29, 6, 30, 18, 19, 78, 79, 80, 81, 69, 70, 71, 72, 73, 34, 35, 36, 37, 38, 39, 40, 41, 42, 43, 20, 21, 22, 23, 44, 45, 46, 47, 48, 49, 50, 51, 52, 53, 54, 55, 56, 112, 113, 114, 115, 116, 117, 118, 119, 120, 121, 122, 123, 124, 125, 126, 127] (by decide +kernel) (by decide +kernel)) (goodIn_sub (fun _ h => List.mem_cons_of_mem _ (List.mem_append_right _ h)) (by decide +kernel))
set_option maxRecDepth 20000 in
theorem gL_asks_X0_complete : GoodIn wsL_asks (wsV RL 75 RX0 yX0_complete wsX0_complete) := goodIn_app (goodIn_of _ (by decide +kernel)) ggL_asks_X0_complete
set_option maxRecDepth 20000 in
theorem ggL_asks_X0_price : GoodIn wsL_asks wsX0_price := goodIn_ca (goodIn_ca (goodIn_r _ [85, 8, 9, 14, 15, 16, 6, 17, 18, 19, 20, 21, 22, 23, 24, 28, 29, 30, 86, 87, 88, 89, 90, 34, 35, 36, 37, 38, 39, 40, 41, 42, 43, 44, 45, 46, 47, 48, 49, 50, 51, 52, 53, 54, 55, 56, 91, 92, 93, 94, 95, 96, 97, 98, 112, 113, 114, 115, 116, 117, 118, 119, 120, 121, 122, 123, 124, 125, 126, 127] (by decide +kernel) (by decide +kernel)) (goodIn_sub (fun _ h => List.mem_cons_of_mem _ (List.mem_append_left _ (List.mem_append_right _ h))) (by decide +kernel))) (goodIn_sub (fun _ h => List.mem_cons_of_mem _ (List.mem_append_right _ h)) (by decide +kernel))
set_option maxRecDepth 20000 in
theorem gL_asks_X0_price : GoodIn wsL_asks (wsV RL 78 RX0 yX0_price wsX0_price) := goodIn_app (goodIn_of _ (by decide +kernel)) ggL_asks_X0_price
set_option maxRecDepth 20000 in
theorem ggL_asks_X0_changed : GoodIn wsL_asks wsX0_changed := goodIn_ca (goodIn_r _ [102, 28, 29, 6, 30, 18, 19, 103, 104, 105, 106, 107, 108, 109, 110, 111, 34, 35, 36, 37, 38, 39, 40, 41, 42, 43, 20, 21, 22, 23, 24, 44, 45, 46, 47, 48, 49, 50, 51, 52, 53, 54, 55, 56, 112, 113, 114, 115, 116, 117, 118, 119, 120, 121, 122, 123, 124, 125, 126, 127] (by decide +kernel) (by decide +kernel)) (goodIn_sub (fun _ h => List.mem_cons_of_mem _ (List.mem_append_right _ h)) (by decide +kernel))
set_option maxRecDepth 20000 in
theorem gL_asks_X0_changed : GoodIn wsL_asks (wsV RL 81 RX0 yX0_changed wsX0_changed) := goodIn_app (goodIn_of _ (by decide +kernel)) ggL_asks_X0_changed
set_option maxRecDepth 20000 in
theorem ggL_areShops_L_asks_c0 : GoodIn wsL_areShops wsL_asks_r1 := goodIn_r _ [7, 8, 9, 10, 11, 12, 13, 14, 15, 16, 17, 18, 19, 20, 21, 22, 23, 24, 25, 26, 27, 28, 29, 30] (by decide +kernel) (by decide +kernel)
set_option maxRecDepth 20000 in
theorem ggL_areShops_L_asks_c1 : GoodIn wsL_areShops wsL_asks_r2 := goodIn_r _ [31, 32, 33, 34, 35, 36, 37, 38, 39, 40, 41, 42, 43, 44, 45, 46, 47, 48, 49, 50, 51, 52, 53, 54] (by decide +kernel) (by decide +kernel)
set_option maxRecDepth 20000 in
theorem ggL_areShops_L_asks_c2 : GoodIn wsL_areShops wsL_asks_r3 := goodIn_r _ [55, 56, 57, 58, 59, 60, 61, 62, 63, 64, 65, 66, 67, 68, 69, 70, 71, 72, 73, 74, 75, 76, 77, 78] (by decide +kernel) (by decide +kernel)
set_option maxRecDepth 20000 in
theorem ggL_areShops_L_asks_c3 : GoodIn wsL_areShops wsL_asks_r4 := goodIn_r _ [79, 80, 81, 82, 83, 84, 85, 86, 87, 88, 89, 90, 91, 92, 93, 94, 95, 96, 97, 98, 99, 100, 101, 102] (by decide +kernel) (by decide +kernel)
set_option maxRecDepth 20000 in
theorem ggL_areShops_L_asks_c4 : GoodIn wsL_areShops wsL_asks_r5 := goodIn_r _ [103, 104, 105, 106, 107, 108, 109, 110, 111, 112, 113, 114, 115, 116, 117] (by decide +kernel) (by decide +kernel)
set_option maxRecDepth 20000 in
theorem ggL_areShops_L_asks_h : GoodIn wsL_areShops [Cond.codeWith yL_asks cL_asks 7 (some .int) [(0, 96, 97, 52), (0, 96, 102, 56)]] := goodIn_r _ [6] (by decide +kernel) (by decide +kernel)
set_option maxRecDepth 20000 in
theorem ggL_areShops_L_asks_x : GoodIn wsL_areShops wsX00 := goodIn_r _ [118, 119, 120, 121, 122, 123, 124, 125, 126, 127, 128, 129, 130, 131, 132, 133] (by decide +kernel) (by decide +kernel)
set_option maxRecDepth 20000 in
theorem ggL_areShops_L_asks : GoodIn wsL_areShops wsL_asks := goodIn_ca (goodIn_ca (goodIn_ca (goodIn_cc ggL_areShops_L_asks_h (goodIn_app ggL_areShops_L_asks_c0 (goodIn_app ggL_areShops_L_asks_c1 (goodIn_app ggL_areShops_L_asks_c2 (goodIn_app ggL_areShops_L_asks_c3 (ggL_areShops_L_asks_c4)))))) ggL_areShops_L_asks_x) (goodIn_sub (fun _ h => List.mem_cons_of_mem _ (List.mem_append_left _ (List.mem_append_right _ h))) (by decide +kernel))) (goodIn_sub (fun _ h => List.mem_cons_of_mem _ (List.mem_append_right _ h)) (by decide +kernel))
set_option maxRecDepth 20000 in
theorem gL_areShops_L_asks : GoodIn wsL_areShops (va_wsS RL 91 yL_asks wsL_asks) := goodIn_app (goodIn_of _ (by decide +kernel)) ggL_areShops_L_asks
set_option maxRecDepth 20000 in
theorem ggL_areShops_X0_complete : GoodIn wsL_areShops wsX0_complete := goodIn_ca (goodIn_r _ [83, 30, 34, 35, 12, 36, 24, 25, 84, 85, 86, 87, 75, 76, 77, 78, 79, 40, 41, 42, 43, 44, 45, 46, 47, 48, 49, 26, 27, 28, 29, 50, 51, 52, 53, 54, 55, 56, 57, 58, 59, 60, 61, 62, 118, 119, 120, 121, 122, 123, 124, 125, 126, 127, 128, 129, 130, 131, 132, 133] (by decide +kernel) (by decide +kernel)) (goodIn_sub (fun _ h => List.mem_cons_of_mem _ (List.mem_append_right _ h)) (by decide +kernel))
set_option maxRecDepth 20000 in
theorem gL_areShops_X0_complete : GoodIn wsL_areShops (wsV RL 75 RX0 yX0_complete wsX0_complete) := goodIn_app (goodIn_of _ (by decide +kernel)) ggL_areShops_X0_complete
set_option maxRecDepth 20000 in
theorem ggL_areShops_X0_changed : GoodIn wsL_areShops wsX0_changed := goodIn_ca (goodIn_r _ [108, 34, 35, 12, 36, 24, 25, 109, 110, 111, 112, 113, 114, 115, 116, 117, 40, 41, 42, 43, 44, 45, 46, 47, 48, 49, 26, 27, 28, 29, 30, 50, 51, 52, 53, 54, 55, 56, 57, 58, 59, 60, 61, 62, 118, 119, 120, 121, 122, 123, 124, 125, 126, 127, 128, 129, 130, 131, 132, 133] (by decide +kernel) (by decide +kernel)) (goodIn_sub (fun _ h => List.mem_cons_of_mem _ (List.mem_append_right _ h)) (by decide +kernel))
set_option maxRecDepth 20000 in
theorem gL_areShops_X0_changed : GoodIn wsL_areShops (wsV RL 81 RX0 yX0_changed wsX0_changed) := goodIn_app (goodIn_of _ (by decide +kernel)) ggL_areShops_X0_changed
set_option maxRecDepth 20000 in
theorem ggL_isDone_L_part : GoodIn wsL_isDone wsL_part := goodIn_r _ [4, 5] (by decide +kernel) (by decide +kernel)
set_option maxRecDepth 20000 in
theorem gL_isDone_L_part : GoodIn wsL_isDone (va_wsS RL 124 yL_part wsL_part) := goodIn_app (goodIn_of _ (by decide +kernel)) ggL_isDone_L_part
set_option maxRecDepth 20000 in
theorem ggL_isDone_L_does_c0 : GoodIn wsL_isDone wsL_does_r1 := goodIn_r _ [65, 66, 67, 68, 69, 70, 18, 71, 72, 73, 74, 20, 44, 75, 76, 77, 78, 24, 25, 45, 46, 47, 48, 79] (by decide +kernel) (by decide +kernel)
set_option maxRecDepth 20000 in
theorem ggL_isDone_L_does_c1 : GoodIn wsL_isDone wsL_does_r2 := goodIn_r _ [80, 81, 82, 83, 84, 85, 86, 87, 88, 89, 90, 91, 92, 93, 94, 95, 96, 97, 98, 99, 100, 101, 102, 103] (by decide +kernel) (by decide +kernel)
set_option maxRecDepth 20000 in
theorem ggL_isDone_L_does_c2 : GoodIn wsL_isDone wsL_does_r3 := goodIn_r _ [104, 3, 105, 106, 107, 108, 109, 110, 111, 112, 113, 114, 115, 116, 117, 118, 119, 120, 121, 122, 61, 123, 124, 125] (by decide +kernel) (by decide +kernel)
set_option maxRecDepth 20000 in
theorem ggL_isDone_L_does_c3 : GoodIn wsL_isDone wsL_does_r4 := goodIn_r _ [126, 127, 128, 53, 129, 130, 131, 132, 133, 134, 135, 57, 58, 59, 60, 136, 137, 138, 139, 140, 141, 142, 143, 144] (by decide +kernel) (by decide +kernel)
set_option maxRecDepth 20000 in
theorem ggL_isDone_L_does_c4 : GoodIn wsL_isDone wsL_does_r5 := goodIn_r _ [145, 146, 147, 148, 149, 150, 151, 152, 153, 154, 155, 156, 157, 158, 159, 160, 161, 162, 163, 164, 165, 166, 167, 168] (by decide +kernel) (by decide +kernel)
set_option maxRecDepth 20000 in
theorem ggL_isDone_L_does_c5 : GoodIn wsL_isDone wsL_does_r6 := goodIn_r _ [169, 170, 34, 21, 22, 23, 171, 172, 173, 174, 175, 176, 177, 178, 179, 180, 181, 182, 183, 184, 185, 186, 35, 36] (by decide +kernel) (by decide +kernel)
set_option maxRecDepth 20000 in
theorem ggL_isDone_L_does_c6 : GoodIn wsL_isDone wsL_does_r7 := goodIn_r _ [37, 38, 39, 40, 41, 42, 43, 49, 50, 51, 52, 54, 55, 56, 187, 188, 189, 190, 191, 192, 193, 194, 195, 196] (by decide +kernel) (by decide +kernel)
set_option maxRecDepth 20000 in
theorem ggL_isDone_L_does_c7 : GoodIn wsL_isDone wsL_does_r8 := goodIn_r _ [197] (by decide +kernel) (by decide +kernel)
set_option maxRecDepth 20000 in
theorem ggL_isDone_L_does_h : GoodIn wsL_isDone [Cond.codeWith yL_does cL_does 6 (some .int) [(0, 154, 155, 52), (0, 154, 160, 54), (0, 154, 165, 56)]] := goodIn_r _ [64] (by decide +kernel) (by decide +kernel)
set_option maxRecDepth 20000 in
theorem ggL_isDone_L_does_x : GoodIn wsL_isDone wsX00 := goodIn_r _ [233, 234, 235, 236, 237, 238, 239, 240, 241, 242, 243, 244, 245, 246, 247, 248] (by decide +kernel) (by decide +kernel)
set_option maxRecDepth 20000 in
theorem ggL_isDone_L_does : GoodIn wsL_isDone wsL_does := goodIn_ca (goodIn_ca (goodIn_ca (goodIn_ca (goodIn_cc ggL_isDone_L_does_h (goodIn_app ggL_isDone_L_does_c0 (goodIn_app ggL_isDone_L_does_c1 (goodIn_app ggL_isDone_L_does_c2 (goodIn_app ggL_isDone_L_does_c3 (goodIn_app ggL_isDone_L_does_c4 (goodIn_app ggL_isDone_L_does_c5 (goodIn_app ggL_isDone_L_does_c6 (ggL_isDone_L_does_c7))))))))) ggL_isDone_L_does_x) (goodIn_sub (fun _ h => List.mem_cons_of_mem _ (List.mem_append_left _ (List.mem_append_right _ h))) (by decide +kernel))) (goodIn_sub (fun _ h => List.mem_cons_of_mem _ (List.mem_append_left _ (List.mem_append_left _ (List.mem_append_right _ h)))) (by decide +kernel))) (goodIn_sub (fun _ h => List.mem_cons_of_mem _ (List.mem_append_right _ h)) (by decide +kernel))
set_option maxRecDepth 20000 in
theorem gL_isDone_L_does : GoodIn wsL_isDone (va_wsS RL 110 yL_does wsL_does) := goodIn_app (goodIn_of _ (by decide +kernel)) ggL_isDone_L_does
set_option maxRecDepth 20000 in
theorem ggL_law_X0_init : GoodIn wsL_law wsX0_init := goodIn_r _ [6, 7, 8, 9, 10, 11, 3, 12, 13, 14, 15, 16, 17, 18, 19, 20, 21, 22, 23, 24, 25, 26, 294, 295, 296, 297, 298, 299, 300, 301, 302, 303, 304, 305, 306, 307, 308, 309] (by decide +kernel) (by decide +kernel)
set_option maxRecDepth 20000 in
theorem gL_law_X0_init : GoodIn wsL_law (wsX0_init) := ggL_law_X0_init
set_option maxRecDepth 20000 in
theorem ggL_law_L_areShops_c0 : GoodIn wsL_law wsL_areShops_r1 := goodIn_r _ [31, 32, 33, 34, 29, 35, 36, 37, 38, 39, 40, 2, 41, 42, 43, 44, 45, 46, 47, 48, 49, 50, 51, 52] (by decide +kernel) (by decide +kernel)
set_option maxRecDepth 20000 in
theorem ggL_law_L_areShops_c1 : GoodIn wsL_law wsL_areShops_r2 := goodIn_r _ [53, 54, 55, 56, 57, 11, 58, 59, 60, 61, 62, 63, 64, 65, 66, 67, 68, 69, 70, 18, 71, 72, 73, 74] (by decide +kernel) (by decide +kernel)
set_option maxRecDepth 20000 in
theorem ggL_law_L_areShops_c2 : GoodIn wsL_law wsL_areShops_r3 := goodIn_r _ [12, 75, 76, 77, 78, 23, 79, 80, 81, 82, 83, 84, 85, 21, 86, 87, 88, 89, 90, 91, 92, 93, 94, 95] (by decide +kernel) (by decide +kernel)
set_option maxRecDepth 20000 in
theorem ggL_law_L_areShops_c3 : GoodIn wsL_law wsL_areShops_r4 := goodIn_r _ [96, 97, 98, 99, 100, 101, 24, 102, 103, 104, 105, 106, 107, 108, 109, 110, 111, 112, 113, 114, 115, 116, 117, 26] (by decide +kernel) (by decide +kernel)
set_option maxRecDepth 20000 in
theorem ggL_law_L_areShops_c4 : GoodIn wsL_law wsL_areShops_r5 := goodIn_r _ [118, 119, 120, 121, 14, 13, 122, 123, 124, 125, 126, 127, 128, 129, 130, 131, 132, 133, 134, 135, 25] (by decide +kernel) (by decide +kernel)
set_option maxRecDepth 20000 in
theorem ggL_law_L_areShops_h : GoodIn wsL_law [Cond.code yL_areShops cL_areShops 17 (some .boolean)] := goodIn_r _ [30] (by decide +kernel) (by decide +kernel)
set_option maxRecDepth 20000 in
theorem ggL_law_L_areShops_x : GoodIn wsL_law wsX00 := goodIn_r _ [294, 295, 296, 297, 298, 299, 300, 301, 302, 303, 304, 305, 306, 307, 308, 309] (by decide +kernel) (by decide +kernel)
set_option maxRecDepth 20000 in
theorem ggL_law_L_areShops : GoodIn wsL_law wsL_areShops := goodIn_ca (goodIn_ca (goodIn_ca (goodIn_cc ggL_law_L_areShops_h (goodIn_app ggL_law_L_areShops_c0 (goodIn_app ggL_law_L_areShops_c1 (goodIn_app ggL_law_L_areShops_c2 (goodIn_app ggL_law_L_areShops_c3 (ggL_law_L_areShops_c4)))))) ggL_law_L_areShops_x) (goodIn_sub (fun _ h => List.mem_append_left _ (List.mem_append_left _ (List.mem_append_right _ h))) (by decide +kernel))) (goodIn_sub (fun _ h => List.mem_append_left _ (List.mem_append_right _ h)) (by decide +kernel))
set_option maxRecDepth 20000 in
theorem gL_law_L_areShops : GoodIn wsL_law (va_wsS RL 144 yL_areShops wsL_areShops) := goodIn_app (goodIn_of _ (by decide +kernel)) ggL_law_L_areShops
set_option maxRecDepth 20000 in
theorem ggL_law_L_isDone_c0 : GoodIn wsL_law wsL_isDone_r1 := goodIn_r _ [139, 140, 29, 141, 142, 143, 144, 145, 146, 147, 148, 149, 150, 151, 102, 103, 104, 2, 105, 11, 61, 62, 63, 52] (by decide +kernel) (by decide +kernel)
set_option maxRecDepth 20000 in
theorem ggL_law_L_isDone_c1 : GoodIn wsL_law wsL_isDone_r2 := goodIn_r _ [53, 106, 107, 108, 109, 98, 99, 100, 101, 24, 67, 68, 69, 70, 18, 71, 72, 73, 74, 12, 54, 55, 56, 57] (by decide +kernel) (by decide +kernel)
set_option maxRecDepth 20000 in
theorem ggL_law_L_isDone_c2 : GoodIn wsL_law wsL_isDone_r3 := goodIn_r _ [75, 76, 77, 78, 23, 79, 80, 81, 82, 83, 84, 85, 21, 152, 153, 154, 36, 155, 37, 156, 157, 158, 159, 42] (by decide +kernel) (by decide +kernel)
set_option maxRecDepth 20000 in
theorem ggL_law_L_isDone_c3 : GoodIn wsL_law wsL_isDone_r4 := goodIn_r _ [43, 15, 160, 161, 162, 163, 164, 165, 166, 167, 168, 169, 170, 171, 48, 49, 50, 51, 172, 173, 174, 175, 176, 177] (by decide +kernel) (by decide +kernel)
set_option maxRecDepth 20000 in
theorem ggL_law_L_isDone_c4 : GoodIn wsL_law wsL_isDone_r5 := goodIn_r _ [178, 179, 180, 181, 182, 183, 184, 185, 186, 187, 188, 189, 190, 14, 191, 192, 193, 194, 195, 196, 197, 198, 199, 200] (by decide +kernel) (by decide +kernel)
set_option maxRecDepth 20000 in
theorem ggL_law_L_isDone_c5 : GoodIn wsL_law wsL_isDone_r6 := goodIn_r _ [201, 202, 16, 20, 203, 204, 205, 206, 19, 22, 207, 208, 209, 210, 17, 211, 212, 213, 214, 215, 216, 217, 218, 219] (by decide +kernel) (by decide +kernel)
set_option maxRecDepth 20000 in
theorem ggL_law_L_isDone_c6 : GoodIn wsL_law wsL_isDone_r7 := goodIn_r _ [220, 13, 221, 222, 223, 224, 225, 226, 227, 228, 229, 230, 231, 232, 233, 234, 235, 236, 237, 238, 239, 240, 241, 242] (by decide +kernel) (by decide +kernel)
set_option maxRecDepth 20000 in
theorem ggL_law_L_isDone_c7 : GoodIn wsL_law wsL_isDone_r8 := goodIn_r _ [243, 244, 58, 59, 60, 245, 246, 247, 248, 128, 129, 130, 131, 132, 133, 134, 135, 25, 249, 250, 251, 252, 253, 254] (by decide +kernel) (by decide +kernel)
set_option maxRecDepth 20000 in
theorem ggL_law_L_isDone_c8 : GoodIn wsL_law wsL_isDone_r9 := goodIn_r _ [255, 256, 257, 258, 259, 260, 261, 262, 263, 264, 265, 266, 267, 268, 269, 270, 271, 272, 273, 274, 275, 276, 277, 278] (by decide +kernel) (by decide +kernel)
set_option maxRecDepth 20000 in
theorem ggL_law_L_isDone_c9 : GoodIn wsL_law wsL_isDone_r10 := goodIn_r _ [279, 280, 281, 64, 65, 66, 282, 283, 284, 285, 286, 287, 124, 125, 126, 127] (by decide +kernel) (by decide +kernel)
set_option maxRecDepth 20000 in
theorem ggL_law_L_isDone_h : GoodIn wsL_law [Cond.code yL_isDone cL_isDone 17 (some .boolean)] := goodIn_r _ [138] (by decide +kernel) (by decide +kernel)
set_option maxRecDepth 20000 in
theorem ggL_law_L_isDone_x : GoodIn wsL_law wsX00 := goodIn_r _ [294, 295, 296, 297, 298, 299, 300, 301, 302, 303, 304, 305, 306, 307, 308, 309] (by decide +kernel) (by decide +kernel)
set_option maxRecDepth 20000 in
theorem ggL_law_L_isDone : GoodIn wsL_law wsL_isDone := goodIn_ca (goodIn_ca (goodIn_ca (goodIn_ca (goodIn_cc ggL_law_L_isDone_h (goodIn_app ggL_law_L_isDone_c0 (goodIn_app ggL_law_L_isDone_c1 (goodIn_app ggL_law_L_isDone_c2 (goodIn_app ggL_law_L_isDone_c3 (goodIn_app ggL_law_L_isDone_c4 (goodIn_app ggL_law_L_isDone_c5 (goodIn_app ggL_law_L_isDone_c6 (goodIn_app ggL_law_L_isDone_c7 (goodIn_app ggL_law_L_isDone_c8 (ggL_law_L_isDone_c9))))))))))) ggL_law_L_isDone_x) (goodIn_sub (fun _ h => List.mem_append_left _ (List.mem_append_right _ h)) (by decide +kernel))) (goodIn_sub (fun _ h => List.mem_append_left _ (List.mem_append_left _ (List.mem_append_right _ h))) (by decide +kernel))) (goodIn_sub (fun _ h => List.mem_append_right _ h) (by decide +kernel))
set_option maxRecDepth 20000 in
theorem gL_law_L_isDone : GoodIn wsL_law (va_wsS RL 148 yL_isDone wsL_isDone) := goodIn_app (goodIn_of _ (by decide +kernel)) ggL_law_L_isDone
