theorem dL_below_0 : decode cL_below 0 = .ok (.iload_n 0, 1) := by decide +kernel
theorem dL_below_1 : decode cL_below 1 = .ok (.ldc 7, 2) := by decide +kernel
theorem dL_below_3 : decode cL_below 3 = .ok (.iand, 1) := by decide +kernel
theorem dL_below_4 : decode cL_below 4 = .ok (.iload_n 1, 1) := by decide +kernel
theorem dL_below_5 : decode cL_below 5 = .ok (.irem, 1) := by decide +kernel
theorem dL_below_6 : decode cL_below 6 = .ok (.ireturn, 1) := by decide +kernel
theorem dL_cell_0 : decode cL_cell 0 = .ok (.iload_n 1, 1) := by decide +kernel
theorem dL_cell_1 : decode cL_cell 1 = .ok (.aload_n 0, 1) := by decide +kernel
theorem dL_cell_2 : decode cL_cell 2 = .ok (.arraylength, 1) := by decide +kernel
theorem dL_cell_3 : decode cL_cell 3 = .ok (.if_icmp .ge 9, 3) := by decide +kernel
theorem dL_cell_6 : decode cL_cell 6 = .ok (.aload_n 0, 1) := by decide +kernel
theorem dL_cell_7 : decode cL_cell 7 = .ok (.iload_n 1, 1) := by decide +kernel
theorem dL_cell_8 : decode cL_cell 8 = .ok (.iaload, 1) := by decide +kernel
theorem dL_cell_9 : decode cL_cell 9 = .ok (.goto 9, 3) := by decide +kernel
theorem dL_cell_12 : decode cL_cell 12 = .ok (.ldc 8, 2) := by decide +kernel
theorem dL_cell_14 : decode cL_cell 14 = .ok (.iload_n 1, 1) := by decide +kernel
theorem dL_cell_15 : decode cL_cell 15 = .ok (.iconst 3, 1) := by decide +kernel
theorem dL_cell_16 : decode cL_cell 16 = .ok (.iadd, 1) := by decide +kernel
theorem dL_cell_17 : decode cL_cell 17 = .ok (.imul, 1) := by decide +kernel
theorem dL_cell_18 : decode cL_cell 18 = .ok (.ireturn, 1) := by decide +kernel
set_option maxRecDepth 20000 in
theorem ggL_wordOf_L_cell : GoodIn wsL_wordOf wsL_cell := goodIn_r _ [5, 6] (by decide +kernel) (by decide +kernel)
set_option maxRecDepth 20000 in
theorem gL_wordOf_L_cell : GoodIn wsL_wordOf (va_wsS RL 9 yL_cell wsL_cell) := goodIn_app (goodIn_of _ (by decide +kernel)) ggL_wordOf_L_cell
set_option maxRecDepth 20000 in
theorem ggL_wordOf_L_below : GoodIn wsL_wordOf wsL_below := goodIn_r _ [9, 10] (by decide +kernel) (by decide +kernel)
set_option maxRecDepth 20000 in
theorem gL_wordOf_L_below : GoodIn wsL_wordOf (va_wsS RL 15 yL_below wsL_below) := goodIn_app (goodIn_of _ (by decide +kernel)) ggL_wordOf_L_below
theorem dL_wordOf_0 : decode cL_wordOf 0 = .ok (.aload_n 0, 1) := by decide +kernel
theorem dL_wordOf_1 : decode cL_wordOf 1 = .ok (.iload_n 1, 1) := by decide +kernel
theorem dL_wordOf_2 : decode cL_wordOf 2 = .ok (.invokestatic 9, 3) := by decide +kernel
theorem dL_wordOf_5 : decode cL_wordOf 5 = .ok (.bipush 13, 2) := by decide +kernel
theorem dL_wordOf_7 : decode cL_wordOf 7 = .ok (.invokestatic 15, 3) := by decide +kernel
theorem dL_wordOf_10 : decode cL_wordOf 10 = .ok (.newarray .int, 2) := by decide +kernel
theorem dL_wordOf_12 : decode cL_wordOf 12 = .ok (.astore_n 2, 1) := by decide +kernel
theorem dL_wordOf_13 : decode cL_wordOf 13 = .ok (.iconst 0, 1) := by decide +kernel
theorem dL_wordOf_14 : decode cL_wordOf 14 = .ok (.istore_n 3, 1) := by decide +kernel
theorem dL_wordOf_15 : decode cL_wordOf 15 = .ok (.iload_n 3, 1) := by decide +kernel
theorem dL_wordOf_16 : decode cL_wordOf 16 = .ok (.aload_n 2, 1) := by decide +kernel
theorem dL_wordOf_17 : decode cL_wordOf 17 = .ok (.arraylength, 1) := by decide +kernel
theorem dL_wordOf_18 : decode cL_wordOf 18 = .ok (.if_icmp .ge 31, 3) := by decide +kernel
theorem dL_wordOf_21 : decode cL_wordOf 21 = .ok (.aload_n 2, 1) := by decide +kernel
theorem dL_wordOf_22 : decode cL_wordOf 22 = .ok (.iload_n 3, 1) := by decide +kernel
theorem dL_wordOf_23 : decode cL_wordOf 23 = .ok (.aload_n 0, 1) := by decide +kernel
theorem dL_wordOf_24 : decode cL_wordOf 24 = .ok (.iconst 5, 1) := by decide +kernel
theorem dL_wordOf_25 : decode cL_wordOf 25 = .ok (.iload_n 1, 1) := by decide +kernel
theorem dL_wordOf_26 : decode cL_wordOf 26 = .ok (.iload_n 3, 1) := by decide +kernel
theorem dL_wordOf_27 : decode cL_wordOf 27 = .ok (.iadd, 1) := by decide +kernel
theorem dL_wordOf_28 : decode cL_wordOf 28 = .ok (.bipush 11, 2) := by decide +kernel
theorem dL_wordOf_30 : decode cL_wordOf 30 = .ok (.irem, 1) := by decide +kernel
theorem dL_wordOf_31 : decode cL_wordOf 31 = .ok (.iadd, 1) := by decide +kernel
theorem dL_wordOf_32 : decode cL_wordOf 32 = .ok (.invokestatic 9, 3) := by decide +kernel
theorem dL_wordOf_35 : decode cL_wordOf 35 = .ok (.iload_n 3, 1) := by decide +kernel
theorem dL_wordOf_36 : decode cL_wordOf 36 = .ok (.ishr, 1) := by decide +kernel
theorem dL_wordOf_37 : decode cL_wordOf 37 = .ok (.bipush 9, 2) := by decide +kernel
theorem dL_wordOf_39 : decode cL_wordOf 39 = .ok (.invokestatic 15, 3) := by decide +kernel
theorem dL_wordOf_42 : decode cL_wordOf 42 = .ok (.iastore, 1) := by decide +kernel
theorem dL_wordOf_43 : decode cL_wordOf 43 = .ok (.iinc 3 1, 3) := by decide +kernel
theorem dL_wordOf_46 : decode cL_wordOf 46 = .ok (.goto (-31), 3) := by decide +kernel
theorem dL_wordOf_49 : decode cL_wordOf 49 = .ok (.aload_n 2, 1) := by decide +kernel
theorem dL_wordOf_50 : decode cL_wordOf 50 = .ok (.areturn, 1) := by decide +kernel
set_option maxRecDepth 20000 in
theorem ggL_say_X0_say : GoodIn wsL_say wsX0_say := goodIn_ca (goodIn_ca (goodIn_ca (goodIn_r _ [5, 6, 7, 8, 9, 10, 11, 4, 12, 13, 14, 15, 16, 17, 18, 19, 20, 21, 22, 23, 24, 25, 26, 27, 28, 29] (by decide +kernel) (by decide +kernel)) (goodIn_sub (fun _ h => List.mem_cons_of_mem _ (List.mem_append_left _ (List.mem_append_left _ (List.mem_append_right _ h)))) (by decide +kernel))) (goodIn_sub (fun _ h => List.mem_cons_of_mem _ (List.mem_append_left _ (List.mem_append_right _ h))) (by decide +kernel))) (goodIn_sub (fun _ h => List.mem_cons_of_mem _ (List.mem_append_right _ h)) (by decide +kernel))
set_option maxRecDepth 20000 in
theorem gL_say_X0_say : GoodIn wsL_say (wsV RL 19 RX0 yX0_say wsX0_say) := goodIn_app (goodIn_of _ (by decide +kernel)) ggL_say_X0_say
theorem dL_say_0 : decode cL_say 0 = .ok (.iconst 0, 1) := by decide +kernel
theorem dL_say_1 : decode cL_say 1 = .ok (.istore_n 3, 1) := by decide +kernel
theorem dL_say_2 : decode cL_say 2 = .ok (.iload_n 3, 1) := by decide +kernel
theorem dL_say_3 : decode cL_say 3 = .ok (.aload_n 2, 1) := by decide +kernel
theorem dL_say_4 : decode cL_say 4 = .ok (.arraylength, 1) := by decide +kernel
theorem dL_say_5 : decode cL_say 5 = .ok (.if_icmp .ge 34, 3) := by decide +kernel
theorem dL_say_8 : decode cL_say 8 = .ok (.aload_n 0, 1) := by decide +kernel
theorem dL_say_9 : decode cL_say 9 = .ok (.iload_n 1, 1) := by decide +kernel
theorem dL_say_10 : decode cL_say 10 = .ok (.aload_n 2, 1) := by decide +kernel
theorem dL_say_11 : decode cL_say 11 = .ok (.iload_n 3, 1) := by decide +kernel
theorem dL_say_12 : decode cL_say 12 = .ok (.iaload, 1) := by decide +kernel
theorem dL_say_13 : decode cL_say 13 = .ok (.iconst 3, 1) := by decide +kernel
theorem dL_say_14 : decode cL_say 14 = .ok (.idiv, 1) := by decide +kernel
theorem dL_say_15 : decode cL_say 15 = .ok (.aload_n 2, 1) := by decide +kernel
theorem dL_say_16 : decode cL_say 16 = .ok (.iload_n 3, 1) := by decide +kernel
theorem dL_say_17 : decode cL_say 17 = .ok (.iaload, 1) := by decide +kernel
theorem dL_say_18 : decode cL_say 18 = .ok (.iconst 3, 1) := by decide +kernel
theorem dL_say_19 : decode cL_say 19 = .ok (.irem, 1) := by decide +kernel
theorem dL_say_20 : decode cL_say 20 = .ok (.iconst 1, 1) := by decide +kernel
theorem dL_say_21 : decode cL_say 21 = .ok (.iadd, 1) := by decide +kernel
theorem dL_say_22 : decode cL_say 22 = .ok (.invokevirtual 19, 3) := by decide +kernel
theorem dL_say_25 : decode cL_say 25 = .ok (.iload_n 3, 1) := by decide +kernel
theorem dL_say_26 : decode cL_say 26 = .ok (.iconst 1, 1) := by decide +kernel
theorem dL_say_27 : decode cL_say 27 = .ok (.iadd, 1) := by decide +kernel
theorem dL_say_28 : decode cL_say 28 = .ok (.if_icmp .eq 5, 3) := by decide +kernel
theorem dL_say_31 : decode cL_say 31 = .ok (.iconst 0, 1) := by decide +kernel
theorem dL_say_32 : decode cL_say 32 = .ok (.ireturn, 1) := by decide +kernel
theorem dL_say_33 : decode cL_say 33 = .ok (.iinc 3 1, 3) := by decide +kernel
theorem dL_say_36 : decode cL_say 36 = .ok (.goto (-34), 3) := by decide +kernel
theorem dL_say_39 : decode cL_say 39 = .ok (.iconst 1, 1) := by decide +kernel
theorem dL_say_40 : decode cL_say 40 = .ok (.ireturn, 1) := by decide +kernel
set_option maxRecDepth 20000 in
theorem ggL_law_X0_init : GoodIn wsL_law wsX0_init := goodIn_r _ [5, 6, 7, 8, 9, 10, 11, 12, 13, 14, 15, 225, 226, 227, 228] (by decide +kernel) (by decide +kernel)
set_option maxRecDepth 20000 in
theorem gL_law_X0_init : GoodIn wsL_law (wsX0_init) := ggL_law_X0_init
set_option maxRecDepth 20000 in
theorem ggL_law_L_wordOf : GoodIn wsL_law wsL_wordOf := goodIn_r _ [19, 13, 20, 21, 18, 22, 23, 24, 25, 26, 27] (by decide +kernel) (by decide +kernel)
set_option maxRecDepth 20000 in
theorem gL_law_L_wordOf : GoodIn wsL_law (va_wsS RL 26 yL_wordOf wsL_wordOf) := goodIn_app (goodIn_of _ (by decide +kernel)) ggL_law_L_wordOf
set_option maxRecDepth 20000 in
theorem ggL_law_L_say : GoodIn wsL_law wsL_say := goodIn_ca (goodIn_ca (goodIn_ca (goodIn_r _ [30, 31, 32, 33, 2, 34, 35, 36, 15, 14, 37, 38, 39, 40, 41, 42, 43, 44, 45, 46, 47, 48, 49, 50, 51, 52, 225, 226, 227, 228] (by decide +kernel) (by decide +kernel)) (goodIn_sub (fun _ h => List.mem_append_left _ (List.mem_append_left _ (List.mem_append_right _ h))) (by decide +kernel))) (goodIn_sub (fun _ h => List.mem_append_left _ (List.mem_append_right _ h)) (by decide +kernel))) (goodIn_sub (fun _ h => List.mem_append_right _ h) (by decide +kernel))
set_option maxRecDepth 20000 in
theorem gL_law_L_say : GoodIn wsL_law (va_wsS RL 30 yL_say wsL_say) := goodIn_app (goodIn_of _ (by decide +kernel)) ggL_law_L_say
set_option maxRecDepth 20000 in
theorem ggL_law_L_cell : GoodIn wsL_law wsL_cell := goodIn_r _ [22, 23] (by decide +kernel) (by decide +kernel)
set_option maxRecDepth 20000 in
theorem gL_law_L_cell : GoodIn wsL_law (va_wsS RL 9 yL_cell wsL_cell) := goodIn_app (goodIn_of _ (by decide +kernel)) ggL_law_L_cell
set_option maxRecDepth 20000 in
theorem ggL_law_L_below : GoodIn wsL_law wsL_below := goodIn_r _ [26, 27] (by decide +kernel) (by decide +kernel)
set_option maxRecDepth 20000 in
theorem gL_law_L_below : GoodIn wsL_law (va_wsS RL 15 yL_below wsL_below) := goodIn_app (goodIn_of _ (by decide +kernel)) ggL_law_L_below
set_option maxRecDepth 20000 in
theorem ggL_law_X0_digest : GoodIn wsL_law wsX0_digest := goodIn_ca (goodIn_r _ [56, 57, 58, 15, 14, 59, 60, 61, 2, 62, 11, 10, 63, 64, 65, 40, 41, 66, 67, 68, 69, 70, 71, 72, 73, 74, 75, 76, 77, 78, 79, 80, 81, 82, 83, 84, 85, 86, 87, 88, 89, 9, 90, 91, 92, 93, 94, 95, 96, 97, 98, 99, 100, 101, 102, 103, 104, 105, 106, 107, 108, 109, 110, 111, 112, 37, 38, 39, 113, 114, 115, 116, 117, 118, 119, 120, 121, 122, 123, 124, 125, 126, 127, 128, 129, 130, 131, 132, 133, 134, 135, 136, 137, 138, 139, 140, 141, 142, 143, 144, 225, 226, 227, 228] (by decide +kernel) (by decide +kernel)) (goodIn_sub (fun _ h => List.mem_append_left _ (List.mem_append_right _ h)) (by decide +kernel))
set_option maxRecDepth 20000 in
theorem gL_law_X0_digest : GoodIn wsL_law (wsV RL 33 RX0 yX0_digest wsX0_digest) := goodIn_app (goodIn_of _ (by decide +kernel)) ggL_law_X0_digest
set_option maxRecDepth 20000 in
theorem ggL_law_X0_would : GoodIn wsL_law wsX0_would := goodIn_ca (goodIn_ca (goodIn_r _ [148, 10, 42, 43, 2, 44, 40, 41, 45, 46, 47, 48, 49, 50, 51, 52, 121, 122, 123, 124, 125, 126, 127, 128, 129, 130, 131, 132, 133, 134, 135, 136, 137, 138, 139, 140, 141, 72, 73, 74, 75, 76, 77, 93, 94, 95, 96, 97, 66, 67, 68, 69, 70, 71, 225, 226, 227, 228] (by decide +kernel) (by decide +kernel)) (goodIn_sub (fun _ h => List.mem_append_left _ (List.mem_append_right _ h)) (by decide +kernel))) (goodIn_sub (fun _ h => List.mem_append_right _ h) (by decide +kernel))
set_option maxRecDepth 20000 in
theorem gL_law_X0_would : GoodIn wsL_law (wsV RL 37 RX0 yX0_would wsX0_would) := goodIn_app (goodIn_of _ (by decide +kernel)) ggL_law_X0_would
set_option maxRecDepth 20000 in
theorem ggL_law_X0_advise : GoodIn wsL_law wsX0_advise := goodIn_r _ [152, 10, 121, 122, 2, 123, 124, 125, 126, 127, 128, 129, 130, 131, 132, 133, 134, 135, 136, 137, 138, 139, 140, 141, 72, 73, 74, 75, 76, 77, 93, 94, 95, 96, 97, 66, 67, 68, 69, 70, 71, 225, 226, 227, 228] (by decide +kernel) (by decide +kernel)
set_option maxRecDepth 20000 in
theorem gL_law_X0_advise : GoodIn wsL_law (wsV RL 40 RX0 yX0_advise wsX0_advise) := goodIn_app (goodIn_of _ (by decide +kernel)) ggL_law_X0_advise
set_option maxRecDepth 20000 in
theorem ggL_law_X0_same : GoodIn wsL_law wsX0_same := goodIn_ca (goodIn_r _ [156, 37, 38, 2, 39, 40, 41, 113, 114, 115, 116, 9, 117, 118, 119, 120, 15, 14, 121, 122, 123, 124, 125, 126, 127, 128, 129, 130, 131, 132, 133, 134, 135, 136, 137, 138, 139, 140, 141, 72, 73, 74, 75, 76, 77, 93, 94, 95, 96, 97, 225, 226, 227, 228] (by decide +kernel) (by decide +kernel)) (goodIn_sub (fun _ h => List.mem_append_left _ (List.mem_append_right _ h)) (by decide +kernel))
set_option maxRecDepth 20000 in
theorem gL_law_X0_same : GoodIn wsL_law (wsV RL 44 RX0 yX0_same wsX0_same) := goodIn_app (goodIn_of _ (by decide +kernel)) ggL_law_X0_same
set_option maxRecDepth 20000 in
theorem ggL_law_X0_mixed : GoodIn wsL_law wsX0_mixed := goodIn_ca (goodIn_r _ [160, 37, 38, 2, 39, 40, 41, 113, 114, 115, 116, 9, 117, 118, 119, 120, 15, 14, 121, 122, 123, 124, 125, 126, 127, 128, 129, 130, 131, 132, 133, 134, 135, 136, 137, 138, 139, 140, 141, 72, 73, 74, 75, 76, 77, 93, 94, 95, 96, 97, 161, 162, 163, 164, 165, 166, 167, 50, 51, 52, 142, 143, 144, 66, 67, 68, 69, 70, 71, 225, 226, 227, 228] (by decide +kernel) (by decide +kernel)) (goodIn_sub (fun _ h => List.mem_append_left _ (List.mem_append_right _ h)) (by decide +kernel))
set_option maxRecDepth 20000 in
theorem gL_law_X0_mixed : GoodIn wsL_law (wsV RL 48 RX0 yX0_mixed wsX0_mixed) := goodIn_app (goodIn_of _ (by decide +kernel)) ggL_law_X0_mixed
set_option maxRecDepth 20000 in
theorem ggL_law_X0_word : GoodIn wsL_law wsX0_word := goodIn_ca (goodIn_r _ [112, 15, 37, 38, 2, 39, 40, 41, 63, 64, 65, 113, 114, 115, 116, 9, 117, 118, 119, 120, 14, 121, 122, 123, 124, 125, 126, 127, 128, 129, 130, 131, 132, 133, 134, 135, 136, 137, 138, 139, 140, 141, 72, 73, 74, 75, 76, 77, 93, 94, 95, 96, 97, 87, 88, 89, 90, 91, 92, 142, 143, 144, 66, 67, 68, 69, 70, 71, 78, 79, 80, 225, 226, 227, 228] (by decide +kernel) (by decide +kernel)) (goodIn_sub (fun _ h => List.mem_append_left _ (List.mem_append_right _ h)) (by decide +kernel))
set_option maxRecDepth 20000 in
theorem gL_law_X0_word : GoodIn wsL_law (wsV RL 51 RX0 yX0_word wsX0_word) := goodIn_app (goodIn_of _ (by decide +kernel)) ggL_law_X0_word
set_option maxRecDepth 20000 in
theorem ggL_law_X0_shortest : GoodIn wsL_law wsX0_shortest := goodIn_ca (goodIn_ca (goodIn_r _ [172, 37, 38, 2, 39, 40, 41, 173, 174, 175, 48, 49, 113, 114, 115, 116, 9, 117, 118, 119, 120, 15, 14, 121, 122, 123, 124, 125, 126, 127, 128, 129, 130, 131, 132, 133, 134, 135, 136, 137, 138, 139, 140, 141, 72, 73, 74, 75, 76, 77, 93, 94, 95, 96, 97, 176, 177, 178, 179, 180, 181, 142, 143, 144, 66, 67, 68, 69, 70, 71, 182, 183, 184, 185, 186, 187, 225, 226, 227, 228] (by decide +kernel) (by decide +kernel)) (goodIn_sub (fun _ h => List.mem_append_left _ (List.mem_append_right _ h)) (by decide +kernel))) (goodIn_sub (fun _ h => List.mem_append_right _ h) (by decide +kernel))
set_option maxRecDepth 20000 in
theorem gL_law_X0_shortest : GoodIn wsL_law (wsV RL 54 RX0 yX0_shortest wsX0_shortest) := goodIn_app (goodIn_of _ (by decide +kernel)) ggL_law_X0_shortest
set_option maxRecDepth 20000 in
theorem ggL_law_X0_play : GoodIn wsL_law wsX0_play := goodIn_ca (goodIn_ca (goodIn_ca (goodIn_r _ [191, 48, 49, 35, 36, 15, 10, 11, 37, 38, 2, 39, 40, 41, 117, 118, 119, 120, 14, 121, 122, 123, 124, 125, 126, 127, 128, 129, 130, 131, 132, 133, 134, 135, 136, 137, 138, 139, 140, 141, 72, 73, 74, 75, 76, 77, 93, 94, 95, 96, 97, 66, 67, 68, 69, 70, 71, 225, 226, 227, 228] (by decide +kernel) (by decide +kernel)) (goodIn_sub (fun _ h => List.mem_append_right _ h) (by decide +kernel))) (goodIn_sub (fun _ h => List.mem_append_left _ (List.mem_append_left _ (List.mem_append_right _ h))) (by decide +kernel))) (goodIn_sub (fun _ h => List.mem_append_left _ (List.mem_append_right _ h)) (by decide +kernel))
set_option maxRecDepth 20000 in
theorem gL_law_X0_play : GoodIn wsL_law (wsV RL 57 RX0 yX0_play wsX0_play) := goodIn_app (goodIn_of _ (by decide +kernel)) ggL_law_X0_play
set_option maxRecDepth 20000 in
theorem ggL_law_X0_count : GoodIn wsL_law wsX0_count := goodIn_ca (goodIn_r _ [62, 11, 10, 63, 64, 2, 65, 40, 41, 66, 67, 68, 69, 70, 71, 72, 73, 74, 75, 76, 77, 78, 79, 80, 81, 82, 83, 84, 85, 86, 87, 88, 89, 9, 90, 91, 92, 93, 94, 95, 96, 97, 98, 99, 100, 101, 15, 225, 226, 227, 228] (by decide +kernel) (by decide +kernel)) (goodIn_sub (fun _ h => List.mem_append_left _ (List.mem_append_right _ h)) (by decide +kernel))
set_option maxRecDepth 20000 in
theorem gL_law_X0_count : GoodIn wsL_law (wsV RL 60 RX0 yX0_count wsX0_count) := goodIn_app (goodIn_of _ (by decide +kernel)) ggL_law_X0_count
set_option maxRecDepth 20000 in
theorem ggL_law_X0_turn : GoodIn wsL_law wsX0_turn := goodIn_ca (goodIn_ca (goodIn_r _ [196, 10, 11, 42, 43, 2, 44, 40, 41, 45, 46, 47, 48, 49, 50, 51, 52, 121, 122, 123, 124, 125, 126, 127, 128, 129, 130, 131, 132, 133, 134, 135, 136, 137, 138, 139, 140, 141, 72, 73, 74, 75, 76, 77, 93, 94, 95, 96, 97, 66, 67, 68, 69, 70, 71, 225, 226, 227, 228] (by decide +kernel) (by decide +kernel)) (goodIn_sub (fun _ h => List.mem_append_left _ (List.mem_append_right _ h)) (by decide +kernel))) (goodIn_sub (fun _ h => List.mem_append_right _ h) (by decide +kernel))
set_option maxRecDepth 20000 in
theorem gL_law_X0_turn : GoodIn wsL_law (wsV RL 64 RX0 yX0_turn wsX0_turn) := goodIn_app (goodIn_of _ (by decide +kernel)) ggL_law_X0_turn
set_option maxRecDepth 20000 in
theorem ggL_law_X0_reset : GoodIn wsL_law wsX0_reset := goodIn_r _ [200, 10, 9, 142, 143, 2, 144, 66, 67, 68, 69, 70, 71, 72, 73, 74, 75, 76, 77, 225, 226, 227, 228] (by decide +kernel) (by decide +kernel)
set_option maxRecDepth 20000 in
theorem gL_law_X0_reset : GoodIn wsL_law (wsV RL 67 RX0 yX0_reset wsX0_reset) := goodIn_app (goodIn_of _ (by decide +kernel)) ggL_law_X0_reset
set_option maxRecDepth 20000 in
theorem ggL_law_X0_far : GoodIn wsL_law wsX0_far := goodIn_ca (goodIn_r _ [204, 10, 173, 174, 2, 175, 48, 49, 176, 177, 178, 179, 180, 181, 9, 142, 143, 144, 66, 67, 68, 69, 70, 71, 72, 73, 74, 75, 76, 77, 182, 183, 184, 185, 186, 187, 130, 131, 132, 133, 134, 135, 136, 137, 138, 139, 140, 141, 93, 94, 95, 96, 97, 225, 226, 227, 228] (by decide +kernel) (by decide +kernel)) (goodIn_sub (fun _ h => List.mem_append_right _ h) (by decide +kernel))
set_option maxRecDepth 20000 in
theorem gL_law_X0_far : GoodIn wsL_law (wsV RL 70 RX0 yX0_far wsX0_far) := goodIn_app (goodIn_of _ (by decide +kernel)) ggL_law_X0_far
set_option maxRecDepth 20000 in
theorem ggL_law_X0_first : GoodIn wsL_law wsX0_first := goodIn_ca (goodIn_r _ [208, 10, 173, 174, 2, 175, 48, 49, 176, 177, 178, 179, 180, 181, 9, 142, 143, 144, 66, 67, 68, 69, 70, 71, 72, 73, 74, 75, 76, 77, 182, 183, 184, 185, 186, 187, 130, 131, 132, 133, 134, 135, 136, 137, 138, 139, 140, 141, 93, 94, 95, 96, 97, 121, 122, 123, 124, 125, 126, 127, 128, 129, 225, 226, 227, 228] (by decide +kernel) (by decide +kernel)) (goodIn_sub (fun _ h => List.mem_append_right _ h) (by decide +kernel))
set_option maxRecDepth 20000 in
theorem gL_law_X0_first : GoodIn wsL_law (wsV RL 73 RX0 yX0_first wsX0_first) := goodIn_app (goodIn_of _ (by decide +kernel)) ggL_law_X0_first
set_option maxRecDepth 20000 in
theorem ggL_law_X0_round : GoodIn wsL_law wsX0_round := goodIn_ca (goodIn_r _ [212, 14, 15, 37, 38, 2, 39, 40, 41, 165, 166, 167, 127, 128, 129, 124, 125, 126, 50, 51, 52, 225, 226, 227, 228] (by decide +kernel) (by decide +kernel)) (goodIn_sub (fun _ h => List.mem_append_left _ (List.mem_append_right _ h)) (by decide +kernel))
set_option maxRecDepth 20000 in
theorem gL_law_X0_round : GoodIn wsL_law (wsV RL 76 RX0 yX0_round wsX0_round) := goodIn_app (goodIn_of _ (by decide +kernel)) ggL_law_X0_round
set_option maxRecDepth 20000 in
theorem ggL_law_X0_tidy : GoodIn wsL_law wsX0_tidy := goodIn_ca (goodIn_r _ [216, 15, 14, 37, 38, 2, 39, 40, 41, 217, 218, 219, 127, 128, 129, 124, 125, 126, 50, 51, 52, 225, 226, 227, 228] (by decide +kernel) (by decide +kernel)) (goodIn_sub (fun _ h => List.mem_append_left _ (List.mem_append_right _ h)) (by decide +kernel))
set_option maxRecDepth 20000 in
theorem gL_law_X0_tidy : GoodIn wsL_law (wsV RL 79 RX0 yX0_tidy wsX0_tidy) := goodIn_app (goodIn_of _ (by decide +kernel)) ggL_law_X0_tidy
set_option maxRecDepth 20000 in
theorem ggL_law_X0_told : GoodIn wsL_law wsX0_told := goodIn_ca (goodIn_r _ [105, 10, 106, 107, 2, 108, 40, 41, 63, 64, 65, 72, 73, 74, 75, 76, 77, 69, 70, 71, 225, 226, 227, 228] (by decide +kernel) (by decide +kernel)) (goodIn_sub (fun _ h => List.mem_append_left _ (List.mem_append_right _ h)) (by decide +kernel))
set_option maxRecDepth 20000 in
theorem gL_law_X0_told : GoodIn wsL_law (wsV RL 82 RX0 yX0_told wsX0_told) := goodIn_app (goodIn_of _ (by decide +kernel)) ggL_law_X0_told
set_option maxRecDepth 20000 in
theorem ggL_law_X0_where : GoodIn wsL_law wsX0_where := goodIn_ca (goodIn_r _ [224, 40, 41, 10, 72, 73, 2, 74, 225, 226, 227, 228] (by decide +kernel) (by decide +kernel)) (goodIn_sub (fun _ h => List.mem_append_left _ (List.mem_append_right _ h)) (by decide +kernel))
set_option maxRecDepth 20000 in
theorem gL_law_X0_where : GoodIn wsL_law (wsV RL 85 RX0 yX0_where wsX0_where) := goodIn_app (goodIn_of _ (by decide +kernel)) ggL_law_X0_where
