set_option maxRecDepth 20000 in
theorem ggL_addDisc_X4_addDisc : GoodIn wsL_addDisc wsX4_addDisc := goodIn_ca (goodIn_ca (goodIn_r _ [7, 8, 9, 10, 11, 12, 13, 14, 15, 16, 17, 18, 6, 19, 20, 21, 22, 23, 24, 25, 26, 27, 28, 29, 30, 31, 32, 33, 34, 35, 36, 37, 38, 39, 40, 41, 42, 43, 44, 45, 46, 47, 48, 49, 50, 51, 52, 53, 54, 55, 56, 57, 58, 59, 60, 61, 62, 63, 64, 65, 66, 67, 68, 69, 70, 71, 72, 73, 74, 75, 76, 77, 78, 79, 80, 81, 82, 83, 84, 85, 86, 87, 88, 89, 90, 91, 92, 93, 94, 95, 96, 97, 98, 99, 100, 101, 102, 103, 104, 105, 106, 107, 108, 109] (by decide +kernel) (by decide +kernel)) (goodIn_sub (fun _ h => List.mem_cons_of_mem _ (List.mem_append_left _ (List.mem_append_right _ h))) (by decide +kernel))) (goodIn_sub (fun _ h => List.mem_cons_of_mem _ (List.mem_append_right _ h)) (by decide +kernel))
set_option maxRecDepth 20000 in
theorem gL_addDisc_X4_addDisc : GoodIn wsL_addDisc (wsV RL 7 RX4 yX4_addDisc wsX4_addDisc) := goodIn_app (goodIn_of _ (by decide +kernel)) ggL_addDisc_X4_addDisc
theorem dL_addDisc_0 : decode cL_addDisc 0 = .ok (.aload 4, 2) := by decide +kernel
theorem dL_addDisc_2 : decode cL_addDisc 2 = .ok (.iconst 0, 1) := by decide +kernel
theorem dL_addDisc_3 : decode cL_addDisc 3 = .ok (.aload_n 0, 1) := by decide +kernel
theorem dL_addDisc_4 : decode cL_addDisc 4 = .ok (.iload_n 1, 1) := by decide +kernel
theorem dL_addDisc_5 : decode cL_addDisc 5 = .ok (.iload_n 2, 1) := by decide +kernel
theorem dL_addDisc_6 : decode cL_addDisc 6 = .ok (.iload_n 3, 1) := by decide +kernel
theorem dL_addDisc_7 : decode cL_addDisc 7 = .ok (.invokevirtual 7, 3) := by decide +kernel
theorem dL_addDisc_10 : decode cL_addDisc 10 = .ok (.i2l, 1) := by decide +kernel
theorem dL_addDisc_11 : decode cL_addDisc 11 = .ok (.lastore, 1) := by decide +kernel
theorem dL_addDisc_12 : decode cL_addDisc 12 = .ok (.goto 11, 3) := by decide +kernel
theorem dL_addDisc_15 : decode cL_addDisc 15 = .ok (.astore 5, 2) := by decide +kernel
theorem dL_addDisc_17 : decode cL_addDisc 17 = .ok (.iconst 1, 1) := by decide +kernel
theorem dL_addDisc_18 : decode cL_addDisc 18 = .ok (.ireturn, 1) := by decide +kernel
theorem dL_addDisc_19 : decode cL_addDisc 19 = .ok (.astore 5, 2) := by decide +kernel
theorem dL_addDisc_21 : decode cL_addDisc 21 = .ok (.iconst 2, 1) := by decide +kernel
theorem dL_addDisc_22 : decode cL_addDisc 22 = .ok (.ireturn, 1) := by decide +kernel
theorem dL_addDisc_23 : decode cL_addDisc 23 = .ok (.iconst 0, 1) := by decide +kernel
theorem dL_addDisc_24 : decode cL_addDisc 24 = .ok (.ireturn, 1) := by decide +kernel
set_option maxRecDepth 20000 in
theorem ggL_addBox_X4_addBox : GoodIn wsL_addBox wsX4_addBox := goodIn_ca (goodIn_ca (goodIn_r _ [7, 8, 9, 10, 11, 12, 13, 14, 15, 16, 17, 18, 6, 19, 20, 21, 22, 23, 24, 25, 26, 27, 28, 29, 30, 31, 32, 33, 34, 35, 36, 37, 38, 39, 40, 41, 42, 43, 44, 45, 46, 47, 48, 49, 50, 51, 52, 53, 54, 55, 56, 57, 58, 59, 60, 61, 62, 63, 64, 65, 66, 67, 68, 69, 70, 71, 72, 73, 74, 75, 76, 77, 78, 79, 80, 81, 82, 83, 84, 85, 86, 87, 88, 89, 90, 91, 92, 93, 94, 95, 96, 97, 98, 99, 100, 101, 102, 103, 104, 105, 106, 107, 108, 109, 110, 111, 112, 113, 114, 115, 116, 117, 118, 119, 120, 121, 122, 123, 124, 125, 126, 127, 128, 129, 130, 131, 132, 133, 134, 135, 136, 137, 138, 139, 140, 141, 142, 143, 144, 145, 146] (by decide +kernel) (by decide +kernel)) (goodIn_sub (fun _ h => List.mem_cons_of_mem _ (List.mem_append_left _ (List.mem_append_right _ h))) (by decide +kernel))) (goodIn_sub (fun _ h => List.mem_cons_of_mem _ (List.mem_append_right _ h)) (by decide +kernel))
set_option maxRecDepth 20000 in
theorem gL_addBox_X4_addBox : GoodIn wsL_addBox (wsV RL 17 RX4 yX4_addBox wsX4_addBox) := goodIn_app (goodIn_of _ (by decide +kernel)) ggL_addBox_X4_addBox
theorem dL_addBox_0 : decode cL_addBox 0 = .ok (.aload_n 3, 1) := by decide +kernel
theorem dL_addBox_1 : decode cL_addBox 1 = .ok (.iconst 0, 1) := by decide +kernel
theorem dL_addBox_2 : decode cL_addBox 2 = .ok (.aload_n 0, 1) := by decide +kernel
theorem dL_addBox_3 : decode cL_addBox 3 = .ok (.iload_n 1, 1) := by decide +kernel
theorem dL_addBox_4 : decode cL_addBox 4 = .ok (.iload_n 2, 1) := by decide +kernel
theorem dL_addBox_5 : decode cL_addBox 5 = .ok (.invokevirtual 17, 3) := by decide +kernel
theorem dL_addBox_8 : decode cL_addBox 8 = .ok (.i2l, 1) := by decide +kernel
theorem dL_addBox_9 : decode cL_addBox 9 = .ok (.lastore, 1) := by decide +kernel
theorem dL_addBox_10 : decode cL_addBox 10 = .ok (.goto 11, 3) := by decide +kernel
theorem dL_addBox_13 : decode cL_addBox 13 = .ok (.astore 4, 2) := by decide +kernel
theorem dL_addBox_15 : decode cL_addBox 15 = .ok (.iconst 1, 1) := by decide +kernel
theorem dL_addBox_16 : decode cL_addBox 16 = .ok (.ireturn, 1) := by decide +kernel
theorem dL_addBox_17 : decode cL_addBox 17 = .ok (.astore 4, 2) := by decide +kernel
theorem dL_addBox_19 : decode cL_addBox 19 = .ok (.iconst 2, 1) := by decide +kernel
theorem dL_addBox_20 : decode cL_addBox 20 = .ok (.ireturn, 1) := by decide +kernel
theorem dL_addBox_21 : decode cL_addBox 21 = .ok (.iconst 0, 1) := by decide +kernel
theorem dL_addBox_22 : decode cL_addBox 22 = .ok (.ireturn, 1) := by decide +kernel
set_option maxRecDepth 20000 in
theorem ggL_setRisk_X4_setRisk : GoodIn wsL_setRisk wsX4_setRisk := goodIn_ca (goodIn_ca (goodIn_r _ [7, 8, 9, 10, 11, 12, 13, 6, 14, 15, 16, 17, 18, 19, 20, 21, 22, 23, 24, 25, 26, 27, 28, 29, 30, 31, 32, 33, 34, 35, 36, 37, 38, 39, 40, 41, 42, 43, 44, 45, 46, 47, 48, 49, 50, 51, 52, 53, 54, 55, 56, 57, 58, 59, 60, 61, 62, 63, 64, 65, 66, 67, 68, 69, 70, 71] (by decide +kernel) (by decide +kernel)) (goodIn_sub (fun _ h => List.mem_cons_of_mem _ (List.mem_append_left _ (List.mem_append_right _ h))) (by decide +kernel))) (goodIn_sub (fun _ h => List.mem_cons_of_mem _ (List.mem_append_right _ h)) (by decide +kernel))
set_option maxRecDepth 20000 in
theorem gL_setRisk_X4_setRisk : GoodIn wsL_setRisk (wsV RL 21 RX4 yX4_setRisk wsX4_setRisk) := goodIn_app (goodIn_of _ (by decide +kernel)) ggL_setRisk_X4_setRisk
theorem dL_setRisk_0 : decode cL_setRisk 0 = .ok (.aload_n 3, 1) := by decide +kernel
theorem dL_setRisk_1 : decode cL_setRisk 1 = .ok (.iconst 0, 1) := by decide +kernel
theorem dL_setRisk_2 : decode cL_setRisk 2 = .ok (.aload_n 0, 1) := by decide +kernel
theorem dL_setRisk_3 : decode cL_setRisk 3 = .ok (.iload_n 1, 1) := by decide +kernel
theorem dL_setRisk_4 : decode cL_setRisk 4 = .ok (.iload_n 2, 1) := by decide +kernel
theorem dL_setRisk_5 : decode cL_setRisk 5 = .ok (.invokevirtual 21, 3) := by decide +kernel
theorem dL_setRisk_8 : decode cL_setRisk 8 = .ok (.i2l, 1) := by decide +kernel
theorem dL_setRisk_9 : decode cL_setRisk 9 = .ok (.lastore, 1) := by decide +kernel
theorem dL_setRisk_10 : decode cL_setRisk 10 = .ok (.goto 11, 3) := by decide +kernel
theorem dL_setRisk_13 : decode cL_setRisk 13 = .ok (.astore 4, 2) := by decide +kernel
theorem dL_setRisk_15 : decode cL_setRisk 15 = .ok (.iconst 1, 1) := by decide +kernel
theorem dL_setRisk_16 : decode cL_setRisk 16 = .ok (.ireturn, 1) := by decide +kernel
theorem dL_setRisk_17 : decode cL_setRisk 17 = .ok (.astore 4, 2) := by decide +kernel
theorem dL_setRisk_19 : decode cL_setRisk 19 = .ok (.iconst 2, 1) := by decide +kernel
theorem dL_setRisk_20 : decode cL_setRisk 20 = .ok (.ireturn, 1) := by decide +kernel
theorem dL_setRisk_21 : decode cL_setRisk 21 = .ok (.iconst 0, 1) := by decide +kernel
theorem dL_setRisk_22 : decode cL_setRisk 22 = .ok (.ireturn, 1) := by decide +kernel
set_option maxRecDepth 20000 in
theorem ggL_setSeed_X4_setSeed : GoodIn wsL_setSeed wsX4_setSeed := goodIn_ca (goodIn_r _ [6, 7, 8, 9, 10, 11, 12, 5, 13, 14, 15, 16, 17, 18, 19, 20, 21, 22] (by decide +kernel) (by decide +kernel)) (goodIn_sub (fun _ h => List.mem_cons_of_mem _ (List.mem_append_right _ h)) (by decide +kernel))
set_option maxRecDepth 20000 in
theorem gL_setSeed_X4_setSeed : GoodIn wsL_setSeed (wsV RL 26 RX4 yX4_setSeed wsX4_setSeed) := goodIn_app (goodIn_of _ (by decide +kernel)) ggL_setSeed_X4_setSeed
theorem dL_setSeed_0 : decode cL_setSeed 0 = .ok (.aload_n 2, 1) := by decide +kernel
theorem dL_setSeed_1 : decode cL_setSeed 1 = .ok (.iconst 0, 1) := by decide +kernel
theorem dL_setSeed_2 : decode cL_setSeed 2 = .ok (.aload_n 0, 1) := by decide +kernel
theorem dL_setSeed_3 : decode cL_setSeed 3 = .ok (.iload_n 1, 1) := by decide +kernel
theorem dL_setSeed_4 : decode cL_setSeed 4 = .ok (.invokevirtual 26, 3) := by decide +kernel
theorem dL_setSeed_7 : decode cL_setSeed 7 = .ok (.i2l, 1) := by decide +kernel
theorem dL_setSeed_8 : decode cL_setSeed 8 = .ok (.lastore, 1) := by decide +kernel
theorem dL_setSeed_9 : decode cL_setSeed 9 = .ok (.goto 6, 3) := by decide +kernel
theorem dL_setSeed_12 : decode cL_setSeed 12 = .ok (.astore_n 3, 1) := by decide +kernel
theorem dL_setSeed_13 : decode cL_setSeed 13 = .ok (.iconst 1, 1) := by decide +kernel
theorem dL_setSeed_14 : decode cL_setSeed 14 = .ok (.ireturn, 1) := by decide +kernel
theorem dL_setSeed_15 : decode cL_setSeed 15 = .ok (.iconst 0, 1) := by decide +kernel
theorem dL_setSeed_16 : decode cL_setSeed 16 = .ok (.ireturn, 1) := by decide +kernel
set_option maxRecDepth 20000 in
theorem ggL_insert_X4_insert : GoodIn wsL_insert wsX4_insert := goodIn_ca (goodIn_ca (goodIn_ca (goodIn_ca (goodIn_r _ [9, 10, 11, 12, 13, 14, 15, 16, 17, 18, 19, 20, 21, 22, 23, 8, 24, 25, 26, 27, 28, 29, 30, 31, 32, 33, 34, 35, 36, 37, 38, 39, 40, 41, 42, 43, 44, 45, 46, 47, 48, 49, 50, 51, 52, 53, 54, 55, 56, 57, 58, 59, 60, 61, 62, 63, 64, 65, 66, 67, 68, 69, 70, 71, 72, 73, 74, 75, 76, 77, 78, 79, 80, 81, 82, 83] (by decide +kernel) (by decide +kernel)) (goodIn_sub (fun _ h => List.mem_cons_of_mem _ (List.mem_append_left _ (List.mem_append_left _ (List.mem_append_left _ (List.mem_append_right _ h))))) (by decide +kernel))) (goodIn_sub (fun _ h => List.mem_cons_of_mem _ (List.mem_append_left _ (List.mem_append_left _ (List.mem_append_right _ h)))) (by decide +kernel))) (goodIn_sub (fun _ h => List.mem_cons_of_mem _ (List.mem_append_left _ (List.mem_append_right _ h))) (by decide +kernel))) (goodIn_sub (fun _ h => List.mem_cons_of_mem _ (List.mem_append_right _ h)) (by decide +kernel))
set_option maxRecDepth 20000 in
theorem gL_insert_X4_insert : GoodIn wsL_insert (wsV RL 30 RX4 yX4_insert wsX4_insert) := goodIn_app (goodIn_of _ (by decide +kernel)) ggL_insert_X4_insert
theorem dL_insert_0 : decode cL_insert 0 = .ok (.aload_n 3, 1) := by decide +kernel
theorem dL_insert_1 : decode cL_insert 1 = .ok (.iconst 0, 1) := by decide +kernel
theorem dL_insert_2 : decode cL_insert 2 = .ok (.aload_n 0, 1) := by decide +kernel
theorem dL_insert_3 : decode cL_insert 3 = .ok (.iload_n 1, 1) := by decide +kernel
theorem dL_insert_4 : decode cL_insert 4 = .ok (.iload_n 2, 1) := by decide +kernel
theorem dL_insert_5 : decode cL_insert 5 = .ok (.invokevirtual 30, 3) := by decide +kernel
theorem dL_insert_8 : decode cL_insert 8 = .ok (.i2l, 1) := by decide +kernel
theorem dL_insert_9 : decode cL_insert 9 = .ok (.lastore, 1) := by decide +kernel
theorem dL_insert_10 : decode cL_insert 10 = .ok (.goto 19, 3) := by decide +kernel
theorem dL_insert_13 : decode cL_insert 13 = .ok (.astore 4, 2) := by decide +kernel
theorem dL_insert_15 : decode cL_insert 15 = .ok (.iconst 1, 1) := by decide +kernel
theorem dL_insert_16 : decode cL_insert 16 = .ok (.ireturn, 1) := by decide +kernel
theorem dL_insert_17 : decode cL_insert 17 = .ok (.astore 4, 2) := by decide +kernel
theorem dL_insert_19 : decode cL_insert 19 = .ok (.iconst 2, 1) := by decide +kernel
theorem dL_insert_20 : decode cL_insert 20 = .ok (.ireturn, 1) := by decide +kernel
theorem dL_insert_21 : decode cL_insert 21 = .ok (.astore 4, 2) := by decide +kernel
theorem dL_insert_23 : decode cL_insert 23 = .ok (.iconst 3, 1) := by decide +kernel
theorem dL_insert_24 : decode cL_insert 24 = .ok (.ireturn, 1) := by decide +kernel
theorem dL_insert_25 : decode cL_insert 25 = .ok (.astore 4, 2) := by decide +kernel
theorem dL_insert_27 : decode cL_insert 27 = .ok (.iconst 4, 1) := by decide +kernel
theorem dL_insert_28 : decode cL_insert 28 = .ok (.ireturn, 1) := by decide +kernel
theorem dL_insert_29 : decode cL_insert 29 = .ok (.iconst 0, 1) := by decide +kernel
theorem dL_insert_30 : decode cL_insert 30 = .ok (.ireturn, 1) := by decide +kernel
set_option maxRecDepth 20000 in
theorem ggL_press_X4_press : GoodIn wsL_press wsX4_press := goodIn_ca (goodIn_ca (goodIn_ca (goodIn_r _ [8, 9, 10, 11, 12, 13, 14, 15, 16, 17, 18, 7, 19, 20, 21, 22, 23, 24, 25, 26, 27, 28, 29, 30, 31, 32, 33, 34, 35, 36, 37, 38, 39, 40, 41, 42, 43, 44, 45, 46, 47, 48, 49, 50, 51, 52, 53, 54, 55, 56, 57, 58, 59, 60, 61, 62, 63, 64, 65, 66, 67, 68, 69, 70, 71, 72, 73, 74, 75, 76, 77, 78, 79, 80, 81, 82, 83, 84, 85, 86, 87, 88, 89, 90, 91, 92, 93, 94, 95, 96, 97, 98, 99, 100, 101, 102, 103, 104, 105, 106, 107, 108, 109, 110, 111, 112, 113, 114, 115, 116, 117, 118, 119, 120, 121, 122, 123, 124, 125, 126, 127, 128, 129, 130, 131, 132, 133] (by decide +kernel) (by decide +kernel)) (goodIn_sub (fun _ h => List.mem_cons_of_mem _ (List.mem_append_left _ (List.mem_append_left _ (List.mem_append_right _ h)))) (by decide +kernel))) (goodIn_sub (fun _ h => List.mem_cons_of_mem _ (List.mem_append_left _ (List.mem_append_right _ h))) (by decide +kernel))) (goodIn_sub (fun _ h => List.mem_cons_of_mem _ (List.mem_append_right _ h)) (by decide +kernel))
set_option maxRecDepth 20000 in
theorem gL_press_X4_press : GoodIn wsL_press (wsV RL 36 RX4 yX4_press wsX4_press) := goodIn_app (goodIn_of _ (by decide +kernel)) ggL_press_X4_press
theorem dL_press_0 : decode cL_press 0 = .ok (.aload_n 3, 1) := by decide +kernel
theorem dL_press_1 : decode cL_press 1 = .ok (.iconst 0, 1) := by decide +kernel
theorem dL_press_2 : decode cL_press 2 = .ok (.aload_n 0, 1) := by decide +kernel
theorem dL_press_3 : decode cL_press 3 = .ok (.iload_n 1, 1) := by decide +kernel
theorem dL_press_4 : decode cL_press 4 = .ok (.iload_n 2, 1) := by decide +kernel
theorem dL_press_5 : decode cL_press 5 = .ok (.invokevirtual 36, 3) := by decide +kernel
theorem dL_press_8 : decode cL_press 8 = .ok (.i2l, 1) := by decide +kernel
theorem dL_press_9 : decode cL_press 9 = .ok (.lastore, 1) := by decide +kernel
theorem dL_press_10 : decode cL_press 10 = .ok (.goto 15, 3) := by decide +kernel
theorem dL_press_13 : decode cL_press 13 = .ok (.astore 4, 2) := by decide +kernel
theorem dL_press_15 : decode cL_press 15 = .ok (.iconst 1, 1) := by decide +kernel
theorem dL_press_16 : decode cL_press 16 = .ok (.ireturn, 1) := by decide +kernel
theorem dL_press_17 : decode cL_press 17 = .ok (.astore 4, 2) := by decide +kernel
theorem dL_press_19 : decode cL_press 19 = .ok (.iconst 2, 1) := by decide +kernel
theorem dL_press_20 : decode cL_press 20 = .ok (.ireturn, 1) := by decide +kernel
theorem dL_press_21 : decode cL_press 21 = .ok (.astore 4, 2) := by decide +kernel
theorem dL_press_23 : decode cL_press 23 = .ok (.iconst 3, 1) := by decide +kernel
theorem dL_press_24 : decode cL_press 24 = .ok (.ireturn, 1) := by decide +kernel
theorem dL_press_25 : decode cL_press 25 = .ok (.iconst 0, 1) := by decide +kernel
theorem dL_press_26 : decode cL_press 26 = .ok (.ireturn, 1) := by decide +kernel
set_option maxRecDepth 20000 in
theorem ggL_play_X4_play : GoodIn wsL_play wsX4_play := goodIn_ca (goodIn_ca (goodIn_ca (goodIn_r _ [8, 9, 10, 11, 12, 13, 14, 15, 16, 17, 18, 19, 20, 21, 7, 22, 23, 24, 25, 26, 27, 28, 29, 30, 31, 32, 33, 34, 35, 36, 37, 38, 39, 40, 41, 42, 43, 44, 45, 46, 47, 48, 49, 50, 51, 52, 53, 54, 55, 56, 57, 58, 59, 60, 61, 62, 63, 64, 65, 66, 67, 68, 69, 70, 71, 72, 73, 74, 75, 76, 77, 78, 79, 80, 81, 82, 83, 84, 85, 86, 87, 88, 89, 90, 91, 92, 93, 94, 95, 96, 97, 98, 99, 100, 101, 102, 103, 104, 105, 106, 107, 108, 109, 110, 111, 112, 113, 114, 115, 116, 117, 118, 119, 120, 121, 122, 123, 124, 125, 126, 127, 128, 129] (by decide +kernel) (by decide +kernel)) (goodIn_sub (fun _ h => List.mem_cons_of_mem _ (List.mem_append_left _ (List.mem_append_left _ (List.mem_append_right _ h)))) (by decide +kernel))) (goodIn_sub (fun _ h => List.mem_cons_of_mem _ (List.mem_append_left _ (List.mem_append_right _ h))) (by decide +kernel))) (goodIn_sub (fun _ h => List.mem_cons_of_mem _ (List.mem_append_right _ h)) (by decide +kernel))
set_option maxRecDepth 20000 in
theorem gL_play_X4_play : GoodIn wsL_play (wsV RL 39 RX4 yX4_play wsX4_play) := goodIn_app (goodIn_of _ (by decide +kernel)) ggL_play_X4_play
theorem dL_play_0 : decode cL_play 0 = .ok (.aload_n 2, 1) := by decide +kernel
theorem dL_play_1 : decode cL_play 1 = .ok (.iconst 0, 1) := by decide +kernel
theorem dL_play_2 : decode cL_play 2 = .ok (.aload_n 0, 1) := by decide +kernel
theorem dL_play_3 : decode cL_play 3 = .ok (.iload_n 1, 1) := by decide +kernel
theorem dL_play_4 : decode cL_play 4 = .ok (.invokevirtual 39, 3) := by decide +kernel
theorem dL_play_7 : decode cL_play 7 = .ok (.i2l, 1) := by decide +kernel
theorem dL_play_8 : decode cL_play 8 = .ok (.lastore, 1) := by decide +kernel
theorem dL_play_9 : decode cL_play 9 = .ok (.goto 12, 3) := by decide +kernel
theorem dL_play_12 : decode cL_play 12 = .ok (.astore_n 3, 1) := by decide +kernel
theorem dL_play_13 : decode cL_play 13 = .ok (.iconst 1, 1) := by decide +kernel
theorem dL_play_14 : decode cL_play 14 = .ok (.ireturn, 1) := by decide +kernel
theorem dL_play_15 : decode cL_play 15 = .ok (.astore_n 3, 1) := by decide +kernel
theorem dL_play_16 : decode cL_play 16 = .ok (.iconst 2, 1) := by decide +kernel
theorem dL_play_17 : decode cL_play 17 = .ok (.ireturn, 1) := by decide +kernel
theorem dL_play_18 : decode cL_play 18 = .ok (.astore_n 3, 1) := by decide +kernel
theorem dL_play_19 : decode cL_play 19 = .ok (.iconst 3, 1) := by decide +kernel
theorem dL_play_20 : decode cL_play 20 = .ok (.ireturn, 1) := by decide +kernel
theorem dL_play_21 : decode cL_play 21 = .ok (.iconst 0, 1) := by decide +kernel
theorem dL_play_22 : decode cL_play 22 = .ok (.ireturn, 1) := by decide +kernel
set_option maxRecDepth 20000 in
theorem ggL_getCredits_X4_getCredits : GoodIn wsL_getCredits wsX4_getCredits := goodIn_ca (goodIn_r _ [6, 7, 8, 9, 10, 5, 11, 12, 13, 14, 15, 16, 17, 18, 19, 20, 21, 22, 23, 24, 25, 26, 27, 28, 29, 30, 31, 32, 33, 34, 35, 36, 37, 38, 39, 40, 41, 42, 43, 44, 45, 46, 47, 48, 49, 50, 51, 52, 53, 54, 55, 56, 57, 58, 59, 60, 61, 62, 63, 64, 65] (by decide +kernel) (by decide +kernel)) (goodIn_sub (fun _ h => List.mem_cons_of_mem _ (List.mem_append_right _ h)) (by decide +kernel))
set_option maxRecDepth 20000 in
theorem gL_getCredits_X4_getCredits : GoodIn wsL_getCredits (wsV RL 45 RX4 yX4_getCredits wsX4_getCredits) := goodIn_app (goodIn_of _ (by decide +kernel)) ggL_getCredits_X4_getCredits
theorem dL_getCredits_0 : decode cL_getCredits 0 = .ok (.aload_n 2, 1) := by decide +kernel
theorem dL_getCredits_1 : decode cL_getCredits 1 = .ok (.iconst 0, 1) := by decide +kernel
theorem dL_getCredits_2 : decode cL_getCredits 2 = .ok (.aload_n 0, 1) := by decide +kernel
theorem dL_getCredits_3 : decode cL_getCredits 3 = .ok (.iload_n 1, 1) := by decide +kernel
theorem dL_getCredits_4 : decode cL_getCredits 4 = .ok (.invokevirtual 45, 3) := by decide +kernel
theorem dL_getCredits_7 : decode cL_getCredits 7 = .ok (.i2l, 1) := by decide +kernel
theorem dL_getCredits_8 : decode cL_getCredits 8 = .ok (.lastore, 1) := by decide +kernel
theorem dL_getCredits_9 : decode cL_getCredits 9 = .ok (.goto 6, 3) := by decide +kernel
theorem dL_getCredits_12 : decode cL_getCredits 12 = .ok (.astore_n 3, 1) := by decide +kernel
theorem dL_getCredits_13 : decode cL_getCredits 13 = .ok (.iconst 1, 1) := by decide +kernel
theorem dL_getCredits_14 : decode cL_getCredits 14 = .ok (.ireturn, 1) := by decide +kernel
theorem dL_getCredits_15 : decode cL_getCredits 15 = .ok (.iconst 0, 1) := by decide +kernel
theorem dL_getCredits_16 : decode cL_getCredits 16 = .ok (.ireturn, 1) := by decide +kernel
set_option maxRecDepth 20000 in
theorem ggL_getQueued_X4_getQueued : GoodIn wsL_getQueued wsX4_getQueued := goodIn_ca (goodIn_r _ [6, 7, 8, 9, 10, 5, 11, 12, 13, 14, 15, 16, 17, 18, 19, 20, 21, 22, 23, 24, 25, 26, 27, 28, 29, 30, 31, 32, 33, 34, 35, 36, 37, 38, 39, 40, 41, 42, 43, 44, 45, 46, 47, 48, 49, 50, 51, 52, 53, 54, 55, 56, 57, 58, 59, 60, 61, 62, 63, 64, 65] (by decide +kernel) (by decide +kernel)) (goodIn_sub (fun _ h => List.mem_cons_of_mem _ (List.mem_append_right _ h)) (by decide +kernel))
set_option maxRecDepth 20000 in
theorem gL_getQueued_X4_getQueued : GoodIn wsL_getQueued (wsV RL 48 RX4 yX4_getQueued wsX4_getQueued) := goodIn_app (goodIn_of _ (by decide +kernel)) ggL_getQueued_X4_getQueued
theorem dL_getQueued_0 : decode cL_getQueued 0 = .ok (.aload_n 2, 1) := by decide +kernel
theorem dL_getQueued_1 : decode cL_getQueued 1 = .ok (.iconst 0, 1) := by decide +kernel
theorem dL_getQueued_2 : decode cL_getQueued 2 = .ok (.aload_n 0, 1) := by decide +kernel
theorem dL_getQueued_3 : decode cL_getQueued 3 = .ok (.iload_n 1, 1) := by decide +kernel
theorem dL_getQueued_4 : decode cL_getQueued 4 = .ok (.invokevirtual 48, 3) := by decide +kernel
theorem dL_getQueued_7 : decode cL_getQueued 7 = .ok (.i2l, 1) := by decide +kernel
theorem dL_getQueued_8 : decode cL_getQueued 8 = .ok (.lastore, 1) := by decide +kernel
theorem dL_getQueued_9 : decode cL_getQueued 9 = .ok (.goto 6, 3) := by decide +kernel
theorem dL_getQueued_12 : decode cL_getQueued 12 = .ok (.astore_n 3, 1) := by decide +kernel
theorem dL_getQueued_13 : decode cL_getQueued 13 = .ok (.iconst 1, 1) := by decide +kernel
theorem dL_getQueued_14 : decode cL_getQueued 14 = .ok (.ireturn, 1) := by decide +kernel
theorem dL_getQueued_15 : decode cL_getQueued 15 = .ok (.iconst 0, 1) := by decide +kernel
theorem dL_getQueued_16 : decode cL_getQueued 16 = .ok (.ireturn, 1) := by decide +kernel
set_option maxRecDepth 20000 in
theorem ggL_getCents_X4_getCents : GoodIn wsL_getCents wsX4_getCents := goodIn_ca (goodIn_r _ [6, 7, 8, 9, 10, 5, 11, 12, 13, 14, 15, 16, 17, 18, 19, 20, 21, 22, 23, 24, 25, 26, 27, 28, 29, 30, 31, 32, 33, 34, 35, 36, 37, 38, 39, 40, 41, 42, 43, 44, 45, 46, 47, 48, 49, 50, 51, 52, 53, 54, 55, 56, 57, 58, 59, 60, 61, 62, 63, 64, 65] (by decide +kernel) (by decide +kernel)) (goodIn_sub (fun _ h => List.mem_cons_of_mem _ (List.mem_append_right _ h)) (by decide +kernel))
set_option maxRecDepth 20000 in
theorem gL_getCents_X4_getCents : GoodIn wsL_getCents (wsV RL 51 RX4 yX4_getCents wsX4_getCents) := goodIn_app (goodIn_of _ (by decide +kernel)) ggL_getCents_X4_getCents
theorem dL_getCents_0 : decode cL_getCents 0 = .ok (.aload_n 2, 1) := by decide +kernel
theorem dL_getCents_1 : decode cL_getCents 1 = .ok (.iconst 0, 1) := by decide +kernel
theorem dL_getCents_2 : decode cL_getCents 2 = .ok (.aload_n 0, 1) := by decide +kernel
theorem dL_getCents_3 : decode cL_getCents 3 = .ok (.iload_n 1, 1) := by decide +kernel
theorem dL_getCents_4 : decode cL_getCents 4 = .ok (.invokevirtual 51, 3) := by decide +kernel
theorem dL_getCents_7 : decode cL_getCents 7 = .ok (.i2l, 1) := by decide +kernel
theorem dL_getCents_8 : decode cL_getCents 8 = .ok (.lastore, 1) := by decide +kernel
theorem dL_getCents_9 : decode cL_getCents 9 = .ok (.goto 6, 3) := by decide +kernel
theorem dL_getCents_12 : decode cL_getCents 12 = .ok (.astore_n 3, 1) := by decide +kernel
theorem dL_getCents_13 : decode cL_getCents 13 = .ok (.iconst 1, 1) := by decide +kernel
theorem dL_getCents_14 : decode cL_getCents 14 = .ok (.ireturn, 1) := by decide +kernel
theorem dL_getCents_15 : decode cL_getCents 15 = .ok (.iconst 0, 1) := by decide +kernel
theorem dL_getCents_16 : decode cL_getCents 16 = .ok (.ireturn, 1) := by decide +kernel
set_option maxRecDepth 20000 in
theorem ggL_isJammed_X4_isJammed : GoodIn wsL_isJammed wsX4_isJammed := goodIn_ca (goodIn_r _ [6, 7, 8, 9, 10, 5, 11, 12, 13, 14, 15, 16, 17, 18, 19, 20, 21, 22, 23, 24, 25, 26, 27, 28, 29, 30, 31, 32, 33, 34, 35, 36, 37, 38, 39, 40, 41, 42, 43, 44, 45, 46, 47, 48, 49, 50, 51, 52, 53, 54, 55, 56, 57, 58, 59, 60, 61, 62, 63, 64, 65] (by decide +kernel) (by decide +kernel)) (goodIn_sub (fun _ h => List.mem_cons_of_mem _ (List.mem_append_right _ h)) (by decide +kernel))
set_option maxRecDepth 20000 in
theorem gL_isJammed_X4_isJammed : GoodIn wsL_isJammed (wsV RL 54 RX4 yX4_isJammed wsX4_isJammed) := goodIn_app (goodIn_of _ (by decide +kernel)) ggL_isJammed_X4_isJammed
theorem dL_isJammed_0 : decode cL_isJammed 0 = .ok (.aload_n 2, 1) := by decide +kernel
theorem dL_isJammed_1 : decode cL_isJammed 1 = .ok (.iconst 0, 1) := by decide +kernel
theorem dL_isJammed_2 : decode cL_isJammed 2 = .ok (.aload_n 0, 1) := by decide +kernel
theorem dL_isJammed_3 : decode cL_isJammed 3 = .ok (.iload_n 1, 1) := by decide +kernel
theorem dL_isJammed_4 : decode cL_isJammed 4 = .ok (.invokevirtual 54, 3) := by decide +kernel
theorem dL_isJammed_7 : decode cL_isJammed 7 = .ok (.ifCond .eq 7, 3) := by decide +kernel
theorem dL_isJammed_10 : decode cL_isJammed 10 = .ok (.lconst 1, 1) := by decide +kernel
theorem dL_isJammed_11 : decode cL_isJammed 11 = .ok (.goto 4, 3) := by decide +kernel
theorem dL_isJammed_14 : decode cL_isJammed 14 = .ok (.lconst 0, 1) := by decide +kernel
theorem dL_isJammed_15 : decode cL_isJammed 15 = .ok (.lastore, 1) := by decide +kernel
theorem dL_isJammed_16 : decode cL_isJammed 16 = .ok (.goto 6, 3) := by decide +kernel
theorem dL_isJammed_19 : decode cL_isJammed 19 = .ok (.astore_n 3, 1) := by decide +kernel
theorem dL_isJammed_20 : decode cL_isJammed 20 = .ok (.iconst 1, 1) := by decide +kernel
theorem dL_isJammed_21 : decode cL_isJammed 21 = .ok (.ireturn, 1) := by decide +kernel
theorem dL_isJammed_22 : decode cL_isJammed 22 = .ok (.iconst 0, 1) := by decide +kernel
theorem dL_isJammed_23 : decode cL_isJammed 23 = .ok (.ireturn, 1) := by decide +kernel
set_option maxRecDepth 20000 in
theorem ggL_getWheel_X4_getWheel : GoodIn wsL_getWheel wsX4_getWheel := goodIn_ca (goodIn_r _ [6, 7, 8, 9, 10, 5, 11, 12, 13, 14, 15, 16, 17, 18, 19, 20, 21, 22, 23, 24, 25, 26, 27, 28, 29, 30, 31, 32, 33, 34, 35, 36, 37, 38, 39, 40, 41, 42, 43, 44, 45, 46, 47, 48, 49, 50, 51, 52, 53, 54, 55, 56, 57, 58, 59, 60, 61, 62, 63, 64, 65, 66, 67, 68, 69, 70, 71, 72] (by decide +kernel) (by decide +kernel)) (goodIn_sub (fun _ h => List.mem_cons_of_mem _ (List.mem_append_right _ h)) (by decide +kernel))
set_option maxRecDepth 20000 in
theorem gL_getWheel_X4_getWheel : GoodIn wsL_getWheel (wsV RL 58 RX4 yX4_getWheel wsX4_getWheel) := goodIn_app (goodIn_of _ (by decide +kernel)) ggL_getWheel_X4_getWheel
theorem dL_getWheel_0 : decode cL_getWheel 0 = .ok (.aload_n 3, 1) := by decide +kernel
theorem dL_getWheel_1 : decode cL_getWheel 1 = .ok (.iconst 0, 1) := by decide +kernel
theorem dL_getWheel_2 : decode cL_getWheel 2 = .ok (.aload_n 0, 1) := by decide +kernel
theorem dL_getWheel_3 : decode cL_getWheel 3 = .ok (.iload_n 1, 1) := by decide +kernel
theorem dL_getWheel_4 : decode cL_getWheel 4 = .ok (.iload_n 2, 1) := by decide +kernel
theorem dL_getWheel_5 : decode cL_getWheel 5 = .ok (.invokevirtual 58, 3) := by decide +kernel
theorem dL_getWheel_8 : decode cL_getWheel 8 = .ok (.i2l, 1) := by decide +kernel
theorem dL_getWheel_9 : decode cL_getWheel 9 = .ok (.lastore, 1) := by decide +kernel
theorem dL_getWheel_10 : decode cL_getWheel 10 = .ok (.goto 7, 3) := by decide +kernel
theorem dL_getWheel_13 : decode cL_getWheel 13 = .ok (.astore 4, 2) := by decide +kernel
theorem dL_getWheel_15 : decode cL_getWheel 15 = .ok (.iconst 1, 1) := by decide +kernel
theorem dL_getWheel_16 : decode cL_getWheel 16 = .ok (.ireturn, 1) := by decide +kernel
theorem dL_getWheel_17 : decode cL_getWheel 17 = .ok (.iconst 0, 1) := by decide +kernel
theorem dL_getWheel_18 : decode cL_getWheel 18 = .ok (.ireturn, 1) := by decide +kernel
set_option maxRecDepth 20000 in
theorem ggL_getNeedle_X4_getNeedle : GoodIn wsL_getNeedle wsX4_getNeedle := goodIn_ca (goodIn_r _ [6, 7, 8, 9, 10, 5, 11, 12, 13, 14, 15, 16, 17, 18, 19, 20, 21, 22, 23, 24, 25, 26, 27, 28, 29, 30, 31, 32, 33, 34, 35, 36, 37, 38, 39, 40, 41, 42, 43, 44, 45, 46, 47, 48, 49, 50, 51, 52, 53, 54, 55, 56, 57, 58, 59, 60, 61, 62, 63, 64, 65] (by decide +kernel) (by decide +kernel)) (goodIn_sub (fun _ h => List.mem_cons_of_mem _ (List.mem_append_right _ h)) (by decide +kernel))
set_option maxRecDepth 20000 in
theorem gL_getNeedle_X4_getNeedle : GoodIn wsL_getNeedle (wsV RL 61 RX4 yX4_getNeedle wsX4_getNeedle) := goodIn_app (goodIn_of _ (by decide +kernel)) ggL_getNeedle_X4_getNeedle
theorem dL_getNeedle_0 : decode cL_getNeedle 0 = .ok (.aload_n 2, 1) := by decide +kernel
theorem dL_getNeedle_1 : decode cL_getNeedle 1 = .ok (.iconst 0, 1) := by decide +kernel
theorem dL_getNeedle_2 : decode cL_getNeedle 2 = .ok (.aload_n 0, 1) := by decide +kernel
theorem dL_getNeedle_3 : decode cL_getNeedle 3 = .ok (.iload_n 1, 1) := by decide +kernel
theorem dL_getNeedle_4 : decode cL_getNeedle 4 = .ok (.invokevirtual 61, 3) := by decide +kernel
theorem dL_getNeedle_7 : decode cL_getNeedle 7 = .ok (.i2l, 1) := by decide +kernel
theorem dL_getNeedle_8 : decode cL_getNeedle 8 = .ok (.lastore, 1) := by decide +kernel
theorem dL_getNeedle_9 : decode cL_getNeedle 9 = .ok (.goto 6, 3) := by decide +kernel
theorem dL_getNeedle_12 : decode cL_getNeedle 12 = .ok (.astore_n 3, 1) := by decide +kernel
theorem dL_getNeedle_13 : decode cL_getNeedle 13 = .ok (.iconst 1, 1) := by decide +kernel
theorem dL_getNeedle_14 : decode cL_getNeedle 14 = .ok (.ireturn, 1) := by decide +kernel
theorem dL_getNeedle_15 : decode cL_getNeedle 15 = .ok (.iconst 0, 1) := by decide +kernel
theorem dL_getNeedle_16 : decode cL_getNeedle 16 = .ok (.ireturn, 1) := by decide +kernel
set_option maxRecDepth 20000 in
theorem ggL_getWear_X4_getWear : GoodIn wsL_getWear wsX4_getWear := goodIn_ca (goodIn_r _ [6, 7, 8, 9, 10, 5, 11, 12, 13, 14, 15, 16, 17, 18, 19, 20, 21, 22, 23, 24, 25, 26, 27, 28, 29, 30, 31, 32, 33, 34, 35, 36, 37, 38, 39, 40, 41, 42, 43, 44, 45, 46, 47, 48, 49, 50, 51, 52, 53, 54, 55, 56, 57, 58] (by decide +kernel) (by decide +kernel)) (goodIn_sub (fun _ h => List.mem_cons_of_mem _ (List.mem_append_right _ h)) (by decide +kernel))
set_option maxRecDepth 20000 in
theorem gL_getWear_X4_getWear : GoodIn wsL_getWear (wsV RL 64 RX4 yX4_getWear wsX4_getWear) := goodIn_app (goodIn_of _ (by decide +kernel)) ggL_getWear_X4_getWear
theorem dL_getWear_0 : decode cL_getWear 0 = .ok (.aload_n 2, 1) := by decide +kernel
theorem dL_getWear_1 : decode cL_getWear 1 = .ok (.iconst 0, 1) := by decide +kernel
theorem dL_getWear_2 : decode cL_getWear 2 = .ok (.aload_n 0, 1) := by decide +kernel
theorem dL_getWear_3 : decode cL_getWear 3 = .ok (.iload_n 1, 1) := by decide +kernel
theorem dL_getWear_4 : decode cL_getWear 4 = .ok (.invokevirtual 64, 3) := by decide +kernel
theorem dL_getWear_7 : decode cL_getWear 7 = .ok (.i2l, 1) := by decide +kernel
theorem dL_getWear_8 : decode cL_getWear 8 = .ok (.lastore, 1) := by decide +kernel
theorem dL_getWear_9 : decode cL_getWear 9 = .ok (.goto 6, 3) := by decide +kernel
theorem dL_getWear_12 : decode cL_getWear 12 = .ok (.astore_n 3, 1) := by decide +kernel
theorem dL_getWear_13 : decode cL_getWear 13 = .ok (.iconst 1, 1) := by decide +kernel
theorem dL_getWear_14 : decode cL_getWear 14 = .ok (.ireturn, 1) := by decide +kernel
theorem dL_getWear_15 : decode cL_getWear 15 = .ok (.iconst 0, 1) := by decide +kernel
theorem dL_getWear_16 : decode cL_getWear 16 = .ok (.ireturn, 1) := by decide +kernel
set_option maxRecDepth 20000 in
theorem ggL_getPlace_X4_getPlace : GoodIn wsL_getPlace wsX4_getPlace := goodIn_ca (goodIn_r _ [6, 7, 8, 9, 10, 11, 12, 13, 5, 14, 15, 16, 17, 18, 19, 20, 21, 22, 23, 24, 25, 26, 27, 28, 29, 30, 31, 32, 33, 34, 35, 36, 37, 38, 39, 40, 41, 42, 43, 44, 45, 46, 47, 48, 49, 50, 51, 52, 53, 54, 55, 56, 57, 58, 59, 60, 61, 62, 63, 64, 65, 66, 67, 68, 69, 70, 71, 72, 73, 74, 75, 76] (by decide +kernel) (by decide +kernel)) (goodIn_sub (fun _ h => List.mem_cons_of_mem _ (List.mem_append_right _ h)) (by decide +kernel))
set_option maxRecDepth 20000 in
theorem gL_getPlace_X4_getPlace : GoodIn wsL_getPlace (wsV RL 67 RX4 yX4_getPlace wsX4_getPlace) := goodIn_app (goodIn_of _ (by decide +kernel)) ggL_getPlace_X4_getPlace
theorem dL_getPlace_0 : decode cL_getPlace 0 = .ok (.aload_n 2, 1) := by decide +kernel
theorem dL_getPlace_1 : decode cL_getPlace 1 = .ok (.iconst 0, 1) := by decide +kernel
theorem dL_getPlace_2 : decode cL_getPlace 2 = .ok (.aload_n 0, 1) := by decide +kernel
theorem dL_getPlace_3 : decode cL_getPlace 3 = .ok (.iload_n 1, 1) := by decide +kernel
theorem dL_getPlace_4 : decode cL_getPlace 4 = .ok (.invokevirtual 67, 3) := by decide +kernel
theorem dL_getPlace_7 : decode cL_getPlace 7 = .ok (.i2l, 1) := by decide +kernel
theorem dL_getPlace_8 : decode cL_getPlace 8 = .ok (.lastore, 1) := by decide +kernel
theorem dL_getPlace_9 : decode cL_getPlace 9 = .ok (.goto 6, 3) := by decide +kernel
theorem dL_getPlace_12 : decode cL_getPlace 12 = .ok (.astore_n 3, 1) := by decide +kernel
theorem dL_getPlace_13 : decode cL_getPlace 13 = .ok (.iconst 1, 1) := by decide +kernel
theorem dL_getPlace_14 : decode cL_getPlace 14 = .ok (.ireturn, 1) := by decide +kernel
theorem dL_getPlace_15 : decode cL_getPlace 15 = .ok (.iconst 0, 1) := by decide +kernel
theorem dL_getPlace_16 : decode cL_getPlace 16 = .ok (.ireturn, 1) := by decide +kernel
set_option maxRecDepth 20000 in
theorem ggL_discAt_X4_discAt : GoodIn wsL_discAt wsX4_discAt := goodIn_ca (goodIn_ca (goodIn_r _ [7, 8, 9, 10, 11, 12, 13, 14, 6, 15, 16, 17, 18, 19, 20, 21, 22, 23, 24, 25, 26, 27, 28, 29, 30, 31, 32, 33, 34, 35, 36, 37, 38, 39, 40, 41, 42, 43, 44, 45, 46, 47, 48, 49, 50, 51, 52, 53, 54, 55, 56, 57, 58, 59, 60, 61, 62, 63, 64, 65, 66, 67, 68, 69, 70, 71, 72, 73, 74, 75, 76, 77, 78, 79, 80, 81, 82, 83, 84] (by decide +kernel) (by decide +kernel)) (goodIn_sub (fun _ h => List.mem_cons_of_mem _ (List.mem_append_left _ (List.mem_append_right _ h))) (by decide +kernel))) (goodIn_sub (fun _ h => List.mem_cons_of_mem _ (List.mem_append_right _ h)) (by decide +kernel))
set_option maxRecDepth 20000 in
theorem gL_discAt_X4_discAt : GoodIn wsL_discAt (wsV RL 70 RX4 yX4_discAt wsX4_discAt) := goodIn_app (goodIn_of _ (by decide +kernel)) ggL_discAt_X4_discAt
theorem dL_discAt_0 : decode cL_discAt 0 = .ok (.aload_n 3, 1) := by decide +kernel
theorem dL_discAt_1 : decode cL_discAt 1 = .ok (.iconst 0, 1) := by decide +kernel
theorem dL_discAt_2 : decode cL_discAt 2 = .ok (.aload_n 0, 1) := by decide +kernel
theorem dL_discAt_3 : decode cL_discAt 3 = .ok (.iload_n 1, 1) := by decide +kernel
theorem dL_discAt_4 : decode cL_discAt 4 = .ok (.iload_n 2, 1) := by decide +kernel
theorem dL_discAt_5 : decode cL_discAt 5 = .ok (.invokevirtual 70, 3) := by decide +kernel
theorem dL_discAt_8 : decode cL_discAt 8 = .ok (.i2l, 1) := by decide +kernel
theorem dL_discAt_9 : decode cL_discAt 9 = .ok (.lastore, 1) := by decide +kernel
theorem dL_discAt_10 : decode cL_discAt 10 = .ok (.goto 11, 3) := by decide +kernel
theorem dL_discAt_13 : decode cL_discAt 13 = .ok (.astore 4, 2) := by decide +kernel
theorem dL_discAt_15 : decode cL_discAt 15 = .ok (.iconst 1, 1) := by decide +kernel
theorem dL_discAt_16 : decode cL_discAt 16 = .ok (.ireturn, 1) := by decide +kernel
theorem dL_discAt_17 : decode cL_discAt 17 = .ok (.astore 4, 2) := by decide +kernel
theorem dL_discAt_19 : decode cL_discAt 19 = .ok (.iconst 2, 1) := by decide +kernel
theorem dL_discAt_20 : decode cL_discAt 20 = .ok (.ireturn, 1) := by decide +kernel
theorem dL_discAt_21 : decode cL_discAt 21 = .ok (.iconst 0, 1) := by decide +kernel
theorem dL_discAt_22 : decode cL_discAt 22 = .ok (.ireturn, 1) := by decide +kernel
set_option maxRecDepth 20000 in
theorem ggL_pull_X4_pull : GoodIn wsL_pull wsX4_pull := goodIn_ca (goodIn_r _ [6, 7, 8, 9, 10, 5, 11, 12, 13, 14, 15, 16, 17, 18, 19, 20, 21, 22, 23, 24, 25, 26, 27, 28, 29, 30, 31, 32, 33, 34, 35, 36, 37, 38, 39, 40, 41, 42, 43, 44, 45, 46, 47, 48, 49, 50, 51, 52, 53, 54, 55, 56, 57, 58, 59, 60, 61, 62, 63, 64, 65, 66, 67, 68, 69, 70, 71, 72, 73, 74, 75, 76, 77, 78, 79, 80, 81, 82, 83, 84, 85, 86, 87, 88, 89, 90, 91, 92, 93] (by decide +kernel) (by decide +kernel)) (goodIn_sub (fun _ h => List.mem_cons_of_mem _ (List.mem_append_right _ h)) (by decide +kernel))
set_option maxRecDepth 20000 in
theorem gL_pull_X4_pull : GoodIn wsL_pull (wsV RL 73 RX4 yX4_pull wsX4_pull) := goodIn_app (goodIn_of _ (by decide +kernel)) ggL_pull_X4_pull
theorem dL_pull_0 : decode cL_pull 0 = .ok (.aload_n 2, 1) := by decide +kernel
theorem dL_pull_1 : decode cL_pull 1 = .ok (.iconst 0, 1) := by decide +kernel
theorem dL_pull_2 : decode cL_pull 2 = .ok (.aload_n 0, 1) := by decide +kernel
theorem dL_pull_3 : decode cL_pull 3 = .ok (.iload_n 1, 1) := by decide +kernel
theorem dL_pull_4 : decode cL_pull 4 = .ok (.invokevirtual 73, 3) := by decide +kernel
theorem dL_pull_7 : decode cL_pull 7 = .ok (.i2l, 1) := by decide +kernel
theorem dL_pull_8 : decode cL_pull 8 = .ok (.lastore, 1) := by decide +kernel
theorem dL_pull_9 : decode cL_pull 9 = .ok (.goto 6, 3) := by decide +kernel
theorem dL_pull_12 : decode cL_pull 12 = .ok (.astore_n 3, 1) := by decide +kernel
theorem dL_pull_13 : decode cL_pull 13 = .ok (.iconst 1, 1) := by decide +kernel
theorem dL_pull_14 : decode cL_pull 14 = .ok (.ireturn, 1) := by decide +kernel
theorem dL_pull_15 : decode cL_pull 15 = .ok (.iconst 0, 1) := by decide +kernel
theorem dL_pull_16 : decode cL_pull 16 = .ok (.ireturn, 1) := by decide +kernel
set_option maxRecDepth 20000 in
theorem ggL_pullIn_X4_pullIn : GoodIn wsL_pullIn wsX4_pullIn := goodIn_ca (goodIn_r _ [6, 7, 8, 9, 10, 11, 5, 12, 13, 14, 15, 16, 17, 18, 19, 20, 21, 22, 23, 24, 25, 26, 27, 28, 29, 30, 31, 32, 33, 34, 35, 36, 37, 38, 39, 40, 41, 42, 43, 44, 45, 46, 47, 48, 49, 50, 51, 52, 53, 54, 55, 56, 57, 58, 59, 60, 61, 62, 63, 64, 65, 66, 67, 68, 69, 70, 71, 72, 73, 74, 75, 76, 77, 78, 79, 80, 81, 82, 83, 84, 85, 86, 87, 88, 89, 90, 91, 92, 93, 94] (by decide +kernel) (by decide +kernel)) (goodIn_sub (fun _ h => List.mem_cons_of_mem _ (List.mem_append_right _ h)) (by decide +kernel))
set_option maxRecDepth 20000 in
theorem gL_pullIn_X4_pullIn : GoodIn wsL_pullIn (wsV RL 76 RX4 yX4_pullIn wsX4_pullIn) := goodIn_app (goodIn_of _ (by decide +kernel)) ggL_pullIn_X4_pullIn
theorem dL_pullIn_0 : decode cL_pullIn 0 = .ok (.aload_n 3, 1) := by decide +kernel
theorem dL_pullIn_1 : decode cL_pullIn 1 = .ok (.iconst 0, 1) := by decide +kernel
theorem dL_pullIn_2 : decode cL_pullIn 2 = .ok (.aload_n 0, 1) := by decide +kernel
theorem dL_pullIn_3 : decode cL_pullIn 3 = .ok (.iload_n 1, 1) := by decide +kernel
theorem dL_pullIn_4 : decode cL_pullIn 4 = .ok (.iload_n 2, 1) := by decide +kernel
theorem dL_pullIn_5 : decode cL_pullIn 5 = .ok (.invokevirtual 76, 3) := by decide +kernel
theorem dL_pullIn_8 : decode cL_pullIn 8 = .ok (.i2l, 1) := by decide +kernel
theorem dL_pullIn_9 : decode cL_pullIn 9 = .ok (.lastore, 1) := by decide +kernel
theorem dL_pullIn_10 : decode cL_pullIn 10 = .ok (.goto 7, 3) := by decide +kernel
theorem dL_pullIn_13 : decode cL_pullIn 13 = .ok (.astore 4, 2) := by decide +kernel
theorem dL_pullIn_15 : decode cL_pullIn 15 = .ok (.iconst 1, 1) := by decide +kernel
theorem dL_pullIn_16 : decode cL_pullIn 16 = .ok (.ireturn, 1) := by decide +kernel
theorem dL_pullIn_17 : decode cL_pullIn 17 = .ok (.iconst 0, 1) := by decide +kernel
theorem dL_pullIn_18 : decode cL_pullIn 18 = .ok (.ireturn, 1) := by decide +kernel
set_option maxRecDepth 20000 in
theorem ggL_pass_X4_pass : GoodIn wsL_pass wsX4_pass := goodIn_ca (goodIn_r _ [6, 7, 8, 9, 10, 11, 12, 13, 14, 15, 16, 17, 18, 19, 20, 21, 22, 23, 24, 25, 26, 27, 28, 29, 30, 31, 32, 33, 34, 35, 36, 37, 38, 39, 40, 41, 42, 43, 44, 45, 46, 47, 48, 49, 50, 51, 52, 53, 54, 55, 56, 57, 58, 59, 60, 61, 62, 63, 64, 65, 66, 67, 68, 69, 70, 71, 72, 73, 74, 75, 76, 77, 78, 79, 80, 81, 82, 83, 84, 85, 86, 87, 88, 89, 90, 91, 92, 93, 94, 95, 96, 97, 98, 99, 100, 101, 102, 103, 104, 105, 106, 107, 108, 109] (by decide +kernel) (by decide +kernel)) (goodIn_sub (fun _ h => List.mem_cons_of_mem _ (List.mem_append_right _ h)) (by decide +kernel))
set_option maxRecDepth 20000 in
theorem gL_pass_X4_pass : GoodIn wsL_pass (wsV RL 79 RX4 yX4_pass wsX4_pass) := goodIn_app (goodIn_of _ (by decide +kernel)) ggL_pass_X4_pass
theorem dL_pass_0 : decode cL_pass 0 = .ok (.aload_n 1, 1) := by decide +kernel
theorem dL_pass_1 : decode cL_pass 1 = .ok (.iconst 0, 1) := by decide +kernel
theorem dL_pass_2 : decode cL_pass 2 = .ok (.aload_n 0, 1) := by decide +kernel
theorem dL_pass_3 : decode cL_pass 3 = .ok (.invokevirtual 79, 3) := by decide +kernel
theorem dL_pass_6 : decode cL_pass 6 = .ok (.i2l, 1) := by decide +kernel
theorem dL_pass_7 : decode cL_pass 7 = .ok (.lastore, 1) := by decide +kernel
theorem dL_pass_8 : decode cL_pass 8 = .ok (.goto 6, 3) := by decide +kernel
theorem dL_pass_11 : decode cL_pass 11 = .ok (.astore_n 2, 1) := by decide +kernel
theorem dL_pass_12 : decode cL_pass 12 = .ok (.iconst 1, 1) := by decide +kernel
theorem dL_pass_13 : decode cL_pass 13 = .ok (.ireturn, 1) := by decide +kernel
theorem dL_pass_14 : decode cL_pass 14 = .ok (.iconst 0, 1) := by decide +kernel
theorem dL_pass_15 : decode cL_pass 15 = .ok (.ireturn, 1) := by decide +kernel
set_option maxRecDepth 20000 in
theorem ggL_visit_X4_visit : GoodIn wsL_visit wsX4_visit := goodIn_ca (goodIn_ca (goodIn_r _ [7, 8, 9, 10, 11, 12, 13, 14, 15, 16, 17, 18, 19, 6, 20, 21, 22, 23, 24, 25, 26, 27, 28, 29, 30, 31, 32, 33, 34, 35, 36, 37, 38, 39, 40, 41, 42, 43, 44, 45, 46, 47, 48, 49, 50, 51, 52, 53, 54, 55, 56, 57, 58, 59, 60, 61, 62, 63, 64, 65, 66, 67, 68, 69, 70, 71, 72, 73, 74, 75, 76, 77, 78, 79, 80, 81, 82, 83, 84, 85] (by decide +kernel) (by decide +kernel)) (goodIn_sub (fun _ h => List.mem_cons_of_mem _ (List.mem_append_left _ (List.mem_append_right _ h))) (by decide +kernel))) (goodIn_sub (fun _ h => List.mem_cons_of_mem _ (List.mem_append_right _ h)) (by decide +kernel))
set_option maxRecDepth 20000 in
theorem gL_visit_X4_visit : GoodIn wsL_visit (wsV RL 83 RX4 yX4_visit wsX4_visit) := goodIn_app (goodIn_of _ (by decide +kernel)) ggL_visit_X4_visit
theorem dL_visit_0 : decode cL_visit 0 = .ok (.aload_n 2, 1) := by decide +kernel
theorem dL_visit_1 : decode cL_visit 1 = .ok (.iconst 0, 1) := by decide +kernel
theorem dL_visit_2 : decode cL_visit 2 = .ok (.aload_n 0, 1) := by decide +kernel
theorem dL_visit_3 : decode cL_visit 3 = .ok (.iload_n 1, 1) := by decide +kernel
theorem dL_visit_4 : decode cL_visit 4 = .ok (.invokevirtual 83, 3) := by decide +kernel
theorem dL_visit_7 : decode cL_visit 7 = .ok (.i2l, 1) := by decide +kernel
theorem dL_visit_8 : decode cL_visit 8 = .ok (.lastore, 1) := by decide +kernel
theorem dL_visit_9 : decode cL_visit 9 = .ok (.goto 9, 3) := by decide +kernel
theorem dL_visit_12 : decode cL_visit 12 = .ok (.astore_n 3, 1) := by decide +kernel
theorem dL_visit_13 : decode cL_visit 13 = .ok (.iconst 1, 1) := by decide +kernel
theorem dL_visit_14 : decode cL_visit 14 = .ok (.ireturn, 1) := by decide +kernel
theorem dL_visit_15 : decode cL_visit 15 = .ok (.astore_n 3, 1) := by decide +kernel
theorem dL_visit_16 : decode cL_visit 16 = .ok (.iconst 2, 1) := by decide +kernel
theorem dL_visit_17 : decode cL_visit 17 = .ok (.ireturn, 1) := by decide +kernel
theorem dL_visit_18 : decode cL_visit 18 = .ok (.iconst 0, 1) := by decide +kernel
theorem dL_visit_19 : decode cL_visit 19 = .ok (.ireturn, 1) := by decide +kernel
set_option maxRecDepth 20000 in
theorem ggL_getShort_X4_getShort : GoodIn wsL_getShort wsX4_getShort := goodIn_ca (goodIn_r _ [6, 7, 8, 9, 10, 5, 11, 12, 13, 14, 15, 16, 17, 18, 19, 20, 21, 22, 23, 24, 25, 26, 27, 28, 29, 30, 31, 32, 33, 34, 35, 36, 37, 38, 39, 40, 41, 42, 43, 44, 45, 46, 47, 48, 49, 50, 51, 52, 53, 54, 55, 56, 57, 58, 59, 60, 61, 62, 63, 64, 65] (by decide +kernel) (by decide +kernel)) (goodIn_sub (fun _ h => List.mem_cons_of_mem _ (List.mem_append_right _ h)) (by decide +kernel))
set_option maxRecDepth 20000 in
theorem gL_getShort_X4_getShort : GoodIn wsL_getShort (wsV RL 86 RX4 yX4_getShort wsX4_getShort) := goodIn_app (goodIn_of _ (by decide +kernel)) ggL_getShort_X4_getShort
theorem dL_getShort_0 : decode cL_getShort 0 = .ok (.aload_n 2, 1) := by decide +kernel
theorem dL_getShort_1 : decode cL_getShort 1 = .ok (.iconst 0, 1) := by decide +kernel
theorem dL_getShort_2 : decode cL_getShort 2 = .ok (.aload_n 0, 1) := by decide +kernel
theorem dL_getShort_3 : decode cL_getShort 3 = .ok (.iload_n 1, 1) := by decide +kernel
theorem dL_getShort_4 : decode cL_getShort 4 = .ok (.invokevirtual 86, 3) := by decide +kernel
theorem dL_getShort_7 : decode cL_getShort 7 = .ok (.i2l, 1) := by decide +kernel
theorem dL_getShort_8 : decode cL_getShort 8 = .ok (.lastore, 1) := by decide +kernel
theorem dL_getShort_9 : decode cL_getShort 9 = .ok (.goto 6, 3) := by decide +kernel
theorem dL_getShort_12 : decode cL_getShort 12 = .ok (.astore_n 3, 1) := by decide +kernel
theorem dL_getShort_13 : decode cL_getShort 13 = .ok (.iconst 1, 1) := by decide +kernel
theorem dL_getShort_14 : decode cL_getShort 14 = .ok (.ireturn, 1) := by decide +kernel
theorem dL_getShort_15 : decode cL_getShort 15 = .ok (.iconst 0, 1) := by decide +kernel
theorem dL_getShort_16 : decode cL_getShort 16 = .ok (.ireturn, 1) := by decide +kernel
set_option maxRecDepth 20000 in
theorem ggL_getShare_X4_getShare : GoodIn wsL_getShare wsX4_getShare := goodIn_ca (goodIn_r _ [6, 7, 8, 9, 10, 5, 11, 12, 13, 14, 15, 16, 17, 18, 19, 20, 21, 22, 23, 24, 25, 26, 27, 28, 29, 30, 31, 32, 33, 34, 35, 36, 37, 38, 39, 40, 41, 42, 43, 44, 45, 46, 47, 48, 49, 50, 51, 52, 53, 54, 55, 56, 57, 58, 59, 60, 61, 62, 63, 64, 65] (by decide +kernel) (by decide +kernel)) (goodIn_sub (fun _ h => List.mem_cons_of_mem _ (List.mem_append_right _ h)) (by decide +kernel))
set_option maxRecDepth 20000 in
theorem gL_getShare_X4_getShare : GoodIn wsL_getShare (wsV RL 89 RX4 yX4_getShare wsX4_getShare) := goodIn_app (goodIn_of _ (by decide +kernel)) ggL_getShare_X4_getShare
theorem dL_getShare_0 : decode cL_getShare 0 = .ok (.aload_n 2, 1) := by decide +kernel
theorem dL_getShare_1 : decode cL_getShare 1 = .ok (.iconst 0, 1) := by decide +kernel
theorem dL_getShare_2 : decode cL_getShare 2 = .ok (.aload_n 0, 1) := by decide +kernel
theorem dL_getShare_3 : decode cL_getShare 3 = .ok (.iload_n 1, 1) := by decide +kernel
theorem dL_getShare_4 : decode cL_getShare 4 = .ok (.invokevirtual 89, 3) := by decide +kernel
theorem dL_getShare_7 : decode cL_getShare 7 = .ok (.i2l, 1) := by decide +kernel
theorem dL_getShare_8 : decode cL_getShare 8 = .ok (.lastore, 1) := by decide +kernel
theorem dL_getShare_9 : decode cL_getShare 9 = .ok (.goto 6, 3) := by decide +kernel
theorem dL_getShare_12 : decode cL_getShare 12 = .ok (.astore_n 3, 1) := by decide +kernel
theorem dL_getShare_13 : decode cL_getShare 13 = .ok (.iconst 1, 1) := by decide +kernel
theorem dL_getShare_14 : decode cL_getShare 14 = .ok (.ireturn, 1) := by decide +kernel
theorem dL_getShare_15 : decode cL_getShare 15 = .ok (.iconst 0, 1) := by decide +kernel
theorem dL_getShare_16 : decode cL_getShare 16 = .ok (.ireturn, 1) := by decide +kernel
set_option maxRecDepth 20000 in
theorem ggL_change_X4_change : GoodIn wsL_change wsX4_change := goodIn_ca (goodIn_ca (goodIn_ca (goodIn_r _ [7, 8, 9, 10, 11, 12, 13, 14, 15, 16, 6, 17, 18, 19, 20, 21, 22, 23, 24, 25, 26, 27, 28, 29, 30, 31, 32, 33, 34, 35, 36, 37, 38, 39, 40, 41, 42, 43, 44, 45, 46, 47, 48, 49, 50, 51, 52, 53, 54, 55, 56, 57, 58, 59, 60, 61, 62, 63, 64, 65, 66, 67, 68, 69, 70, 71, 72, 73, 74, 75, 76, 77, 78, 79, 80, 81, 82, 83, 84, 85, 86, 87, 88, 89, 90, 91, 92, 93, 94, 95, 96, 97, 98, 99, 100, 101, 102, 103, 104, 105, 106, 107, 108, 109, 110, 111, 112, 113, 114, 115] (by decide +kernel) (by decide +kernel)) (goodIn_sub (fun _ h => List.mem_cons_of_mem _ (List.mem_append_left _ (List.mem_append_right _ h))) (by decide +kernel))) (goodIn_sub (fun _ h => List.mem_cons_of_mem _ (List.mem_append_right _ h)) (by decide +kernel))) (goodIn_sub (fun _ h => List.mem_cons_of_mem _ (List.mem_append_left _ (List.mem_append_left _ (List.mem_append_right _ h)))) (by decide +kernel))
set_option maxRecDepth 20000 in
theorem gL_change_X4_change : GoodIn wsL_change (wsV RL 92 RX4 yX4_change wsX4_change) := goodIn_app (goodIn_of _ (by decide +kernel)) ggL_change_X4_change
theorem dL_change_0 : decode cL_change 0 = .ok (.aload 4, 2) := by decide +kernel
theorem dL_change_2 : decode cL_change 2 = .ok (.iconst 0, 1) := by decide +kernel
theorem dL_change_3 : decode cL_change 3 = .ok (.aload_n 0, 1) := by decide +kernel
theorem dL_change_4 : decode cL_change 4 = .ok (.iload_n 1, 1) := by decide +kernel
theorem dL_change_5 : decode cL_change 5 = .ok (.iload_n 2, 1) := by decide +kernel
theorem dL_change_6 : decode cL_change 6 = .ok (.iload_n 3, 1) := by decide +kernel
theorem dL_change_7 : decode cL_change 7 = .ok (.invokevirtual 92, 3) := by decide +kernel
theorem dL_change_10 : decode cL_change 10 = .ok (.i2l, 1) := by decide +kernel
theorem dL_change_11 : decode cL_change 11 = .ok (.lastore, 1) := by decide +kernel
theorem dL_change_12 : decode cL_change 12 = .ok (.goto 11, 3) := by decide +kernel
theorem dL_change_15 : decode cL_change 15 = .ok (.astore 5, 2) := by decide +kernel
theorem dL_change_17 : decode cL_change 17 = .ok (.iconst 1, 1) := by decide +kernel
theorem dL_change_18 : decode cL_change 18 = .ok (.ireturn, 1) := by decide +kernel
theorem dL_change_19 : decode cL_change 19 = .ok (.astore 5, 2) := by decide +kernel
theorem dL_change_21 : decode cL_change 21 = .ok (.iconst 2, 1) := by decide +kernel
theorem dL_change_22 : decode cL_change 22 = .ok (.ireturn, 1) := by decide +kernel
theorem dL_change_23 : decode cL_change 23 = .ok (.iconst 0, 1) := by decide +kernel
theorem dL_change_24 : decode cL_change 24 = .ok (.ireturn, 1) := by decide +kernel
set_option maxRecDepth 20000 in
theorem ggL_changeNeedle_X4_changeNeedle : GoodIn wsL_changeNeedle wsX4_changeNeedle := goodIn_ca (goodIn_ca (goodIn_r _ [7, 8, 9, 10, 11, 12, 13, 14, 15, 16, 6, 17, 18, 19, 20, 21, 22, 23, 24, 25, 26, 27, 28, 29, 30, 31, 32, 33, 34, 35, 36, 37, 38, 39, 40, 41, 42, 43, 44, 45, 46, 47, 48, 49, 50, 51, 52, 53, 54, 55, 56, 57, 58, 59, 60, 61, 62, 63, 64, 65, 66, 67, 68, 69, 70, 71] (by decide +kernel) (by decide +kernel)) (goodIn_sub (fun _ h => List.mem_cons_of_mem _ (List.mem_append_left _ (List.mem_append_right _ h))) (by decide +kernel))) (goodIn_sub (fun _ h => List.mem_cons_of_mem _ (List.mem_append_right _ h)) (by decide +kernel))
set_option maxRecDepth 20000 in
theorem gL_changeNeedle_X4_changeNeedle : GoodIn wsL_changeNeedle (wsV RL 95 RX4 yX4_changeNeedle wsX4_changeNeedle) := goodIn_app (goodIn_of _ (by decide +kernel)) ggL_changeNeedle_X4_changeNeedle
theorem dL_changeNeedle_0 : decode cL_changeNeedle 0 = .ok (.aload_n 2, 1) := by decide +kernel
theorem dL_changeNeedle_1 : decode cL_changeNeedle 1 = .ok (.iconst 0, 1) := by decide +kernel
theorem dL_changeNeedle_2 : decode cL_changeNeedle 2 = .ok (.aload_n 0, 1) := by decide +kernel
theorem dL_changeNeedle_3 : decode cL_changeNeedle 3 = .ok (.iload_n 1, 1) := by decide +kernel
theorem dL_changeNeedle_4 : decode cL_changeNeedle 4 = .ok (.invokevirtual 95, 3) := by decide +kernel
theorem dL_changeNeedle_7 : decode cL_changeNeedle 7 = .ok (.i2l, 1) := by decide +kernel
theorem dL_changeNeedle_8 : decode cL_changeNeedle 8 = .ok (.lastore, 1) := by decide +kernel
theorem dL_changeNeedle_9 : decode cL_changeNeedle 9 = .ok (.goto 9, 3) := by decide +kernel
theorem dL_changeNeedle_12 : decode cL_changeNeedle 12 = .ok (.astore_n 3, 1) := by decide +kernel
theorem dL_changeNeedle_13 : decode cL_changeNeedle 13 = .ok (.iconst 1, 1) := by decide +kernel
theorem dL_changeNeedle_14 : decode cL_changeNeedle 14 = .ok (.ireturn, 1) := by decide +kernel
theorem dL_changeNeedle_15 : decode cL_changeNeedle 15 = .ok (.astore_n 3, 1) := by decide +kernel
theorem dL_changeNeedle_16 : decode cL_changeNeedle 16 = .ok (.iconst 2, 1) := by decide +kernel
theorem dL_changeNeedle_17 : decode cL_changeNeedle 17 = .ok (.ireturn, 1) := by decide +kernel
theorem dL_changeNeedle_18 : decode cL_changeNeedle 18 = .ok (.iconst 0, 1) := by decide +kernel
theorem dL_changeNeedle_19 : decode cL_changeNeedle 19 = .ok (.ireturn, 1) := by decide +kernel
set_option maxRecDepth 20000 in
theorem ggL_burn_X4_burn : GoodIn wsL_burn wsX4_burn := goodIn_ca (goodIn_ca (goodIn_r _ [7, 8, 9, 10, 11, 12, 13, 14, 6, 15, 16, 17, 18, 19, 20, 21, 22, 23, 24, 25, 26, 27, 28, 29, 30, 31, 32, 33, 34, 35, 36, 37, 38, 39, 40, 41, 42, 43, 44, 45, 46, 47, 48, 49, 50, 51, 52, 53, 54, 55, 56, 57, 58, 59, 60, 61, 62, 63, 64, 65, 66, 67, 68, 69] (by decide +kernel) (by decide +kernel)) (goodIn_sub (fun _ h => List.mem_cons_of_mem _ (List.mem_append_left _ (List.mem_append_right _ h))) (by decide +kernel))) (goodIn_sub (fun _ h => List.mem_cons_of_mem _ (List.mem_append_right _ h)) (by decide +kernel))
set_option maxRecDepth 20000 in
theorem gL_burn_X4_burn : GoodIn wsL_burn (wsV RL 98 RX4 yX4_burn wsX4_burn) := goodIn_app (goodIn_of _ (by decide +kernel)) ggL_burn_X4_burn
theorem dL_burn_0 : decode cL_burn 0 = .ok (.aload_n 2, 1) := by decide +kernel
theorem dL_burn_1 : decode cL_burn 1 = .ok (.iconst 0, 1) := by decide +kernel
theorem dL_burn_2 : decode cL_burn 2 = .ok (.aload_n 0, 1) := by decide +kernel
theorem dL_burn_3 : decode cL_burn 3 = .ok (.iload_n 1, 1) := by decide +kernel
theorem dL_burn_4 : decode cL_burn 4 = .ok (.invokevirtual 98, 3) := by decide +kernel
theorem dL_burn_7 : decode cL_burn 7 = .ok (.i2l, 1) := by decide +kernel
theorem dL_burn_8 : decode cL_burn 8 = .ok (.lastore, 1) := by decide +kernel
theorem dL_burn_9 : decode cL_burn 9 = .ok (.goto 9, 3) := by decide +kernel
theorem dL_burn_12 : decode cL_burn 12 = .ok (.astore_n 3, 1) := by decide +kernel
theorem dL_burn_13 : decode cL_burn 13 = .ok (.iconst 1, 1) := by decide +kernel
theorem dL_burn_14 : decode cL_burn 14 = .ok (.ireturn, 1) := by decide +kernel
theorem dL_burn_15 : decode cL_burn 15 = .ok (.astore_n 3, 1) := by decide +kernel
theorem dL_burn_16 : decode cL_burn 16 = .ok (.iconst 2, 1) := by decide +kernel
theorem dL_burn_17 : decode cL_burn 17 = .ok (.ireturn, 1) := by decide +kernel
theorem dL_burn_18 : decode cL_burn 18 = .ok (.iconst 0, 1) := by decide +kernel
theorem dL_burn_19 : decode cL_burn 19 = .ok (.ireturn, 1) := by decide +kernel
set_option maxRecDepth 20000 in
theorem ggL_ask_X4_ask : GoodIn wsL_ask wsX4_ask := goodIn_ca (goodIn_ca (goodIn_ca (goodIn_ca (goodIn_r _ [8, 9, 10, 11, 12, 13, 14, 15, 16, 7, 17, 18, 19, 20, 21, 22, 23, 24, 25, 26, 27, 28, 29, 30, 31, 32, 33, 34, 35, 36, 37, 38, 39, 40, 41, 42, 43, 44, 45, 46, 47, 48, 49, 50, 51, 52, 53, 54, 55, 56, 57, 58, 59, 60, 61, 62, 63, 64, 65, 66, 67, 68, 69, 70, 71] (by decide +kernel) (by decide +kernel)) (goodIn_sub (fun _ h => List.mem_cons_of_mem _ (List.mem_append_left _ (List.mem_append_left _ (List.mem_append_right _ h)))) (by decide +kernel))) (goodIn_sub (fun _ h => List.mem_cons_of_mem _ (List.mem_append_left _ (List.mem_append_left _ (List.mem_append_left _ (List.mem_append_right _ h))))) (by decide +kernel))) (goodIn_sub (fun _ h => List.mem_cons_of_mem _ (List.mem_append_left _ (List.mem_append_right _ h))) (by decide +kernel))) (goodIn_sub (fun _ h => List.mem_cons_of_mem _ (List.mem_append_right _ h)) (by decide +kernel))
set_option maxRecDepth 20000 in
theorem gL_ask_X4_ask : GoodIn wsL_ask (wsV RL 101 RX4 yX4_ask wsX4_ask) := goodIn_app (goodIn_of _ (by decide +kernel)) ggL_ask_X4_ask
theorem dL_ask_0 : decode cL_ask 0 = .ok (.aload_n 3, 1) := by decide +kernel
theorem dL_ask_1 : decode cL_ask 1 = .ok (.iconst 0, 1) := by decide +kernel
theorem dL_ask_2 : decode cL_ask 2 = .ok (.aload_n 0, 1) := by decide +kernel
theorem dL_ask_3 : decode cL_ask 3 = .ok (.iload_n 1, 1) := by decide +kernel
theorem dL_ask_4 : decode cL_ask 4 = .ok (.iload_n 2, 1) := by decide +kernel
theorem dL_ask_5 : decode cL_ask 5 = .ok (.invokevirtual 101, 3) := by decide +kernel
theorem dL_ask_8 : decode cL_ask 8 = .ok (.i2l, 1) := by decide +kernel
theorem dL_ask_9 : decode cL_ask 9 = .ok (.lastore, 1) := by decide +kernel
theorem dL_ask_10 : decode cL_ask 10 = .ok (.goto 15, 3) := by decide +kernel
theorem dL_ask_13 : decode cL_ask 13 = .ok (.astore 4, 2) := by decide +kernel
theorem dL_ask_15 : decode cL_ask 15 = .ok (.iconst 1, 1) := by decide +kernel
theorem dL_ask_16 : decode cL_ask 16 = .ok (.ireturn, 1) := by decide +kernel
theorem dL_ask_17 : decode cL_ask 17 = .ok (.astore 4, 2) := by decide +kernel
theorem dL_ask_19 : decode cL_ask 19 = .ok (.iconst 2, 1) := by decide +kernel
theorem dL_ask_20 : decode cL_ask 20 = .ok (.ireturn, 1) := by decide +kernel
theorem dL_ask_21 : decode cL_ask 21 = .ok (.astore 4, 2) := by decide +kernel
theorem dL_ask_23 : decode cL_ask 23 = .ok (.iconst 3, 1) := by decide +kernel
theorem dL_ask_24 : decode cL_ask 24 = .ok (.ireturn, 1) := by decide +kernel
theorem dL_ask_25 : decode cL_ask 25 = .ok (.iconst 0, 1) := by decide +kernel
theorem dL_ask_26 : decode cL_ask 26 = .ok (.ireturn, 1) := by decide +kernel
set_option maxRecDepth 20000 in
theorem ggL_mostAsked_X4_mostAsked : GoodIn wsL_mostAsked wsX4_mostAsked := goodIn_ca (goodIn_ca (goodIn_ca (goodIn_r _ [7, 8, 9, 10, 11, 12, 13, 6, 14, 15, 16, 17, 18, 19, 20, 21, 22, 23, 24, 25, 26, 27, 28, 29, 30, 31, 32, 33, 34, 35, 36, 37, 38, 39, 40, 41, 42, 43, 44, 45, 46, 47, 48, 49, 50, 51, 52, 53, 54, 55, 56, 57, 58, 59, 60, 61, 62, 63, 64, 65, 66, 67, 68] (by decide +kernel) (by decide +kernel)) (goodIn_sub (fun _ h => List.mem_cons_of_mem _ (List.mem_append_left _ (List.mem_append_left _ (List.mem_append_right _ h)))) (by decide +kernel))) (goodIn_sub (fun _ h => List.mem_cons_of_mem _ (List.mem_append_left _ (List.mem_append_right _ h))) (by decide +kernel))) (goodIn_sub (fun _ h => List.mem_cons_of_mem _ (List.mem_append_right _ h)) (by decide +kernel))
set_option maxRecDepth 20000 in
theorem gL_mostAsked_X4_mostAsked : GoodIn wsL_mostAsked (wsV RL 104 RX4 yX4_mostAsked wsX4_mostAsked) := goodIn_app (goodIn_of _ (by decide +kernel)) ggL_mostAsked_X4_mostAsked
theorem dL_mostAsked_0 : decode cL_mostAsked 0 = .ok (.aload_n 2, 1) := by decide +kernel
theorem dL_mostAsked_1 : decode cL_mostAsked 1 = .ok (.iconst 0, 1) := by decide +kernel
theorem dL_mostAsked_2 : decode cL_mostAsked 2 = .ok (.aload_n 0, 1) := by decide +kernel
theorem dL_mostAsked_3 : decode cL_mostAsked 3 = .ok (.iload_n 1, 1) := by decide +kernel
theorem dL_mostAsked_4 : decode cL_mostAsked 4 = .ok (.invokevirtual 104, 3) := by decide +kernel
theorem dL_mostAsked_7 : decode cL_mostAsked 7 = .ok (.i2l, 1) := by decide +kernel
theorem dL_mostAsked_8 : decode cL_mostAsked 8 = .ok (.lastore, 1) := by decide +kernel
theorem dL_mostAsked_9 : decode cL_mostAsked 9 = .ok (.goto 9, 3) := by decide +kernel
theorem dL_mostAsked_12 : decode cL_mostAsked 12 = .ok (.astore_n 3, 1) := by decide +kernel
theorem dL_mostAsked_13 : decode cL_mostAsked 13 = .ok (.iconst 1, 1) := by decide +kernel
theorem dL_mostAsked_14 : decode cL_mostAsked 14 = .ok (.ireturn, 1) := by decide +kernel
theorem dL_mostAsked_15 : decode cL_mostAsked 15 = .ok (.astore_n 3, 1) := by decide +kernel
theorem dL_mostAsked_16 : decode cL_mostAsked 16 = .ok (.iconst 2, 1) := by decide +kernel
theorem dL_mostAsked_17 : decode cL_mostAsked 17 = .ok (.ireturn, 1) := by decide +kernel
theorem dL_mostAsked_18 : decode cL_mostAsked 18 = .ok (.iconst 0, 1) := by decide +kernel
theorem dL_mostAsked_19 : decode cL_mostAsked 19 = .ok (.ireturn, 1) := by decide +kernel
set_option maxRecDepth 20000 in
theorem ggL_least_X4_least : GoodIn wsL_least wsX4_least := goodIn_ca (goodIn_ca (goodIn_r _ [7, 8, 9, 10, 11, 12, 13, 14, 15, 16, 6, 17, 18, 19, 20, 21, 22, 23, 24, 25, 26, 27, 28, 29, 30, 31, 32, 33, 34, 35, 36, 37, 38, 39, 40, 41, 42, 43, 44, 45, 46, 47, 48, 49, 50, 51, 52, 53, 54, 55, 56, 57, 58, 59, 60, 61, 62, 63, 64, 65, 66, 67, 68, 69, 70, 71, 72, 73, 74] (by decide +kernel) (by decide +kernel)) (goodIn_sub (fun _ h => List.mem_cons_of_mem _ (List.mem_append_left _ (List.mem_append_right _ h))) (by decide +kernel))) (goodIn_sub (fun _ h => List.mem_cons_of_mem _ (List.mem_append_right _ h)) (by decide +kernel))
set_option maxRecDepth 20000 in
theorem gL_least_X4_least : GoodIn wsL_least (wsV RL 107 RX4 yX4_least wsX4_least) := goodIn_app (goodIn_of _ (by decide +kernel)) ggL_least_X4_least
theorem dL_least_0 : decode cL_least 0 = .ok (.aload_n 2, 1) := by decide +kernel
theorem dL_least_1 : decode cL_least 1 = .ok (.iconst 0, 1) := by decide +kernel
theorem dL_least_2 : decode cL_least 2 = .ok (.aload_n 0, 1) := by decide +kernel
theorem dL_least_3 : decode cL_least 3 = .ok (.iload_n 1, 1) := by decide +kernel
theorem dL_least_4 : decode cL_least 4 = .ok (.invokevirtual 107, 3) := by decide +kernel
theorem dL_least_7 : decode cL_least 7 = .ok (.i2l, 1) := by decide +kernel
theorem dL_least_8 : decode cL_least 8 = .ok (.lastore, 1) := by decide +kernel
theorem dL_least_9 : decode cL_least 9 = .ok (.goto 9, 3) := by decide +kernel
theorem dL_least_12 : decode cL_least 12 = .ok (.astore_n 3, 1) := by decide +kernel
theorem dL_least_13 : decode cL_least 13 = .ok (.iconst 1, 1) := by decide +kernel
theorem dL_least_14 : decode cL_least 14 = .ok (.ireturn, 1) := by decide +kernel
theorem dL_least_15 : decode cL_least 15 = .ok (.astore_n 3, 1) := by decide +kernel
theorem dL_least_16 : decode cL_least 16 = .ok (.iconst 2, 1) := by decide +kernel
theorem dL_least_17 : decode cL_least 17 = .ok (.ireturn, 1) := by decide +kernel
theorem dL_least_18 : decode cL_least 18 = .ok (.iconst 0, 1) := by decide +kernel
theorem dL_least_19 : decode cL_least 19 = .ok (.ireturn, 1) := by decide +kernel
set_option maxRecDepth 20000 in
theorem ggL_worth_X4_worth : GoodIn wsL_worth wsX4_worth := goodIn_ca (goodIn_ca (goodIn_r _ [7, 8, 9, 10, 11, 12, 6, 13, 14, 15, 16, 17, 18, 19, 20, 21, 22, 23, 24, 25, 26, 27, 28, 29, 30, 31, 32, 33, 34, 35, 36, 37, 38, 39, 40, 41, 42, 43, 44, 45, 46, 47, 48, 49, 50, 51, 52, 53, 54, 55, 56, 57, 58, 59, 60, 61, 62, 63, 64, 65, 66, 67, 68, 69, 70, 71, 72, 73, 74, 75, 76, 77, 78, 79, 80, 81, 82, 83, 84, 85, 86, 87, 88, 89, 90, 91, 92, 93, 94, 95, 96, 97, 98, 99, 100, 101, 102, 103, 104, 105, 106, 107, 108, 109, 110, 111, 112, 113, 114, 115, 116, 117, 118, 119, 120] (by decide +kernel) (by decide +kernel)) (goodIn_sub (fun _ h => List.mem_cons_of_mem _ (List.mem_append_left _ (List.mem_append_right _ h))) (by decide +kernel))) (goodIn_sub (fun _ h => List.mem_cons_of_mem _ (List.mem_append_right _ h)) (by decide +kernel))
set_option maxRecDepth 20000 in
theorem gL_worth_X4_worth : GoodIn wsL_worth (wsV RL 110 RX4 yX4_worth wsX4_worth) := goodIn_app (goodIn_of _ (by decide +kernel)) ggL_worth_X4_worth
theorem dL_worth_0 : decode cL_worth 0 = .ok (.aload 4, 2) := by decide +kernel
theorem dL_worth_2 : decode cL_worth 2 = .ok (.iconst 0, 1) := by decide +kernel
theorem dL_worth_3 : decode cL_worth 3 = .ok (.aload_n 0, 1) := by decide +kernel
theorem dL_worth_4 : decode cL_worth 4 = .ok (.iload_n 1, 1) := by decide +kernel
theorem dL_worth_5 : decode cL_worth 5 = .ok (.iload_n 2, 1) := by decide +kernel
theorem dL_worth_6 : decode cL_worth 6 = .ok (.iload_n 3, 1) := by decide +kernel
theorem dL_worth_7 : decode cL_worth 7 = .ok (.invokevirtual 110, 3) := by decide +kernel
theorem dL_worth_10 : decode cL_worth 10 = .ok (.i2l, 1) := by decide +kernel
theorem dL_worth_11 : decode cL_worth 11 = .ok (.lastore, 1) := by decide +kernel
theorem dL_worth_12 : decode cL_worth 12 = .ok (.goto 11, 3) := by decide +kernel
theorem dL_worth_15 : decode cL_worth 15 = .ok (.astore 5, 2) := by decide +kernel
theorem dL_worth_17 : decode cL_worth 17 = .ok (.iconst 1, 1) := by decide +kernel
theorem dL_worth_18 : decode cL_worth 18 = .ok (.ireturn, 1) := by decide +kernel
theorem dL_worth_19 : decode cL_worth 19 = .ok (.astore 5, 2) := by decide +kernel
theorem dL_worth_21 : decode cL_worth 21 = .ok (.iconst 2, 1) := by decide +kernel
theorem dL_worth_22 : decode cL_worth 22 = .ok (.ireturn, 1) := by decide +kernel
theorem dL_worth_23 : decode cL_worth 23 = .ok (.iconst 0, 1) := by decide +kernel
theorem dL_worth_24 : decode cL_worth 24 = .ok (.ireturn, 1) := by decide +kernel
set_option maxRecDepth 20000 in
theorem ggL_bestWorth_X4_bestWorth : GoodIn wsL_bestWorth wsX4_bestWorth := goodIn_ca (goodIn_ca (goodIn_ca (goodIn_r _ [7, 8, 9, 10, 11, 12, 6, 13, 14, 15, 16, 17, 18, 19, 20, 21, 22, 23, 24, 25, 26, 27, 28, 29, 30, 31, 32, 33, 34, 35, 36, 37, 38, 39, 40, 41, 42, 43, 44, 45, 46, 47, 48, 49, 50, 51, 52, 53, 54, 55, 56, 57, 58, 59, 60, 61, 62, 63, 64, 65, 66, 67, 68, 69, 70, 71, 72, 73, 74, 75, 76, 77, 78, 79, 80, 81, 82, 83, 84, 85, 86, 87, 88, 89, 90, 91, 92, 93, 94, 95, 96, 97, 98, 99, 100, 101, 102, 103, 104, 105, 106, 107, 108, 109, 110, 111, 112, 113, 114, 115, 116, 117, 118, 119, 120, 121, 122, 123, 124, 125, 126, 127, 128, 129, 130, 131, 132, 133, 134] (by decide +kernel) (by decide +kernel)) (goodIn_sub (fun _ h => List.mem_cons_of_mem _ (List.mem_append_left _ (List.mem_append_right _ h))) (by decide +kernel))) (goodIn_sub (fun _ h => List.mem_cons_of_mem _ (List.mem_append_right _ h)) (by decide +kernel))) (goodIn_sub (fun _ h => List.mem_cons_of_mem _ (List.mem_append_left _ (List.mem_append_left _ (List.mem_append_right _ h)))) (by decide +kernel))
set_option maxRecDepth 20000 in
theorem gL_bestWorth_X4_bestWorth : GoodIn wsL_bestWorth (wsV RL 113 RX4 yX4_bestWorth wsX4_bestWorth) := goodIn_app (goodIn_of _ (by decide +kernel)) ggL_bestWorth_X4_bestWorth
theorem dL_bestWorth_0 : decode cL_bestWorth 0 = .ok (.aload_n 3, 1) := by decide +kernel
theorem dL_bestWorth_1 : decode cL_bestWorth 1 = .ok (.iconst 0, 1) := by decide +kernel
theorem dL_bestWorth_2 : decode cL_bestWorth 2 = .ok (.aload_n 0, 1) := by decide +kernel
theorem dL_bestWorth_3 : decode cL_bestWorth 3 = .ok (.iload_n 1, 1) := by decide +kernel
theorem dL_bestWorth_4 : decode cL_bestWorth 4 = .ok (.iload_n 2, 1) := by decide +kernel
theorem dL_bestWorth_5 : decode cL_bestWorth 5 = .ok (.invokevirtual 113, 3) := by decide +kernel
theorem dL_bestWorth_8 : decode cL_bestWorth 8 = .ok (.i2l, 1) := by decide +kernel
theorem dL_bestWorth_9 : decode cL_bestWorth 9 = .ok (.lastore, 1) := by decide +kernel
theorem dL_bestWorth_10 : decode cL_bestWorth 10 = .ok (.goto 11, 3) := by decide +kernel
theorem dL_bestWorth_13 : decode cL_bestWorth 13 = .ok (.astore 4, 2) := by decide +kernel
theorem dL_bestWorth_15 : decode cL_bestWorth 15 = .ok (.iconst 1, 1) := by decide +kernel
theorem dL_bestWorth_16 : decode cL_bestWorth 16 = .ok (.ireturn, 1) := by decide +kernel
theorem dL_bestWorth_17 : decode cL_bestWorth 17 = .ok (.astore 4, 2) := by decide +kernel
theorem dL_bestWorth_19 : decode cL_bestWorth 19 = .ok (.iconst 2, 1) := by decide +kernel
theorem dL_bestWorth_20 : decode cL_bestWorth 20 = .ok (.ireturn, 1) := by decide +kernel
theorem dL_bestWorth_21 : decode cL_bestWorth 21 = .ok (.iconst 0, 1) := by decide +kernel
theorem dL_bestWorth_22 : decode cL_bestWorth 22 = .ok (.ireturn, 1) := by decide +kernel
set_option maxRecDepth 20000 in
theorem ggL_wornShare_X4_wornShare : GoodIn wsL_wornShare wsX4_wornShare := goodIn_ca (goodIn_r _ [6, 7, 8, 9, 10, 11, 12, 13, 14, 15, 16, 17, 18, 19, 20, 21, 22, 23, 24, 25, 26, 27, 28, 29, 30, 31, 32, 33, 34, 35, 36, 37, 38, 39, 40, 41, 42, 43, 44, 45, 46, 47, 48, 49, 50, 51, 52, 53, 54, 55, 56, 57, 58, 59, 60] (by decide +kernel) (by decide +kernel)) (goodIn_sub (fun _ h => List.mem_cons_of_mem _ (List.mem_append_right _ h)) (by decide +kernel))
set_option maxRecDepth 20000 in
theorem gL_wornShare_X4_wornShare : GoodIn wsL_wornShare (wsV RL 116 RX4 yX4_wornShare wsX4_wornShare) := goodIn_app (goodIn_of _ (by decide +kernel)) ggL_wornShare_X4_wornShare
theorem dL_wornShare_0 : decode cL_wornShare 0 = .ok (.aload_n 1, 1) := by decide +kernel
theorem dL_wornShare_1 : decode cL_wornShare 1 = .ok (.iconst 0, 1) := by decide +kernel
theorem dL_wornShare_2 : decode cL_wornShare 2 = .ok (.aload_n 0, 1) := by decide +kernel
theorem dL_wornShare_3 : decode cL_wornShare 3 = .ok (.invokevirtual 116, 3) := by decide +kernel
theorem dL_wornShare_6 : decode cL_wornShare 6 = .ok (.f2d, 1) := by decide +kernel
theorem dL_wornShare_7 : decode cL_wornShare 7 = .ok (.dastore, 1) := by decide +kernel
theorem dL_wornShare_8 : decode cL_wornShare 8 = .ok (.goto 6, 3) := by decide +kernel
theorem dL_wornShare_11 : decode cL_wornShare 11 = .ok (.astore_n 2, 1) := by decide +kernel
theorem dL_wornShare_12 : decode cL_wornShare 12 = .ok (.iconst 1, 1) := by decide +kernel
theorem dL_wornShare_13 : decode cL_wornShare 13 = .ok (.ireturn, 1) := by decide +kernel
theorem dL_wornShare_14 : decode cL_wornShare 14 = .ok (.iconst 0, 1) := by decide +kernel
theorem dL_wornShare_15 : decode cL_wornShare 15 = .ok (.ireturn, 1) := by decide +kernel
set_option maxRecDepth 20000 in
theorem ggL_meanPull_X4_meanPull : GoodIn wsL_meanPull wsX4_meanPull := goodIn_ca (goodIn_r _ [6, 7, 8, 9, 10, 11, 12, 13, 14, 15, 16, 17, 18, 19, 20, 21, 22, 23, 24, 25, 26, 27, 28, 29, 30, 31, 32, 33, 34, 35, 36, 37, 38, 39, 40, 41, 42, 43, 44, 45, 46, 47, 48, 49, 50, 51, 52, 53, 54, 55, 56, 57, 58, 59, 60, 61, 62, 63, 64, 65, 66, 67, 68, 69, 70, 71, 72, 73, 74, 75, 76, 77, 78, 79, 80, 81, 82, 83, 84, 85, 86, 87, 88, 89, 90] (by decide +kernel) (by decide +kernel)) (goodIn_sub (fun _ h => List.mem_cons_of_mem _ (List.mem_append_right _ h)) (by decide +kernel))
set_option maxRecDepth 20000 in
theorem gL_meanPull_X4_meanPull : GoodIn wsL_meanPull (wsV RL 122 RX4 yX4_meanPull wsX4_meanPull) := goodIn_app (goodIn_of _ (by decide +kernel)) ggL_meanPull_X4_meanPull
theorem dL_meanPull_0 : decode cL_meanPull 0 = .ok (.aload_n 1, 1) := by decide +kernel
theorem dL_meanPull_1 : decode cL_meanPull 1 = .ok (.iconst 0, 1) := by decide +kernel
theorem dL_meanPull_2 : decode cL_meanPull 2 = .ok (.aload_n 0, 1) := by decide +kernel
theorem dL_meanPull_3 : decode cL_meanPull 3 = .ok (.invokevirtual 122, 3) := by decide +kernel
theorem dL_meanPull_6 : decode cL_meanPull 6 = .ok (.dastore, 1) := by decide +kernel
theorem dL_meanPull_7 : decode cL_meanPull 7 = .ok (.goto 6, 3) := by decide +kernel
theorem dL_meanPull_10 : decode cL_meanPull 10 = .ok (.astore_n 2, 1) := by decide +kernel
theorem dL_meanPull_11 : decode cL_meanPull 11 = .ok (.iconst 1, 1) := by decide +kernel
theorem dL_meanPull_12 : decode cL_meanPull 12 = .ok (.ireturn, 1) := by decide +kernel
theorem dL_meanPull_13 : decode cL_meanPull 13 = .ok (.iconst 0, 1) := by decide +kernel
theorem dL_meanPull_14 : decode cL_meanPull 14 = .ok (.ireturn, 1) := by decide +kernel
