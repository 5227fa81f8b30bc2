set_option maxRecDepth 20000 in
theorem ggX4_init_Jx4a65c_init_da8c8 : GoodIn wsX4_init wsJx4a65c_init_da8c8 := goodIn_r _ [16, 17, 18, 19, 20, 21, 22, 23, 24, 25, 26, 27, 28, 2, 3, 29, 30, 31] (by decide +kernel) (by decide +kernel)
set_option maxRecDepth 20000 in
theorem gX4_init_Jx4a65c_init_da8c8 : GoodIn wsX4_init (wsJx4a65c_init_da8c8) := ggX4_init_Jx4a65c_init_da8c8
theorem dX4_init_0 : decode cX4_init 0 = .ok (.aload_n 0, 1) := by decide +kernel
theorem dX4_init_1 : decode cX4_init 1 = .ok (.invokespecial 1, 3) := by decide +kernel
theorem dX4_init_4 : decode cX4_init 4 = .ok (.aload_n 0, 1) := by decide +kernel
theorem dX4_init_5 : decode cX4_init 5 = .ok (.new 7, 3) := by decide +kernel
theorem dX4_init_8 : decode cX4_init 8 = .ok (.dup, 1) := by decide +kernel
theorem dX4_init_9 : decode cX4_init 9 = .ok (.invokespecial 9, 3) := by decide +kernel
theorem dX4_init_12 : decode cX4_init 12 = .ok (.putfield 10, 3) := by decide +kernel
theorem dX4_init_15 : decode cX4_init 15 = .ok (.aload_n 0, 1) := by decide +kernel
theorem dX4_init_16 : decode cX4_init 16 = .ok (.new 7, 3) := by decide +kernel
theorem dX4_init_19 : decode cX4_init 19 = .ok (.dup, 1) := by decide +kernel
theorem dX4_init_20 : decode cX4_init 20 = .ok (.invokespecial 9, 3) := by decide +kernel
theorem dX4_init_23 : decode cX4_init 23 = .ok (.putfield 16, 3) := by decide +kernel
theorem dX4_init_26 : decode cX4_init 26 = .ok (.aload_n 0, 1) := by decide +kernel
theorem dX4_init_27 : decode cX4_init 27 = .ok (.iconst 3, 1) := by decide +kernel
theorem dX4_init_28 : decode cX4_init 28 = .ok (.newarray .int, 2) := by decide +kernel
theorem dX4_init_30 : decode cX4_init 30 = .ok (.putfield 19, 3) := by decide +kernel
theorem dX4_init_33 : decode cX4_init 33 = .ok (.aload_n 0, 1) := by decide +kernel
theorem dX4_init_34 : decode cX4_init 34 = .ok (.iconst 3, 1) := by decide +kernel
theorem dX4_init_35 : decode cX4_init 35 = .ok (.newarray .int, 2) := by decide +kernel
theorem dX4_init_37 : decode cX4_init 37 = .ok (.putfield 23, 3) := by decide +kernel
theorem dX4_init_40 : decode cX4_init 40 = .ok (.aload_n 0, 1) := by decide +kernel
theorem dX4_init_41 : decode cX4_init 41 = .ok (.iconst 1, 1) := by decide +kernel
theorem dX4_init_42 : decode cX4_init 42 = .ok (.putfield 26, 3) := by decide +kernel
theorem dX4_init_45 : decode cX4_init 45 = .ok (.aload_n 0, 1) := by decide +kernel
theorem dX4_init_46 : decode cX4_init 46 = .ok (.sipush 600, 3) := by decide +kernel
theorem dX4_init_49 : decode cX4_init 49 = .ok (.putfield 30, 3) := by decide +kernel
theorem dX4_init_52 : decode cX4_init 52 = .ok (.return_, 1) := by decide +kernel
set_option maxRecDepth 20000 in
theorem ggX4_addDisc_X4_isWithin : GoodIn wsX4_addDisc wsX4_isWithin := goodIn_r _ [13] (by decide +kernel) (by decide +kernel)
set_option maxRecDepth 20000 in
theorem gX4_addDisc_X4_isWithin : GoodIn wsX4_addDisc (va_wsS RX4 33 yX4_isWithin wsX4_isWithin) := goodIn_app (goodIn_of _ (by decide +kernel)) ggX4_addDisc_X4_isWithin
set_option maxRecDepth 20000 in
theorem ggX4_addDisc_Jx4a65c_size_8abf5 : GoodIn wsX4_addDisc wsJx4a65c_size_8abf5 := goodIn_r _ [18, 19, 101, 102, 103] (by decide +kernel) (by decide +kernel)
set_option maxRecDepth 20000 in
theorem gX4_addDisc_Jx4a65c_size_8abf5 : GoodIn wsX4_addDisc (wsV RX4 44 RJx4a65c yJx4a65c_size_8abf5 wsJx4a65c_size_8abf5) := goodIn_app (goodIn_of _ (by decide +kernel)) ggX4_addDisc_Jx4a65c_size_8abf5
set_option maxRecDepth 20000 in
theorem ggX4_addDisc_X2_init : GoodIn wsX4_addDisc wsX2_init := goodIn_r _ [22, 23, 24, 25, 26, 27, 28, 29, 93, 94, 95, 96, 97, 98, 99, 100] (by decide +kernel) (by decide +kernel)
set_option maxRecDepth 20000 in
theorem gX4_addDisc_X2_init : GoodIn wsX4_addDisc (wsX2_init) := ggX4_addDisc_X2_init
set_option maxRecDepth 20000 in
theorem ggX4_addDisc_Jx4a65c_add_9ea2d : GoodIn wsX4_addDisc wsJx4a65c_add_9ea2d := goodIn_r _ [33, 34, 35, 36, 19, 37, 38, 39, 17, 40, 41, 42, 43, 44, 45, 46, 47, 48, 49, 50, 51, 52, 53, 54, 55, 56, 57, 58, 59, 60, 61, 62, 63, 64, 65, 66, 67, 68, 69, 70, 71, 72, 73, 74, 75, 76, 77, 78, 79, 80, 81, 82, 83, 101, 102, 103] (by decide +kernel) (by decide +kernel)
set_option maxRecDepth 20000 in
theorem gX4_addDisc_Jx4a65c_add_9ea2d : GoodIn wsX4_addDisc (wsV RX4 58 RJx4a65c yJx4a65c_add_9ea2d wsJx4a65c_add_9ea2d) := goodIn_app (goodIn_of _ (by decide +kernel)) ggX4_addDisc_Jx4a65c_add_9ea2d
theorem dX4_addDisc_0 : decode cX4_addDisc 0 = .ok (.iload_n 1, 1) := by decide +kernel
theorem dX4_addDisc_1 : decode cX4_addDisc 1 = .ok (.iconst 0, 1) := by decide +kernel
theorem dX4_addDisc_2 : decode cX4_addDisc 2 = .ok (.bipush 99, 2) := by decide +kernel
theorem dX4_addDisc_4 : decode cX4_addDisc 4 = .ok (.invokestatic 33, 3) := by decide +kernel
theorem dX4_addDisc_7 : decode cX4_addDisc 7 = .ok (.ifCond .eq 23, 3) := by decide +kernel
theorem dX4_addDisc_10 : decode cX4_addDisc 10 = .ok (.iload_n 2, 1) := by decide +kernel
theorem dX4_addDisc_11 : decode cX4_addDisc 11 = .ok (.iconst 1, 1) := by decide +kernel
theorem dX4_addDisc_12 : decode cX4_addDisc 12 = .ok (.bipush 50, 2) := by decide +kernel
theorem dX4_addDisc_14 : decode cX4_addDisc 14 = .ok (.invokestatic 33, 3) := by decide +kernel
theorem dX4_addDisc_17 : decode cX4_addDisc 17 = .ok (.ifCond .eq 13, 3) := by decide +kernel
theorem dX4_addDisc_20 : decode cX4_addDisc 20 = .ok (.iload_n 3, 1) := by decide +kernel
theorem dX4_addDisc_21 : decode cX4_addDisc 21 = .ok (.iconst 0, 1) := by decide +kernel
theorem dX4_addDisc_22 : decode cX4_addDisc 22 = .ok (.bipush 99, 2) := by decide +kernel
theorem dX4_addDisc_24 : decode cX4_addDisc 24 = .ok (.invokestatic 33, 3) := by decide +kernel
theorem dX4_addDisc_27 : decode cX4_addDisc 27 = .ok (.ifCond .ne 13, 3) := by decide +kernel
theorem dX4_addDisc_30 : decode cX4_addDisc 30 = .ok (.new 37, 3) := by decide +kernel
theorem dX4_addDisc_33 : decode cX4_addDisc 33 = .ok (.dup, 1) := by decide +kernel
theorem dX4_addDisc_34 : decode cX4_addDisc 34 = .ok (.ldc 39, 2) := by decide +kernel
theorem dX4_addDisc_36 : decode cX4_addDisc 36 = .ok (.invokespecial 41, 3) := by decide +kernel
theorem dX4_addDisc_39 : decode cX4_addDisc 39 = .ok (.athrow, 1) := by decide +kernel
theorem dX4_addDisc_40 : decode cX4_addDisc 40 = .ok (.aload_n 0, 1) := by decide +kernel
theorem dX4_addDisc_41 : decode cX4_addDisc 41 = .ok (.getfield 10, 3) := by decide +kernel
theorem dX4_addDisc_44 : decode cX4_addDisc 44 = .ok (.invokevirtual 44, 3) := by decide +kernel
theorem dX4_addDisc_47 : decode cX4_addDisc 47 = .ok (.bipush 30, 2) := by decide +kernel
theorem dX4_addDisc_49 : decode cX4_addDisc 49 = .ok (.if_icmp .lt 13, 3) := by decide +kernel
theorem dX4_addDisc_52 : decode cX4_addDisc 52 = .ok (.new 48, 3) := by decide +kernel
theorem dX4_addDisc_55 : decode cX4_addDisc 55 = .ok (.dup, 1) := by decide +kernel
theorem dX4_addDisc_56 : decode cX4_addDisc 56 = .ok (.ldc 50, 2) := by decide +kernel
theorem dX4_addDisc_58 : decode cX4_addDisc 58 = .ok (.invokespecial 52, 3) := by decide +kernel
theorem dX4_addDisc_61 : decode cX4_addDisc 61 = .ok (.athrow, 1) := by decide +kernel
theorem dX4_addDisc_62 : decode cX4_addDisc 62 = .ok (.new 53, 3) := by decide +kernel
theorem dX4_addDisc_65 : decode cX4_addDisc 65 = .ok (.dup, 1) := by decide +kernel
theorem dX4_addDisc_66 : decode cX4_addDisc 66 = .ok (.aload_n 0, 1) := by decide +kernel
theorem dX4_addDisc_67 : decode cX4_addDisc 67 = .ok (.getfield 10, 3) := by decide +kernel
theorem dX4_addDisc_70 : decode cX4_addDisc 70 = .ok (.invokevirtual 44, 3) := by decide +kernel
theorem dX4_addDisc_73 : decode cX4_addDisc 73 = .ok (.iload_n 1, 1) := by decide +kernel
theorem dX4_addDisc_74 : decode cX4_addDisc 74 = .ok (.iload_n 2, 1) := by decide +kernel
theorem dX4_addDisc_75 : decode cX4_addDisc 75 = .ok (.iload_n 3, 1) := by decide +kernel
theorem dX4_addDisc_76 : decode cX4_addDisc 76 = .ok (.invokespecial 55, 3) := by decide +kernel
theorem dX4_addDisc_79 : decode cX4_addDisc 79 = .ok (.astore 4, 2) := by decide +kernel
theorem dX4_addDisc_81 : decode cX4_addDisc 81 = .ok (.aload_n 0, 1) := by decide +kernel
theorem dX4_addDisc_82 : decode cX4_addDisc 82 = .ok (.getfield 10, 3) := by decide +kernel
theorem dX4_addDisc_85 : decode cX4_addDisc 85 = .ok (.aload 4, 2) := by decide +kernel
theorem dX4_addDisc_87 : decode cX4_addDisc 87 = .ok (.invokevirtual 58, 3) := by decide +kernel
theorem dX4_addDisc_90 : decode cX4_addDisc 90 = .ok (.pop, 1) := by decide +kernel
theorem dX4_addDisc_91 : decode cX4_addDisc 91 = .ok (.aload 4, 2) := by decide +kernel
theorem dX4_addDisc_93 : decode cX4_addDisc 93 = .ok (.getfield 62, 3) := by decide +kernel
theorem dX4_addDisc_96 : decode cX4_addDisc 96 = .ok (.ireturn, 1) := by decide +kernel
set_option maxRecDepth 20000 in
theorem ggX4_addBox_X4_isWithin : GoodIn wsX4_addBox wsX4_isWithin := goodIn_r _ [13] (by decide +kernel) (by decide +kernel)
set_option maxRecDepth 20000 in
theorem gX4_addBox_X4_isWithin : GoodIn wsX4_addBox (va_wsS RX4 33 yX4_isWithin wsX4_isWithin) := goodIn_app (goodIn_of _ (by decide +kernel)) ggX4_addBox_X4_isWithin
set_option maxRecDepth 20000 in
theorem ggX4_addBox_Jx4a65c_size_8abf5 : GoodIn wsX4_addBox wsJx4a65c_size_8abf5 := goodIn_r _ [18, 19, 135, 136, 137] (by decide +kernel) (by decide +kernel)
set_option maxRecDepth 20000 in
theorem gX4_addBox_Jx4a65c_size_8abf5 : GoodIn wsX4_addBox (wsV RX4 44 RJx4a65c yJx4a65c_size_8abf5 wsJx4a65c_size_8abf5) := goodIn_app (goodIn_of _ (by decide +kernel)) ggX4_addBox_Jx4a65c_size_8abf5
set_option maxRecDepth 20000 in
theorem ggX4_addBox_X0_init : GoodIn wsX4_addBox wsX0_init := goodIn_r _ [22, 23, 24, 25, 26, 27, 28, 29, 17, 30, 31, 32, 33, 34, 35, 36, 37, 38, 39, 40, 41, 42, 43, 44, 45, 46, 47, 48, 49, 50, 51, 52, 53, 54, 55, 56, 57, 58, 120, 121, 122, 123, 124, 125, 126, 127, 128, 129, 130, 131, 132, 133, 134, 135, 136, 137, 138, 139, 140] (by decide +kernel) (by decide +kernel)
set_option maxRecDepth 20000 in
theorem gX4_addBox_X0_init : GoodIn wsX4_addBox (wsX0_init) := ggX4_addBox_X0_init
set_option maxRecDepth 20000 in
theorem ggX4_addBox_Jx4a65c_add_9ea2d : GoodIn wsX4_addBox wsJx4a65c_add_9ea2d := goodIn_r _ [62, 63, 64, 43, 19, 65, 66, 67, 17, 68, 69, 70, 71, 72, 73, 74, 75, 76, 42, 77, 78, 79, 80, 81, 82, 83, 84, 85, 86, 87, 88, 89, 90, 91, 92, 93, 94, 95, 96, 97, 98, 99, 100, 101, 102, 103, 104, 105, 106, 107, 108, 109, 110, 135, 136, 137] (by decide +kernel) (by decide +kernel)
set_option maxRecDepth 20000 in
theorem gX4_addBox_Jx4a65c_add_9ea2d : GoodIn wsX4_addBox (wsV RX4 58 RJx4a65c yJx4a65c_add_9ea2d wsJx4a65c_add_9ea2d) := goodIn_app (goodIn_of _ (by decide +kernel)) ggX4_addBox_Jx4a65c_add_9ea2d
theorem dX4_addBox_0 : decode cX4_addBox 0 = .ok (.iload_n 1, 1) := by decide +kernel
theorem dX4_addBox_1 : decode cX4_addBox 1 = .ok (.iconst 0, 1) := by decide +kernel
theorem dX4_addBox_2 : decode cX4_addBox 2 = .ok (.bipush 60, 2) := by decide +kernel
theorem dX4_addBox_4 : decode cX4_addBox 4 = .ok (.invokestatic 33, 3) := by decide +kernel
theorem dX4_addBox_7 : decode cX4_addBox 7 = .ok (.ifCond .eq 13, 3) := by decide +kernel
theorem dX4_addBox_10 : decode cX4_addBox 10 = .ok (.iload_n 2, 1) := by decide +kernel
theorem dX4_addBox_11 : decode cX4_addBox 11 = .ok (.iconst 0, 1) := by decide +kernel
theorem dX4_addBox_12 : decode cX4_addBox 12 = .ok (.bipush 9, 2) := by decide +kernel
theorem dX4_addBox_14 : decode cX4_addBox 14 = .ok (.invokestatic 33, 3) := by decide +kernel
theorem dX4_addBox_17 : decode cX4_addBox 17 = .ok (.ifCond .ne 13, 3) := by decide +kernel
theorem dX4_addBox_20 : decode cX4_addBox 20 = .ok (.new 37, 3) := by decide +kernel
theorem dX4_addBox_23 : decode cX4_addBox 23 = .ok (.dup, 1) := by decide +kernel
theorem dX4_addBox_24 : decode cX4_addBox 24 = .ok (.ldc 65, 2) := by decide +kernel
theorem dX4_addBox_26 : decode cX4_addBox 26 = .ok (.invokespecial 41, 3) := by decide +kernel
theorem dX4_addBox_29 : decode cX4_addBox 29 = .ok (.athrow, 1) := by decide +kernel
theorem dX4_addBox_30 : decode cX4_addBox 30 = .ok (.aload_n 0, 1) := by decide +kernel
theorem dX4_addBox_31 : decode cX4_addBox 31 = .ok (.getfield 16, 3) := by decide +kernel
theorem dX4_addBox_34 : decode cX4_addBox 34 = .ok (.invokevirtual 44, 3) := by decide +kernel
theorem dX4_addBox_37 : decode cX4_addBox 37 = .ok (.iconst 4, 1) := by decide +kernel
theorem dX4_addBox_38 : decode cX4_addBox 38 = .ok (.if_icmp .lt 13, 3) := by decide +kernel
theorem dX4_addBox_41 : decode cX4_addBox 41 = .ok (.new 48, 3) := by decide +kernel
theorem dX4_addBox_44 : decode cX4_addBox 44 = .ok (.dup, 1) := by decide +kernel
theorem dX4_addBox_45 : decode cX4_addBox 45 = .ok (.ldc 67, 2) := by decide +kernel
theorem dX4_addBox_47 : decode cX4_addBox 47 = .ok (.invokespecial 52, 3) := by decide +kernel
theorem dX4_addBox_50 : decode cX4_addBox 50 = .ok (.athrow, 1) := by decide +kernel
theorem dX4_addBox_51 : decode cX4_addBox 51 = .ok (.new 69, 3) := by decide +kernel
theorem dX4_addBox_54 : decode cX4_addBox 54 = .ok (.dup, 1) := by decide +kernel
theorem dX4_addBox_55 : decode cX4_addBox 55 = .ok (.aload_n 0, 1) := by decide +kernel
theorem dX4_addBox_56 : decode cX4_addBox 56 = .ok (.getfield 16, 3) := by decide +kernel
theorem dX4_addBox_59 : decode cX4_addBox 59 = .ok (.invokevirtual 44, 3) := by decide +kernel
theorem dX4_addBox_62 : decode cX4_addBox 62 = .ok (.iload_n 1, 1) := by decide +kernel
theorem dX4_addBox_63 : decode cX4_addBox 63 = .ok (.iload_n 2, 1) := by decide +kernel
theorem dX4_addBox_64 : decode cX4_addBox 64 = .ok (.invokespecial 71, 3) := by decide +kernel
theorem dX4_addBox_67 : decode cX4_addBox 67 = .ok (.astore_n 3, 1) := by decide +kernel
theorem dX4_addBox_68 : decode cX4_addBox 68 = .ok (.aload_n 0, 1) := by decide +kernel
theorem dX4_addBox_69 : decode cX4_addBox 69 = .ok (.getfield 16, 3) := by decide +kernel
theorem dX4_addBox_72 : decode cX4_addBox 72 = .ok (.aload_n 3, 1) := by decide +kernel
theorem dX4_addBox_73 : decode cX4_addBox 73 = .ok (.invokevirtual 58, 3) := by decide +kernel
theorem dX4_addBox_76 : decode cX4_addBox 76 = .ok (.pop, 1) := by decide +kernel
theorem dX4_addBox_77 : decode cX4_addBox 77 = .ok (.aload_n 3, 1) := by decide +kernel
theorem dX4_addBox_78 : decode cX4_addBox 78 = .ok (.getfield 74, 3) := by decide +kernel
theorem dX4_addBox_81 : decode cX4_addBox 81 = .ok (.ireturn, 1) := by decide +kernel
set_option maxRecDepth 20000 in
theorem ggX4_setRisk_X4_requireBox : GoodIn wsX4_setRisk wsX4_requireBox := goodIn_ca (goodIn_r _ [8, 9, 10, 11, 12, 13, 14, 15, 16, 17, 18, 19, 20, 21, 22, 23, 24, 25, 26, 27, 28, 29, 30, 31, 32, 33, 34, 35, 54, 55, 56, 57, 58, 59, 60, 61, 62, 63, 64, 65] (by decide +kernel) (by decide +kernel)) (goodIn_sub (fun _ h => List.mem_cons_of_mem _ (List.mem_append_right _ h)) (by decide +kernel))
set_option maxRecDepth 20000 in
theorem gX4_setRisk_X4_requireBox : GoodIn wsX4_setRisk (wsV RX4 75 RX4 yX4_requireBox wsX4_requireBox) := goodIn_app (goodIn_of _ (by decide +kernel)) ggX4_setRisk_X4_requireBox
set_option maxRecDepth 20000 in
theorem ggX4_setRisk_X4_isWithin : GoodIn wsX4_setRisk wsX4_isWithin := goodIn_r _ [38] (by decide +kernel) (by decide +kernel)
set_option maxRecDepth 20000 in
theorem gX4_setRisk_X4_isWithin : GoodIn wsX4_setRisk (va_wsS RX4 33 yX4_isWithin wsX4_isWithin) := goodIn_app (goodIn_of _ (by decide +kernel)) ggX4_setRisk_X4_isWithin
theorem dX4_setRisk_0 : decode cX4_setRisk 0 = .ok (.aload_n 0, 1) := by decide +kernel
theorem dX4_setRisk_1 : decode cX4_setRisk 1 = .ok (.iload_n 1, 1) := by decide +kernel
theorem dX4_setRisk_2 : decode cX4_setRisk 2 = .ok (.invokevirtual 75, 3) := by decide +kernel
theorem dX4_setRisk_5 : decode cX4_setRisk 5 = .ok (.astore_n 3, 1) := by decide +kernel
theorem dX4_setRisk_6 : decode cX4_setRisk 6 = .ok (.iload_n 2, 1) := by decide +kernel
theorem dX4_setRisk_7 : decode cX4_setRisk 7 = .ok (.iconst 0, 1) := by decide +kernel
theorem dX4_setRisk_8 : decode cX4_setRisk 8 = .ok (.bipush 20, 2) := by decide +kernel
theorem dX4_setRisk_10 : decode cX4_setRisk 10 = .ok (.invokestatic 33, 3) := by decide +kernel
theorem dX4_setRisk_13 : decode cX4_setRisk 13 = .ok (.ifCond .ne 13, 3) := by decide +kernel
theorem dX4_setRisk_16 : decode cX4_setRisk 16 = .ok (.new 37, 3) := by decide +kernel
theorem dX4_setRisk_19 : decode cX4_setRisk 19 = .ok (.dup, 1) := by decide +kernel
theorem dX4_setRisk_20 : decode cX4_setRisk 20 = .ok (.ldc 79, 2) := by decide +kernel
theorem dX4_setRisk_22 : decode cX4_setRisk 22 = .ok (.invokespecial 41, 3) := by decide +kernel
theorem dX4_setRisk_25 : decode cX4_setRisk 25 = .ok (.athrow, 1) := by decide +kernel
theorem dX4_setRisk_26 : decode cX4_setRisk 26 = .ok (.aload_n 3, 1) := by decide +kernel
theorem dX4_setRisk_27 : decode cX4_setRisk 27 = .ok (.getfield 81, 3) := by decide +kernel
theorem dX4_setRisk_30 : decode cX4_setRisk 30 = .ok (.istore 4, 2) := by decide +kernel
theorem dX4_setRisk_32 : decode cX4_setRisk 32 = .ok (.aload_n 3, 1) := by decide +kernel
theorem dX4_setRisk_33 : decode cX4_setRisk 33 = .ok (.iload_n 2, 1) := by decide +kernel
theorem dX4_setRisk_34 : decode cX4_setRisk 34 = .ok (.putfield 81, 3) := by decide +kernel
theorem dX4_setRisk_37 : decode cX4_setRisk 37 = .ok (.iload 4, 2) := by decide +kernel
theorem dX4_setRisk_39 : decode cX4_setRisk 39 = .ok (.ireturn, 1) := by decide +kernel
set_option maxRecDepth 20000 in
theorem ggX4_setSeed_X4_isWithin : GoodIn wsX4_setSeed wsX4_isWithin := goodIn_r _ [8] (by decide +kernel) (by decide +kernel)
set_option maxRecDepth 20000 in
theorem gX4_setSeed_X4_isWithin : GoodIn wsX4_setSeed (va_wsS RX4 33 yX4_isWithin wsX4_isWithin) := goodIn_app (goodIn_of _ (by decide +kernel)) ggX4_setSeed_X4_isWithin
theorem dX4_setSeed_0 : decode cX4_setSeed 0 = .ok (.iload_n 1, 1) := by decide +kernel
theorem dX4_setSeed_1 : decode cX4_setSeed 1 = .ok (.iconst 1, 1) := by decide +kernel
theorem dX4_setSeed_2 : decode cX4_setSeed 2 = .ok (.ldc 84, 2) := by decide +kernel
theorem dX4_setSeed_4 : decode cX4_setSeed 4 = .ok (.invokestatic 33, 3) := by decide +kernel
theorem dX4_setSeed_7 : decode cX4_setSeed 7 = .ok (.ifCond .ne 13, 3) := by decide +kernel
theorem dX4_setSeed_10 : decode cX4_setSeed 10 = .ok (.new 37, 3) := by decide +kernel
theorem dX4_setSeed_13 : decode cX4_setSeed 13 = .ok (.dup, 1) := by decide +kernel
theorem dX4_setSeed_14 : decode cX4_setSeed 14 = .ok (.ldc 85, 2) := by decide +kernel
theorem dX4_setSeed_16 : decode cX4_setSeed 16 = .ok (.invokespecial 41, 3) := by decide +kernel
theorem dX4_setSeed_19 : decode cX4_setSeed 19 = .ok (.athrow, 1) := by decide +kernel
theorem dX4_setSeed_20 : decode cX4_setSeed 20 = .ok (.aload_n 0, 1) := by decide +kernel
theorem dX4_setSeed_21 : decode cX4_setSeed 21 = .ok (.getfield 26, 3) := by decide +kernel
theorem dX4_setSeed_24 : decode cX4_setSeed 24 = .ok (.istore_n 2, 1) := by decide +kernel
theorem dX4_setSeed_25 : decode cX4_setSeed 25 = .ok (.aload_n 0, 1) := by decide +kernel
theorem dX4_setSeed_26 : decode cX4_setSeed 26 = .ok (.iload_n 1, 1) := by decide +kernel
theorem dX4_setSeed_27 : decode cX4_setSeed 27 = .ok (.putfield 26, 3) := by decide +kernel
theorem dX4_setSeed_30 : decode cX4_setSeed 30 = .ok (.iload_n 2, 1) := by decide +kernel
theorem dX4_setSeed_31 : decode cX4_setSeed 31 = .ok (.ireturn, 1) := by decide +kernel
set_option maxRecDepth 20000 in
theorem ggX4_insert_X4_requireBox : GoodIn wsX4_insert wsX4_requireBox := goodIn_ca (goodIn_r _ [16, 17, 18, 19, 20, 21, 22, 23, 24, 25, 26, 27, 28, 29, 30, 31, 32, 33, 34, 35, 36, 37, 38, 39, 40, 41, 42, 43, 64, 65, 66, 67, 68, 69, 70, 71, 72, 73, 74, 75] (by decide +kernel) (by decide +kernel)) (goodIn_sub (fun _ h => List.mem_cons_of_mem _ (List.mem_append_right _ h)) (by decide +kernel))
set_option maxRecDepth 20000 in
theorem gX4_insert_X4_requireBox : GoodIn wsX4_insert (wsV RX4 75 RX4 yX4_requireBox wsX4_requireBox) := goodIn_app (goodIn_of _ (by decide +kernel)) ggX4_insert_X4_requireBox
set_option maxRecDepth 20000 in
theorem ggX4_insert_X4_coinOf : GoodIn wsX4_insert wsX4_coinOf := goodIn_r _ [46, 47, 48] (by decide +kernel) (by decide +kernel)
set_option maxRecDepth 20000 in
theorem gX4_insert_X4_coinOf : GoodIn wsX4_insert (va_wsS RX4 87 yX4_coinOf wsX4_coinOf) := goodIn_app (goodIn_of _ (by decide +kernel)) ggX4_insert_X4_coinOf
theorem dX4_insert_0 : decode cX4_insert 0 = .ok (.aload_n 0, 1) := by decide +kernel
theorem dX4_insert_1 : decode cX4_insert 1 = .ok (.iload_n 1, 1) := by decide +kernel
theorem dX4_insert_2 : decode cX4_insert 2 = .ok (.invokevirtual 75, 3) := by decide +kernel
theorem dX4_insert_5 : decode cX4_insert 5 = .ok (.astore_n 3, 1) := by decide +kernel
theorem dX4_insert_6 : decode cX4_insert 6 = .ok (.iload_n 2, 1) := by decide +kernel
theorem dX4_insert_7 : decode cX4_insert 7 = .ok (.invokestatic 87, 3) := by decide +kernel
theorem dX4_insert_10 : decode cX4_insert 10 = .ok (.astore 4, 2) := by decide +kernel
theorem dX4_insert_12 : decode cX4_insert 12 = .ok (.aload 4, 2) := by decide +kernel
theorem dX4_insert_14 : decode cX4_insert 14 = .ok (.ifnonnull 13, 3) := by decide +kernel
theorem dX4_insert_17 : decode cX4_insert 17 = .ok (.new 37, 3) := by decide +kernel
theorem dX4_insert_20 : decode cX4_insert 20 = .ok (.dup, 1) := by decide +kernel
theorem dX4_insert_21 : decode cX4_insert 21 = .ok (.ldc 91, 2) := by decide +kernel
theorem dX4_insert_23 : decode cX4_insert 23 = .ok (.invokespecial 41, 3) := by decide +kernel
theorem dX4_insert_26 : decode cX4_insert 26 = .ok (.athrow, 1) := by decide +kernel
theorem dX4_insert_27 : decode cX4_insert 27 = .ok (.aload_n 3, 1) := by decide +kernel
theorem dX4_insert_28 : decode cX4_insert 28 = .ok (.getfield 93, 3) := by decide +kernel
theorem dX4_insert_31 : decode cX4_insert 31 = .ok (.ifCond .eq 13, 3) := by decide +kernel
theorem dX4_insert_34 : decode cX4_insert 34 = .ok (.new 97, 3) := by decide +kernel
theorem dX4_insert_37 : decode cX4_insert 37 = .ok (.dup, 1) := by decide +kernel
theorem dX4_insert_38 : decode cX4_insert 38 = .ok (.ldc 99, 2) := by decide +kernel
theorem dX4_insert_40 : decode cX4_insert 40 = .ok (.invokespecial 101, 3) := by decide +kernel
theorem dX4_insert_43 : decode cX4_insert 43 = .ok (.athrow, 1) := by decide +kernel
theorem dX4_insert_44 : decode cX4_insert 44 = .ok (.aload_n 3, 1) := by decide +kernel
theorem dX4_insert_45 : decode cX4_insert 45 = .ok (.getfield 102, 3) := by decide +kernel
theorem dX4_insert_48 : decode cX4_insert 48 = .ok (.aload 4, 2) := by decide +kernel
theorem dX4_insert_50 : decode cX4_insert 50 = .ok (.getfield 105, 3) := by decide +kernel
theorem dX4_insert_53 : decode cX4_insert 53 = .ok (.iadd, 1) := by decide +kernel
theorem dX4_insert_54 : decode cX4_insert 54 = .ok (.bipush 99, 2) := by decide +kernel
theorem dX4_insert_56 : decode cX4_insert 56 = .ok (.if_icmp .le 13, 3) := by decide +kernel
theorem dX4_insert_59 : decode cX4_insert 59 = .ok (.new 48, 3) := by decide +kernel
theorem dX4_insert_62 : decode cX4_insert 62 = .ok (.dup, 1) := by decide +kernel
theorem dX4_insert_63 : decode cX4_insert 63 = .ok (.ldc 108, 2) := by decide +kernel
theorem dX4_insert_65 : decode cX4_insert 65 = .ok (.invokespecial 52, 3) := by decide +kernel
theorem dX4_insert_68 : decode cX4_insert 68 = .ok (.athrow, 1) := by decide +kernel
theorem dX4_insert_69 : decode cX4_insert 69 = .ok (.aload_n 3, 1) := by decide +kernel
theorem dX4_insert_70 : decode cX4_insert 70 = .ok (.dup, 1) := by decide +kernel
theorem dX4_insert_71 : decode cX4_insert 71 = .ok (.getfield 102, 3) := by decide +kernel
theorem dX4_insert_74 : decode cX4_insert 74 = .ok (.aload 4, 2) := by decide +kernel
theorem dX4_insert_76 : decode cX4_insert 76 = .ok (.getfield 105, 3) := by decide +kernel
theorem dX4_insert_79 : decode cX4_insert 79 = .ok (.iadd, 1) := by decide +kernel
theorem dX4_insert_80 : decode cX4_insert 80 = .ok (.putfield 102, 3) := by decide +kernel
theorem dX4_insert_83 : decode cX4_insert 83 = .ok (.aload_n 3, 1) := by decide +kernel
theorem dX4_insert_84 : decode cX4_insert 84 = .ok (.dup, 1) := by decide +kernel
theorem dX4_insert_85 : decode cX4_insert 85 = .ok (.getfield 110, 3) := by decide +kernel
theorem dX4_insert_88 : decode cX4_insert 88 = .ok (.aload 4, 2) := by decide +kernel
theorem dX4_insert_90 : decode cX4_insert 90 = .ok (.getfield 113, 3) := by decide +kernel
theorem dX4_insert_93 : decode cX4_insert 93 = .ok (.iadd, 1) := by decide +kernel
theorem dX4_insert_94 : decode cX4_insert 94 = .ok (.putfield 110, 3) := by decide +kernel
theorem dX4_insert_97 : decode cX4_insert 97 = .ok (.aload_n 3, 1) := by decide +kernel
theorem dX4_insert_98 : decode cX4_insert 98 = .ok (.getfield 102, 3) := by decide +kernel
theorem dX4_insert_101 : decode cX4_insert 101 = .ok (.ireturn, 1) := by decide +kernel
set_option maxRecDepth 20000 in
theorem ggX4_press_X4_requireBox : GoodIn wsX4_press wsX4_requireBox := goodIn_ca (goodIn_r _ [12, 13, 14, 15, 16, 17, 18, 19, 20, 21, 22, 23, 24, 25, 26, 27, 28, 29, 30, 31, 32, 33, 34, 35, 36, 37, 38, 39, 115, 116, 117, 118, 119, 120, 121, 122, 123, 124, 125, 126] (by decide +kernel) (by decide +kernel)) (goodIn_sub (fun _ h => List.mem_cons_of_mem _ (List.mem_append_right _ h)) (by decide +kernel))
set_option maxRecDepth 20000 in
theorem gX4_press_X4_requireBox : GoodIn wsX4_press (wsV RX4 75 RX4 yX4_requireBox wsX4_requireBox) := goodIn_app (goodIn_of _ (by decide +kernel)) ggX4_press_X4_requireBox
set_option maxRecDepth 20000 in
theorem ggX4_press_X4_requireSlot : GoodIn wsX4_press wsX4_requireSlot := goodIn_ca (goodIn_r _ [42, 13, 14, 43, 97, 98, 99, 100, 101, 102, 103, 104, 105, 106, 107, 108, 109, 110, 111] (by decide +kernel) (by decide +kernel)) (goodIn_sub (fun _ h => List.mem_cons_of_mem _ (List.mem_append_right _ h)) (by decide +kernel))
set_option maxRecDepth 20000 in
theorem gX4_press_X4_requireSlot : GoodIn wsX4_press (va_wsS RX4 114 yX4_requireSlot wsX4_requireSlot) := goodIn_app (goodIn_of _ (by decide +kernel)) ggX4_press_X4_requireSlot
set_option maxRecDepth 20000 in
theorem ggX4_press_Jx4a65c_size_8abf5 : GoodIn wsX4_press wsJx4a65c_size_8abf5 := goodIn_r _ [21, 22, 124, 125, 126] (by decide +kernel) (by decide +kernel)
set_option maxRecDepth 20000 in
theorem gX4_press_Jx4a65c_size_8abf5 : GoodIn wsX4_press (wsV RX4 44 RJx4a65c yJx4a65c_size_8abf5 wsJx4a65c_size_8abf5) := goodIn_app (goodIn_of _ (by decide +kernel)) ggX4_press_Jx4a65c_size_8abf5
set_option maxRecDepth 20000 in
theorem ggX4_press_Jx4a65c_add_9ea2d : GoodIn wsX4_press wsJx4a65c_add_9ea2d := goodIn_r _ [47, 48, 49, 39, 22, 50, 51, 52, 20, 53, 54, 55, 56, 57, 58, 59, 60, 61, 62, 63, 64, 65, 66, 67, 68, 69, 70, 71, 72, 73, 74, 75, 76, 77, 78, 79, 80, 81, 82, 83, 84, 85, 86, 87, 88, 89, 90, 91, 92, 93, 94, 95, 96, 124, 125, 126] (by decide +kernel) (by decide +kernel)
set_option maxRecDepth 20000 in
theorem gX4_press_Jx4a65c_add_9ea2d : GoodIn wsX4_press (wsV RX4 58 RJx4a65c yJx4a65c_add_9ea2d wsJx4a65c_add_9ea2d) := goodIn_app (goodIn_of _ (by decide +kernel)) ggX4_press_Jx4a65c_add_9ea2d
theorem dX4_press_0 : decode cX4_press 0 = .ok (.aload_n 0, 1) := by decide +kernel
theorem dX4_press_1 : decode cX4_press 1 = .ok (.iload_n 1, 1) := by decide +kernel
theorem dX4_press_2 : decode cX4_press 2 = .ok (.invokevirtual 75, 3) := by decide +kernel
theorem dX4_press_5 : decode cX4_press 5 = .ok (.astore_n 3, 1) := by decide +kernel
theorem dX4_press_6 : decode cX4_press 6 = .ok (.aload_n 3, 1) := by decide +kernel
theorem dX4_press_7 : decode cX4_press 7 = .ok (.iload_n 2, 1) := by decide +kernel
theorem dX4_press_8 : decode cX4_press 8 = .ok (.invokestatic 114, 3) := by decide +kernel
theorem dX4_press_11 : decode cX4_press 11 = .ok (.astore 4, 2) := by decide +kernel
theorem dX4_press_13 : decode cX4_press 13 = .ok (.aload_n 3, 1) := by decide +kernel
theorem dX4_press_14 : decode cX4_press 14 = .ok (.getfield 102, 3) := by decide +kernel
theorem dX4_press_17 : decode cX4_press 17 = .ok (.ifCond .le 11, 3) := by decide +kernel
theorem dX4_press_20 : decode cX4_press 20 = .ok (.aload 4, 2) := by decide +kernel
theorem dX4_press_22 : decode cX4_press 22 = .ok (.getfield 118, 3) := by decide +kernel
theorem dX4_press_25 : decode cX4_press 25 = .ok (.ifnonnull 13, 3) := by decide +kernel
theorem dX4_press_28 : decode cX4_press 28 = .ok (.new 97, 3) := by decide +kernel
theorem dX4_press_31 : decode cX4_press 31 = .ok (.dup, 1) := by decide +kernel
theorem dX4_press_32 : decode cX4_press 32 = .ok (.ldc 124, 2) := by decide +kernel
theorem dX4_press_34 : decode cX4_press 34 = .ok (.invokespecial 101, 3) := by decide +kernel
theorem dX4_press_37 : decode cX4_press 37 = .ok (.athrow, 1) := by decide +kernel
theorem dX4_press_38 : decode cX4_press 38 = .ok (.aload_n 3, 1) := by decide +kernel
theorem dX4_press_39 : decode cX4_press 39 = .ok (.getfield 126, 3) := by decide +kernel
theorem dX4_press_42 : decode cX4_press 42 = .ok (.invokevirtual 44, 3) := by decide +kernel
theorem dX4_press_45 : decode cX4_press 45 = .ok (.bipush 8, 2) := by decide +kernel
theorem dX4_press_47 : decode cX4_press 47 = .ok (.if_icmp .lt 13, 3) := by decide +kernel
theorem dX4_press_50 : decode cX4_press 50 = .ok (.new 48, 3) := by decide +kernel
theorem dX4_press_53 : decode cX4_press 53 = .ok (.dup, 1) := by decide +kernel
theorem dX4_press_54 : decode cX4_press 54 = .ok (.ldc 129, 2) := by decide +kernel
theorem dX4_press_56 : decode cX4_press 56 = .ok (.invokespecial 52, 3) := by decide +kernel
theorem dX4_press_59 : decode cX4_press 59 = .ok (.athrow, 1) := by decide +kernel
theorem dX4_press_60 : decode cX4_press 60 = .ok (.aload_n 3, 1) := by decide +kernel
theorem dX4_press_61 : decode cX4_press 61 = .ok (.dup, 1) := by decide +kernel
theorem dX4_press_62 : decode cX4_press 62 = .ok (.getfield 102, 3) := by decide +kernel
theorem dX4_press_65 : decode cX4_press 65 = .ok (.iconst 1, 1) := by decide +kernel
theorem dX4_press_66 : decode cX4_press 66 = .ok (.isub, 1) := by decide +kernel
theorem dX4_press_67 : decode cX4_press 67 = .ok (.putfield 102, 3) := by decide +kernel
theorem dX4_press_70 : decode cX4_press 70 = .ok (.aload_n 3, 1) := by decide +kernel
theorem dX4_press_71 : decode cX4_press 71 = .ok (.getfield 126, 3) := by decide +kernel
theorem dX4_press_74 : decode cX4_press 74 = .ok (.aload 4, 2) := by decide +kernel
theorem dX4_press_76 : decode cX4_press 76 = .ok (.invokevirtual 58, 3) := by decide +kernel
theorem dX4_press_79 : decode cX4_press 79 = .ok (.pop, 1) := by decide +kernel
theorem dX4_press_80 : decode cX4_press 80 = .ok (.aload_n 3, 1) := by decide +kernel
theorem dX4_press_81 : decode cX4_press 81 = .ok (.getfield 126, 3) := by decide +kernel
theorem dX4_press_84 : decode cX4_press 84 = .ok (.invokevirtual 44, 3) := by decide +kernel
theorem dX4_press_87 : decode cX4_press 87 = .ok (.ireturn, 1) := by decide +kernel
set_option maxRecDepth 20000 in
theorem ggX4_play_X4_requireBox : GoodIn wsX4_play wsX4_requireBox := goodIn_ca (goodIn_r _ [15, 16, 17, 18, 19, 20, 21, 22, 23, 24, 25, 26, 27, 28, 29, 30, 31, 32, 33, 34, 35, 36, 37, 38, 39, 40, 41, 42, 100, 101, 102, 103, 104, 105, 106, 107, 108, 109, 110, 111] (by decide +kernel) (by decide +kernel)) (goodIn_sub (fun _ h => List.mem_cons_of_mem _ (List.mem_append_right _ h)) (by decide +kernel))
set_option maxRecDepth 20000 in
theorem gX4_play_X4_requireBox : GoodIn wsX4_play (wsV RX4 75 RX4 yX4_requireBox wsX4_requireBox) := goodIn_app (goodIn_of _ (by decide +kernel)) ggX4_play_X4_requireBox
set_option maxRecDepth 20000 in
theorem ggX4_play_Jx4a65c_isEmpty_aae02 : GoodIn wsX4_play wsJx4a65c_isEmpty_aae02 := goodIn_r _ [46, 25, 109, 110, 111] (by decide +kernel) (by decide +kernel)
set_option maxRecDepth 20000 in
theorem gX4_play_Jx4a65c_isEmpty_aae02 : GoodIn wsX4_play (wsV RX4 131 RJx4a65c yJx4a65c_isEmpty_aae02 wsJx4a65c_isEmpty_aae02) := goodIn_app (goodIn_of _ (by decide +kernel)) ggX4_play_Jx4a65c_isEmpty_aae02
set_option maxRecDepth 20000 in
theorem ggX4_play_X0_playNext : GoodIn wsX4_play wsX0_playNext := goodIn_r _ [51, 52, 53, 54, 55, 56, 44, 45, 23, 46, 25, 57, 58, 59, 60, 42, 30, 31, 32, 33, 34, 35, 36, 37, 61, 62, 63, 64, 65, 66, 67, 68, 69, 70, 71, 72, 73, 74, 75, 76, 77, 78, 79, 50, 80, 81, 82, 83, 84, 85, 86, 87, 88, 89, 90, 91, 92, 93, 94, 95, 96, 97, 98, 99, 112, 113, 114, 109, 110, 111, 115, 116, 117, 118, 119, 120, 121, 122] (by decide +kernel) (by decide +kernel)
set_option maxRecDepth 20000 in
theorem gX4_play_X0_playNext : GoodIn wsX4_play (wsV RX4 144 RX0 yX0_playNext wsX0_playNext) := goodIn_app (goodIn_of _ (by decide +kernel)) ggX4_play_X0_playNext
theorem dX4_play_0 : decode cX4_play 0 = .ok (.aload_n 0, 1) := by decide +kernel
theorem dX4_play_1 : decode cX4_play 1 = .ok (.iload_n 1, 1) := by decide +kernel
theorem dX4_play_2 : decode cX4_play 2 = .ok (.invokevirtual 75, 3) := by decide +kernel
theorem dX4_play_5 : decode cX4_play 5 = .ok (.astore_n 2, 1) := by decide +kernel
theorem dX4_play_6 : decode cX4_play 6 = .ok (.aload_n 2, 1) := by decide +kernel
theorem dX4_play_7 : decode cX4_play 7 = .ok (.getfield 93, 3) := by decide +kernel
theorem dX4_play_10 : decode cX4_play 10 = .ok (.ifCond .eq 13, 3) := by decide +kernel
theorem dX4_play_13 : decode cX4_play 13 = .ok (.new 97, 3) := by decide +kernel
theorem dX4_play_16 : decode cX4_play 16 = .ok (.dup, 1) := by decide +kernel
theorem dX4_play_17 : decode cX4_play 17 = .ok (.ldc 99, 2) := by decide +kernel
theorem dX4_play_19 : decode cX4_play 19 = .ok (.invokespecial 101, 3) := by decide +kernel
theorem dX4_play_22 : decode cX4_play 22 = .ok (.athrow, 1) := by decide +kernel
theorem dX4_play_23 : decode cX4_play 23 = .ok (.aload_n 2, 1) := by decide +kernel
theorem dX4_play_24 : decode cX4_play 24 = .ok (.getfield 126, 3) := by decide +kernel
theorem dX4_play_27 : decode cX4_play 27 = .ok (.invokevirtual 131, 3) := by decide +kernel
theorem dX4_play_30 : decode cX4_play 30 = .ok (.ifCond .eq 13, 3) := by decide +kernel
theorem dX4_play_33 : decode cX4_play 33 = .ok (.new 135, 3) := by decide +kernel
theorem dX4_play_36 : decode cX4_play 36 = .ok (.dup, 1) := by decide +kernel
theorem dX4_play_37 : decode cX4_play 37 = .ok (.ldc 137, 2) := by decide +kernel
theorem dX4_play_39 : decode cX4_play 39 = .ok (.invokespecial 139, 3) := by decide +kernel
theorem dX4_play_42 : decode cX4_play 42 = .ok (.athrow, 1) := by decide +kernel
theorem dX4_play_43 : decode cX4_play 43 = .ok (.aload_n 0, 1) := by decide +kernel
theorem dX4_play_44 : decode cX4_play 44 = .ok (.aload_n 0, 1) := by decide +kernel
theorem dX4_play_45 : decode cX4_play 45 = .ok (.getfield 26, 3) := by decide +kernel
theorem dX4_play_48 : decode cX4_play 48 = .ok (.i2l, 1) := by decide +kernel
theorem dX4_play_49 : decode cX4_play 49 = .ok (.ldc2_w 140, 3) := by decide +kernel
theorem dX4_play_52 : decode cX4_play 52 = .ok (.lmul, 1) := by decide +kernel
theorem dX4_play_53 : decode cX4_play 53 = .ok (.ldc2_w 142, 3) := by decide +kernel
theorem dX4_play_56 : decode cX4_play 56 = .ok (.lrem, 1) := by decide +kernel
theorem dX4_play_57 : decode cX4_play 57 = .ok (.l2i, 1) := by decide +kernel
theorem dX4_play_58 : decode cX4_play 58 = .ok (.putfield 26, 3) := by decide +kernel
theorem dX4_play_61 : decode cX4_play 61 = .ok (.aload_n 0, 1) := by decide +kernel
theorem dX4_play_62 : decode cX4_play 62 = .ok (.getfield 26, 3) := by decide +kernel
theorem dX4_play_65 : decode cX4_play 65 = .ok (.bipush 100, 2) := by decide +kernel
theorem dX4_play_67 : decode cX4_play 67 = .ok (.irem, 1) := by decide +kernel
theorem dX4_play_68 : decode cX4_play 68 = .ok (.aload_n 2, 1) := by decide +kernel
theorem dX4_play_69 : decode cX4_play 69 = .ok (.getfield 81, 3) := by decide +kernel
theorem dX4_play_72 : decode cX4_play 72 = .ok (.if_icmp .ge 11, 3) := by decide +kernel
theorem dX4_play_75 : decode cX4_play 75 = .ok (.aload_n 2, 1) := by decide +kernel
theorem dX4_play_76 : decode cX4_play 76 = .ok (.iconst 1, 1) := by decide +kernel
theorem dX4_play_77 : decode cX4_play 77 = .ok (.putfield 93, 3) := by decide +kernel
theorem dX4_play_80 : decode cX4_play 80 = .ok (.bipush 106, 2) := by decide +kernel
theorem dX4_play_82 : decode cX4_play 82 = .ok (.ireturn, 1) := by decide +kernel
theorem dX4_play_83 : decode cX4_play 83 = .ok (.aload_n 2, 1) := by decide +kernel
theorem dX4_play_84 : decode cX4_play 84 = .ok (.invokevirtual 144, 3) := by decide +kernel
theorem dX4_play_87 : decode cX4_play 87 = .ok (.ifCond .eq 8, 3) := by decide +kernel
theorem dX4_play_90 : decode cX4_play 90 = .ok (.bipush 112, 2) := by decide +kernel
theorem dX4_play_92 : decode cX4_play 92 = .ok (.goto 5, 3) := by decide +kernel
theorem dX4_play_95 : decode cX4_play 95 = .ok (.bipush 98, 2) := by decide +kernel
theorem dX4_play_97 : decode cX4_play 97 = .ok (.ireturn, 1) := by decide +kernel
set_option maxRecDepth 20000 in
theorem ggX4_getCredits_X4_requireBox : GoodIn wsX4_getCredits wsX4_requireBox := goodIn_ca (goodIn_r _ [6, 7, 8, 9, 10, 11, 12, 13, 14, 15, 16, 17, 18, 19, 20, 21, 22, 23, 24, 25, 26, 27, 28, 29, 30, 31, 32, 33, 49, 50, 51, 52, 53, 54, 55, 56, 57, 58, 59, 60] (by decide +kernel) (by decide +kernel)) (goodIn_sub (fun _ h => List.mem_cons_of_mem _ (List.mem_append_right _ h)) (by decide +kernel))
set_option maxRecDepth 20000 in
theorem gX4_getCredits_X4_requireBox : GoodIn wsX4_getCredits (wsV RX4 75 RX4 yX4_requireBox wsX4_requireBox) := goodIn_app (goodIn_of _ (by decide +kernel)) ggX4_getCredits_X4_requireBox
theorem dX4_getCredits_0 : decode cX4_getCredits 0 = .ok (.aload_n 0, 1) := by decide +kernel
theorem dX4_getCredits_1 : decode cX4_getCredits 1 = .ok (.iload_n 1, 1) := by decide +kernel
theorem dX4_getCredits_2 : decode cX4_getCredits 2 = .ok (.invokevirtual 75, 3) := by decide +kernel
theorem dX4_getCredits_5 : decode cX4_getCredits 5 = .ok (.getfield 102, 3) := by decide +kernel
theorem dX4_getCredits_8 : decode cX4_getCredits 8 = .ok (.ireturn, 1) := by decide +kernel
set_option maxRecDepth 20000 in
theorem ggX4_getQueued_X4_requireBox : GoodIn wsX4_getQueued wsX4_requireBox := goodIn_ca (goodIn_r _ [6, 7, 8, 9, 10, 11, 12, 13, 14, 15, 16, 17, 18, 19, 20, 21, 22, 23, 24, 25, 26, 27, 28, 29, 30, 31, 32, 33, 49, 50, 51, 52, 53, 54, 55, 56, 57, 58, 59, 60] (by decide +kernel) (by decide +kernel)) (goodIn_sub (fun _ h => List.mem_cons_of_mem _ (List.mem_append_right _ h)) (by decide +kernel))
set_option maxRecDepth 20000 in
theorem gX4_getQueued_X4_requireBox : GoodIn wsX4_getQueued (wsV RX4 75 RX4 yX4_requireBox wsX4_requireBox) := goodIn_app (goodIn_of _ (by decide +kernel)) ggX4_getQueued_X4_requireBox
set_option maxRecDepth 20000 in
theorem ggX4_getQueued_Jx4a65c_size_8abf5 : GoodIn wsX4_getQueued wsJx4a65c_size_8abf5 := goodIn_r _ [15, 16, 58, 59, 60] (by decide +kernel) (by decide +kernel)
set_option maxRecDepth 20000 in
theorem gX4_getQueued_Jx4a65c_size_8abf5 : GoodIn wsX4_getQueued (wsV RX4 44 RJx4a65c yJx4a65c_size_8abf5 wsJx4a65c_size_8abf5) := goodIn_app (goodIn_of _ (by decide +kernel)) ggX4_getQueued_Jx4a65c_size_8abf5
theorem dX4_getQueued_0 : decode cX4_getQueued 0 = .ok (.aload_n 0, 1) := by decide +kernel
theorem dX4_getQueued_1 : decode cX4_getQueued 1 = .ok (.iload_n 1, 1) := by decide +kernel
theorem dX4_getQueued_2 : decode cX4_getQueued 2 = .ok (.invokevirtual 75, 3) := by decide +kernel
theorem dX4_getQueued_5 : decode cX4_getQueued 5 = .ok (.getfield 126, 3) := by decide +kernel
theorem dX4_getQueued_8 : decode cX4_getQueued 8 = .ok (.invokevirtual 44, 3) := by decide +kernel
theorem dX4_getQueued_11 : decode cX4_getQueued 11 = .ok (.ireturn, 1) := by decide +kernel
set_option maxRecDepth 20000 in
theorem ggX4_getCents_X4_requireBox : GoodIn wsX4_getCents wsX4_requireBox := goodIn_ca (goodIn_r _ [6, 7, 8, 9, 10, 11, 12, 13, 14, 15, 16, 17, 18, 19, 20, 21, 22, 23, 24, 25, 26, 27, 28, 29, 30, 31, 32, 33, 49, 50, 51, 52, 53, 54, 55, 56, 57, 58, 59, 60] (by decide +kernel) (by decide +kernel)) (goodIn_sub (fun _ h => List.mem_cons_of_mem _ (List.mem_append_right _ h)) (by decide +kernel))
set_option maxRecDepth 20000 in
theorem gX4_getCents_X4_requireBox : GoodIn wsX4_getCents (wsV RX4 75 RX4 yX4_requireBox wsX4_requireBox) := goodIn_app (goodIn_of _ (by decide +kernel)) ggX4_getCents_X4_requireBox
theorem dX4_getCents_0 : decode cX4_getCents 0 = .ok (.aload_n 0, 1) := by decide +kernel
theorem dX4_getCents_1 : decode cX4_getCents 1 = .ok (.iload_n 1, 1) := by decide +kernel
theorem dX4_getCents_2 : decode cX4_getCents 2 = .ok (.invokevirtual 75, 3) := by decide +kernel
theorem dX4_getCents_5 : decode cX4_getCents 5 = .ok (.getfield 110, 3) := by decide +kernel
theorem dX4_getCents_8 : decode cX4_getCents 8 = .ok (.ireturn, 1) := by decide +kernel
set_option maxRecDepth 20000 in
theorem ggX4_isJammed_X4_requireBox : GoodIn wsX4_isJammed wsX4_requireBox := goodIn_ca (goodIn_r _ [6, 7, 8, 9, 10, 11, 12, 13, 14, 15, 16, 17, 18, 19, 20, 21, 22, 23, 24, 25, 26, 27, 28, 29, 30, 31, 32, 33, 49, 50, 51, 52, 53, 54, 55, 56, 57, 58, 59, 60] (by decide +kernel) (by decide +kernel)) (goodIn_sub (fun _ h => List.mem_cons_of_mem _ (List.mem_append_right _ h)) (by decide +kernel))
set_option maxRecDepth 20000 in
theorem gX4_isJammed_X4_requireBox : GoodIn wsX4_isJammed (wsV RX4 75 RX4 yX4_requireBox wsX4_requireBox) := goodIn_app (goodIn_of _ (by decide +kernel)) ggX4_isJammed_X4_requireBox
theorem dX4_isJammed_0 : decode cX4_isJammed 0 = .ok (.aload_n 0, 1) := by decide +kernel
theorem dX4_isJammed_1 : decode cX4_isJammed 1 = .ok (.iload_n 1, 1) := by decide +kernel
theorem dX4_isJammed_2 : decode cX4_isJammed 2 = .ok (.invokevirtual 75, 3) := by decide +kernel
theorem dX4_isJammed_5 : decode cX4_isJammed 5 = .ok (.getfield 93, 3) := by decide +kernel
theorem dX4_isJammed_8 : decode cX4_isJammed 8 = .ok (.ireturn, 1) := by decide +kernel
set_option maxRecDepth 20000 in
theorem ggX4_getWheel_X4_requireBox : GoodIn wsX4_getWheel wsX4_requireBox := goodIn_ca (goodIn_r _ [6, 7, 8, 9, 10, 11, 12, 13, 14, 15, 16, 17, 18, 19, 20, 21, 22, 23, 24, 25, 26, 27, 28, 29, 30, 31, 32, 33, 41, 42, 43, 44, 45, 46, 47, 48, 49, 50, 51, 52] (by decide +kernel) (by decide +kernel)) (goodIn_sub (fun _ h => List.mem_cons_of_mem _ (List.mem_append_right _ h)) (by decide +kernel))
set_option maxRecDepth 20000 in
theorem gX4_getWheel_X4_requireBox : GoodIn wsX4_getWheel (wsV RX4 75 RX4 yX4_requireBox wsX4_requireBox) := goodIn_app (goodIn_of _ (by decide +kernel)) ggX4_getWheel_X4_requireBox
set_option maxRecDepth 20000 in
theorem ggX4_getWheel_X4_requireSlot : GoodIn wsX4_getWheel wsX4_requireSlot := goodIn_ca (goodIn_r _ [36, 7, 8, 37, 53, 54, 55, 56, 57, 58, 59, 60, 61, 62, 63, 64, 65, 66, 67] (by decide +kernel) (by decide +kernel)) (goodIn_sub (fun _ h => List.mem_cons_of_mem _ (List.mem_append_right _ h)) (by decide +kernel))
set_option maxRecDepth 20000 in
theorem gX4_getWheel_X4_requireSlot : GoodIn wsX4_getWheel (va_wsS RX4 114 yX4_requireSlot wsX4_requireSlot) := goodIn_app (goodIn_of _ (by decide +kernel)) ggX4_getWheel_X4_requireSlot
theorem dX4_getWheel_0 : decode cX4_getWheel 0 = .ok (.aload_n 0, 1) := by decide +kernel
theorem dX4_getWheel_1 : decode cX4_getWheel 1 = .ok (.iload_n 1, 1) := by decide +kernel
theorem dX4_getWheel_2 : decode cX4_getWheel 2 = .ok (.invokevirtual 75, 3) := by decide +kernel
theorem dX4_getWheel_5 : decode cX4_getWheel 5 = .ok (.iload_n 2, 1) := by decide +kernel
theorem dX4_getWheel_6 : decode cX4_getWheel 6 = .ok (.invokestatic 114, 3) := by decide +kernel
theorem dX4_getWheel_9 : decode cX4_getWheel 9 = .ok (.getfield 147, 3) := by decide +kernel
theorem dX4_getWheel_12 : decode cX4_getWheel 12 = .ok (.ireturn, 1) := by decide +kernel
set_option maxRecDepth 20000 in
theorem ggX4_getNeedle_X4_requireBox : GoodIn wsX4_getNeedle wsX4_requireBox := goodIn_ca (goodIn_r _ [6, 7, 8, 9, 10, 11, 12, 13, 14, 15, 16, 17, 18, 19, 20, 21, 22, 23, 24, 25, 26, 27, 28, 29, 30, 31, 32, 33, 49, 50, 51, 52, 53, 54, 55, 56, 57, 58, 59, 60] (by decide +kernel) (by decide +kernel)) (goodIn_sub (fun _ h => List.mem_cons_of_mem _ (List.mem_append_right _ h)) (by decide +kernel))
set_option maxRecDepth 20000 in
theorem gX4_getNeedle_X4_requireBox : GoodIn wsX4_getNeedle (wsV RX4 75 RX4 yX4_requireBox wsX4_requireBox) := goodIn_app (goodIn_of _ (by decide +kernel)) ggX4_getNeedle_X4_requireBox
theorem dX4_getNeedle_0 : decode cX4_getNeedle 0 = .ok (.aload_n 0, 1) := by decide +kernel
theorem dX4_getNeedle_1 : decode cX4_getNeedle 1 = .ok (.iload_n 1, 1) := by decide +kernel
theorem dX4_getNeedle_2 : decode cX4_getNeedle 2 = .ok (.invokevirtual 75, 3) := by decide +kernel
theorem dX4_getNeedle_5 : decode cX4_getNeedle 5 = .ok (.getfield 150, 3) := by decide +kernel
theorem dX4_getNeedle_8 : decode cX4_getNeedle 8 = .ok (.ireturn, 1) := by decide +kernel
set_option maxRecDepth 20000 in
theorem ggX4_getWear_X4_requireDisc : GoodIn wsX4_getWear wsX4_requireDisc := goodIn_ca (goodIn_r _ [6, 7, 8, 9, 10, 11, 12, 13, 14, 15, 16, 17, 18, 19, 20, 21, 22, 23, 24, 25, 26, 27, 28, 29, 30, 31, 32, 33, 42, 43, 44, 45, 46, 47, 48, 49, 50, 51, 52, 53] (by decide +kernel) (by decide +kernel)) (goodIn_sub (fun _ h => List.mem_cons_of_mem _ (List.mem_append_right _ h)) (by decide +kernel))
set_option maxRecDepth 20000 in
theorem gX4_getWear_X4_requireDisc : GoodIn wsX4_getWear (wsV RX4 153 RX4 yX4_requireDisc wsX4_requireDisc) := goodIn_app (goodIn_of _ (by decide +kernel)) ggX4_getWear_X4_requireDisc
theorem dX4_getWear_0 : decode cX4_getWear 0 = .ok (.aload_n 0, 1) := by decide +kernel
theorem dX4_getWear_1 : decode cX4_getWear 1 = .ok (.iload_n 1, 1) := by decide +kernel
theorem dX4_getWear_2 : decode cX4_getWear 2 = .ok (.invokevirtual 153, 3) := by decide +kernel
theorem dX4_getWear_5 : decode cX4_getWear 5 = .ok (.getfield 157, 3) := by decide +kernel
theorem dX4_getWear_8 : decode cX4_getWear 8 = .ok (.ireturn, 1) := by decide +kernel
set_option maxRecDepth 20000 in
theorem ggX4_getPlace_X4_requireDisc : GoodIn wsX4_getPlace wsX4_requireDisc := goodIn_ca (goodIn_r _ [9, 10, 11, 12, 13, 14, 15, 16, 17, 18, 19, 20, 21, 22, 23, 24, 25, 26, 27, 28, 29, 30, 31, 32, 33, 34, 35, 36, 60, 61, 62, 63, 64, 65, 66, 67, 68, 69, 70, 71] (by decide +kernel) (by decide +kernel)) (goodIn_sub (fun _ h => List.mem_cons_of_mem _ (List.mem_append_right _ h)) (by decide +kernel))
set_option maxRecDepth 20000 in
theorem gX4_getPlace_X4_requireDisc : GoodIn wsX4_getPlace (wsV RX4 153 RX4 yX4_requireDisc wsX4_requireDisc) := goodIn_app (goodIn_of _ (by decide +kernel)) ggX4_getPlace_X4_requireDisc
theorem dX4_getPlace_0 : decode cX4_getPlace 0 = .ok (.aload_n 0, 1) := by decide +kernel
theorem dX4_getPlace_1 : decode cX4_getPlace 1 = .ok (.iload_n 1, 1) := by decide +kernel
theorem dX4_getPlace_2 : decode cX4_getPlace 2 = .ok (.invokevirtual 153, 3) := by decide +kernel
theorem dX4_getPlace_5 : decode cX4_getPlace 5 = .ok (.astore_n 2, 1) := by decide +kernel
theorem dX4_getPlace_6 : decode cX4_getPlace 6 = .ok (.aload_n 2, 1) := by decide +kernel
theorem dX4_getPlace_7 : decode cX4_getPlace 7 = .ok (.getfield 160, 3) := by decide +kernel
theorem dX4_getPlace_10 : decode cX4_getPlace 10 = .ok (.ifCond .eq 6, 3) := by decide +kernel
theorem dX4_getPlace_13 : decode cX4_getPlace 13 = .ok (.bipush (-2), 2) := by decide +kernel
theorem dX4_getPlace_15 : decode cX4_getPlace 15 = .ok (.ireturn, 1) := by decide +kernel
theorem dX4_getPlace_16 : decode cX4_getPlace 16 = .ok (.aload_n 2, 1) := by decide +kernel
theorem dX4_getPlace_17 : decode cX4_getPlace 17 = .ok (.getfield 163, 3) := by decide +kernel
theorem dX4_getPlace_20 : decode cX4_getPlace 20 = .ok (.ifnonnull 7, 3) := by decide +kernel
theorem dX4_getPlace_23 : decode cX4_getPlace 23 = .ok (.iconst (-1), 1) := by decide +kernel
theorem dX4_getPlace_24 : decode cX4_getPlace 24 = .ok (.goto 18, 3) := by decide +kernel
theorem dX4_getPlace_27 : decode cX4_getPlace 27 = .ok (.aload_n 2, 1) := by decide +kernel
theorem dX4_getPlace_28 : decode cX4_getPlace 28 = .ok (.getfield 163, 3) := by decide +kernel
theorem dX4_getPlace_31 : decode cX4_getPlace 31 = .ok (.getfield 74, 3) := by decide +kernel
theorem dX4_getPlace_34 : decode cX4_getPlace 34 = .ok (.bipush 10, 2) := by decide +kernel
theorem dX4_getPlace_36 : decode cX4_getPlace 36 = .ok (.imul, 1) := by decide +kernel
theorem dX4_getPlace_37 : decode cX4_getPlace 37 = .ok (.aload_n 2, 1) := by decide +kernel
theorem dX4_getPlace_38 : decode cX4_getPlace 38 = .ok (.getfield 167, 3) := by decide +kernel
theorem dX4_getPlace_41 : decode cX4_getPlace 41 = .ok (.iadd, 1) := by decide +kernel
theorem dX4_getPlace_42 : decode cX4_getPlace 42 = .ok (.ireturn, 1) := by decide +kernel
set_option maxRecDepth 20000 in
theorem ggX4_discAt_X4_requireBox : GoodIn wsX4_discAt wsX4_requireBox := goodIn_ca (goodIn_r _ [9, 10, 11, 12, 13, 14, 15, 16, 17, 18, 19, 20, 21, 22, 23, 24, 25, 26, 27, 28, 29, 30, 31, 32, 33, 34, 35, 36, 52, 53, 54, 55, 56, 57, 58, 59, 60, 61, 62, 63] (by decide +kernel) (by decide +kernel)) (goodIn_sub (fun _ h => List.mem_cons_of_mem _ (List.mem_append_right _ h)) (by decide +kernel))
set_option maxRecDepth 20000 in
theorem gX4_discAt_X4_requireBox : GoodIn wsX4_discAt (wsV RX4 75 RX4 yX4_requireBox wsX4_requireBox) := goodIn_app (goodIn_of _ (by decide +kernel)) ggX4_discAt_X4_requireBox
set_option maxRecDepth 20000 in
theorem ggX4_discAt_X4_requireSlot : GoodIn wsX4_discAt wsX4_requireSlot := goodIn_ca (goodIn_r _ [39, 10, 11, 40, 64, 65, 66, 67, 68, 69, 70, 71, 72, 73, 74, 75, 76, 77, 78] (by decide +kernel) (by decide +kernel)) (goodIn_sub (fun _ h => List.mem_cons_of_mem _ (List.mem_append_right _ h)) (by decide +kernel))
set_option maxRecDepth 20000 in
theorem gX4_discAt_X4_requireSlot : GoodIn wsX4_discAt (va_wsS RX4 114 yX4_requireSlot wsX4_requireSlot) := goodIn_app (goodIn_of _ (by decide +kernel)) ggX4_discAt_X4_requireSlot
theorem dX4_discAt_0 : decode cX4_discAt 0 = .ok (.aload_n 0, 1) := by decide +kernel
theorem dX4_discAt_1 : decode cX4_discAt 1 = .ok (.iload_n 1, 1) := by decide +kernel
theorem dX4_discAt_2 : decode cX4_discAt 2 = .ok (.invokevirtual 75, 3) := by decide +kernel
theorem dX4_discAt_5 : decode cX4_discAt 5 = .ok (.iload_n 2, 1) := by decide +kernel
theorem dX4_discAt_6 : decode cX4_discAt 6 = .ok (.invokestatic 114, 3) := by decide +kernel
theorem dX4_discAt_9 : decode cX4_discAt 9 = .ok (.getfield 118, 3) := by decide +kernel
theorem dX4_discAt_12 : decode cX4_discAt 12 = .ok (.astore_n 3, 1) := by decide +kernel
theorem dX4_discAt_13 : decode cX4_discAt 13 = .ok (.aload_n 3, 1) := by decide +kernel
theorem dX4_discAt_14 : decode cX4_discAt 14 = .ok (.ifnonnull 13, 3) := by decide +kernel
theorem dX4_discAt_17 : decode cX4_discAt 17 = .ok (.new 135, 3) := by decide +kernel
theorem dX4_discAt_20 : decode cX4_discAt 20 = .ok (.dup, 1) := by decide +kernel
theorem dX4_discAt_21 : decode cX4_discAt 21 = .ok (.ldc 170, 2) := by decide +kernel
theorem dX4_discAt_23 : decode cX4_discAt 23 = .ok (.invokespecial 139, 3) := by decide +kernel
theorem dX4_discAt_26 : decode cX4_discAt 26 = .ok (.athrow, 1) := by decide +kernel
theorem dX4_discAt_27 : decode cX4_discAt 27 = .ok (.aload_n 3, 1) := by decide +kernel
theorem dX4_discAt_28 : decode cX4_discAt 28 = .ok (.getfield 62, 3) := by decide +kernel
theorem dX4_discAt_31 : decode cX4_discAt 31 = .ok (.ireturn, 1) := by decide +kernel
set_option maxRecDepth 20000 in
theorem ggX4_pull_X4_requireDisc : GoodIn wsX4_pull wsX4_requireDisc := goodIn_ca (goodIn_r _ [6, 7, 8, 9, 10, 11, 12, 13, 14, 15, 16, 17, 18, 19, 20, 21, 22, 23, 24, 25, 26, 27, 28, 29, 30, 31, 32, 33, 54, 55, 56, 57, 58, 59, 60, 61, 62, 63, 64, 65] (by decide +kernel) (by decide +kernel)) (goodIn_sub (fun _ h => List.mem_cons_of_mem _ (List.mem_append_right _ h)) (by decide +kernel))
set_option maxRecDepth 20000 in
theorem gX4_pull_X4_requireDisc : GoodIn wsX4_pull (wsV RX4 153 RX4 yX4_requireDisc wsX4_requireDisc) := goodIn_app (goodIn_of _ (by decide +kernel)) ggX4_pull_X4_requireDisc
set_option maxRecDepth 20000 in
theorem ggX4_pull_X2_pullWhereItIs : GoodIn wsX4_pull wsX2_pullWhereItIs := goodIn_r _ [38, 39, 40, 41, 42, 43, 37, 44, 45, 46, 47, 48, 49, 50, 51, 52, 53, 66, 67, 68, 69, 70, 71, 72, 73, 74, 75, 76, 77, 78, 79, 80, 81, 82, 83, 84, 85, 86, 87, 88] (by decide +kernel) (by decide +kernel)
set_option maxRecDepth 20000 in
theorem gX4_pull_X2_pullWhereItIs : GoodIn wsX4_pull (wsV RX4 175 RX2 yX2_pullWhereItIs wsX2_pullWhereItIs) := goodIn_app (goodIn_of _ (by decide +kernel)) ggX4_pull_X2_pullWhereItIs
theorem dX4_pull_0 : decode cX4_pull 0 = .ok (.aload_n 0, 1) := by decide +kernel
theorem dX4_pull_1 : decode cX4_pull 1 = .ok (.iload_n 1, 1) := by decide +kernel
theorem dX4_pull_2 : decode cX4_pull 2 = .ok (.invokevirtual 153, 3) := by decide +kernel
theorem dX4_pull_5 : decode cX4_pull 5 = .ok (.aload_n 0, 1) := by decide +kernel
theorem dX4_pull_6 : decode cX4_pull 6 = .ok (.getfield 172, 3) := by decide +kernel
theorem dX4_pull_9 : decode cX4_pull 9 = .ok (.invokevirtual 175, 3) := by decide +kernel
theorem dX4_pull_12 : decode cX4_pull 12 = .ok (.ireturn, 1) := by decide +kernel
set_option maxRecDepth 20000 in
theorem ggX4_pullIn_X4_requireBox : GoodIn wsX4_pullIn wsX4_requireBox := goodIn_ca (goodIn_r _ [7, 8, 9, 10, 11, 12, 13, 14, 15, 16, 17, 18, 19, 20, 21, 22, 23, 24, 25, 26, 27, 28, 29, 30, 31, 32, 33, 34, 70, 71, 72, 73, 74, 75, 76, 77, 78, 79, 80, 81] (by decide +kernel) (by decide +kernel)) (goodIn_sub (fun _ h => List.mem_cons_of_mem _ (List.mem_append_right _ h)) (by decide +kernel))
set_option maxRecDepth 20000 in
theorem gX4_pullIn_X4_requireBox : GoodIn wsX4_pullIn (wsV RX4 75 RX4 yX4_requireBox wsX4_requireBox) := goodIn_app (goodIn_of _ (by decide +kernel)) ggX4_pullIn_X4_requireBox
set_option maxRecDepth 20000 in
theorem ggX4_pullIn_X4_requireDisc : GoodIn wsX4_pullIn wsX4_requireDisc := goodIn_ca (goodIn_r _ [38, 8, 9, 39, 40, 12, 13, 14, 15, 16, 17, 18, 19, 20, 21, 22, 23, 24, 25, 26, 27, 28, 29, 30, 31, 32, 33, 34, 70, 71, 72, 73, 74, 75, 76, 77, 78, 79, 80, 81] (by decide +kernel) (by decide +kernel)) (goodIn_sub (fun _ h => List.mem_cons_of_mem _ (List.mem_append_right _ h)) (by decide +kernel))
set_option maxRecDepth 20000 in
theorem gX4_pullIn_X4_requireDisc : GoodIn wsX4_pullIn (wsV RX4 153 RX4 yX4_requireDisc wsX4_requireDisc) := goodIn_app (goodIn_of _ (by decide +kernel)) ggX4_pullIn_X4_requireDisc
set_option maxRecDepth 20000 in
theorem ggX4_pullIn_X2_pullFor : GoodIn wsX4_pullIn wsX2_pullFor := goodIn_r _ [45, 46, 47, 48, 49, 50, 51, 52, 53, 54, 82, 83, 84, 85, 86, 87, 88, 89] (by decide +kernel) (by decide +kernel)
set_option maxRecDepth 20000 in
theorem gX4_pullIn_X2_pullFor : GoodIn wsX4_pullIn (wsV RX4 182 RX2 yX2_pullFor wsX2_pullFor) := goodIn_app (goodIn_of _ (by decide +kernel)) ggX4_pullIn_X2_pullFor
theorem dX4_pullIn_0 : decode cX4_pullIn 0 = .ok (.aload_n 0, 1) := by decide +kernel
theorem dX4_pullIn_1 : decode cX4_pullIn 1 = .ok (.iload_n 1, 1) := by decide +kernel
theorem dX4_pullIn_2 : decode cX4_pullIn 2 = .ok (.invokevirtual 75, 3) := by decide +kernel
theorem dX4_pullIn_5 : decode cX4_pullIn 5 = .ok (.astore_n 3, 1) := by decide +kernel
theorem dX4_pullIn_6 : decode cX4_pullIn 6 = .ok (.aload_n 0, 1) := by decide +kernel
theorem dX4_pullIn_7 : decode cX4_pullIn 7 = .ok (.iload_n 2, 1) := by decide +kernel
theorem dX4_pullIn_8 : decode cX4_pullIn 8 = .ok (.invokevirtual 153, 3) := by decide +kernel
theorem dX4_pullIn_11 : decode cX4_pullIn 11 = .ok (.aload_n 3, 1) := by decide +kernel
theorem dX4_pullIn_12 : decode cX4_pullIn 12 = .ok (.getfield 179, 3) := by decide +kernel
theorem dX4_pullIn_15 : decode cX4_pullIn 15 = .ok (.aload_n 0, 1) := by decide +kernel
theorem dX4_pullIn_16 : decode cX4_pullIn 16 = .ok (.getfield 172, 3) := by decide +kernel
theorem dX4_pullIn_19 : decode cX4_pullIn 19 = .ok (.invokevirtual 182, 3) := by decide +kernel
theorem dX4_pullIn_22 : decode cX4_pullIn 22 = .ok (.ireturn, 1) := by decide +kernel
set_option maxRecDepth 20000 in
theorem ggX4_pass_Jx4a65c_size_8abf5 : GoodIn wsX4_pass wsJx4a65c_size_8abf5 := goodIn_r _ [12, 13, 90, 91, 92] (by decide +kernel) (by decide +kernel)
set_option maxRecDepth 20000 in
theorem gX4_pass_Jx4a65c_size_8abf5 : GoodIn wsX4_pass (wsV RX4 44 RJx4a65c yJx4a65c_size_8abf5 wsJx4a65c_size_8abf5) := goodIn_app (goodIn_of _ (by decide +kernel)) ggX4_pass_Jx4a65c_size_8abf5
set_option maxRecDepth 20000 in
theorem ggX4_pass_Jx4a65c_get_915e3 : GoodIn wsX4_pass wsJx4a65c_get_915e3 := goodIn_r _ [17, 13, 18, 19, 20, 21, 22, 23, 24, 25, 26, 27, 28, 11, 29, 30, 90, 91, 92] (by decide +kernel) (by decide +kernel)
set_option maxRecDepth 20000 in
theorem gX4_pass_Jx4a65c_get_915e3 : GoodIn wsX4_pass (wsV RX4 188 RJx4a65c yJx4a65c_get_915e3 wsJx4a65c_get_915e3) := goodIn_app (goodIn_of _ (by decide +kernel)) ggX4_pass_Jx4a65c_get_915e3
set_option maxRecDepth 20000 in
theorem ggX4_pass_X0_letGuestsPlay : GoodIn wsX4_pass wsX0_letGuestsPlay := goodIn_r _ [35, 36, 37, 38, 39, 40, 41, 42, 43, 44, 45, 46, 47, 48, 49, 50, 51, 52, 53, 54, 55, 56, 57, 58, 59, 60, 34, 61, 62, 63, 64, 65, 75, 76, 77, 78, 79, 80, 81, 82, 83, 84, 85, 86, 87, 88, 89, 93, 94, 95, 96, 97, 98, 99, 100, 101, 102, 103] (by decide +kernel) (by decide +kernel)
set_option maxRecDepth 20000 in
theorem gX4_pass_X0_letGuestsPlay : GoodIn wsX4_pass (wsV RX4 192 RX0 yX0_letGuestsPlay wsX0_letGuestsPlay) := goodIn_app (goodIn_of _ (by decide +kernel)) ggX4_pass_X0_letGuestsPlay
theorem dX4_pass_0 : decode cX4_pass 0 = .ok (.aload_n 0, 1) := by decide +kernel
theorem dX4_pass_1 : decode cX4_pass 1 = .ok (.getfield 172, 3) := by decide +kernel
theorem dX4_pass_4 : decode cX4_pass 4 = .ok (.bipush 99, 2) := by decide +kernel
theorem dX4_pass_6 : decode cX4_pass 6 = .ok (.if_icmp .lt 13, 3) := by decide +kernel
theorem dX4_pass_9 : decode cX4_pass 9 = .ok (.new 48, 3) := by decide +kernel
theorem dX4_pass_12 : decode cX4_pass 12 = .ok (.dup, 1) := by decide +kernel
theorem dX4_pass_13 : decode cX4_pass 13 = .ok (.ldc 186, 2) := by decide +kernel
theorem dX4_pass_15 : decode cX4_pass 15 = .ok (.invokespecial 52, 3) := by decide +kernel
theorem dX4_pass_18 : decode cX4_pass 18 = .ok (.athrow, 1) := by decide +kernel
theorem dX4_pass_19 : decode cX4_pass 19 = .ok (.iconst 0, 1) := by decide +kernel
theorem dX4_pass_20 : decode cX4_pass 20 = .ok (.istore_n 1, 1) := by decide +kernel
theorem dX4_pass_21 : decode cX4_pass 21 = .ok (.iload_n 1, 1) := by decide +kernel
theorem dX4_pass_22 : decode cX4_pass 22 = .ok (.aload_n 0, 1) := by decide +kernel
theorem dX4_pass_23 : decode cX4_pass 23 = .ok (.getfield 16, 3) := by decide +kernel
theorem dX4_pass_26 : decode cX4_pass 26 = .ok (.invokevirtual 44, 3) := by decide +kernel
theorem dX4_pass_29 : decode cX4_pass 29 = .ok (.if_icmp .ge 36, 3) := by decide +kernel
theorem dX4_pass_32 : decode cX4_pass 32 = .ok (.aload_n 0, 1) := by decide +kernel
theorem dX4_pass_33 : decode cX4_pass 33 = .ok (.getfield 16, 3) := by decide +kernel
theorem dX4_pass_36 : decode cX4_pass 36 = .ok (.iload_n 1, 1) := by decide +kernel
theorem dX4_pass_37 : decode cX4_pass 37 = .ok (.invokevirtual 188, 3) := by decide +kernel
theorem dX4_pass_40 : decode cX4_pass 40 = .ok (.checkcast 69, 3) := by decide +kernel
theorem dX4_pass_43 : decode cX4_pass 43 = .ok (.astore_n 2, 1) := by decide +kernel
theorem dX4_pass_44 : decode cX4_pass 44 = .ok (.aload_n 2, 1) := by decide +kernel
theorem dX4_pass_45 : decode cX4_pass 45 = .ok (.getfield 93, 3) := by decide +kernel
theorem dX4_pass_48 : decode cX4_pass 48 = .ok (.ifCond .ne 11, 3) := by decide +kernel
theorem dX4_pass_51 : decode cX4_pass 51 = .ok (.aload_n 2, 1) := by decide +kernel
theorem dX4_pass_52 : decode cX4_pass 52 = .ok (.aload_n 0, 1) := by decide +kernel
theorem dX4_pass_53 : decode cX4_pass 53 = .ok (.getfield 172, 3) := by decide +kernel
theorem dX4_pass_56 : decode cX4_pass 56 = .ok (.invokevirtual 192, 3) := by decide +kernel
theorem dX4_pass_59 : decode cX4_pass 59 = .ok (.iinc 1 1, 3) := by decide +kernel
theorem dX4_pass_62 : decode cX4_pass 62 = .ok (.goto (-41), 3) := by decide +kernel
theorem dX4_pass_65 : decode cX4_pass 65 = .ok (.aload_n 0, 1) := by decide +kernel
theorem dX4_pass_66 : decode cX4_pass 66 = .ok (.dup, 1) := by decide +kernel
theorem dX4_pass_67 : decode cX4_pass 67 = .ok (.getfield 172, 3) := by decide +kernel
theorem dX4_pass_70 : decode cX4_pass 70 = .ok (.iconst 1, 1) := by decide +kernel
theorem dX4_pass_71 : decode cX4_pass 71 = .ok (.iadd, 1) := by decide +kernel
theorem dX4_pass_72 : decode cX4_pass 72 = .ok (.putfield 172, 3) := by decide +kernel
theorem dX4_pass_75 : decode cX4_pass 75 = .ok (.aload_n 0, 1) := by decide +kernel
theorem dX4_pass_76 : decode cX4_pass 76 = .ok (.sipush 600, 3) := by decide +kernel
theorem dX4_pass_79 : decode cX4_pass 79 = .ok (.putfield 30, 3) := by decide +kernel
theorem dX4_pass_82 : decode cX4_pass 82 = .ok (.aload_n 0, 1) := by decide +kernel
theorem dX4_pass_83 : decode cX4_pass 83 = .ok (.getfield 172, 3) := by decide +kernel
theorem dX4_pass_86 : decode cX4_pass 86 = .ok (.ireturn, 1) := by decide +kernel
theorem dX4_getWeek_0 : decode cX4_getWeek 0 = .ok (.aload_n 0, 1) := by decide +kernel
theorem dX4_getWeek_1 : decode cX4_getWeek 1 = .ok (.getfield 172, 3) := by decide +kernel
theorem dX4_getWeek_4 : decode cX4_getWeek 4 = .ok (.ireturn, 1) := by decide +kernel
theorem dX4_getMinutes_0 : decode cX4_getMinutes 0 = .ok (.aload_n 0, 1) := by decide +kernel
theorem dX4_getMinutes_1 : decode cX4_getMinutes 1 = .ok (.getfield 30, 3) := by decide +kernel
theorem dX4_getMinutes_4 : decode cX4_getMinutes 4 = .ok (.ireturn, 1) := by decide +kernel
set_option maxRecDepth 20000 in
theorem ggX4_visit_X4_requireBox : GoodIn wsX4_visit wsX4_requireBox := goodIn_ca (goodIn_r _ [14, 15, 16, 17, 18, 19, 20, 21, 22, 23, 24, 25, 26, 27, 28, 29, 30, 31, 32, 33, 34, 35, 36, 37, 38, 39, 40, 41, 68, 69, 70, 71, 72, 73, 74, 75, 76, 77, 78, 79] (by decide +kernel) (by decide +kernel)) (goodIn_sub (fun _ h => List.mem_cons_of_mem _ (List.mem_append_right _ h)) (by decide +kernel))
set_option maxRecDepth 20000 in
theorem gX4_visit_X4_requireBox : GoodIn wsX4_visit (wsV RX4 75 RX4 yX4_requireBox wsX4_requireBox) := goodIn_app (goodIn_of _ (by decide +kernel)) ggX4_visit_X4_requireBox
set_option maxRecDepth 20000 in
theorem ggX4_visit_X0_settle : GoodIn wsX4_visit wsX0_settle := goodIn_r _ [46, 47, 48, 49, 50, 51, 52, 53, 54, 55, 56, 57, 58, 59, 60, 61, 62, 63, 64, 65, 66, 67] (by decide +kernel) (by decide +kernel)
set_option maxRecDepth 20000 in
theorem gX4_visit_X0_settle : GoodIn wsX4_visit (wsV RX4 204 RX0 yX0_settle wsX0_settle) := goodIn_app (goodIn_of _ (by decide +kernel)) ggX4_visit_X0_settle
theorem dX4_visit_0 : decode cX4_visit 0 = .ok (.aload_n 0, 1) := by decide +kernel
theorem dX4_visit_1 : decode cX4_visit 1 = .ok (.iload_n 1, 1) := by decide +kernel
theorem dX4_visit_2 : decode cX4_visit 2 = .ok (.invokevirtual 75, 3) := by decide +kernel
theorem dX4_visit_5 : decode cX4_visit 5 = .ok (.astore_n 2, 1) := by decide +kernel
theorem dX4_visit_6 : decode cX4_visit 6 = .ok (.aload_n 2, 1) := by decide +kernel
theorem dX4_visit_7 : decode cX4_visit 7 = .ok (.getfield 196, 3) := by decide +kernel
theorem dX4_visit_10 : decode cX4_visit 10 = .ok (.aload_n 0, 1) := by decide +kernel
theorem dX4_visit_11 : decode cX4_visit 11 = .ok (.getfield 172, 3) := by decide +kernel
theorem dX4_visit_14 : decode cX4_visit 14 = .ok (.if_icmp .eq 12, 3) := by decide +kernel
theorem dX4_visit_17 : decode cX4_visit 17 = .ok (.aload_n 0, 1) := by decide +kernel
theorem dX4_visit_18 : decode cX4_visit 18 = .ok (.getfield 30, 3) := by decide +kernel
theorem dX4_visit_21 : decode cX4_visit 21 = .ok (.bipush 40, 2) := by decide +kernel
theorem dX4_visit_23 : decode cX4_visit 23 = .ok (.if_icmp .ge 13, 3) := by decide +kernel
theorem dX4_visit_26 : decode cX4_visit 26 = .ok (.new 97, 3) := by decide +kernel
theorem dX4_visit_29 : decode cX4_visit 29 = .ok (.dup, 1) := by decide +kernel
theorem dX4_visit_30 : decode cX4_visit 30 = .ok (.ldc 199, 2) := by decide +kernel
theorem dX4_visit_32 : decode cX4_visit 32 = .ok (.invokespecial 101, 3) := by decide +kernel
theorem dX4_visit_35 : decode cX4_visit 35 = .ok (.athrow, 1) := by decide +kernel
theorem dX4_visit_36 : decode cX4_visit 36 = .ok (.aload_n 0, 1) := by decide +kernel
theorem dX4_visit_37 : decode cX4_visit 37 = .ok (.dup, 1) := by decide +kernel
theorem dX4_visit_38 : decode cX4_visit 38 = .ok (.getfield 30, 3) := by decide +kernel
theorem dX4_visit_41 : decode cX4_visit 41 = .ok (.bipush 40, 2) := by decide +kernel
theorem dX4_visit_43 : decode cX4_visit 43 = .ok (.isub, 1) := by decide +kernel
theorem dX4_visit_44 : decode cX4_visit 44 = .ok (.putfield 30, 3) := by decide +kernel
theorem dX4_visit_47 : decode cX4_visit 47 = .ok (.aload_n 2, 1) := by decide +kernel
theorem dX4_visit_48 : decode cX4_visit 48 = .ok (.getfield 110, 3) := by decide +kernel
theorem dX4_visit_51 : decode cX4_visit 51 = .ok (.istore_n 3, 1) := by decide +kernel
theorem dX4_visit_52 : decode cX4_visit 52 = .ok (.iload_n 3, 1) := by decide +kernel
theorem dX4_visit_53 : decode cX4_visit 53 = .ok (.aload_n 2, 1) := by decide +kernel
theorem dX4_visit_54 : decode cX4_visit 54 = .ok (.getfield 201, 3) := by decide +kernel
theorem dX4_visit_57 : decode cX4_visit 57 = .ok (.imul, 1) := by decide +kernel
theorem dX4_visit_58 : decode cX4_visit 58 = .ok (.bipush 100, 2) := by decide +kernel
theorem dX4_visit_60 : decode cX4_visit 60 = .ok (.idiv, 1) := by decide +kernel
theorem dX4_visit_61 : decode cX4_visit 61 = .ok (.istore 4, 2) := by decide +kernel
theorem dX4_visit_63 : decode cX4_visit 63 = .ok (.aload_n 2, 1) := by decide +kernel
theorem dX4_visit_64 : decode cX4_visit 64 = .ok (.iload 4, 2) := by decide +kernel
theorem dX4_visit_66 : decode cX4_visit 66 = .ok (.aload_n 0, 1) := by decide +kernel
theorem dX4_visit_67 : decode cX4_visit 67 = .ok (.getfield 172, 3) := by decide +kernel
theorem dX4_visit_70 : decode cX4_visit 70 = .ok (.invokevirtual 204, 3) := by decide +kernel
theorem dX4_visit_73 : decode cX4_visit 73 = .ok (.aload_n 0, 1) := by decide +kernel
theorem dX4_visit_74 : decode cX4_visit 74 = .ok (.dup, 1) := by decide +kernel
theorem dX4_visit_75 : decode cX4_visit 75 = .ok (.getfield 208, 3) := by decide +kernel
theorem dX4_visit_78 : decode cX4_visit 78 = .ok (.iload_n 3, 1) := by decide +kernel
theorem dX4_visit_79 : decode cX4_visit 79 = .ok (.iadd, 1) := by decide +kernel
theorem dX4_visit_80 : decode cX4_visit 80 = .ok (.putfield 208, 3) := by decide +kernel
theorem dX4_visit_83 : decode cX4_visit 83 = .ok (.aload_n 0, 1) := by decide +kernel
theorem dX4_visit_84 : decode cX4_visit 84 = .ok (.dup, 1) := by decide +kernel
theorem dX4_visit_85 : decode cX4_visit 85 = .ok (.getfield 211, 3) := by decide +kernel
theorem dX4_visit_88 : decode cX4_visit 88 = .ok (.iload_n 3, 1) := by decide +kernel
theorem dX4_visit_89 : decode cX4_visit 89 = .ok (.iload 4, 2) := by decide +kernel
theorem dX4_visit_91 : decode cX4_visit 91 = .ok (.isub, 1) := by decide +kernel
theorem dX4_visit_92 : decode cX4_visit 92 = .ok (.iadd, 1) := by decide +kernel
theorem dX4_visit_93 : decode cX4_visit 93 = .ok (.putfield 211, 3) := by decide +kernel
theorem dX4_visit_96 : decode cX4_visit 96 = .ok (.iload_n 3, 1) := by decide +kernel
theorem dX4_visit_97 : decode cX4_visit 97 = .ok (.ireturn, 1) := by decide +kernel
set_option maxRecDepth 20000 in
theorem ggX4_getShort_X4_requireBox : GoodIn wsX4_getShort wsX4_requireBox := goodIn_ca (goodIn_r _ [6, 7, 8, 9, 10, 11, 12, 13, 14, 15, 16, 17, 18, 19, 20, 21, 22, 23, 24, 25, 26, 27, 28, 29, 30, 31, 32, 33, 49, 50, 51, 52, 53, 54, 55, 56, 57, 58, 59, 60] (by decide +kernel) (by decide +kernel)) (goodIn_sub (fun _ h => List.mem_cons_of_mem _ (List.mem_append_right _ h)) (by decide +kernel))
set_option maxRecDepth 20000 in
theorem gX4_getShort_X4_requireBox : GoodIn wsX4_getShort (wsV RX4 75 RX4 yX4_requireBox wsX4_requireBox) := goodIn_app (goodIn_of _ (by decide +kernel)) ggX4_getShort_X4_requireBox
theorem dX4_getShort_0 : decode cX4_getShort 0 = .ok (.aload_n 0, 1) := by decide +kernel
theorem dX4_getShort_1 : decode cX4_getShort 1 = .ok (.iload_n 1, 1) := by decide +kernel
theorem dX4_getShort_2 : decode cX4_getShort 2 = .ok (.invokevirtual 75, 3) := by decide +kernel
theorem dX4_getShort_5 : decode cX4_getShort 5 = .ok (.getfield 214, 3) := by decide +kernel
theorem dX4_getShort_8 : decode cX4_getShort 8 = .ok (.ireturn, 1) := by decide +kernel
set_option maxRecDepth 20000 in
theorem ggX4_getShare_X4_requireBox : GoodIn wsX4_getShare wsX4_requireBox := goodIn_ca (goodIn_r _ [6, 7, 8, 9, 10, 11, 12, 13, 14, 15, 16, 17, 18, 19, 20, 21, 22, 23, 24, 25, 26, 27, 28, 29, 30, 31, 32, 33, 49, 50, 51, 52, 53, 54, 55, 56, 57, 58, 59, 60] (by decide +kernel) (by decide +kernel)) (goodIn_sub (fun _ h => List.mem_cons_of_mem _ (List.mem_append_right _ h)) (by decide +kernel))
set_option maxRecDepth 20000 in
theorem gX4_getShare_X4_requireBox : GoodIn wsX4_getShare (wsV RX4 75 RX4 yX4_requireBox wsX4_requireBox) := goodIn_app (goodIn_of _ (by decide +kernel)) ggX4_getShare_X4_requireBox
theorem dX4_getShare_0 : decode cX4_getShare 0 = .ok (.aload_n 0, 1) := by decide +kernel
theorem dX4_getShare_1 : decode cX4_getShare 1 = .ok (.iload_n 1, 1) := by decide +kernel
theorem dX4_getShare_2 : decode cX4_getShare 2 = .ok (.invokevirtual 75, 3) := by decide +kernel
theorem dX4_getShare_5 : decode cX4_getShare 5 = .ok (.getfield 217, 3) := by decide +kernel
theorem dX4_getShare_8 : decode cX4_getShare 8 = .ok (.ireturn, 1) := by decide +kernel
theorem dX4_getEarned_0 : decode cX4_getEarned 0 = .ok (.aload_n 0, 1) := by decide +kernel
theorem dX4_getEarned_1 : decode cX4_getEarned 1 = .ok (.getfield 211, 3) := by decide +kernel
theorem dX4_getEarned_4 : decode cX4_getEarned 4 = .ok (.ireturn, 1) := by decide +kernel
set_option maxRecDepth 20000 in
theorem ggX4_change_X4_requireBox : GoodIn wsX4_change wsX4_requireBox := goodIn_ca (goodIn_r _ [11, 12, 13, 14, 15, 16, 17, 18, 19, 20, 21, 22, 23, 24, 25, 26, 27, 28, 29, 30, 31, 32, 33, 34, 35, 36, 37, 38, 87, 88, 89, 90, 91, 92, 93, 94, 95, 104, 105, 106] (by decide +kernel) (by decide +kernel)) (goodIn_sub (fun _ h => List.mem_cons_of_mem _ (List.mem_append_left _ (List.mem_append_right _ h))) (by decide +kernel))
set_option maxRecDepth 20000 in
theorem gX4_change_X4_requireBox : GoodIn wsX4_change (wsV RX4 75 RX4 yX4_requireBox wsX4_requireBox) := goodIn_app (goodIn_of _ (by decide +kernel)) ggX4_change_X4_requireBox
set_option maxRecDepth 20000 in
theorem ggX4_change_X4_requireSlot : GoodIn wsX4_change wsX4_requireSlot := goodIn_ca (goodIn_r _ [41, 12, 13, 42, 72, 73, 74, 75, 76, 77, 78, 79, 80, 81, 82, 83, 84, 85, 86] (by decide +kernel) (by decide +kernel)) (goodIn_sub (fun _ h => List.mem_cons_of_mem _ (List.mem_append_left _ (List.mem_append_right _ h))) (by decide +kernel))
set_option maxRecDepth 20000 in
theorem gX4_change_X4_requireSlot : GoodIn wsX4_change (va_wsS RX4 114 yX4_requireSlot wsX4_requireSlot) := goodIn_app (goodIn_of _ (by decide +kernel)) ggX4_change_X4_requireSlot
set_option maxRecDepth 20000 in
theorem ggX4_change_X4_requireDisc : GoodIn wsX4_change wsX4_requireDisc := goodIn_ca (goodIn_r _ [46, 12, 13, 47, 48, 16, 17, 18, 19, 20, 21, 22, 23, 24, 25, 26, 27, 28, 29, 30, 31, 32, 33, 34, 35, 36, 37, 38, 87, 88, 89, 90, 91, 92, 93, 94, 95, 104, 105, 106] (by decide +kernel) (by decide +kernel)) (goodIn_sub (fun _ h => List.mem_cons_of_mem _ (List.mem_append_left _ (List.mem_append_right _ h))) (by decide +kernel))
set_option maxRecDepth 20000 in
theorem gX4_change_X4_requireDisc : GoodIn wsX4_change (wsV RX4 153 RX4 yX4_requireDisc wsX4_requireDisc) := goodIn_app (goodIn_of _ (by decide +kernel)) ggX4_change_X4_requireDisc
set_option maxRecDepth 20000 in
theorem ggX4_change_X2_isInVan : GoodIn wsX4_change wsX2_isInVan := goodIn_r _ [53, 54, 55, 96, 97, 98, 99, 100, 101, 102, 103] (by decide +kernel) (by decide +kernel)
set_option maxRecDepth 20000 in
theorem gX4_change_X2_isInVan : GoodIn wsX4_change (wsV RX4 220 RX2 yX2_isInVan wsX2_isInVan) := goodIn_app (goodIn_of _ (by decide +kernel)) ggX4_change_X2_isInVan
set_option maxRecDepth 20000 in
theorem ggX4_change_X0_swap : GoodIn wsX4_change wsX0_swap := goodIn_ca (goodIn_r _ [60, 61, 62, 63, 64, 65, 66, 67, 68, 69, 59, 70, 71, 107, 108, 109, 96, 97, 98, 99, 100, 101, 102, 103, 72, 73, 74, 75, 76, 77, 78, 79, 80, 81, 82, 83, 84, 85, 86] (by decide +kernel) (by decide +kernel)) (goodIn_sub (fun _ h => List.mem_cons_of_mem _ (List.mem_append_right _ h)) (by decide +kernel))
set_option maxRecDepth 20000 in
theorem gX4_change_X0_swap : GoodIn wsX4_change (wsV RX4 225 RX0 yX0_swap wsX0_swap) := goodIn_app (goodIn_of _ (by decide +kernel)) ggX4_change_X0_swap
theorem dX4_change_0 : decode cX4_change 0 = .ok (.aload_n 0, 1) := by decide +kernel
theorem dX4_change_1 : decode cX4_change 1 = .ok (.iload_n 1, 1) := by decide +kernel
theorem dX4_change_2 : decode cX4_change 2 = .ok (.invokevirtual 75, 3) := by decide +kernel
theorem dX4_change_5 : decode cX4_change 5 = .ok (.astore 4, 2) := by decide +kernel
theorem dX4_change_7 : decode cX4_change 7 = .ok (.aload 4, 2) := by decide +kernel
theorem dX4_change_9 : decode cX4_change 9 = .ok (.iload_n 2, 1) := by decide +kernel
theorem dX4_change_10 : decode cX4_change 10 = .ok (.invokestatic 114, 3) := by decide +kernel
theorem dX4_change_13 : decode cX4_change 13 = .ok (.astore 5, 2) := by decide +kernel
theorem dX4_change_15 : decode cX4_change 15 = .ok (.iload_n 3, 1) := by decide +kernel
theorem dX4_change_16 : decode cX4_change 16 = .ok (.iconst (-1), 1) := by decide +kernel
theorem dX4_change_17 : decode cX4_change 17 = .ok (.if_icmp .ne 7, 3) := by decide +kernel
theorem dX4_change_20 : decode cX4_change 20 = .ok (.aconst_null, 1) := by decide +kernel
theorem dX4_change_21 : decode cX4_change 21 = .ok (.goto 8, 3) := by decide +kernel
theorem dX4_change_24 : decode cX4_change 24 = .ok (.aload_n 0, 1) := by decide +kernel
theorem dX4_change_25 : decode cX4_change 25 = .ok (.iload_n 3, 1) := by decide +kernel
theorem dX4_change_26 : decode cX4_change 26 = .ok (.invokevirtual 153, 3) := by decide +kernel
theorem dX4_change_29 : decode cX4_change 29 = .ok (.astore 6, 2) := by decide +kernel
theorem dX4_change_31 : decode cX4_change 31 = .ok (.aload 4, 2) := by decide +kernel
theorem dX4_change_33 : decode cX4_change 33 = .ok (.getfield 196, 3) := by decide +kernel
theorem dX4_change_36 : decode cX4_change 36 = .ok (.aload_n 0, 1) := by decide +kernel
theorem dX4_change_37 : decode cX4_change 37 = .ok (.getfield 172, 3) := by decide +kernel
theorem dX4_change_40 : decode cX4_change 40 = .ok (.if_icmp .ne 25, 3) := by decide +kernel
theorem dX4_change_43 : decode cX4_change 43 = .ok (.aload 6, 2) := by decide +kernel
theorem dX4_change_45 : decode cX4_change 45 = .ok (.ifnull 11, 3) := by decide +kernel
theorem dX4_change_48 : decode cX4_change 48 = .ok (.aload 6, 2) := by decide +kernel
theorem dX4_change_50 : decode cX4_change 50 = .ok (.invokevirtual 220, 3) := by decide +kernel
theorem dX4_change_53 : decode cX4_change 53 = .ok (.ifCond .eq 12, 3) := by decide +kernel
theorem dX4_change_56 : decode cX4_change 56 = .ok (.aload_n 0, 1) := by decide +kernel
theorem dX4_change_57 : decode cX4_change 57 = .ok (.getfield 30, 3) := by decide +kernel
theorem dX4_change_60 : decode cX4_change 60 = .ok (.bipush 10, 2) := by decide +kernel
theorem dX4_change_62 : decode cX4_change 62 = .ok (.if_icmp .ge 13, 3) := by decide +kernel
theorem dX4_change_65 : decode cX4_change 65 = .ok (.new 97, 3) := by decide +kernel
theorem dX4_change_68 : decode cX4_change 68 = .ok (.dup, 1) := by decide +kernel
theorem dX4_change_69 : decode cX4_change 69 = .ok (.ldc 223, 2) := by decide +kernel
theorem dX4_change_71 : decode cX4_change 71 = .ok (.invokespecial 101, 3) := by decide +kernel
theorem dX4_change_74 : decode cX4_change 74 = .ok (.athrow, 1) := by decide +kernel
theorem dX4_change_75 : decode cX4_change 75 = .ok (.aload_n 0, 1) := by decide +kernel
theorem dX4_change_76 : decode cX4_change 76 = .ok (.dup, 1) := by decide +kernel
theorem dX4_change_77 : decode cX4_change 77 = .ok (.getfield 30, 3) := by decide +kernel
theorem dX4_change_80 : decode cX4_change 80 = .ok (.bipush 10, 2) := by decide +kernel
theorem dX4_change_82 : decode cX4_change 82 = .ok (.isub, 1) := by decide +kernel
theorem dX4_change_83 : decode cX4_change 83 = .ok (.putfield 30, 3) := by decide +kernel
theorem dX4_change_86 : decode cX4_change 86 = .ok (.aload 4, 2) := by decide +kernel
theorem dX4_change_88 : decode cX4_change 88 = .ok (.aload 5, 2) := by decide +kernel
theorem dX4_change_90 : decode cX4_change 90 = .ok (.aload 6, 2) := by decide +kernel
theorem dX4_change_92 : decode cX4_change 92 = .ok (.invokevirtual 225, 3) := by decide +kernel
theorem dX4_change_95 : decode cX4_change 95 = .ok (.astore 7, 2) := by decide +kernel
theorem dX4_change_97 : decode cX4_change 97 = .ok (.aload 7, 2) := by decide +kernel
theorem dX4_change_99 : decode cX4_change 99 = .ok (.ifnonnull 7, 3) := by decide +kernel
theorem dX4_change_102 : decode cX4_change 102 = .ok (.iconst (-1), 1) := by decide +kernel
theorem dX4_change_103 : decode cX4_change 103 = .ok (.goto 8, 3) := by decide +kernel
theorem dX4_change_106 : decode cX4_change 106 = .ok (.aload 7, 2) := by decide +kernel
theorem dX4_change_108 : decode cX4_change 108 = .ok (.getfield 62, 3) := by decide +kernel
theorem dX4_change_111 : decode cX4_change 111 = .ok (.ireturn, 1) := by decide +kernel
set_option maxRecDepth 20000 in
theorem ggX4_changeNeedle_X4_requireBox : GoodIn wsX4_changeNeedle wsX4_requireBox := goodIn_ca (goodIn_r _ [11, 12, 13, 14, 15, 16, 17, 18, 19, 20, 21, 22, 23, 24, 25, 26, 27, 28, 29, 30, 31, 32, 33, 34, 35, 36, 37, 38, 54, 55, 56, 57, 58, 59, 60, 61, 62, 63, 64, 65] (by decide +kernel) (by decide +kernel)) (goodIn_sub (fun _ h => List.mem_cons_of_mem _ (List.mem_append_right _ h)) (by decide +kernel))
set_option maxRecDepth 20000 in
theorem gX4_changeNeedle_X4_requireBox : GoodIn wsX4_changeNeedle (wsV RX4 75 RX4 yX4_requireBox wsX4_requireBox) := goodIn_app (goodIn_of _ (by decide +kernel)) ggX4_changeNeedle_X4_requireBox
theorem dX4_changeNeedle_0 : decode cX4_changeNeedle 0 = .ok (.aload_n 0, 1) := by decide +kernel
theorem dX4_changeNeedle_1 : decode cX4_changeNeedle 1 = .ok (.iload_n 1, 1) := by decide +kernel
theorem dX4_changeNeedle_2 : decode cX4_changeNeedle 2 = .ok (.invokevirtual 75, 3) := by decide +kernel
theorem dX4_changeNeedle_5 : decode cX4_changeNeedle 5 = .ok (.astore_n 2, 1) := by decide +kernel
theorem dX4_changeNeedle_6 : decode cX4_changeNeedle 6 = .ok (.aload_n 2, 1) := by decide +kernel
theorem dX4_changeNeedle_7 : decode cX4_changeNeedle 7 = .ok (.getfield 196, 3) := by decide +kernel
theorem dX4_changeNeedle_10 : decode cX4_changeNeedle 10 = .ok (.aload_n 0, 1) := by decide +kernel
theorem dX4_changeNeedle_11 : decode cX4_changeNeedle 11 = .ok (.getfield 172, 3) := by decide +kernel
theorem dX4_changeNeedle_14 : decode cX4_changeNeedle 14 = .ok (.if_icmp .ne 11, 3) := by decide +kernel
theorem dX4_changeNeedle_17 : decode cX4_changeNeedle 17 = .ok (.aload_n 0, 1) := by decide +kernel
theorem dX4_changeNeedle_18 : decode cX4_changeNeedle 18 = .ok (.getfield 30, 3) := by decide +kernel
theorem dX4_changeNeedle_21 : decode cX4_changeNeedle 21 = .ok (.iconst 5, 1) := by decide +kernel
theorem dX4_changeNeedle_22 : decode cX4_changeNeedle 22 = .ok (.if_icmp .ge 13, 3) := by decide +kernel
theorem dX4_changeNeedle_25 : decode cX4_changeNeedle 25 = .ok (.new 97, 3) := by decide +kernel
theorem dX4_changeNeedle_28 : decode cX4_changeNeedle 28 = .ok (.dup, 1) := by decide +kernel
theorem dX4_changeNeedle_29 : decode cX4_changeNeedle 29 = .ok (.ldc 229, 2) := by decide +kernel
theorem dX4_changeNeedle_31 : decode cX4_changeNeedle 31 = .ok (.invokespecial 101, 3) := by decide +kernel
theorem dX4_changeNeedle_34 : decode cX4_changeNeedle 34 = .ok (.athrow, 1) := by decide +kernel
theorem dX4_changeNeedle_35 : decode cX4_changeNeedle 35 = .ok (.aload_n 0, 1) := by decide +kernel
theorem dX4_changeNeedle_36 : decode cX4_changeNeedle 36 = .ok (.dup, 1) := by decide +kernel
theorem dX4_changeNeedle_37 : decode cX4_changeNeedle 37 = .ok (.getfield 30, 3) := by decide +kernel
theorem dX4_changeNeedle_40 : decode cX4_changeNeedle 40 = .ok (.iconst 5, 1) := by decide +kernel
theorem dX4_changeNeedle_41 : decode cX4_changeNeedle 41 = .ok (.isub, 1) := by decide +kernel
theorem dX4_changeNeedle_42 : decode cX4_changeNeedle 42 = .ok (.putfield 30, 3) := by decide +kernel
theorem dX4_changeNeedle_45 : decode cX4_changeNeedle 45 = .ok (.aload_n 2, 1) := by decide +kernel
theorem dX4_changeNeedle_46 : decode cX4_changeNeedle 46 = .ok (.getfield 150, 3) := by decide +kernel
theorem dX4_changeNeedle_49 : decode cX4_changeNeedle 49 = .ok (.istore_n 3, 1) := by decide +kernel
theorem dX4_changeNeedle_50 : decode cX4_changeNeedle 50 = .ok (.aload_n 2, 1) := by decide +kernel
theorem dX4_changeNeedle_51 : decode cX4_changeNeedle 51 = .ok (.iconst 0, 1) := by decide +kernel
theorem dX4_changeNeedle_52 : decode cX4_changeNeedle 52 = .ok (.putfield 150, 3) := by decide +kernel
theorem dX4_changeNeedle_55 : decode cX4_changeNeedle 55 = .ok (.iload_n 3, 1) := by decide +kernel
theorem dX4_changeNeedle_56 : decode cX4_changeNeedle 56 = .ok (.ireturn, 1) := by decide +kernel
set_option maxRecDepth 20000 in
theorem ggX4_burn_X4_requireDisc : GoodIn wsX4_burn wsX4_requireDisc := goodIn_ca (goodIn_r _ [9, 10, 11, 12, 13, 14, 15, 16, 17, 18, 19, 20, 21, 22, 23, 24, 25, 26, 27, 28, 29, 30, 31, 32, 33, 34, 35, 36, 52, 53, 54, 55, 56, 57, 58, 59, 60, 61, 62, 63] (by decide +kernel) (by decide +kernel)) (goodIn_sub (fun _ h => List.mem_cons_of_mem _ (List.mem_append_right _ h)) (by decide +kernel))
set_option maxRecDepth 20000 in
theorem gX4_burn_X4_requireDisc : GoodIn wsX4_burn (wsV RX4 153 RX4 yX4_requireDisc wsX4_requireDisc) := goodIn_app (goodIn_of _ (by decide +kernel)) ggX4_burn_X4_requireDisc
set_option maxRecDepth 20000 in
theorem ggX4_burn_X2_isInVan : GoodIn wsX4_burn wsX2_isInVan := goodIn_r _ [41, 42, 43, 44, 45, 46, 47, 48, 49, 50, 51] (by decide +kernel) (by decide +kernel)
set_option maxRecDepth 20000 in
theorem gX4_burn_X2_isInVan : GoodIn wsX4_burn (wsV RX4 220 RX2 yX2_isInVan wsX2_isInVan) := goodIn_app (goodIn_of _ (by decide +kernel)) ggX4_burn_X2_isInVan
theorem dX4_burn_0 : decode cX4_burn 0 = .ok (.aload_n 0, 1) := by decide +kernel
theorem dX4_burn_1 : decode cX4_burn 1 = .ok (.iload_n 1, 1) := by decide +kernel
theorem dX4_burn_2 : decode cX4_burn 2 = .ok (.invokevirtual 153, 3) := by decide +kernel
theorem dX4_burn_5 : decode cX4_burn 5 = .ok (.astore_n 2, 1) := by decide +kernel
theorem dX4_burn_6 : decode cX4_burn 6 = .ok (.aload_n 2, 1) := by decide +kernel
theorem dX4_burn_7 : decode cX4_burn 7 = .ok (.invokevirtual 220, 3) := by decide +kernel
theorem dX4_burn_10 : decode cX4_burn 10 = .ok (.ifCond .ne 13, 3) := by decide +kernel
theorem dX4_burn_13 : decode cX4_burn 13 = .ok (.new 97, 3) := by decide +kernel
theorem dX4_burn_16 : decode cX4_burn 16 = .ok (.dup, 1) := by decide +kernel
theorem dX4_burn_17 : decode cX4_burn 17 = .ok (.ldc 231, 2) := by decide +kernel
theorem dX4_burn_19 : decode cX4_burn 19 = .ok (.invokespecial 101, 3) := by decide +kernel
theorem dX4_burn_22 : decode cX4_burn 22 = .ok (.athrow, 1) := by decide +kernel
theorem dX4_burn_23 : decode cX4_burn 23 = .ok (.aload_n 2, 1) := by decide +kernel
theorem dX4_burn_24 : decode cX4_burn 24 = .ok (.iconst 1, 1) := by decide +kernel
theorem dX4_burn_25 : decode cX4_burn 25 = .ok (.putfield 160, 3) := by decide +kernel
theorem dX4_burn_28 : decode cX4_burn 28 = .ok (.aload_n 2, 1) := by decide +kernel
theorem dX4_burn_29 : decode cX4_burn 29 = .ok (.getfield 157, 3) := by decide +kernel
theorem dX4_burn_32 : decode cX4_burn 32 = .ok (.ireturn, 1) := by decide +kernel
set_option maxRecDepth 20000 in
theorem ggX4_ask_X4_requireBox : GoodIn wsX4_ask wsX4_requireBox := goodIn_ca (goodIn_r _ [10, 11, 12, 13, 14, 15, 16, 17, 18, 19, 20, 21, 22, 23, 24, 25, 26, 27, 28, 29, 30, 31, 32, 33, 34, 35, 36, 37, 53, 54, 55, 56, 57, 58, 59, 60, 61, 62, 63, 64] (by decide +kernel) (by decide +kernel)) (goodIn_sub (fun _ h => List.mem_cons_of_mem _ (List.mem_append_right _ h)) (by decide +kernel))
set_option maxRecDepth 20000 in
theorem gX4_ask_X4_requireBox : GoodIn wsX4_ask (wsV RX4 75 RX4 yX4_requireBox wsX4_requireBox) := goodIn_app (goodIn_of _ (by decide +kernel)) ggX4_ask_X4_requireBox
theorem dX4_ask_0 : decode cX4_ask 0 = .ok (.aload_n 0, 1) := by decide +kernel
theorem dX4_ask_1 : decode cX4_ask 1 = .ok (.iload_n 1, 1) := by decide +kernel
theorem dX4_ask_2 : decode cX4_ask 2 = .ok (.invokevirtual 75, 3) := by decide +kernel
theorem dX4_ask_5 : decode cX4_ask 5 = .ok (.getfield 233, 3) := by decide +kernel
theorem dX4_ask_8 : decode cX4_ask 8 = .ok (.astore_n 3, 1) := by decide +kernel
theorem dX4_ask_9 : decode cX4_ask 9 = .ok (.iload_n 2, 1) := by decide +kernel
theorem dX4_ask_10 : decode cX4_ask 10 = .ok (.ifCond .lt 9, 3) := by decide +kernel
theorem dX4_ask_13 : decode cX4_ask 13 = .ok (.iload_n 2, 1) := by decide +kernel
theorem dX4_ask_14 : decode cX4_ask 14 = .ok (.aload_n 3, 1) := by decide +kernel
theorem dX4_ask_15 : decode cX4_ask 15 = .ok (.arraylength, 1) := by decide +kernel
theorem dX4_ask_16 : decode cX4_ask 16 = .ok (.if_icmp .lt 13, 3) := by decide +kernel
theorem dX4_ask_19 : decode cX4_ask 19 = .ok (.new 37, 3) := by decide +kernel
theorem dX4_ask_22 : decode cX4_ask 22 = .ok (.dup, 1) := by decide +kernel
theorem dX4_ask_23 : decode cX4_ask 23 = .ok (.ldc 236, 2) := by decide +kernel
theorem dX4_ask_25 : decode cX4_ask 25 = .ok (.invokespecial 41, 3) := by decide +kernel
theorem dX4_ask_28 : decode cX4_ask 28 = .ok (.athrow, 1) := by decide +kernel
theorem dX4_ask_29 : decode cX4_ask 29 = .ok (.aload_n 3, 1) := by decide +kernel
theorem dX4_ask_30 : decode cX4_ask 30 = .ok (.iload_n 2, 1) := by decide +kernel
theorem dX4_ask_31 : decode cX4_ask 31 = .ok (.iaload, 1) := by decide +kernel
theorem dX4_ask_32 : decode cX4_ask 32 = .ok (.bipush 99, 2) := by decide +kernel
theorem dX4_ask_34 : decode cX4_ask 34 = .ok (.if_icmp .lt 13, 3) := by decide +kernel
theorem dX4_ask_37 : decode cX4_ask 37 = .ok (.new 48, 3) := by decide +kernel
theorem dX4_ask_40 : decode cX4_ask 40 = .ok (.dup, 1) := by decide +kernel
theorem dX4_ask_41 : decode cX4_ask 41 = .ok (.ldc 238, 2) := by decide +kernel
theorem dX4_ask_43 : decode cX4_ask 43 = .ok (.invokespecial 52, 3) := by decide +kernel
theorem dX4_ask_46 : decode cX4_ask 46 = .ok (.athrow, 1) := by decide +kernel
theorem dX4_ask_47 : decode cX4_ask 47 = .ok (.aload_n 3, 1) := by decide +kernel
theorem dX4_ask_48 : decode cX4_ask 48 = .ok (.iload_n 2, 1) := by decide +kernel
theorem dX4_ask_49 : decode cX4_ask 49 = .ok (.dup2, 1) := by decide +kernel
theorem dX4_ask_50 : decode cX4_ask 50 = .ok (.iaload, 1) := by decide +kernel
theorem dX4_ask_51 : decode cX4_ask 51 = .ok (.iconst 1, 1) := by decide +kernel
theorem dX4_ask_52 : decode cX4_ask 52 = .ok (.iadd, 1) := by decide +kernel
theorem dX4_ask_53 : decode cX4_ask 53 = .ok (.iastore, 1) := by decide +kernel
theorem dX4_ask_54 : decode cX4_ask 54 = .ok (.aload_n 3, 1) := by decide +kernel
theorem dX4_ask_55 : decode cX4_ask 55 = .ok (.iload_n 2, 1) := by decide +kernel
theorem dX4_ask_56 : decode cX4_ask 56 = .ok (.iaload, 1) := by decide +kernel
theorem dX4_ask_57 : decode cX4_ask 57 = .ok (.ireturn, 1) := by decide +kernel
set_option maxRecDepth 20000 in
theorem ggX4_mostAsked_X4_requireBox : GoodIn wsX4_mostAsked wsX4_requireBox := goodIn_ca (goodIn_r _ [8, 9, 10, 11, 12, 13, 14, 15, 16, 17, 18, 19, 20, 21, 22, 23, 24, 25, 26, 27, 28, 29, 30, 31, 32, 33, 34, 35, 51, 52, 53, 54, 55, 56, 57, 58, 59, 60, 61, 62] (by decide +kernel) (by decide +kernel)) (goodIn_sub (fun _ h => List.mem_cons_of_mem _ (List.mem_append_right _ h)) (by decide +kernel))
set_option maxRecDepth 20000 in
theorem gX4_mostAsked_X4_requireBox : GoodIn wsX4_mostAsked (wsV RX4 75 RX4 yX4_requireBox wsX4_requireBox) := goodIn_app (goodIn_of _ (by decide +kernel)) ggX4_mostAsked_X4_requireBox
theorem dX4_mostAsked_0 : decode cX4_mostAsked 0 = .ok (.aload_n 0, 1) := by decide +kernel
theorem dX4_mostAsked_1 : decode cX4_mostAsked 1 = .ok (.iload_n 1, 1) := by decide +kernel
theorem dX4_mostAsked_2 : decode cX4_mostAsked 2 = .ok (.invokevirtual 75, 3) := by decide +kernel
theorem dX4_mostAsked_5 : decode cX4_mostAsked 5 = .ok (.getfield 233, 3) := by decide +kernel
theorem dX4_mostAsked_8 : decode cX4_mostAsked 8 = .ok (.astore_n 2, 1) := by decide +kernel
theorem dX4_mostAsked_9 : decode cX4_mostAsked 9 = .ok (.iconst 0, 1) := by decide +kernel
theorem dX4_mostAsked_10 : decode cX4_mostAsked 10 = .ok (.istore_n 3, 1) := by decide +kernel
theorem dX4_mostAsked_11 : decode cX4_mostAsked 11 = .ok (.iconst (-1), 1) := by decide +kernel
theorem dX4_mostAsked_12 : decode cX4_mostAsked 12 = .ok (.istore 4, 2) := by decide +kernel
theorem dX4_mostAsked_14 : decode cX4_mostAsked 14 = .ok (.iconst 0, 1) := by decide +kernel
theorem dX4_mostAsked_15 : decode cX4_mostAsked 15 = .ok (.istore 5, 2) := by decide +kernel
theorem dX4_mostAsked_17 : decode cX4_mostAsked 17 = .ok (.iload 5, 2) := by decide +kernel
theorem dX4_mostAsked_19 : decode cX4_mostAsked 19 = .ok (.aload_n 2, 1) := by decide +kernel
theorem dX4_mostAsked_20 : decode cX4_mostAsked 20 = .ok (.arraylength, 1) := by decide +kernel
theorem dX4_mostAsked_21 : decode cX4_mostAsked 21 = .ok (.if_icmp .ge 26, 3) := by decide +kernel
theorem dX4_mostAsked_24 : decode cX4_mostAsked 24 = .ok (.aload_n 2, 1) := by decide +kernel
theorem dX4_mostAsked_25 : decode cX4_mostAsked 25 = .ok (.iload 5, 2) := by decide +kernel
theorem dX4_mostAsked_27 : decode cX4_mostAsked 27 = .ok (.iaload, 1) := by decide +kernel
theorem dX4_mostAsked_28 : decode cX4_mostAsked 28 = .ok (.iload_n 3, 1) := by decide +kernel
theorem dX4_mostAsked_29 : decode cX4_mostAsked 29 = .ok (.if_icmp .le 12, 3) := by decide +kernel
theorem dX4_mostAsked_32 : decode cX4_mostAsked 32 = .ok (.aload_n 2, 1) := by decide +kernel
theorem dX4_mostAsked_33 : decode cX4_mostAsked 33 = .ok (.iload 5, 2) := by decide +kernel
theorem dX4_mostAsked_35 : decode cX4_mostAsked 35 = .ok (.iaload, 1) := by decide +kernel
theorem dX4_mostAsked_36 : decode cX4_mostAsked 36 = .ok (.istore_n 3, 1) := by decide +kernel
theorem dX4_mostAsked_37 : decode cX4_mostAsked 37 = .ok (.iload 5, 2) := by decide +kernel
theorem dX4_mostAsked_39 : decode cX4_mostAsked 39 = .ok (.istore 4, 2) := by decide +kernel
theorem dX4_mostAsked_41 : decode cX4_mostAsked 41 = .ok (.iinc 5 1, 3) := by decide +kernel
theorem dX4_mostAsked_44 : decode cX4_mostAsked 44 = .ok (.goto (-27), 3) := by decide +kernel
theorem dX4_mostAsked_47 : decode cX4_mostAsked 47 = .ok (.iload 4, 2) := by decide +kernel
theorem dX4_mostAsked_49 : decode cX4_mostAsked 49 = .ok (.ifCond .ge 13, 3) := by decide +kernel
theorem dX4_mostAsked_52 : decode cX4_mostAsked 52 = .ok (.new 135, 3) := by decide +kernel
theorem dX4_mostAsked_55 : decode cX4_mostAsked 55 = .ok (.dup, 1) := by decide +kernel
theorem dX4_mostAsked_56 : decode cX4_mostAsked 56 = .ok (.ldc 240, 2) := by decide +kernel
theorem dX4_mostAsked_58 : decode cX4_mostAsked 58 = .ok (.invokespecial 139, 3) := by decide +kernel
theorem dX4_mostAsked_61 : decode cX4_mostAsked 61 = .ok (.athrow, 1) := by decide +kernel
theorem dX4_mostAsked_62 : decode cX4_mostAsked 62 = .ok (.iload 4, 2) := by decide +kernel
theorem dX4_mostAsked_64 : decode cX4_mostAsked 64 = .ok (.ireturn, 1) := by decide +kernel
set_option maxRecDepth 20000 in
theorem ggX4_least_X4_requireBox : GoodIn wsX4_least wsX4_requireBox := goodIn_ca (goodIn_r _ [11, 12, 13, 14, 15, 16, 17, 18, 19, 20, 21, 22, 23, 24, 25, 26, 27, 28, 29, 30, 31, 32, 33, 34, 35, 36, 37, 38, 57, 58, 59, 60, 61, 62, 63, 64, 65, 66, 67, 68] (by decide +kernel) (by decide +kernel)) (goodIn_sub (fun _ h => List.mem_cons_of_mem _ (List.mem_append_right _ h)) (by decide +kernel))
set_option maxRecDepth 20000 in
theorem gX4_least_X4_requireBox : GoodIn wsX4_least (wsV RX4 75 RX4 yX4_requireBox wsX4_requireBox) := goodIn_app (goodIn_of _ (by decide +kernel)) ggX4_least_X4_requireBox
theorem dX4_least_0 : decode cX4_least 0 = .ok (.aconst_null, 1) := by decide +kernel
theorem dX4_least_1 : decode cX4_least 1 = .ok (.astore_n 2, 1) := by decide +kernel
theorem dX4_least_2 : decode cX4_least 2 = .ok (.aload_n 0, 1) := by decide +kernel
theorem dX4_least_3 : decode cX4_least 3 = .ok (.iload_n 1, 1) := by decide +kernel
theorem dX4_least_4 : decode cX4_least 4 = .ok (.invokevirtual 75, 3) := by decide +kernel
theorem dX4_least_7 : decode cX4_least 7 = .ok (.getfield 242, 3) := by decide +kernel
theorem dX4_least_10 : decode cX4_least 10 = .ok (.astore_n 3, 1) := by decide +kernel
theorem dX4_least_11 : decode cX4_least 11 = .ok (.aload_n 3, 1) := by decide +kernel
theorem dX4_least_12 : decode cX4_least 12 = .ok (.arraylength, 1) := by decide +kernel
theorem dX4_least_13 : decode cX4_least 13 = .ok (.istore 4, 2) := by decide +kernel
theorem dX4_least_15 : decode cX4_least 15 = .ok (.iconst 0, 1) := by decide +kernel
theorem dX4_least_16 : decode cX4_least 16 = .ok (.istore 5, 2) := by decide +kernel
theorem dX4_least_18 : decode cX4_least 18 = .ok (.iload 5, 2) := by decide +kernel
theorem dX4_least_20 : decode cX4_least 20 = .ok (.iload 4, 2) := by decide +kernel
theorem dX4_least_22 : decode cX4_least 22 = .ok (.if_icmp .ge 42, 3) := by decide +kernel
theorem dX4_least_25 : decode cX4_least 25 = .ok (.aload_n 3, 1) := by decide +kernel
theorem dX4_least_26 : decode cX4_least 26 = .ok (.iload 5, 2) := by decide +kernel
theorem dX4_least_28 : decode cX4_least 28 = .ok (.aaload, 1) := by decide +kernel
theorem dX4_least_29 : decode cX4_least 29 = .ok (.astore 6, 2) := by decide +kernel
theorem dX4_least_31 : decode cX4_least 31 = .ok (.aload 6, 2) := by decide +kernel
theorem dX4_least_33 : decode cX4_least 33 = .ok (.getfield 118, 3) := by decide +kernel
theorem dX4_least_36 : decode cX4_least 36 = .ok (.ifnull 22, 3) := by decide +kernel
theorem dX4_least_39 : decode cX4_least 39 = .ok (.aload_n 2, 1) := by decide +kernel
theorem dX4_least_40 : decode cX4_least 40 = .ok (.ifnull 15, 3) := by decide +kernel
theorem dX4_least_43 : decode cX4_least 43 = .ok (.aload 6, 2) := by decide +kernel
theorem dX4_least_45 : decode cX4_least 45 = .ok (.getfield 147, 3) := by decide +kernel
theorem dX4_least_48 : decode cX4_least 48 = .ok (.aload_n 2, 1) := by decide +kernel
theorem dX4_least_49 : decode cX4_least 49 = .ok (.getfield 147, 3) := by decide +kernel
theorem dX4_least_52 : decode cX4_least 52 = .ok (.if_icmp .ge 6, 3) := by decide +kernel
theorem dX4_least_55 : decode cX4_least 55 = .ok (.aload 6, 2) := by decide +kernel
theorem dX4_least_57 : decode cX4_least 57 = .ok (.astore_n 2, 1) := by decide +kernel
theorem dX4_least_58 : decode cX4_least 58 = .ok (.iinc 5 1, 3) := by decide +kernel
theorem dX4_least_61 : decode cX4_least 61 = .ok (.goto (-43), 3) := by decide +kernel
theorem dX4_least_64 : decode cX4_least 64 = .ok (.aload_n 2, 1) := by decide +kernel
theorem dX4_least_65 : decode cX4_least 65 = .ok (.ifnonnull 13, 3) := by decide +kernel
theorem dX4_least_68 : decode cX4_least 68 = .ok (.new 135, 3) := by decide +kernel
theorem dX4_least_71 : decode cX4_least 71 = .ok (.dup, 1) := by decide +kernel
theorem dX4_least_72 : decode cX4_least 72 = .ok (.ldc 246, 2) := by decide +kernel
theorem dX4_least_74 : decode cX4_least 74 = .ok (.invokespecial 139, 3) := by decide +kernel
theorem dX4_least_77 : decode cX4_least 77 = .ok (.athrow, 1) := by decide +kernel
theorem dX4_least_78 : decode cX4_least 78 = .ok (.aload_n 2, 1) := by decide +kernel
theorem dX4_least_79 : decode cX4_least 79 = .ok (.getfield 248, 3) := by decide +kernel
theorem dX4_least_82 : decode cX4_least 82 = .ok (.ireturn, 1) := by decide +kernel
set_option maxRecDepth 20000 in
theorem ggX4_worth_X4_requireBox : GoodIn wsX4_worth wsX4_requireBox := goodIn_ca (goodIn_r _ [7, 8, 9, 10, 11, 12, 13, 14, 15, 16, 17, 18, 19, 20, 21, 22, 23, 24, 25, 26, 27, 28, 29, 30, 31, 32, 33, 34, 77, 78, 79, 80, 81, 82, 83, 84, 85, 86, 87, 88] (by decide +kernel) (by decide +kernel)) (goodIn_sub (fun _ h => List.mem_cons_of_mem _ (List.mem_append_right _ h)) (by decide +kernel))
set_option maxRecDepth 20000 in
theorem gX4_worth_X4_requireBox : GoodIn wsX4_worth (wsV RX4 75 RX4 yX4_requireBox wsX4_requireBox) := goodIn_app (goodIn_of _ (by decide +kernel)) ggX4_worth_X4_requireBox
set_option maxRecDepth 20000 in
theorem ggX4_worth_X4_requireSlot : GoodIn wsX4_worth wsX4_requireSlot := goodIn_ca (goodIn_r _ [37, 8, 9, 38, 89, 90, 91, 92, 93, 94, 95, 96, 97, 98, 99, 100, 101, 102, 103] (by decide +kernel) (by decide +kernel)) (goodIn_sub (fun _ h => List.mem_cons_of_mem _ (List.mem_append_right _ h)) (by decide +kernel))
set_option maxRecDepth 20000 in
theorem gX4_worth_X4_requireSlot : GoodIn wsX4_worth (va_wsS RX4 114 yX4_requireSlot wsX4_requireSlot) := goodIn_app (goodIn_of _ (by decide +kernel)) ggX4_worth_X4_requireSlot
set_option maxRecDepth 20000 in
theorem ggX4_worth_X4_requireDisc : GoodIn wsX4_worth wsX4_requireDisc := goodIn_ca (goodIn_r _ [42, 8, 9, 43, 44, 12, 13, 14, 15, 16, 17, 18, 19, 20, 21, 22, 23, 24, 25, 26, 27, 28, 29, 30, 31, 32, 33, 34, 77, 78, 79, 80, 81, 82, 83, 84, 85, 86, 87, 88] (by decide +kernel) (by decide +kernel)) (goodIn_sub (fun _ h => List.mem_cons_of_mem _ (List.mem_append_right _ h)) (by decide +kernel))
set_option maxRecDepth 20000 in
theorem gX4_worth_X4_requireDisc : GoodIn wsX4_worth (wsV RX4 153 RX4 yX4_requireDisc wsX4_requireDisc) := goodIn_app (goodIn_of _ (by decide +kernel)) ggX4_worth_X4_requireDisc
set_option maxRecDepth 20000 in
theorem ggX4_worth_X2_isInVan : GoodIn wsX4_worth wsX2_isInVan := goodIn_r _ [49, 50, 51, 104, 105, 106, 107, 108, 109, 110, 111] (by decide +kernel) (by decide +kernel)
set_option maxRecDepth 20000 in
theorem gX4_worth_X2_isInVan : GoodIn wsX4_worth (wsV RX4 220 RX2 yX2_isInVan wsX2_isInVan) := goodIn_app (goodIn_of _ (by decide +kernel)) ggX4_worth_X2_isInVan
set_option maxRecDepth 20000 in
theorem ggX4_worth_X4_gainBy : GoodIn wsX4_worth wsX4_gainBy := goodIn_r _ [55, 56, 57, 58, 59, 60, 48, 61, 50, 62, 63, 64, 65, 66, 67, 68, 69, 70, 71, 72, 73, 74, 75, 76, 89, 90, 91, 92, 93, 94, 95, 96, 97, 98, 99, 100, 101, 102, 103, 77, 78, 79, 80, 81, 82, 83, 84, 85, 104, 105, 106, 107, 108, 109, 110, 111, 112, 113, 114] (by decide +kernel) (by decide +kernel)
set_option maxRecDepth 20000 in
theorem gX4_worth_X4_gainBy : GoodIn wsX4_worth (wsV RX4 249 RX4 yX4_gainBy wsX4_gainBy) := goodIn_app (goodIn_of _ (by decide +kernel)) ggX4_worth_X4_gainBy
theorem dX4_worth_0 : decode cX4_worth 0 = .ok (.aload_n 0, 1) := by decide +kernel
theorem dX4_worth_1 : decode cX4_worth 1 = .ok (.iload_n 1, 1) := by decide +kernel
theorem dX4_worth_2 : decode cX4_worth 2 = .ok (.invokevirtual 75, 3) := by decide +kernel
theorem dX4_worth_5 : decode cX4_worth 5 = .ok (.astore 4, 2) := by decide +kernel
theorem dX4_worth_7 : decode cX4_worth 7 = .ok (.aload 4, 2) := by decide +kernel
theorem dX4_worth_9 : decode cX4_worth 9 = .ok (.iload_n 2, 1) := by decide +kernel
theorem dX4_worth_10 : decode cX4_worth 10 = .ok (.invokestatic 114, 3) := by decide +kernel
theorem dX4_worth_13 : decode cX4_worth 13 = .ok (.astore 5, 2) := by decide +kernel
theorem dX4_worth_15 : decode cX4_worth 15 = .ok (.aload_n 0, 1) := by decide +kernel
theorem dX4_worth_16 : decode cX4_worth 16 = .ok (.iload_n 3, 1) := by decide +kernel
theorem dX4_worth_17 : decode cX4_worth 17 = .ok (.invokevirtual 153, 3) := by decide +kernel
theorem dX4_worth_20 : decode cX4_worth 20 = .ok (.astore 6, 2) := by decide +kernel
theorem dX4_worth_22 : decode cX4_worth 22 = .ok (.aload 6, 2) := by decide +kernel
theorem dX4_worth_24 : decode cX4_worth 24 = .ok (.invokevirtual 220, 3) := by decide +kernel
theorem dX4_worth_27 : decode cX4_worth 27 = .ok (.ifCond .ne 13, 3) := by decide +kernel
theorem dX4_worth_30 : decode cX4_worth 30 = .ok (.new 97, 3) := by decide +kernel
theorem dX4_worth_33 : decode cX4_worth 33 = .ok (.dup, 1) := by decide +kernel
theorem dX4_worth_34 : decode cX4_worth 34 = .ok (.ldc 231, 2) := by decide +kernel
theorem dX4_worth_36 : decode cX4_worth 36 = .ok (.invokespecial 101, 3) := by decide +kernel
theorem dX4_worth_39 : decode cX4_worth 39 = .ok (.athrow, 1) := by decide +kernel
theorem dX4_worth_40 : decode cX4_worth 40 = .ok (.aload_n 0, 1) := by decide +kernel
theorem dX4_worth_41 : decode cX4_worth 41 = .ok (.aload 4, 2) := by decide +kernel
theorem dX4_worth_43 : decode cX4_worth 43 = .ok (.aload 5, 2) := by decide +kernel
theorem dX4_worth_45 : decode cX4_worth 45 = .ok (.aload 6, 2) := by decide +kernel
theorem dX4_worth_47 : decode cX4_worth 47 = .ok (.invokevirtual 249, 3) := by decide +kernel
theorem dX4_worth_50 : decode cX4_worth 50 = .ok (.ireturn, 1) := by decide +kernel
set_option maxRecDepth 20000 in
theorem ggX4_bestWorth_X4_requireBox : GoodIn wsX4_bestWorth wsX4_requireBox := goodIn_ca (goodIn_r _ [7, 8, 9, 10, 11, 12, 13, 14, 15, 16, 17, 18, 19, 20, 21, 22, 23, 24, 25, 26, 27, 28, 29, 30, 31, 32, 33, 34, 91, 92, 93, 94, 95, 96, 97, 98, 99, 100, 101, 102] (by decide +kernel) (by decide +kernel)) (goodIn_sub (fun _ h => List.mem_cons_of_mem _ (List.mem_append_left _ (List.mem_append_right _ h))) (by decide +kernel))
set_option maxRecDepth 20000 in
theorem gX4_bestWorth_X4_requireBox : GoodIn wsX4_bestWorth (wsV RX4 75 RX4 yX4_requireBox wsX4_requireBox) := goodIn_app (goodIn_of _ (by decide +kernel)) ggX4_bestWorth_X4_requireBox
set_option maxRecDepth 20000 in
theorem ggX4_bestWorth_X4_isWithin : GoodIn wsX4_bestWorth wsX4_isWithin := goodIn_r _ [37] (by decide +kernel) (by decide +kernel)
set_option maxRecDepth 20000 in
theorem gX4_bestWorth_X4_isWithin : GoodIn wsX4_bestWorth (va_wsS RX4 33 yX4_isWithin wsX4_isWithin) := goodIn_app (goodIn_of _ (by decide +kernel)) ggX4_bestWorth_X4_isWithin
set_option maxRecDepth 20000 in
theorem ggX4_bestWorth_X4_gainByBest : GoodIn wsX4_bestWorth wsX4_gainByBest := goodIn_ca (goodIn_r _ [41, 42, 43, 44, 45, 46, 47, 48, 49, 50, 6, 51, 52, 53, 54, 55, 56, 57, 58, 59, 12, 13, 14, 15, 16, 17, 18, 19, 20, 21, 22, 23, 24, 25, 26, 27, 28, 29, 30, 31, 32, 33, 34, 60, 61, 62, 63, 64, 65, 66, 67, 68, 69, 70, 71, 72, 73, 74, 75, 76, 77, 78, 79, 80, 81, 82, 83, 84, 85, 86, 87, 88, 89, 90, 91, 92, 93, 94, 95, 96, 97, 98, 99, 103, 104, 105, 106, 107, 108, 109, 110, 111, 112, 113, 114, 115, 116, 117, 100, 101, 102, 118, 119, 120, 121, 122, 123, 124, 125, 126, 127, 128] (by decide +kernel) (by decide +kernel)) (goodIn_sub (fun _ h => List.mem_cons_of_mem _ (List.mem_append_right _ h)) (by decide +kernel))
set_option maxRecDepth 20000 in
theorem gX4_bestWorth_X4_gainByBest : GoodIn wsX4_bestWorth (wsV RX4 255 RX4 yX4_gainByBest wsX4_gainByBest) := goodIn_app (goodIn_of _ (by decide +kernel)) ggX4_bestWorth_X4_gainByBest
theorem dX4_bestWorth_0 : decode cX4_bestWorth 0 = .ok (.aload_n 0, 1) := by decide +kernel
theorem dX4_bestWorth_1 : decode cX4_bestWorth 1 = .ok (.iload_n 1, 1) := by decide +kernel
theorem dX4_bestWorth_2 : decode cX4_bestWorth 2 = .ok (.invokevirtual 75, 3) := by decide +kernel
theorem dX4_bestWorth_5 : decode cX4_bestWorth 5 = .ok (.astore_n 3, 1) := by decide +kernel
theorem dX4_bestWorth_6 : decode cX4_bestWorth 6 = .ok (.iload_n 2, 1) := by decide +kernel
theorem dX4_bestWorth_7 : decode cX4_bestWorth 7 = .ok (.iconst 0, 1) := by decide +kernel
theorem dX4_bestWorth_8 : decode cX4_bestWorth 8 = .ok (.iconst 3, 1) := by decide +kernel
theorem dX4_bestWorth_9 : decode cX4_bestWorth 9 = .ok (.invokestatic 33, 3) := by decide +kernel
theorem dX4_bestWorth_12 : decode cX4_bestWorth 12 = .ok (.ifCond .ne 13, 3) := by decide +kernel
theorem dX4_bestWorth_15 : decode cX4_bestWorth 15 = .ok (.new 37, 3) := by decide +kernel
theorem dX4_bestWorth_18 : decode cX4_bestWorth 18 = .ok (.dup, 1) := by decide +kernel
theorem dX4_bestWorth_19 : decode cX4_bestWorth 19 = .ok (.ldc 253, 2) := by decide +kernel
theorem dX4_bestWorth_21 : decode cX4_bestWorth 21 = .ok (.invokespecial 41, 3) := by decide +kernel
theorem dX4_bestWorth_24 : decode cX4_bestWorth 24 = .ok (.athrow, 1) := by decide +kernel
theorem dX4_bestWorth_25 : decode cX4_bestWorth 25 = .ok (.aload_n 0, 1) := by decide +kernel
theorem dX4_bestWorth_26 : decode cX4_bestWorth 26 = .ok (.aload_n 3, 1) := by decide +kernel
theorem dX4_bestWorth_27 : decode cX4_bestWorth 27 = .ok (.iload_n 2, 1) := by decide +kernel
theorem dX4_bestWorth_28 : decode cX4_bestWorth 28 = .ok (.invokevirtual 255, 3) := by decide +kernel
theorem dX4_bestWorth_31 : decode cX4_bestWorth 31 = .ok (.ireturn, 1) := by decide +kernel
set_option maxRecDepth 20000 in
theorem ggX4_wornShare_Jx4a65c_size_8abf5 : GoodIn wsX4_wornShare wsJx4a65c_size_8abf5 := goodIn_r _ [10, 11, 52, 53, 54] (by decide +kernel) (by decide +kernel)
set_option maxRecDepth 20000 in
theorem gX4_wornShare_Jx4a65c_size_8abf5 : GoodIn wsX4_wornShare (wsV RX4 44 RJx4a65c yJx4a65c_size_8abf5 wsJx4a65c_size_8abf5) := goodIn_app (goodIn_of _ (by decide +kernel)) ggX4_wornShare_Jx4a65c_size_8abf5
set_option maxRecDepth 20000 in
theorem ggX4_wornShare_Jx4a65c_get_915e3 : GoodIn wsX4_wornShare wsJx4a65c_get_915e3 := goodIn_r _ [15, 11, 16, 17, 18, 19, 20, 21, 22, 23, 24, 25, 26, 9, 27, 28, 52, 53, 54] (by decide +kernel) (by decide +kernel)
set_option maxRecDepth 20000 in
theorem gX4_wornShare_Jx4a65c_get_915e3 : GoodIn wsX4_wornShare (wsV RX4 188 RJx4a65c yJx4a65c_get_915e3 wsJx4a65c_get_915e3) := goodIn_app (goodIn_of _ (by decide +kernel)) ggX4_wornShare_Jx4a65c_get_915e3
set_option maxRecDepth 20000 in
theorem ggX4_wornShare_X2_isWorn : GoodIn wsX4_wornShare wsX2_isWorn := goodIn_r _ [33, 34, 44, 45, 46, 47, 48, 49, 50, 51] (by decide +kernel) (by decide +kernel)
set_option maxRecDepth 20000 in
theorem gX4_wornShare_X2_isWorn : GoodIn wsX4_wornShare (wsV RX4 259 RX2 yX2_isWorn wsX2_isWorn) := goodIn_app (goodIn_of _ (by decide +kernel)) ggX4_wornShare_X2_isWorn
theorem dX4_wornShare_0 : decode cX4_wornShare 0 = .ok (.iconst 0, 1) := by decide +kernel
theorem dX4_wornShare_1 : decode cX4_wornShare 1 = .ok (.istore_n 1, 1) := by decide +kernel
theorem dX4_wornShare_2 : decode cX4_wornShare 2 = .ok (.iconst 0, 1) := by decide +kernel
theorem dX4_wornShare_3 : decode cX4_wornShare 3 = .ok (.istore_n 2, 1) := by decide +kernel
theorem dX4_wornShare_4 : decode cX4_wornShare 4 = .ok (.iconst 0, 1) := by decide +kernel
theorem dX4_wornShare_5 : decode cX4_wornShare 5 = .ok (.istore_n 3, 1) := by decide +kernel
theorem dX4_wornShare_6 : decode cX4_wornShare 6 = .ok (.iload_n 3, 1) := by decide +kernel
theorem dX4_wornShare_7 : decode cX4_wornShare 7 = .ok (.aload_n 0, 1) := by decide +kernel
theorem dX4_wornShare_8 : decode cX4_wornShare 8 = .ok (.getfield 10, 3) := by decide +kernel
theorem dX4_wornShare_11 : decode cX4_wornShare 11 = .ok (.invokevirtual 44, 3) := by decide +kernel
theorem dX4_wornShare_14 : decode cX4_wornShare 14 = .ok (.if_icmp .ge 49, 3) := by decide +kernel
theorem dX4_wornShare_17 : decode cX4_wornShare 17 = .ok (.aload_n 0, 1) := by decide +kernel
theorem dX4_wornShare_18 : decode cX4_wornShare 18 = .ok (.getfield 10, 3) := by decide +kernel
theorem dX4_wornShare_21 : decode cX4_wornShare 21 = .ok (.iload_n 3, 1) := by decide +kernel
theorem dX4_wornShare_22 : decode cX4_wornShare 22 = .ok (.invokevirtual 188, 3) := by decide +kernel
theorem dX4_wornShare_25 : decode cX4_wornShare 25 = .ok (.checkcast 53, 3) := by decide +kernel
theorem dX4_wornShare_28 : decode cX4_wornShare 28 = .ok (.astore 4, 2) := by decide +kernel
theorem dX4_wornShare_30 : decode cX4_wornShare 30 = .ok (.aload 4, 2) := by decide +kernel
theorem dX4_wornShare_32 : decode cX4_wornShare 32 = .ok (.getfield 160, 3) := by decide +kernel
theorem dX4_wornShare_35 : decode cX4_wornShare 35 = .ok (.ifCond .ne 22, 3) := by decide +kernel
theorem dX4_wornShare_38 : decode cX4_wornShare 38 = .ok (.iinc 1 1, 3) := by decide +kernel
theorem dX4_wornShare_41 : decode cX4_wornShare 41 = .ok (.iload_n 2, 1) := by decide +kernel
theorem dX4_wornShare_42 : decode cX4_wornShare 42 = .ok (.aload 4, 2) := by decide +kernel
theorem dX4_wornShare_44 : decode cX4_wornShare 44 = .ok (.invokevirtual 259, 3) := by decide +kernel
theorem dX4_wornShare_47 : decode cX4_wornShare 47 = .ok (.ifCond .eq 7, 3) := by decide +kernel
theorem dX4_wornShare_50 : decode cX4_wornShare 50 = .ok (.iconst 1, 1) := by decide +kernel
theorem dX4_wornShare_51 : decode cX4_wornShare 51 = .ok (.goto 4, 3) := by decide +kernel
theorem dX4_wornShare_54 : decode cX4_wornShare 54 = .ok (.iconst 0, 1) := by decide +kernel
theorem dX4_wornShare_55 : decode cX4_wornShare 55 = .ok (.iadd, 1) := by decide +kernel
theorem dX4_wornShare_56 : decode cX4_wornShare 56 = .ok (.istore_n 2, 1) := by decide +kernel
theorem dX4_wornShare_57 : decode cX4_wornShare 57 = .ok (.iinc 3 1, 3) := by decide +kernel
theorem dX4_wornShare_60 : decode cX4_wornShare 60 = .ok (.goto (-54), 3) := by decide +kernel
theorem dX4_wornShare_63 : decode cX4_wornShare 63 = .ok (.iload_n 1, 1) := by decide +kernel
theorem dX4_wornShare_64 : decode cX4_wornShare 64 = .ok (.ifCond .ne 14, 3) := by decide +kernel
theorem dX4_wornShare_67 : decode cX4_wornShare 67 = .ok (.new 262, 3) := by decide +kernel
theorem dX4_wornShare_70 : decode cX4_wornShare 70 = .ok (.dup, 1) := by decide +kernel
theorem dX4_wornShare_71 : decode cX4_wornShare 71 = .ok (.ldc_w 264, 3) := by decide +kernel
theorem dX4_wornShare_74 : decode cX4_wornShare 74 = .ok (.invokespecial 266, 3) := by decide +kernel
theorem dX4_wornShare_77 : decode cX4_wornShare 77 = .ok (.athrow, 1) := by decide +kernel
theorem dX4_wornShare_78 : decode cX4_wornShare 78 = .ok (.iload_n 2, 1) := by decide +kernel
theorem dX4_wornShare_79 : decode cX4_wornShare 79 = .ok (.i2f, 1) := by decide +kernel
theorem dX4_wornShare_80 : decode cX4_wornShare 80 = .ok (.iload_n 1, 1) := by decide +kernel
theorem dX4_wornShare_81 : decode cX4_wornShare 81 = .ok (.i2f, 1) := by decide +kernel
theorem dX4_wornShare_82 : decode cX4_wornShare 82 = .ok (.fdiv, 1) := by decide +kernel
theorem dX4_wornShare_83 : decode cX4_wornShare 83 = .ok (.freturn, 1) := by decide +kernel
set_option maxRecDepth 20000 in
theorem ggX4_meanPull_Jx4a65c_size_8abf5 : GoodIn wsX4_meanPull wsJx4a65c_size_8abf5 := goodIn_r _ [11, 12, 67, 68, 69] (by decide +kernel) (by decide +kernel)
set_option maxRecDepth 20000 in
theorem gX4_meanPull_Jx4a65c_size_8abf5 : GoodIn wsX4_meanPull (wsV RX4 44 RJx4a65c yJx4a65c_size_8abf5 wsJx4a65c_size_8abf5) := goodIn_app (goodIn_of _ (by decide +kernel)) ggX4_meanPull_Jx4a65c_size_8abf5
set_option maxRecDepth 20000 in
theorem ggX4_meanPull_Jx4a65c_get_915e3 : GoodIn wsX4_meanPull wsJx4a65c_get_915e3 := goodIn_r _ [16, 12, 17, 18, 19, 20, 21, 22, 23, 24, 25, 26, 27, 10, 28, 29, 67, 68, 69] (by decide +kernel) (by decide +kernel)
set_option maxRecDepth 20000 in
theorem gX4_meanPull_Jx4a65c_get_915e3 : GoodIn wsX4_meanPull (wsV RX4 188 RJx4a65c yJx4a65c_get_915e3 wsJx4a65c_get_915e3) := goodIn_app (goodIn_of _ (by decide +kernel)) ggX4_meanPull_Jx4a65c_get_915e3
set_option maxRecDepth 20000 in
theorem ggX4_meanPull_X2_pullWhereItIs : GoodIn wsX4_meanPull wsX2_pullWhereItIs := goodIn_r _ [34, 35, 36, 37, 38, 39, 33, 40, 41, 42, 43, 44, 45, 46, 47, 48, 49, 59, 60, 61, 62, 63, 64, 65, 66, 70, 71, 72, 73, 74, 75, 76, 77, 78, 79, 80, 81, 82, 83, 84] (by decide +kernel) (by decide +kernel)
set_option maxRecDepth 20000 in
theorem gX4_meanPull_X2_pullWhereItIs : GoodIn wsX4_meanPull (wsV RX4 175 RX2 yX2_pullWhereItIs wsX2_pullWhereItIs) := goodIn_app (goodIn_of _ (by decide +kernel)) ggX4_meanPull_X2_pullWhereItIs
theorem dX4_meanPull_0 : decode cX4_meanPull 0 = .ok (.iconst 0, 1) := by decide +kernel
theorem dX4_meanPull_1 : decode cX4_meanPull 1 = .ok (.istore_n 1, 1) := by decide +kernel
theorem dX4_meanPull_2 : decode cX4_meanPull 2 = .ok (.iconst 0, 1) := by decide +kernel
theorem dX4_meanPull_3 : decode cX4_meanPull 3 = .ok (.istore_n 2, 1) := by decide +kernel
theorem dX4_meanPull_4 : decode cX4_meanPull 4 = .ok (.iconst 0, 1) := by decide +kernel
theorem dX4_meanPull_5 : decode cX4_meanPull 5 = .ok (.istore_n 3, 1) := by decide +kernel
theorem dX4_meanPull_6 : decode cX4_meanPull 6 = .ok (.iload_n 3, 1) := by decide +kernel
theorem dX4_meanPull_7 : decode cX4_meanPull 7 = .ok (.aload_n 0, 1) := by decide +kernel
theorem dX4_meanPull_8 : decode cX4_meanPull 8 = .ok (.getfield 10, 3) := by decide +kernel
theorem dX4_meanPull_11 : decode cX4_meanPull 11 = .ok (.invokevirtual 44, 3) := by decide +kernel
theorem dX4_meanPull_14 : decode cX4_meanPull 14 = .ok (.if_icmp .ge 45, 3) := by decide +kernel
theorem dX4_meanPull_17 : decode cX4_meanPull 17 = .ok (.aload_n 0, 1) := by decide +kernel
theorem dX4_meanPull_18 : decode cX4_meanPull 18 = .ok (.getfield 10, 3) := by decide +kernel
theorem dX4_meanPull_21 : decode cX4_meanPull 21 = .ok (.iload_n 3, 1) := by decide +kernel
theorem dX4_meanPull_22 : decode cX4_meanPull 22 = .ok (.invokevirtual 188, 3) := by decide +kernel
theorem dX4_meanPull_25 : decode cX4_meanPull 25 = .ok (.checkcast 53, 3) := by decide +kernel
theorem dX4_meanPull_28 : decode cX4_meanPull 28 = .ok (.astore 4, 2) := by decide +kernel
theorem dX4_meanPull_30 : decode cX4_meanPull 30 = .ok (.aload 4, 2) := by decide +kernel
theorem dX4_meanPull_32 : decode cX4_meanPull 32 = .ok (.getfield 163, 3) := by decide +kernel
theorem dX4_meanPull_35 : decode cX4_meanPull 35 = .ok (.ifnull 18, 3) := by decide +kernel
theorem dX4_meanPull_38 : decode cX4_meanPull 38 = .ok (.iinc 1 1, 3) := by decide +kernel
theorem dX4_meanPull_41 : decode cX4_meanPull 41 = .ok (.iload_n 2, 1) := by decide +kernel
theorem dX4_meanPull_42 : decode cX4_meanPull 42 = .ok (.aload 4, 2) := by decide +kernel
theorem dX4_meanPull_44 : decode cX4_meanPull 44 = .ok (.aload_n 0, 1) := by decide +kernel
theorem dX4_meanPull_45 : decode cX4_meanPull 45 = .ok (.getfield 172, 3) := by decide +kernel
theorem dX4_meanPull_48 : decode cX4_meanPull 48 = .ok (.invokevirtual 175, 3) := by decide +kernel
theorem dX4_meanPull_51 : decode cX4_meanPull 51 = .ok (.iadd, 1) := by decide +kernel
theorem dX4_meanPull_52 : decode cX4_meanPull 52 = .ok (.istore_n 2, 1) := by decide +kernel
theorem dX4_meanPull_53 : decode cX4_meanPull 53 = .ok (.iinc 3 1, 3) := by decide +kernel
theorem dX4_meanPull_56 : decode cX4_meanPull 56 = .ok (.goto (-50), 3) := by decide +kernel
theorem dX4_meanPull_59 : decode cX4_meanPull 59 = .ok (.iload_n 1, 1) := by decide +kernel
theorem dX4_meanPull_60 : decode cX4_meanPull 60 = .ok (.ifCond .ne 14, 3) := by decide +kernel
theorem dX4_meanPull_63 : decode cX4_meanPull 63 = .ok (.new 262, 3) := by decide +kernel
theorem dX4_meanPull_66 : decode cX4_meanPull 66 = .ok (.dup, 1) := by decide +kernel
theorem dX4_meanPull_67 : decode cX4_meanPull 67 = .ok (.ldc_w 267, 3) := by decide +kernel
theorem dX4_meanPull_70 : decode cX4_meanPull 70 = .ok (.invokespecial 266, 3) := by decide +kernel
theorem dX4_meanPull_73 : decode cX4_meanPull 73 = .ok (.athrow, 1) := by decide +kernel
theorem dX4_meanPull_74 : decode cX4_meanPull 74 = .ok (.iload_n 2, 1) := by decide +kernel
theorem dX4_meanPull_75 : decode cX4_meanPull 75 = .ok (.i2d, 1) := by decide +kernel
theorem dX4_meanPull_76 : decode cX4_meanPull 76 = .ok (.iload_n 1, 1) := by decide +kernel
theorem dX4_meanPull_77 : decode cX4_meanPull 77 = .ok (.i2d, 1) := by decide +kernel
theorem dX4_meanPull_78 : decode cX4_meanPull 78 = .ok (.ddiv, 1) := by decide +kernel
theorem dX4_meanPull_79 : decode cX4_meanPull 79 = .ok (.dreturn, 1) := by decide +kernel
set_option maxRecDepth 20000 in
theorem ggX4_checksum_Jx4a65c_size_8abf5 : GoodIn wsX4_checksum wsJx4a65c_size_8abf5 := goodIn_r _ [17, 18, 68, 69, 70] (by decide +kernel) (by decide +kernel)
set_option maxRecDepth 20000 in
theorem gX4_checksum_Jx4a65c_size_8abf5 : GoodIn wsX4_checksum (wsV RX4 44 RJx4a65c yJx4a65c_size_8abf5 wsJx4a65c_size_8abf5) := goodIn_app (goodIn_of _ (by decide +kernel)) ggX4_checksum_Jx4a65c_size_8abf5
set_option maxRecDepth 20000 in
theorem ggX4_checksum_Jx4a65c_get_915e3 : GoodIn wsX4_checksum wsJx4a65c_get_915e3 := goodIn_r _ [22, 18, 23, 24, 25, 26, 27, 28, 29, 30, 31, 32, 33, 16, 34, 35, 68, 69, 70] (by decide +kernel) (by decide +kernel)
set_option maxRecDepth 20000 in
theorem gX4_checksum_Jx4a65c_get_915e3 : GoodIn wsX4_checksum (wsV RX4 188 RJx4a65c yJx4a65c_get_915e3 wsJx4a65c_get_915e3) := goodIn_app (goodIn_of _ (by decide +kernel)) ggX4_checksum_Jx4a65c_get_915e3
theorem dX4_checksum_0 : decode cX4_checksum 0 = .ok (.ldc2_w 269, 3) := by decide +kernel
theorem dX4_checksum_3 : decode cX4_checksum 3 = .ok (.lstore_n 1, 1) := by decide +kernel
theorem dX4_checksum_4 : decode cX4_checksum 4 = .ok (.iconst 0, 1) := by decide +kernel
theorem dX4_checksum_5 : decode cX4_checksum 5 = .ok (.istore_n 3, 1) := by decide +kernel
theorem dX4_checksum_6 : decode cX4_checksum 6 = .ok (.iload_n 3, 1) := by decide +kernel
theorem dX4_checksum_7 : decode cX4_checksum 7 = .ok (.aload_n 0, 1) := by decide +kernel
theorem dX4_checksum_8 : decode cX4_checksum 8 = .ok (.getfield 10, 3) := by decide +kernel
theorem dX4_checksum_11 : decode cX4_checksum 11 = .ok (.invokevirtual 44, 3) := by decide +kernel
theorem dX4_checksum_14 : decode cX4_checksum 14 = .ok (.if_icmp .ge 31, 3) := by decide +kernel
theorem dX4_checksum_17 : decode cX4_checksum 17 = .ok (.ldc2_w 271, 3) := by decide +kernel
theorem dX4_checksum_20 : decode cX4_checksum 20 = .ok (.lload_n 1, 1) := by decide +kernel
theorem dX4_checksum_21 : decode cX4_checksum 21 = .ok (.lmul, 1) := by decide +kernel
theorem dX4_checksum_22 : decode cX4_checksum 22 = .ok (.aload_n 0, 1) := by decide +kernel
theorem dX4_checksum_23 : decode cX4_checksum 23 = .ok (.getfield 10, 3) := by decide +kernel
theorem dX4_checksum_26 : decode cX4_checksum 26 = .ok (.iload_n 3, 1) := by decide +kernel
theorem dX4_checksum_27 : decode cX4_checksum 27 = .ok (.invokevirtual 188, 3) := by decide +kernel
theorem dX4_checksum_30 : decode cX4_checksum 30 = .ok (.checkcast 53, 3) := by decide +kernel
theorem dX4_checksum_33 : decode cX4_checksum 33 = .ok (.getfield 157, 3) := by decide +kernel
theorem dX4_checksum_36 : decode cX4_checksum 36 = .ok (.i2l, 1) := by decide +kernel
theorem dX4_checksum_37 : decode cX4_checksum 37 = .ok (.ladd, 1) := by decide +kernel
theorem dX4_checksum_38 : decode cX4_checksum 38 = .ok (.lstore_n 1, 1) := by decide +kernel
theorem dX4_checksum_39 : decode cX4_checksum 39 = .ok (.iinc 3 1, 3) := by decide +kernel
theorem dX4_checksum_42 : decode cX4_checksum 42 = .ok (.goto (-36), 3) := by decide +kernel
theorem dX4_checksum_45 : decode cX4_checksum 45 = .ok (.iconst 0, 1) := by decide +kernel
theorem dX4_checksum_46 : decode cX4_checksum 46 = .ok (.istore_n 3, 1) := by decide +kernel
theorem dX4_checksum_47 : decode cX4_checksum 47 = .ok (.iload_n 3, 1) := by decide +kernel
theorem dX4_checksum_48 : decode cX4_checksum 48 = .ok (.aload_n 0, 1) := by decide +kernel
theorem dX4_checksum_49 : decode cX4_checksum 49 = .ok (.getfield 16, 3) := by decide +kernel
theorem dX4_checksum_52 : decode cX4_checksum 52 = .ok (.invokevirtual 44, 3) := by decide +kernel
theorem dX4_checksum_55 : decode cX4_checksum 55 = .ok (.if_icmp .ge 61, 3) := by decide +kernel
theorem dX4_checksum_58 : decode cX4_checksum 58 = .ok (.aload_n 0, 1) := by decide +kernel
theorem dX4_checksum_59 : decode cX4_checksum 59 = .ok (.getfield 16, 3) := by decide +kernel
theorem dX4_checksum_62 : decode cX4_checksum 62 = .ok (.iload_n 3, 1) := by decide +kernel
theorem dX4_checksum_63 : decode cX4_checksum 63 = .ok (.invokevirtual 188, 3) := by decide +kernel
theorem dX4_checksum_66 : decode cX4_checksum 66 = .ok (.checkcast 69, 3) := by decide +kernel
theorem dX4_checksum_69 : decode cX4_checksum 69 = .ok (.astore 4, 2) := by decide +kernel
theorem dX4_checksum_71 : decode cX4_checksum 71 = .ok (.ldc2_w 271, 3) := by decide +kernel
theorem dX4_checksum_74 : decode cX4_checksum 74 = .ok (.lload_n 1, 1) := by decide +kernel
theorem dX4_checksum_75 : decode cX4_checksum 75 = .ok (.lmul, 1) := by decide +kernel
theorem dX4_checksum_76 : decode cX4_checksum 76 = .ok (.aload 4, 2) := by decide +kernel
theorem dX4_checksum_78 : decode cX4_checksum 78 = .ok (.getfield 110, 3) := by decide +kernel
theorem dX4_checksum_81 : decode cX4_checksum 81 = .ok (.i2l, 1) := by decide +kernel
theorem dX4_checksum_82 : decode cX4_checksum 82 = .ok (.ladd, 1) := by decide +kernel
theorem dX4_checksum_83 : decode cX4_checksum 83 = .ok (.lstore_n 1, 1) := by decide +kernel
theorem dX4_checksum_84 : decode cX4_checksum 84 = .ok (.ldc2_w 271, 3) := by decide +kernel
theorem dX4_checksum_87 : decode cX4_checksum 87 = .ok (.lload_n 1, 1) := by decide +kernel
theorem dX4_checksum_88 : decode cX4_checksum 88 = .ok (.lmul, 1) := by decide +kernel
theorem dX4_checksum_89 : decode cX4_checksum 89 = .ok (.aload 4, 2) := by decide +kernel
theorem dX4_checksum_91 : decode cX4_checksum 91 = .ok (.getfield 102, 3) := by decide +kernel
theorem dX4_checksum_94 : decode cX4_checksum 94 = .ok (.i2l, 1) := by decide +kernel
theorem dX4_checksum_95 : decode cX4_checksum 95 = .ok (.ladd, 1) := by decide +kernel
theorem dX4_checksum_96 : decode cX4_checksum 96 = .ok (.lstore_n 1, 1) := by decide +kernel
theorem dX4_checksum_97 : decode cX4_checksum 97 = .ok (.ldc2_w 271, 3) := by decide +kernel
theorem dX4_checksum_100 : decode cX4_checksum 100 = .ok (.lload_n 1, 1) := by decide +kernel
theorem dX4_checksum_101 : decode cX4_checksum 101 = .ok (.lmul, 1) := by decide +kernel
theorem dX4_checksum_102 : decode cX4_checksum 102 = .ok (.aload 4, 2) := by decide +kernel
theorem dX4_checksum_104 : decode cX4_checksum 104 = .ok (.getfield 150, 3) := by decide +kernel
theorem dX4_checksum_107 : decode cX4_checksum 107 = .ok (.i2l, 1) := by decide +kernel
theorem dX4_checksum_108 : decode cX4_checksum 108 = .ok (.ladd, 1) := by decide +kernel
theorem dX4_checksum_109 : decode cX4_checksum 109 = .ok (.lstore_n 1, 1) := by decide +kernel
theorem dX4_checksum_110 : decode cX4_checksum 110 = .ok (.iinc 3 1, 3) := by decide +kernel
theorem dX4_checksum_113 : decode cX4_checksum 113 = .ok (.goto (-66), 3) := by decide +kernel
theorem dX4_checksum_116 : decode cX4_checksum 116 = .ok (.ldc2_w 271, 3) := by decide +kernel
theorem dX4_checksum_119 : decode cX4_checksum 119 = .ok (.lload_n 1, 1) := by decide +kernel
theorem dX4_checksum_120 : decode cX4_checksum 120 = .ok (.lmul, 1) := by decide +kernel
theorem dX4_checksum_121 : decode cX4_checksum 121 = .ok (.aload_n 0, 1) := by decide +kernel
theorem dX4_checksum_122 : decode cX4_checksum 122 = .ok (.getfield 211, 3) := by decide +kernel
theorem dX4_checksum_125 : decode cX4_checksum 125 = .ok (.i2l, 1) := by decide +kernel
theorem dX4_checksum_126 : decode cX4_checksum 126 = .ok (.ladd, 1) := by decide +kernel
theorem dX4_checksum_127 : decode cX4_checksum 127 = .ok (.lstore_n 1, 1) := by decide +kernel
theorem dX4_checksum_128 : decode cX4_checksum 128 = .ok (.ldc2_w 271, 3) := by decide +kernel
theorem dX4_checksum_131 : decode cX4_checksum 131 = .ok (.lload_n 1, 1) := by decide +kernel
theorem dX4_checksum_132 : decode cX4_checksum 132 = .ok (.lmul, 1) := by decide +kernel
theorem dX4_checksum_133 : decode cX4_checksum 133 = .ok (.aload_n 0, 1) := by decide +kernel
theorem dX4_checksum_134 : decode cX4_checksum 134 = .ok (.getfield 26, 3) := by decide +kernel
theorem dX4_checksum_137 : decode cX4_checksum 137 = .ok (.i2l, 1) := by decide +kernel
theorem dX4_checksum_138 : decode cX4_checksum 138 = .ok (.ladd, 1) := by decide +kernel
theorem dX4_checksum_139 : decode cX4_checksum 139 = .ok (.lreturn, 1) := by decide +kernel
set_option maxRecDepth 20000 in
theorem ggX4_isSound_X4_hasNoDiscTwice : GoodIn wsX4_isSound wsX4_hasNoDiscTwice := goodIn_r _ [5, 6, 7, 8, 9, 10, 11, 12, 13, 14, 15, 16, 17, 18, 19, 20, 21, 22, 23, 24, 25, 26, 27, 28, 29, 30, 31, 32, 33, 4, 34, 35, 36, 37, 38, 113, 114, 115, 116, 117, 118, 119, 120, 121, 122, 123, 124, 125, 126, 127, 128, 129, 130, 131, 132, 133, 134, 135, 136, 137, 138, 139, 140, 141, 142] (by decide +kernel) (by decide +kernel)
set_option maxRecDepth 20000 in
theorem gX4_isSound_X4_hasNoDiscTwice : GoodIn wsX4_isSound (wsV RX4 273 RX4 yX4_hasNoDiscTwice wsX4_hasNoDiscTwice) := goodIn_app (goodIn_of _ (by decide +kernel)) ggX4_isSound_X4_hasNoDiscTwice
set_option maxRecDepth 20000 in
theorem ggX4_isSound_X4_hasNoLongQueue : GoodIn wsX4_isSound wsX4_hasNoLongQueue := goodIn_r _ [42, 35, 36, 43, 8, 9, 10, 11, 12, 13, 14, 15, 16, 17, 18, 19, 20, 21, 22, 23, 24, 25, 26, 27, 28, 29, 30, 113, 114, 115, 116, 117, 118, 119, 120, 121, 125, 126, 127, 128, 129, 130, 131, 132, 133, 134, 135, 136, 137, 138, 139, 122, 123, 124] (by decide +kernel) (by decide +kernel)
set_option maxRecDepth 20000 in
theorem gX4_isSound_X4_hasNoLongQueue : GoodIn wsX4_isSound (wsV RX4 276 RX4 yX4_hasNoLongQueue wsX4_hasNoLongQueue) := goodIn_app (goodIn_of _ (by decide +kernel)) ggX4_isSound_X4_hasNoLongQueue
set_option maxRecDepth 20000 in
theorem ggX4_isSound_X4_hasAllCents : GoodIn wsX4_isSound wsX4_hasAllCents := goodIn_r _ [47, 48, 35, 36, 49, 50, 8, 9, 10, 11, 12, 13, 14, 15, 16, 17, 18, 19, 20, 21, 22, 23, 24, 25, 26, 27, 28, 29, 30, 113, 114, 115, 116, 117, 118, 119, 120, 121, 125, 126, 127, 128, 129, 130, 131, 132, 133, 134, 135, 136, 137, 138, 139, 122, 123, 124] (by decide +kernel) (by decide +kernel)
set_option maxRecDepth 20000 in
theorem gX4_isSound_X4_hasAllCents : GoodIn wsX4_isSound (wsV RX4 279 RX4 yX4_hasAllCents wsX4_hasAllCents) := goodIn_app (goodIn_of _ (by decide +kernel)) ggX4_isSound_X4_hasAllCents
set_option maxRecDepth 20000 in
theorem ggX4_isSound_X4_hasNoBetterChange : GoodIn wsX4_isSound wsX4_hasNoBetterChange := goodIn_ca (goodIn_r _ [54, 35, 36, 37, 8, 9, 10, 11, 12, 13, 14, 15, 16, 17, 18, 19, 20, 21, 22, 23, 24, 25, 26, 27, 28, 29, 30, 55, 56, 57, 4, 58, 59, 60, 61, 62, 63, 64, 65, 66, 67, 68, 6, 7, 69, 70, 71, 72, 73, 74, 75, 76, 77, 78, 79, 80, 81, 82, 83, 84, 85, 86, 87, 88, 89, 90, 91, 92, 93, 94, 95, 96, 97, 98, 99, 100, 101, 102, 103, 104, 105, 106, 107, 108, 109, 110, 111, 112, 113, 114, 115, 116, 117, 118, 119, 120, 121, 125, 126, 127, 128, 129, 130, 131, 132, 133, 134, 135, 136, 137, 138, 139, 122, 123, 124, 143, 144, 145, 146, 147, 148, 149, 150, 140, 141, 142] (by decide +kernel) (by decide +kernel)) (goodIn_sub (fun _ h => List.mem_cons_of_mem _ (List.mem_append_right _ h)) (by decide +kernel))
set_option maxRecDepth 20000 in
theorem gX4_isSound_X4_hasNoBetterChange : GoodIn wsX4_isSound (wsV RX4 282 RX4 yX4_hasNoBetterChange wsX4_hasNoBetterChange) := goodIn_app (goodIn_of _ (by decide +kernel)) ggX4_isSound_X4_hasNoBetterChange
theorem dX4_isSound_0 : decode cX4_isSound 0 = .ok (.aload_n 0, 1) := by decide +kernel
theorem dX4_isSound_1 : decode cX4_isSound 1 = .ok (.invokevirtual 273, 3) := by decide +kernel
theorem dX4_isSound_4 : decode cX4_isSound 4 = .ok (.ifCond .eq 28, 3) := by decide +kernel
theorem dX4_isSound_7 : decode cX4_isSound 7 = .ok (.aload_n 0, 1) := by decide +kernel
theorem dX4_isSound_8 : decode cX4_isSound 8 = .ok (.invokevirtual 276, 3) := by decide +kernel
theorem dX4_isSound_11 : decode cX4_isSound 11 = .ok (.ifCond .eq 21, 3) := by decide +kernel
theorem dX4_isSound_14 : decode cX4_isSound 14 = .ok (.aload_n 0, 1) := by decide +kernel
theorem dX4_isSound_15 : decode cX4_isSound 15 = .ok (.invokevirtual 279, 3) := by decide +kernel
theorem dX4_isSound_18 : decode cX4_isSound 18 = .ok (.ifCond .eq 14, 3) := by decide +kernel
theorem dX4_isSound_21 : decode cX4_isSound 21 = .ok (.aload_n 0, 1) := by decide +kernel
theorem dX4_isSound_22 : decode cX4_isSound 22 = .ok (.invokevirtual 282, 3) := by decide +kernel
theorem dX4_isSound_25 : decode cX4_isSound 25 = .ok (.ifCond .eq 7, 3) := by decide +kernel
theorem dX4_isSound_28 : decode cX4_isSound 28 = .ok (.iconst 1, 1) := by decide +kernel
theorem dX4_isSound_29 : decode cX4_isSound 29 = .ok (.goto 4, 3) := by decide +kernel
theorem dX4_isSound_32 : decode cX4_isSound 32 = .ok (.iconst 0, 1) := by decide +kernel
theorem dX4_isSound_33 : decode cX4_isSound 33 = .ok (.ireturn, 1) := by decide +kernel
theorem dX4_isWithin_0 : decode cX4_isWithin 0 = .ok (.iload_n 0, 1) := by decide +kernel
theorem dX4_isWithin_1 : decode cX4_isWithin 1 = .ok (.iload_n 1, 1) := by decide +kernel
theorem dX4_isWithin_2 : decode cX4_isWithin 2 = .ok (.if_icmp .lt 12, 3) := by decide +kernel
theorem dX4_isWithin_5 : decode cX4_isWithin 5 = .ok (.iload_n 0, 1) := by decide +kernel
theorem dX4_isWithin_6 : decode cX4_isWithin 6 = .ok (.iload_n 2, 1) := by decide +kernel
theorem dX4_isWithin_7 : decode cX4_isWithin 7 = .ok (.if_icmp .gt 7, 3) := by decide +kernel
theorem dX4_isWithin_10 : decode cX4_isWithin 10 = .ok (.iconst 1, 1) := by decide +kernel
theorem dX4_isWithin_11 : decode cX4_isWithin 11 = .ok (.goto 4, 3) := by decide +kernel
theorem dX4_isWithin_14 : decode cX4_isWithin 14 = .ok (.iconst 0, 1) := by decide +kernel
theorem dX4_isWithin_15 : decode cX4_isWithin 15 = .ok (.ireturn, 1) := by decide +kernel
theorem dX4_coinOf_0 : decode cX4_coinOf 0 = .ok (.getstatic 285, 3) := by decide +kernel
theorem dX4_coinOf_3 : decode cX4_coinOf 3 = .ok (.astore_n 1, 1) := by decide +kernel
theorem dX4_coinOf_4 : decode cX4_coinOf 4 = .ok (.aload_n 1, 1) := by decide +kernel
theorem dX4_coinOf_5 : decode cX4_coinOf 5 = .ok (.arraylength, 1) := by decide +kernel
theorem dX4_coinOf_6 : decode cX4_coinOf 6 = .ok (.istore_n 2, 1) := by decide +kernel
theorem dX4_coinOf_7 : decode cX4_coinOf 7 = .ok (.iconst 0, 1) := by decide +kernel
theorem dX4_coinOf_8 : decode cX4_coinOf 8 = .ok (.istore_n 3, 1) := by decide +kernel
theorem dX4_coinOf_9 : decode cX4_coinOf 9 = .ok (.iload_n 3, 1) := by decide +kernel
theorem dX4_coinOf_10 : decode cX4_coinOf 10 = .ok (.iload_n 2, 1) := by decide +kernel
theorem dX4_coinOf_11 : decode cX4_coinOf 11 = .ok (.if_icmp .ge 26, 3) := by decide +kernel
theorem dX4_coinOf_14 : decode cX4_coinOf 14 = .ok (.aload_n 1, 1) := by decide +kernel
theorem dX4_coinOf_15 : decode cX4_coinOf 15 = .ok (.iload_n 3, 1) := by decide +kernel
theorem dX4_coinOf_16 : decode cX4_coinOf 16 = .ok (.aaload, 1) := by decide +kernel
theorem dX4_coinOf_17 : decode cX4_coinOf 17 = .ok (.astore 4, 2) := by decide +kernel
theorem dX4_coinOf_19 : decode cX4_coinOf 19 = .ok (.aload 4, 2) := by decide +kernel
theorem dX4_coinOf_21 : decode cX4_coinOf 21 = .ok (.getfield 289, 3) := by decide +kernel
theorem dX4_coinOf_24 : decode cX4_coinOf 24 = .ok (.iload_n 0, 1) := by decide +kernel
theorem dX4_coinOf_25 : decode cX4_coinOf 25 = .ok (.if_icmp .ne 6, 3) := by decide +kernel
theorem dX4_coinOf_28 : decode cX4_coinOf 28 = .ok (.aload 4, 2) := by decide +kernel
theorem dX4_coinOf_30 : decode cX4_coinOf 30 = .ok (.areturn, 1) := by decide +kernel
theorem dX4_coinOf_31 : decode cX4_coinOf 31 = .ok (.iinc 3 1, 3) := by decide +kernel
theorem dX4_coinOf_34 : decode cX4_coinOf 34 = .ok (.goto (-25), 3) := by decide +kernel
theorem dX4_coinOf_37 : decode cX4_coinOf 37 = .ok (.aconst_null, 1) := by decide +kernel
theorem dX4_coinOf_38 : decode cX4_coinOf 38 = .ok (.areturn, 1) := by decide +kernel
set_option maxRecDepth 20000 in
theorem ggX4_requireBox_Jx4a65c_size_8abf5 : GoodIn wsX4_requireBox wsJx4a65c_size_8abf5 := goodIn_r _ [9, 10, 37, 38, 39] (by decide +kernel) (by decide +kernel)
set_option maxRecDepth 20000 in
theorem gX4_requireBox_Jx4a65c_size_8abf5 : GoodIn wsX4_requireBox (wsV RX4 44 RJx4a65c yJx4a65c_size_8abf5 wsJx4a65c_size_8abf5) := goodIn_app (goodIn_of _ (by decide +kernel)) ggX4_requireBox_Jx4a65c_size_8abf5
set_option maxRecDepth 20000 in
theorem ggX4_requireBox_Jx4a65c_get_915e3 : GoodIn wsX4_requireBox wsJx4a65c_get_915e3 := goodIn_r _ [14, 10, 15, 16, 17, 18, 19, 20, 21, 22, 23, 24, 25, 8, 26, 27, 37, 38, 39] (by decide +kernel) (by decide +kernel)
set_option maxRecDepth 20000 in
theorem gX4_requireBox_Jx4a65c_get_915e3 : GoodIn wsX4_requireBox (wsV RX4 188 RJx4a65c yJx4a65c_get_915e3 wsJx4a65c_get_915e3) := goodIn_app (goodIn_of _ (by decide +kernel)) ggX4_requireBox_Jx4a65c_get_915e3
theorem dX4_requireBox_0 : decode cX4_requireBox 0 = .ok (.iload_n 1, 1) := by decide +kernel
theorem dX4_requireBox_1 : decode cX4_requireBox 1 = .ok (.ifCond .lt 14, 3) := by decide +kernel
theorem dX4_requireBox_4 : decode cX4_requireBox 4 = .ok (.iload_n 1, 1) := by decide +kernel
theorem dX4_requireBox_5 : decode cX4_requireBox 5 = .ok (.aload_n 0, 1) := by decide +kernel
theorem dX4_requireBox_6 : decode cX4_requireBox 6 = .ok (.getfield 16, 3) := by decide +kernel
theorem dX4_requireBox_9 : decode cX4_requireBox 9 = .ok (.invokevirtual 44, 3) := by decide +kernel
theorem dX4_requireBox_12 : decode cX4_requireBox 12 = .ok (.if_icmp .lt 14, 3) := by decide +kernel
theorem dX4_requireBox_15 : decode cX4_requireBox 15 = .ok (.new 292, 3) := by decide +kernel
theorem dX4_requireBox_18 : decode cX4_requireBox 18 = .ok (.dup, 1) := by decide +kernel
theorem dX4_requireBox_19 : decode cX4_requireBox 19 = .ok (.ldc_w 294, 3) := by decide +kernel
theorem dX4_requireBox_22 : decode cX4_requireBox 22 = .ok (.invokespecial 296, 3) := by decide +kernel
theorem dX4_requireBox_25 : decode cX4_requireBox 25 = .ok (.athrow, 1) := by decide +kernel
theorem dX4_requireBox_26 : decode cX4_requireBox 26 = .ok (.aload_n 0, 1) := by decide +kernel
theorem dX4_requireBox_27 : decode cX4_requireBox 27 = .ok (.getfield 16, 3) := by decide +kernel
theorem dX4_requireBox_30 : decode cX4_requireBox 30 = .ok (.iload_n 1, 1) := by decide +kernel
theorem dX4_requireBox_31 : decode cX4_requireBox 31 = .ok (.invokevirtual 188, 3) := by decide +kernel
theorem dX4_requireBox_34 : decode cX4_requireBox 34 = .ok (.checkcast 69, 3) := by decide +kernel
theorem dX4_requireBox_37 : decode cX4_requireBox 37 = .ok (.areturn, 1) := by decide +kernel
set_option maxRecDepth 20000 in
theorem ggX4_requireDisc_Jx4a65c_size_8abf5 : GoodIn wsX4_requireDisc wsJx4a65c_size_8abf5 := goodIn_r _ [9, 10, 37, 38, 39] (by decide +kernel) (by decide +kernel)
set_option maxRecDepth 20000 in
theorem gX4_requireDisc_Jx4a65c_size_8abf5 : GoodIn wsX4_requireDisc (wsV RX4 44 RJx4a65c yJx4a65c_size_8abf5 wsJx4a65c_size_8abf5) := goodIn_app (goodIn_of _ (by decide +kernel)) ggX4_requireDisc_Jx4a65c_size_8abf5
set_option maxRecDepth 20000 in
theorem ggX4_requireDisc_Jx4a65c_get_915e3 : GoodIn wsX4_requireDisc wsJx4a65c_get_915e3 := goodIn_r _ [14, 10, 15, 16, 17, 18, 19, 20, 21, 22, 23, 24, 25, 8, 26, 27, 37, 38, 39] (by decide +kernel) (by decide +kernel)
set_option maxRecDepth 20000 in
theorem gX4_requireDisc_Jx4a65c_get_915e3 : GoodIn wsX4_requireDisc (wsV RX4 188 RJx4a65c yJx4a65c_get_915e3 wsJx4a65c_get_915e3) := goodIn_app (goodIn_of _ (by decide +kernel)) ggX4_requireDisc_Jx4a65c_get_915e3
theorem dX4_requireDisc_0 : decode cX4_requireDisc 0 = .ok (.iload_n 1, 1) := by decide +kernel
theorem dX4_requireDisc_1 : decode cX4_requireDisc 1 = .ok (.ifCond .lt 14, 3) := by decide +kernel
theorem dX4_requireDisc_4 : decode cX4_requireDisc 4 = .ok (.iload_n 1, 1) := by decide +kernel
theorem dX4_requireDisc_5 : decode cX4_requireDisc 5 = .ok (.aload_n 0, 1) := by decide +kernel
theorem dX4_requireDisc_6 : decode cX4_requireDisc 6 = .ok (.getfield 10, 3) := by decide +kernel
theorem dX4_requireDisc_9 : decode cX4_requireDisc 9 = .ok (.invokevirtual 44, 3) := by decide +kernel
theorem dX4_requireDisc_12 : decode cX4_requireDisc 12 = .ok (.if_icmp .lt 14, 3) := by decide +kernel
theorem dX4_requireDisc_15 : decode cX4_requireDisc 15 = .ok (.new 292, 3) := by decide +kernel
theorem dX4_requireDisc_18 : decode cX4_requireDisc 18 = .ok (.dup, 1) := by decide +kernel
theorem dX4_requireDisc_19 : decode cX4_requireDisc 19 = .ok (.ldc_w 297, 3) := by decide +kernel
theorem dX4_requireDisc_22 : decode cX4_requireDisc 22 = .ok (.invokespecial 296, 3) := by decide +kernel
theorem dX4_requireDisc_25 : decode cX4_requireDisc 25 = .ok (.athrow, 1) := by decide +kernel
theorem dX4_requireDisc_26 : decode cX4_requireDisc 26 = .ok (.aload_n 0, 1) := by decide +kernel
theorem dX4_requireDisc_27 : decode cX4_requireDisc 27 = .ok (.getfield 10, 3) := by decide +kernel
theorem dX4_requireDisc_30 : decode cX4_requireDisc 30 = .ok (.iload_n 1, 1) := by decide +kernel
theorem dX4_requireDisc_31 : decode cX4_requireDisc 31 = .ok (.invokevirtual 188, 3) := by decide +kernel
theorem dX4_requireDisc_34 : decode cX4_requireDisc 34 = .ok (.checkcast 53, 3) := by decide +kernel
theorem dX4_requireDisc_37 : decode cX4_requireDisc 37 = .ok (.areturn, 1) := by decide +kernel
theorem dX4_requireSlot_0 : decode cX4_requireSlot 0 = .ok (.iload_n 1, 1) := by decide +kernel
theorem dX4_requireSlot_1 : decode cX4_requireSlot 1 = .ok (.ifCond .lt 12, 3) := by decide +kernel
theorem dX4_requireSlot_4 : decode cX4_requireSlot 4 = .ok (.iload_n 1, 1) := by decide +kernel
theorem dX4_requireSlot_5 : decode cX4_requireSlot 5 = .ok (.aload_n 0, 1) := by decide +kernel
theorem dX4_requireSlot_6 : decode cX4_requireSlot 6 = .ok (.getfield 242, 3) := by decide +kernel
theorem dX4_requireSlot_9 : decode cX4_requireSlot 9 = .ok (.arraylength, 1) := by decide +kernel
theorem dX4_requireSlot_10 : decode cX4_requireSlot 10 = .ok (.if_icmp .lt 14, 3) := by decide +kernel
theorem dX4_requireSlot_13 : decode cX4_requireSlot 13 = .ok (.new 292, 3) := by decide +kernel
theorem dX4_requireSlot_16 : decode cX4_requireSlot 16 = .ok (.dup, 1) := by decide +kernel
theorem dX4_requireSlot_17 : decode cX4_requireSlot 17 = .ok (.ldc_w 299, 3) := by decide +kernel
theorem dX4_requireSlot_20 : decode cX4_requireSlot 20 = .ok (.invokespecial 296, 3) := by decide +kernel
theorem dX4_requireSlot_23 : decode cX4_requireSlot 23 = .ok (.athrow, 1) := by decide +kernel
theorem dX4_requireSlot_24 : decode cX4_requireSlot 24 = .ok (.aload_n 0, 1) := by decide +kernel
theorem dX4_requireSlot_25 : decode cX4_requireSlot 25 = .ok (.getfield 242, 3) := by decide +kernel
theorem dX4_requireSlot_28 : decode cX4_requireSlot 28 = .ok (.iload_n 1, 1) := by decide +kernel
theorem dX4_requireSlot_29 : decode cX4_requireSlot 29 = .ok (.aaload, 1) := by decide +kernel
theorem dX4_requireSlot_30 : decode cX4_requireSlot 30 = .ok (.areturn, 1) := by decide +kernel
set_option maxRecDepth 20000 in
theorem ggX4_gainBy_X2_pullFor : GoodIn wsX4_gainBy wsX2_pullFor := goodIn_r _ [7, 8, 9, 10, 11, 12, 13, 14, 15, 16, 48, 49, 50, 51, 52, 53, 54, 55] (by decide +kernel) (by decide +kernel)
set_option maxRecDepth 20000 in
theorem gX4_gainBy_X2_pullFor : GoodIn wsX4_gainBy (wsV RX4 182 RX2 yX2_pullFor wsX2_pullFor) := goodIn_app (goodIn_of _ (by decide +kernel)) ggX4_gainBy_X2_pullFor
set_option maxRecDepth 20000 in
theorem ggX4_gainBy_X3_pullFor : GoodIn wsX4_gainBy wsX3_pullFor := goodIn_r _ [21, 22, 23, 4, 5, 6, 7, 8, 9, 10, 11, 12, 13, 14, 15, 16, 56, 57, 58, 48, 49, 50, 51, 52, 53, 54, 55] (by decide +kernel) (by decide +kernel)
set_option maxRecDepth 20000 in
theorem gX4_gainBy_X3_pullFor : GoodIn wsX4_gainBy (wsV RX4 301 RX3 yX3_pullFor wsX3_pullFor) := goodIn_app (goodIn_of _ (by decide +kernel)) ggX4_gainBy_X3_pullFor
theorem dX4_gainBy_0 : decode cX4_gainBy 0 = .ok (.aload_n 3, 1) := by decide +kernel
theorem dX4_gainBy_1 : decode cX4_gainBy 1 = .ok (.aload_n 1, 1) := by decide +kernel
theorem dX4_gainBy_2 : decode cX4_gainBy 2 = .ok (.getfield 179, 3) := by decide +kernel
theorem dX4_gainBy_5 : decode cX4_gainBy 5 = .ok (.aload_n 0, 1) := by decide +kernel
theorem dX4_gainBy_6 : decode cX4_gainBy 6 = .ok (.getfield 172, 3) := by decide +kernel
theorem dX4_gainBy_9 : decode cX4_gainBy 9 = .ok (.invokevirtual 182, 3) := by decide +kernel
theorem dX4_gainBy_12 : decode cX4_gainBy 12 = .ok (.aload_n 2, 1) := by decide +kernel
theorem dX4_gainBy_13 : decode cX4_gainBy 13 = .ok (.aload_n 1, 1) := by decide +kernel
theorem dX4_gainBy_14 : decode cX4_gainBy 14 = .ok (.getfield 179, 3) := by decide +kernel
theorem dX4_gainBy_17 : decode cX4_gainBy 17 = .ok (.aload_n 0, 1) := by decide +kernel
theorem dX4_gainBy_18 : decode cX4_gainBy 18 = .ok (.getfield 172, 3) := by decide +kernel
theorem dX4_gainBy_21 : decode cX4_gainBy 21 = .ok (.invokevirtual 301, 3) := by decide +kernel
theorem dX4_gainBy_24 : decode cX4_gainBy 24 = .ok (.isub, 1) := by decide +kernel
theorem dX4_gainBy_25 : decode cX4_gainBy 25 = .ok (.ireturn, 1) := by decide +kernel
set_option maxRecDepth 20000 in
theorem ggX4_gainByBest_X4_rankGains : GoodIn wsX4_gainByBest wsX4_rankGains := goodIn_ca (goodIn_r _ [11, 1, 12, 13, 14, 15, 16, 17, 18, 19, 20, 21, 22, 23, 24, 25, 26, 27, 28, 29, 30, 31, 32, 33, 34, 35, 36, 37, 38, 39, 40, 41, 42, 43, 44, 45, 46, 47, 48, 49, 50, 51, 52, 53, 54, 55, 56, 4, 5, 6, 57, 58, 59, 60, 10, 61, 74, 75, 76, 77, 78, 79, 80, 81, 82, 83, 84, 85, 86, 87, 88, 89, 90, 91, 92, 93, 94, 95, 96, 97, 98, 99, 100, 101, 102, 103, 104, 105, 106, 107, 108] (by decide +kernel) (by decide +kernel)) (goodIn_sub (fun _ h => List.mem_cons_of_mem _ (List.mem_append_right _ h)) (by decide +kernel))
set_option maxRecDepth 20000 in
theorem gX4_gainByBest_X4_rankGains : GoodIn wsX4_gainByBest (wsV RX4 302 RX4 yX4_rankGains wsX4_rankGains) := goodIn_app (goodIn_of _ (by decide +kernel)) ggX4_gainByBest_X4_rankGains
set_option maxRecDepth 20000 in
theorem ggX4_gainByBest_X4_rankLosses : GoodIn wsX4_gainByBest wsX4_rankLosses := goodIn_ca (goodIn_r _ [65, 2, 66, 14, 15, 16, 17, 18, 19, 67, 68, 69, 70, 71, 72, 73, 51, 52, 46, 53, 48, 54, 55, 56, 4, 5, 6, 57, 58, 59, 60, 10, 61, 74, 75, 76, 77, 78, 79, 80, 81, 82, 83, 84, 85, 86, 87, 88, 89, 90, 91, 92, 93, 94, 95, 96, 97, 109, 110, 111, 101, 102, 103, 104, 105, 106, 107, 108] (by decide +kernel) (by decide +kernel)) (goodIn_sub (fun _ h => List.mem_cons_of_mem _ (List.mem_append_right _ h)) (by decide +kernel))
set_option maxRecDepth 20000 in
theorem gX4_gainByBest_X4_rankLosses : GoodIn wsX4_gainByBest (wsV RX4 306 RX4 yX4_rankLosses wsX4_rankLosses) := goodIn_app (goodIn_of _ (by decide +kernel)) ggX4_gainByBest_X4_rankLosses
theorem dX4_gainByBest_0 : decode cX4_gainByBest 0 = .ok (.aload_n 0, 1) := by decide +kernel
theorem dX4_gainByBest_1 : decode cX4_gainByBest 1 = .ok (.aload_n 1, 1) := by decide +kernel
theorem dX4_gainByBest_2 : decode cX4_gainByBest 2 = .ok (.invokevirtual 302, 3) := by decide +kernel
theorem dX4_gainByBest_5 : decode cX4_gainByBest 5 = .ok (.aload_n 0, 1) := by decide +kernel
theorem dX4_gainByBest_6 : decode cX4_gainByBest 6 = .ok (.aload_n 1, 1) := by decide +kernel
theorem dX4_gainByBest_7 : decode cX4_gainByBest 7 = .ok (.invokevirtual 306, 3) := by decide +kernel
theorem dX4_gainByBest_10 : decode cX4_gainByBest 10 = .ok (.iconst 0, 1) := by decide +kernel
theorem dX4_gainByBest_11 : decode cX4_gainByBest 11 = .ok (.istore_n 3, 1) := by decide +kernel
theorem dX4_gainByBest_12 : decode cX4_gainByBest 12 = .ok (.iconst 0, 1) := by decide +kernel
theorem dX4_gainByBest_13 : decode cX4_gainByBest 13 = .ok (.istore 4, 2) := by decide +kernel
theorem dX4_gainByBest_15 : decode cX4_gainByBest 15 = .ok (.iload 4, 2) := by decide +kernel
theorem dX4_gainByBest_17 : decode cX4_gainByBest 17 = .ok (.iload_n 2, 1) := by decide +kernel
theorem dX4_gainByBest_18 : decode cX4_gainByBest 18 = .ok (.if_icmp .ge 51, 3) := by decide +kernel
theorem dX4_gainByBest_21 : decode cX4_gainByBest 21 = .ok (.iload 4, 2) := by decide +kernel
theorem dX4_gainByBest_23 : decode cX4_gainByBest 23 = .ok (.aload_n 0, 1) := by decide +kernel
theorem dX4_gainByBest_24 : decode cX4_gainByBest 24 = .ok (.getfield 19, 3) := by decide +kernel
theorem dX4_gainByBest_27 : decode cX4_gainByBest 27 = .ok (.arraylength, 1) := by decide +kernel
theorem dX4_gainByBest_28 : decode cX4_gainByBest 28 = .ok (.if_icmp .ge 41, 3) := by decide +kernel
theorem dX4_gainByBest_31 : decode cX4_gainByBest 31 = .ok (.iload 4, 2) := by decide +kernel
theorem dX4_gainByBest_33 : decode cX4_gainByBest 33 = .ok (.aload_n 0, 1) := by decide +kernel
theorem dX4_gainByBest_34 : decode cX4_gainByBest 34 = .ok (.getfield 23, 3) := by decide +kernel
theorem dX4_gainByBest_37 : decode cX4_gainByBest 37 = .ok (.arraylength, 1) := by decide +kernel
theorem dX4_gainByBest_38 : decode cX4_gainByBest 38 = .ok (.if_icmp .ge 31, 3) := by decide +kernel
theorem dX4_gainByBest_41 : decode cX4_gainByBest 41 = .ok (.iload_n 3, 1) := by decide +kernel
theorem dX4_gainByBest_42 : decode cX4_gainByBest 42 = .ok (.aload_n 0, 1) := by decide +kernel
theorem dX4_gainByBest_43 : decode cX4_gainByBest 43 = .ok (.getfield 19, 3) := by decide +kernel
theorem dX4_gainByBest_46 : decode cX4_gainByBest 46 = .ok (.iload 4, 2) := by decide +kernel
theorem dX4_gainByBest_48 : decode cX4_gainByBest 48 = .ok (.iaload, 1) := by decide +kernel
theorem dX4_gainByBest_49 : decode cX4_gainByBest 49 = .ok (.aload_n 0, 1) := by decide +kernel
theorem dX4_gainByBest_50 : decode cX4_gainByBest 50 = .ok (.getfield 23, 3) := by decide +kernel
theorem dX4_gainByBest_53 : decode cX4_gainByBest 53 = .ok (.iload 4, 2) := by decide +kernel
theorem dX4_gainByBest_55 : decode cX4_gainByBest 55 = .ok (.iaload, 1) := by decide +kernel
theorem dX4_gainByBest_56 : decode cX4_gainByBest 56 = .ok (.iadd, 1) := by decide +kernel
theorem dX4_gainByBest_57 : decode cX4_gainByBest 57 = .ok (.iconst 0, 1) := by decide +kernel
theorem dX4_gainByBest_58 : decode cX4_gainByBest 58 = .ok (.invokestatic 309, 3) := by decide +kernel
theorem dX4_gainByBest_61 : decode cX4_gainByBest 61 = .ok (.iadd, 1) := by decide +kernel
theorem dX4_gainByBest_62 : decode cX4_gainByBest 62 = .ok (.istore_n 3, 1) := by decide +kernel
theorem dX4_gainByBest_63 : decode cX4_gainByBest 63 = .ok (.iinc 4 1, 3) := by decide +kernel
theorem dX4_gainByBest_66 : decode cX4_gainByBest 66 = .ok (.goto (-51), 3) := by decide +kernel
theorem dX4_gainByBest_69 : decode cX4_gainByBest 69 = .ok (.iload_n 3, 1) := by decide +kernel
theorem dX4_gainByBest_70 : decode cX4_gainByBest 70 = .ok (.ireturn, 1) := by decide +kernel
set_option maxRecDepth 20000 in
theorem ggX4_rankGains_J7_fill_53178 : GoodIn wsX4_rankGains wsJ7_fill_53178 := goodIn_r _ [9] (by decide +kernel) (by decide +kernel)
set_option maxRecDepth 20000 in
theorem gX4_rankGains_J7_fill_53178 : GoodIn wsX4_rankGains (va_wsS RX4 314 yJ7_fill_53178 wsJ7_fill_53178) := goodIn_app (goodIn_of _ (by decide +kernel)) ggX4_rankGains_J7_fill_53178
set_option maxRecDepth 20000 in
theorem ggX4_rankGains_Jx4a65c_size_8abf5 : GoodIn wsX4_rankGains wsJx4a65c_size_8abf5 := goodIn_r _ [14, 15, 80, 81, 82] (by decide +kernel) (by decide +kernel)
set_option maxRecDepth 20000 in
theorem gX4_rankGains_Jx4a65c_size_8abf5 : GoodIn wsX4_rankGains (wsV RX4 44 RJx4a65c yJx4a65c_size_8abf5 wsJx4a65c_size_8abf5) := goodIn_app (goodIn_of _ (by decide +kernel)) ggX4_rankGains_Jx4a65c_size_8abf5
set_option maxRecDepth 20000 in
theorem ggX4_rankGains_Jx4a65c_get_915e3 : GoodIn wsX4_rankGains wsJx4a65c_get_915e3 := goodIn_r _ [19, 15, 20, 21, 22, 23, 24, 25, 26, 27, 28, 29, 30, 13, 31, 32, 80, 81, 82] (by decide +kernel) (by decide +kernel)
set_option maxRecDepth 20000 in
theorem gX4_rankGains_Jx4a65c_get_915e3 : GoodIn wsX4_rankGains (wsV RX4 188 RJx4a65c yJx4a65c_get_915e3 wsJx4a65c_get_915e3) := goodIn_app (goodIn_of _ (by decide +kernel)) ggX4_rankGains_Jx4a65c_get_915e3
set_option maxRecDepth 20000 in
theorem ggX4_rankGains_X2_isInVan : GoodIn wsX4_rankGains wsX2_isInVan := goodIn_r _ [37, 38, 39, 83, 84, 85, 86, 87, 88, 89, 90] (by decide +kernel) (by decide +kernel)
set_option maxRecDepth 20000 in
theorem gX4_rankGains_X2_isInVan : GoodIn wsX4_rankGains (wsV RX4 220 RX2 yX2_isInVan wsX2_isInVan) := goodIn_app (goodIn_of _ (by decide +kernel)) ggX4_rankGains_X2_isInVan
set_option maxRecDepth 20000 in
theorem ggX4_rankGains_X2_pullFor : GoodIn wsX4_rankGains wsX2_pullFor := goodIn_r _ [43, 38, 44, 45, 46, 47, 48, 49, 50, 51, 83, 84, 85, 86, 87, 88, 89, 90] (by decide +kernel) (by decide +kernel)
set_option maxRecDepth 20000 in
theorem gX4_rankGains_X2_pullFor : GoodIn wsX4_rankGains (wsV RX4 182 RX2 yX2_pullFor wsX2_pullFor) := goodIn_app (goodIn_of _ (by decide +kernel)) ggX4_rankGains_X2_pullFor
set_option maxRecDepth 20000 in
theorem ggX4_rankGains_X4_rank : GoodIn wsX4_rankGains wsX4_rank := goodIn_ca (goodIn_r _ [55] (by decide +kernel) (by decide +kernel)) (goodIn_sub (fun _ h => List.mem_cons_of_mem _ (List.mem_append_right _ h)) (by decide +kernel))
set_option maxRecDepth 20000 in
theorem gX4_rankGains_X4_rank : GoodIn wsX4_rankGains (va_wsS RX4 320 yX4_rank wsX4_rank) := goodIn_app (goodIn_of _ (by decide +kernel)) ggX4_rankGains_X4_rank
theorem dX4_rankGains_0 : decode cX4_rankGains 0 = .ok (.aload_n 0, 1) := by decide +kernel
theorem dX4_rankGains_1 : decode cX4_rankGains 1 = .ok (.getfield 19, 3) := by decide +kernel
theorem dX4_rankGains_4 : decode cX4_rankGains 4 = .ok (.iconst 0, 1) := by decide +kernel
theorem dX4_rankGains_5 : decode cX4_rankGains 5 = .ok (.invokestatic 314, 3) := by decide +kernel
theorem dX4_rankGains_8 : decode cX4_rankGains 8 = .ok (.iconst 0, 1) := by decide +kernel
theorem dX4_rankGains_9 : decode cX4_rankGains 9 = .ok (.istore_n 2, 1) := by decide +kernel
theorem dX4_rankGains_10 : decode cX4_rankGains 10 = .ok (.iload_n 2, 1) := by decide +kernel
theorem dX4_rankGains_11 : decode cX4_rankGains 11 = .ok (.aload_n 0, 1) := by decide +kernel
theorem dX4_rankGains_12 : decode cX4_rankGains 12 = .ok (.getfield 10, 3) := by decide +kernel
theorem dX4_rankGains_15 : decode cX4_rankGains 15 = .ok (.invokevirtual 44, 3) := by decide +kernel
theorem dX4_rankGains_18 : decode cX4_rankGains 18 = .ok (.if_icmp .ge 47, 3) := by decide +kernel
theorem dX4_rankGains_21 : decode cX4_rankGains 21 = .ok (.aload_n 0, 1) := by decide +kernel
theorem dX4_rankGains_22 : decode cX4_rankGains 22 = .ok (.getfield 10, 3) := by decide +kernel
theorem dX4_rankGains_25 : decode cX4_rankGains 25 = .ok (.iload_n 2, 1) := by decide +kernel
theorem dX4_rankGains_26 : decode cX4_rankGains 26 = .ok (.invokevirtual 188, 3) := by decide +kernel
theorem dX4_rankGains_29 : decode cX4_rankGains 29 = .ok (.checkcast 53, 3) := by decide +kernel
theorem dX4_rankGains_32 : decode cX4_rankGains 32 = .ok (.astore_n 3, 1) := by decide +kernel
theorem dX4_rankGains_33 : decode cX4_rankGains 33 = .ok (.aload_n 3, 1) := by decide +kernel
theorem dX4_rankGains_34 : decode cX4_rankGains 34 = .ok (.invokevirtual 220, 3) := by decide +kernel
theorem dX4_rankGains_37 : decode cX4_rankGains 37 = .ok (.ifCond .eq 22, 3) := by decide +kernel
theorem dX4_rankGains_40 : decode cX4_rankGains 40 = .ok (.aload_n 0, 1) := by decide +kernel
theorem dX4_rankGains_41 : decode cX4_rankGains 41 = .ok (.getfield 19, 3) := by decide +kernel
theorem dX4_rankGains_44 : decode cX4_rankGains 44 = .ok (.aload_n 3, 1) := by decide +kernel
theorem dX4_rankGains_45 : decode cX4_rankGains 45 = .ok (.aload_n 1, 1) := by decide +kernel
theorem dX4_rankGains_46 : decode cX4_rankGains 46 = .ok (.getfield 179, 3) := by decide +kernel
theorem dX4_rankGains_49 : decode cX4_rankGains 49 = .ok (.aload_n 0, 1) := by decide +kernel
theorem dX4_rankGains_50 : decode cX4_rankGains 50 = .ok (.getfield 172, 3) := by decide +kernel
theorem dX4_rankGains_53 : decode cX4_rankGains 53 = .ok (.invokevirtual 182, 3) := by decide +kernel
theorem dX4_rankGains_56 : decode cX4_rankGains 56 = .ok (.invokestatic 320, 3) := by decide +kernel
theorem dX4_rankGains_59 : decode cX4_rankGains 59 = .ok (.iinc 2 1, 3) := by decide +kernel
theorem dX4_rankGains_62 : decode cX4_rankGains 62 = .ok (.goto (-52), 3) := by decide +kernel
theorem dX4_rankGains_65 : decode cX4_rankGains 65 = .ok (.return_, 1) := by decide +kernel
set_option maxRecDepth 20000 in
theorem ggX4_rankLosses_J7_fill_53178 : GoodIn wsX4_rankLosses wsJ7_fill_53178 := goodIn_r _ [8] (by decide +kernel) (by decide +kernel)
set_option maxRecDepth 20000 in
theorem gX4_rankLosses_J7_fill_53178 : GoodIn wsX4_rankLosses (va_wsS RX4 314 yJ7_fill_53178 wsJ7_fill_53178) := goodIn_app (goodIn_of _ (by decide +kernel)) ggX4_rankLosses_J7_fill_53178
set_option maxRecDepth 20000 in
theorem ggX4_rankLosses_X3_pullFor : GoodIn wsX4_rankLosses wsX3_pullFor := goodIn_r _ [13, 14, 15, 16, 17, 18, 19, 20, 21, 22, 23, 24, 25, 26, 27, 28, 57, 58, 59, 60, 61, 62, 63, 64, 65, 66, 67] (by decide +kernel) (by decide +kernel)
set_option maxRecDepth 20000 in
theorem gX4_rankLosses_X3_pullFor : GoodIn wsX4_rankLosses (wsV RX4 301 RX3 yX3_pullFor wsX3_pullFor) := goodIn_app (goodIn_of _ (by decide +kernel)) ggX4_rankLosses_X3_pullFor
set_option maxRecDepth 20000 in
theorem ggX4_rankLosses_X4_rank : GoodIn wsX4_rankLosses wsX4_rank := goodIn_ca (goodIn_r _ [32] (by decide +kernel) (by decide +kernel)) (goodIn_sub (fun _ h => List.mem_cons_of_mem _ (List.mem_append_right _ h)) (by decide +kernel))
set_option maxRecDepth 20000 in
theorem gX4_rankLosses_X4_rank : GoodIn wsX4_rankLosses (va_wsS RX4 320 yX4_rank wsX4_rank) := goodIn_app (goodIn_of _ (by decide +kernel)) ggX4_rankLosses_X4_rank
theorem dX4_rankLosses_0 : decode cX4_rankLosses 0 = .ok (.aload_n 0, 1) := by decide +kernel
theorem dX4_rankLosses_1 : decode cX4_rankLosses 1 = .ok (.getfield 23, 3) := by decide +kernel
theorem dX4_rankLosses_4 : decode cX4_rankLosses 4 = .ok (.sipush (-1000), 3) := by decide +kernel
theorem dX4_rankLosses_7 : decode cX4_rankLosses 7 = .ok (.invokestatic 314, 3) := by decide +kernel
theorem dX4_rankLosses_10 : decode cX4_rankLosses 10 = .ok (.aload_n 1, 1) := by decide +kernel
theorem dX4_rankLosses_11 : decode cX4_rankLosses 11 = .ok (.getfield 242, 3) := by decide +kernel
theorem dX4_rankLosses_14 : decode cX4_rankLosses 14 = .ok (.astore_n 2, 1) := by decide +kernel
theorem dX4_rankLosses_15 : decode cX4_rankLosses 15 = .ok (.aload_n 2, 1) := by decide +kernel
theorem dX4_rankLosses_16 : decode cX4_rankLosses 16 = .ok (.arraylength, 1) := by decide +kernel
theorem dX4_rankLosses_17 : decode cX4_rankLosses 17 = .ok (.istore_n 3, 1) := by decide +kernel
theorem dX4_rankLosses_18 : decode cX4_rankLosses 18 = .ok (.iconst 0, 1) := by decide +kernel
theorem dX4_rankLosses_19 : decode cX4_rankLosses 19 = .ok (.istore 4, 2) := by decide +kernel
theorem dX4_rankLosses_21 : decode cX4_rankLosses 21 = .ok (.iload 4, 2) := by decide +kernel
theorem dX4_rankLosses_23 : decode cX4_rankLosses 23 = .ok (.iload_n 3, 1) := by decide +kernel
theorem dX4_rankLosses_24 : decode cX4_rankLosses 24 = .ok (.if_icmp .ge 36, 3) := by decide +kernel
theorem dX4_rankLosses_27 : decode cX4_rankLosses 27 = .ok (.aload_n 2, 1) := by decide +kernel
theorem dX4_rankLosses_28 : decode cX4_rankLosses 28 = .ok (.iload 4, 2) := by decide +kernel
theorem dX4_rankLosses_30 : decode cX4_rankLosses 30 = .ok (.aaload, 1) := by decide +kernel
theorem dX4_rankLosses_31 : decode cX4_rankLosses 31 = .ok (.astore 5, 2) := by decide +kernel
theorem dX4_rankLosses_33 : decode cX4_rankLosses 33 = .ok (.aload_n 0, 1) := by decide +kernel
theorem dX4_rankLosses_34 : decode cX4_rankLosses 34 = .ok (.getfield 23, 3) := by decide +kernel
theorem dX4_rankLosses_37 : decode cX4_rankLosses 37 = .ok (.aload 5, 2) := by decide +kernel
theorem dX4_rankLosses_39 : decode cX4_rankLosses 39 = .ok (.aload_n 1, 1) := by decide +kernel
theorem dX4_rankLosses_40 : decode cX4_rankLosses 40 = .ok (.getfield 179, 3) := by decide +kernel
theorem dX4_rankLosses_43 : decode cX4_rankLosses 43 = .ok (.aload_n 0, 1) := by decide +kernel
theorem dX4_rankLosses_44 : decode cX4_rankLosses 44 = .ok (.getfield 172, 3) := by decide +kernel
theorem dX4_rankLosses_47 : decode cX4_rankLosses 47 = .ok (.invokevirtual 301, 3) := by decide +kernel
theorem dX4_rankLosses_50 : decode cX4_rankLosses 50 = .ok (.ineg, 1) := by decide +kernel
theorem dX4_rankLosses_51 : decode cX4_rankLosses 51 = .ok (.invokestatic 320, 3) := by decide +kernel
theorem dX4_rankLosses_54 : decode cX4_rankLosses 54 = .ok (.iinc 4 1, 3) := by decide +kernel
theorem dX4_rankLosses_57 : decode cX4_rankLosses 57 = .ok (.goto (-36), 3) := by decide +kernel
theorem dX4_rankLosses_60 : decode cX4_rankLosses 60 = .ok (.return_, 1) := by decide +kernel
theorem dX4_rank_0 : decode cX4_rank 0 = .ok (.iload_n 1, 1) := by decide +kernel
theorem dX4_rank_1 : decode cX4_rank 1 = .ok (.istore_n 2, 1) := by decide +kernel
theorem dX4_rank_2 : decode cX4_rank 2 = .ok (.iconst 0, 1) := by decide +kernel
theorem dX4_rank_3 : decode cX4_rank 3 = .ok (.istore_n 3, 1) := by decide +kernel
theorem dX4_rank_4 : decode cX4_rank 4 = .ok (.iload_n 3, 1) := by decide +kernel
theorem dX4_rank_5 : decode cX4_rank 5 = .ok (.aload_n 0, 1) := by decide +kernel
theorem dX4_rank_6 : decode cX4_rank 6 = .ok (.arraylength, 1) := by decide +kernel
theorem dX4_rank_7 : decode cX4_rank 7 = .ok (.if_icmp .ge 28, 3) := by decide +kernel
theorem dX4_rank_10 : decode cX4_rank 10 = .ok (.iload_n 2, 1) := by decide +kernel
theorem dX4_rank_11 : decode cX4_rank 11 = .ok (.aload_n 0, 1) := by decide +kernel
theorem dX4_rank_12 : decode cX4_rank 12 = .ok (.iload_n 3, 1) := by decide +kernel
theorem dX4_rank_13 : decode cX4_rank 13 = .ok (.iaload, 1) := by decide +kernel
theorem dX4_rank_14 : decode cX4_rank 14 = .ok (.if_icmp .le 15, 3) := by decide +kernel
theorem dX4_rank_17 : decode cX4_rank 17 = .ok (.aload_n 0, 1) := by decide +kernel
theorem dX4_rank_18 : decode cX4_rank 18 = .ok (.iload_n 3, 1) := by decide +kernel
theorem dX4_rank_19 : decode cX4_rank 19 = .ok (.iaload, 1) := by decide +kernel
theorem dX4_rank_20 : decode cX4_rank 20 = .ok (.istore 4, 2) := by decide +kernel
theorem dX4_rank_22 : decode cX4_rank 22 = .ok (.aload_n 0, 1) := by decide +kernel
theorem dX4_rank_23 : decode cX4_rank 23 = .ok (.iload_n 3, 1) := by decide +kernel
theorem dX4_rank_24 : decode cX4_rank 24 = .ok (.iload_n 2, 1) := by decide +kernel
theorem dX4_rank_25 : decode cX4_rank 25 = .ok (.iastore, 1) := by decide +kernel
theorem dX4_rank_26 : decode cX4_rank 26 = .ok (.iload 4, 2) := by decide +kernel
theorem dX4_rank_28 : decode cX4_rank 28 = .ok (.istore_n 2, 1) := by decide +kernel
theorem dX4_rank_29 : decode cX4_rank 29 = .ok (.iinc 3 1, 3) := by decide +kernel
theorem dX4_rank_32 : decode cX4_rank 32 = .ok (.goto (-28), 3) := by decide +kernel
theorem dX4_rank_35 : decode cX4_rank 35 = .ok (.return_, 1) := by decide +kernel
set_option maxRecDepth 20000 in
theorem ggX4_hasNoDiscTwice_Jx4a65c_size_8abf5 : GoodIn wsX4_hasNoDiscTwice wsJx4a65c_size_8abf5 := goodIn_r _ [7, 8, 44, 45, 46] (by decide +kernel) (by decide +kernel)
set_option maxRecDepth 20000 in
theorem gX4_hasNoDiscTwice_Jx4a65c_size_8abf5 : GoodIn wsX4_hasNoDiscTwice (wsV RX4 44 RJx4a65c yJx4a65c_size_8abf5 wsJx4a65c_size_8abf5) := goodIn_app (goodIn_of _ (by decide +kernel)) ggX4_hasNoDiscTwice_Jx4a65c_size_8abf5
set_option maxRecDepth 20000 in
theorem ggX4_hasNoDiscTwice_Jx4a65c_get_915e3 : GoodIn wsX4_hasNoDiscTwice wsJx4a65c_get_915e3 := goodIn_r _ [12, 8, 13, 14, 15, 16, 17, 18, 19, 20, 21, 22, 23, 6, 24, 25, 44, 45, 46] (by decide +kernel) (by decide +kernel)
set_option maxRecDepth 20000 in
theorem gX4_hasNoDiscTwice_Jx4a65c_get_915e3 : GoodIn wsX4_hasNoDiscTwice (wsV RX4 188 RJx4a65c yJx4a65c_get_915e3 wsJx4a65c_get_915e3) := goodIn_app (goodIn_of _ (by decide +kernel)) ggX4_hasNoDiscTwice_Jx4a65c_get_915e3
set_option maxRecDepth 20000 in
theorem ggX4_hasNoDiscTwice_X4_countSlotsWith : GoodIn wsX4_hasNoDiscTwice wsX4_countSlotsWith := goodIn_r _ [30, 31, 32, 33, 34, 3, 4, 5, 6, 7, 8, 9, 10, 11, 12, 13, 14, 15, 16, 17, 18, 19, 20, 21, 22, 23, 24, 25, 35, 36, 37, 38, 39, 40, 41, 42, 43, 47, 48, 49, 50, 51, 52, 53, 54, 55, 56, 57, 58, 59, 60, 61, 62, 63, 64, 44, 45, 46] (by decide +kernel) (by decide +kernel)
set_option maxRecDepth 20000 in
theorem gX4_hasNoDiscTwice_X4_countSlotsWith : GoodIn wsX4_hasNoDiscTwice (wsV RX4 323 RX4 yX4_countSlotsWith wsX4_countSlotsWith) := goodIn_app (goodIn_of _ (by decide +kernel)) ggX4_hasNoDiscTwice_X4_countSlotsWith
theorem dX4_hasNoDiscTwice_0 : decode cX4_hasNoDiscTwice 0 = .ok (.iconst 0, 1) := by decide +kernel
theorem dX4_hasNoDiscTwice_1 : decode cX4_hasNoDiscTwice 1 = .ok (.istore_n 1, 1) := by decide +kernel
theorem dX4_hasNoDiscTwice_2 : decode cX4_hasNoDiscTwice 2 = .ok (.iload_n 1, 1) := by decide +kernel
theorem dX4_hasNoDiscTwice_3 : decode cX4_hasNoDiscTwice 3 = .ok (.aload_n 0, 1) := by decide +kernel
theorem dX4_hasNoDiscTwice_4 : decode cX4_hasNoDiscTwice 4 = .ok (.getfield 10, 3) := by decide +kernel
theorem dX4_hasNoDiscTwice_7 : decode cX4_hasNoDiscTwice 7 = .ok (.invokevirtual 44, 3) := by decide +kernel
theorem dX4_hasNoDiscTwice_10 : decode cX4_hasNoDiscTwice 10 = .ok (.if_icmp .ge 30, 3) := by decide +kernel
theorem dX4_hasNoDiscTwice_13 : decode cX4_hasNoDiscTwice 13 = .ok (.aload_n 0, 1) := by decide +kernel
theorem dX4_hasNoDiscTwice_14 : decode cX4_hasNoDiscTwice 14 = .ok (.aload_n 0, 1) := by decide +kernel
theorem dX4_hasNoDiscTwice_15 : decode cX4_hasNoDiscTwice 15 = .ok (.getfield 10, 3) := by decide +kernel
theorem dX4_hasNoDiscTwice_18 : decode cX4_hasNoDiscTwice 18 = .ok (.iload_n 1, 1) := by decide +kernel
theorem dX4_hasNoDiscTwice_19 : decode cX4_hasNoDiscTwice 19 = .ok (.invokevirtual 188, 3) := by decide +kernel
theorem dX4_hasNoDiscTwice_22 : decode cX4_hasNoDiscTwice 22 = .ok (.checkcast 53, 3) := by decide +kernel
theorem dX4_hasNoDiscTwice_25 : decode cX4_hasNoDiscTwice 25 = .ok (.invokevirtual 323, 3) := by decide +kernel
theorem dX4_hasNoDiscTwice_28 : decode cX4_hasNoDiscTwice 28 = .ok (.iconst 1, 1) := by decide +kernel
theorem dX4_hasNoDiscTwice_29 : decode cX4_hasNoDiscTwice 29 = .ok (.if_icmp .le 5, 3) := by decide +kernel
theorem dX4_hasNoDiscTwice_32 : decode cX4_hasNoDiscTwice 32 = .ok (.iconst 0, 1) := by decide +kernel
theorem dX4_hasNoDiscTwice_33 : decode cX4_hasNoDiscTwice 33 = .ok (.ireturn, 1) := by decide +kernel
theorem dX4_hasNoDiscTwice_34 : decode cX4_hasNoDiscTwice 34 = .ok (.iinc 1 1, 3) := by decide +kernel
theorem dX4_hasNoDiscTwice_37 : decode cX4_hasNoDiscTwice 37 = .ok (.goto (-35), 3) := by decide +kernel
theorem dX4_hasNoDiscTwice_40 : decode cX4_hasNoDiscTwice 40 = .ok (.iconst 1, 1) := by decide +kernel
theorem dX4_hasNoDiscTwice_41 : decode cX4_hasNoDiscTwice 41 = .ok (.ireturn, 1) := by decide +kernel
set_option maxRecDepth 20000 in
theorem ggX4_countSlotsWith_Jx4a65c_size_8abf5 : GoodIn wsX4_countSlotsWith wsJx4a65c_size_8abf5 := goodIn_r _ [9, 10, 55, 56, 57] (by decide +kernel) (by decide +kernel)
set_option maxRecDepth 20000 in
theorem gX4_countSlotsWith_Jx4a65c_size_8abf5 : GoodIn wsX4_countSlotsWith (wsV RX4 44 RJx4a65c yJx4a65c_size_8abf5 wsJx4a65c_size_8abf5) := goodIn_app (goodIn_of _ (by decide +kernel)) ggX4_countSlotsWith_Jx4a65c_size_8abf5
set_option maxRecDepth 20000 in
theorem ggX4_countSlotsWith_Jx4a65c_get_915e3 : GoodIn wsX4_countSlotsWith wsJx4a65c_get_915e3 := goodIn_r _ [14, 10, 15, 16, 17, 18, 19, 20, 21, 22, 23, 24, 25, 8, 26, 27, 55, 56, 57] (by decide +kernel) (by decide +kernel)
set_option maxRecDepth 20000 in
theorem gX4_countSlotsWith_Jx4a65c_get_915e3 : GoodIn wsX4_countSlotsWith (wsV RX4 188 RJx4a65c yJx4a65c_get_915e3 wsJx4a65c_get_915e3) := goodIn_app (goodIn_of _ (by decide +kernel)) ggX4_countSlotsWith_Jx4a65c_get_915e3
theorem dX4_countSlotsWith_0 : decode cX4_countSlotsWith 0 = .ok (.iconst 0, 1) := by decide +kernel
theorem dX4_countSlotsWith_1 : decode cX4_countSlotsWith 1 = .ok (.istore_n 2, 1) := by decide +kernel
theorem dX4_countSlotsWith_2 : decode cX4_countSlotsWith 2 = .ok (.iconst 0, 1) := by decide +kernel
theorem dX4_countSlotsWith_3 : decode cX4_countSlotsWith 3 = .ok (.istore_n 3, 1) := by decide +kernel
theorem dX4_countSlotsWith_4 : decode cX4_countSlotsWith 4 = .ok (.iload_n 3, 1) := by decide +kernel
theorem dX4_countSlotsWith_5 : decode cX4_countSlotsWith 5 = .ok (.aload_n 0, 1) := by decide +kernel
theorem dX4_countSlotsWith_6 : decode cX4_countSlotsWith 6 = .ok (.getfield 16, 3) := by decide +kernel
theorem dX4_countSlotsWith_9 : decode cX4_countSlotsWith 9 = .ok (.invokevirtual 44, 3) := by decide +kernel
theorem dX4_countSlotsWith_12 : decode cX4_countSlotsWith 12 = .ok (.if_icmp .ge 70, 3) := by decide +kernel
theorem dX4_countSlotsWith_15 : decode cX4_countSlotsWith 15 = .ok (.aload_n 0, 1) := by decide +kernel
theorem dX4_countSlotsWith_16 : decode cX4_countSlotsWith 16 = .ok (.getfield 16, 3) := by decide +kernel
theorem dX4_countSlotsWith_19 : decode cX4_countSlotsWith 19 = .ok (.iload_n 3, 1) := by decide +kernel
theorem dX4_countSlotsWith_20 : decode cX4_countSlotsWith 20 = .ok (.invokevirtual 188, 3) := by decide +kernel
theorem dX4_countSlotsWith_23 : decode cX4_countSlotsWith 23 = .ok (.checkcast 69, 3) := by decide +kernel
theorem dX4_countSlotsWith_26 : decode cX4_countSlotsWith 26 = .ok (.getfield 242, 3) := by decide +kernel
theorem dX4_countSlotsWith_29 : decode cX4_countSlotsWith 29 = .ok (.astore 4, 2) := by decide +kernel
theorem dX4_countSlotsWith_31 : decode cX4_countSlotsWith 31 = .ok (.aload 4, 2) := by decide +kernel
theorem dX4_countSlotsWith_33 : decode cX4_countSlotsWith 33 = .ok (.arraylength, 1) := by decide +kernel
theorem dX4_countSlotsWith_34 : decode cX4_countSlotsWith 34 = .ok (.istore 5, 2) := by decide +kernel
theorem dX4_countSlotsWith_36 : decode cX4_countSlotsWith 36 = .ok (.iconst 0, 1) := by decide +kernel
theorem dX4_countSlotsWith_37 : decode cX4_countSlotsWith 37 = .ok (.istore 6, 2) := by decide +kernel
theorem dX4_countSlotsWith_39 : decode cX4_countSlotsWith 39 = .ok (.iload 6, 2) := by decide +kernel
theorem dX4_countSlotsWith_41 : decode cX4_countSlotsWith 41 = .ok (.iload 5, 2) := by decide +kernel
theorem dX4_countSlotsWith_43 : decode cX4_countSlotsWith 43 = .ok (.if_icmp .ge 33, 3) := by decide +kernel
theorem dX4_countSlotsWith_46 : decode cX4_countSlotsWith 46 = .ok (.aload 4, 2) := by decide +kernel
theorem dX4_countSlotsWith_48 : decode cX4_countSlotsWith 48 = .ok (.iload 6, 2) := by decide +kernel
theorem dX4_countSlotsWith_50 : decode cX4_countSlotsWith 50 = .ok (.aaload, 1) := by decide +kernel
theorem dX4_countSlotsWith_51 : decode cX4_countSlotsWith 51 = .ok (.astore 7, 2) := by decide +kernel
theorem dX4_countSlotsWith_53 : decode cX4_countSlotsWith 53 = .ok (.iload_n 2, 1) := by decide +kernel
theorem dX4_countSlotsWith_54 : decode cX4_countSlotsWith 54 = .ok (.aload 7, 2) := by decide +kernel
theorem dX4_countSlotsWith_56 : decode cX4_countSlotsWith 56 = .ok (.getfield 118, 3) := by decide +kernel
theorem dX4_countSlotsWith_59 : decode cX4_countSlotsWith 59 = .ok (.aload_n 1, 1) := by decide +kernel
theorem dX4_countSlotsWith_60 : decode cX4_countSlotsWith 60 = .ok (.if_acmp .ne 7, 3) := by decide +kernel
theorem dX4_countSlotsWith_63 : decode cX4_countSlotsWith 63 = .ok (.iconst 1, 1) := by decide +kernel
theorem dX4_countSlotsWith_64 : decode cX4_countSlotsWith 64 = .ok (.goto 4, 3) := by decide +kernel
theorem dX4_countSlotsWith_67 : decode cX4_countSlotsWith 67 = .ok (.iconst 0, 1) := by decide +kernel
theorem dX4_countSlotsWith_68 : decode cX4_countSlotsWith 68 = .ok (.iadd, 1) := by decide +kernel
theorem dX4_countSlotsWith_69 : decode cX4_countSlotsWith 69 = .ok (.istore_n 2, 1) := by decide +kernel
theorem dX4_countSlotsWith_70 : decode cX4_countSlotsWith 70 = .ok (.iinc 6 1, 3) := by decide +kernel
theorem dX4_countSlotsWith_73 : decode cX4_countSlotsWith 73 = .ok (.goto (-34), 3) := by decide +kernel
theorem dX4_countSlotsWith_76 : decode cX4_countSlotsWith 76 = .ok (.iinc 3 1, 3) := by decide +kernel
theorem dX4_countSlotsWith_79 : decode cX4_countSlotsWith 79 = .ok (.goto (-75), 3) := by decide +kernel
theorem dX4_countSlotsWith_82 : decode cX4_countSlotsWith 82 = .ok (.iload_n 2, 1) := by decide +kernel
theorem dX4_countSlotsWith_83 : decode cX4_countSlotsWith 83 = .ok (.ireturn, 1) := by decide +kernel
set_option maxRecDepth 20000 in
theorem ggX4_hasNoLongQueue_Jx4a65c_size_8abf5 : GoodIn wsX4_hasNoLongQueue wsJx4a65c_size_8abf5 := goodIn_r _ [8, 9, 51, 52, 53] (by decide +kernel) (by decide +kernel)
set_option maxRecDepth 20000 in
theorem gX4_hasNoLongQueue_Jx4a65c_size_8abf5 : GoodIn wsX4_hasNoLongQueue (wsV RX4 44 RJx4a65c yJx4a65c_size_8abf5 wsJx4a65c_size_8abf5) := goodIn_app (goodIn_of _ (by decide +kernel)) ggX4_hasNoLongQueue_Jx4a65c_size_8abf5
set_option maxRecDepth 20000 in
theorem ggX4_hasNoLongQueue_Jx4a65c_get_915e3 : GoodIn wsX4_hasNoLongQueue wsJx4a65c_get_915e3 := goodIn_r _ [13, 9, 14, 15, 16, 17, 18, 19, 20, 21, 22, 23, 24, 7, 25, 26, 51, 52, 53] (by decide +kernel) (by decide +kernel)
set_option maxRecDepth 20000 in
theorem gX4_hasNoLongQueue_Jx4a65c_get_915e3 : GoodIn wsX4_hasNoLongQueue (wsV RX4 188 RJx4a65c yJx4a65c_get_915e3 wsJx4a65c_get_915e3) := goodIn_app (goodIn_of _ (by decide +kernel)) ggX4_hasNoLongQueue_Jx4a65c_get_915e3
theorem dX4_hasNoLongQueue_0 : decode cX4_hasNoLongQueue 0 = .ok (.iconst 0, 1) := by decide +kernel
theorem dX4_hasNoLongQueue_1 : decode cX4_hasNoLongQueue 1 = .ok (.istore_n 1, 1) := by decide +kernel
theorem dX4_hasNoLongQueue_2 : decode cX4_hasNoLongQueue 2 = .ok (.iload_n 1, 1) := by decide +kernel
theorem dX4_hasNoLongQueue_3 : decode cX4_hasNoLongQueue 3 = .ok (.aload_n 0, 1) := by decide +kernel
theorem dX4_hasNoLongQueue_4 : decode cX4_hasNoLongQueue 4 = .ok (.getfield 16, 3) := by decide +kernel
theorem dX4_hasNoLongQueue_7 : decode cX4_hasNoLongQueue 7 = .ok (.invokevirtual 44, 3) := by decide +kernel
theorem dX4_hasNoLongQueue_10 : decode cX4_hasNoLongQueue 10 = .ok (.if_icmp .ge 33, 3) := by decide +kernel
theorem dX4_hasNoLongQueue_13 : decode cX4_hasNoLongQueue 13 = .ok (.aload_n 0, 1) := by decide +kernel
theorem dX4_hasNoLongQueue_14 : decode cX4_hasNoLongQueue 14 = .ok (.getfield 16, 3) := by decide +kernel
theorem dX4_hasNoLongQueue_17 : decode cX4_hasNoLongQueue 17 = .ok (.iload_n 1, 1) := by decide +kernel
theorem dX4_hasNoLongQueue_18 : decode cX4_hasNoLongQueue 18 = .ok (.invokevirtual 188, 3) := by decide +kernel
theorem dX4_hasNoLongQueue_21 : decode cX4_hasNoLongQueue 21 = .ok (.checkcast 69, 3) := by decide +kernel
theorem dX4_hasNoLongQueue_24 : decode cX4_hasNoLongQueue 24 = .ok (.getfield 126, 3) := by decide +kernel
theorem dX4_hasNoLongQueue_27 : decode cX4_hasNoLongQueue 27 = .ok (.invokevirtual 44, 3) := by decide +kernel
theorem dX4_hasNoLongQueue_30 : decode cX4_hasNoLongQueue 30 = .ok (.bipush 8, 2) := by decide +kernel
theorem dX4_hasNoLongQueue_32 : decode cX4_hasNoLongQueue 32 = .ok (.if_icmp .le 5, 3) := by decide +kernel
theorem dX4_hasNoLongQueue_35 : decode cX4_hasNoLongQueue 35 = .ok (.iconst 0, 1) := by decide +kernel
theorem dX4_hasNoLongQueue_36 : decode cX4_hasNoLongQueue 36 = .ok (.ireturn, 1) := by decide +kernel
theorem dX4_hasNoLongQueue_37 : decode cX4_hasNoLongQueue 37 = .ok (.iinc 1 1, 3) := by decide +kernel
theorem dX4_hasNoLongQueue_40 : decode cX4_hasNoLongQueue 40 = .ok (.goto (-38), 3) := by decide +kernel
theorem dX4_hasNoLongQueue_43 : decode cX4_hasNoLongQueue 43 = .ok (.iconst 1, 1) := by decide +kernel
theorem dX4_hasNoLongQueue_44 : decode cX4_hasNoLongQueue 44 = .ok (.ireturn, 1) := by decide +kernel
set_option maxRecDepth 20000 in
theorem ggX4_hasAllCents_Jx4a65c_size_8abf5 : GoodIn wsX4_hasAllCents wsJx4a65c_size_8abf5 := goodIn_r _ [10, 11, 53, 54, 55] (by decide +kernel) (by decide +kernel)
set_option maxRecDepth 20000 in
theorem gX4_hasAllCents_Jx4a65c_size_8abf5 : GoodIn wsX4_hasAllCents (wsV RX4 44 RJx4a65c yJx4a65c_size_8abf5 wsJx4a65c_size_8abf5) := goodIn_app (goodIn_of _ (by decide +kernel)) ggX4_hasAllCents_Jx4a65c_size_8abf5
set_option maxRecDepth 20000 in
theorem ggX4_hasAllCents_Jx4a65c_get_915e3 : GoodIn wsX4_hasAllCents wsJx4a65c_get_915e3 := goodIn_r _ [15, 11, 16, 17, 18, 19, 20, 21, 22, 23, 24, 25, 26, 9, 27, 28, 53, 54, 55] (by decide +kernel) (by decide +kernel)
set_option maxRecDepth 20000 in
theorem gX4_hasAllCents_Jx4a65c_get_915e3 : GoodIn wsX4_hasAllCents (wsV RX4 188 RJx4a65c yJx4a65c_get_915e3 wsJx4a65c_get_915e3) := goodIn_app (goodIn_of _ (by decide +kernel)) ggX4_hasAllCents_Jx4a65c_get_915e3
theorem dX4_hasAllCents_0 : decode cX4_hasAllCents 0 = .ok (.aload_n 0, 1) := by decide +kernel
theorem dX4_hasAllCents_1 : decode cX4_hasAllCents 1 = .ok (.getfield 211, 3) := by decide +kernel
theorem dX4_hasAllCents_4 : decode cX4_hasAllCents 4 = .ok (.istore_n 1, 1) := by decide +kernel
theorem dX4_hasAllCents_5 : decode cX4_hasAllCents 5 = .ok (.iconst 0, 1) := by decide +kernel
theorem dX4_hasAllCents_6 : decode cX4_hasAllCents 6 = .ok (.istore_n 2, 1) := by decide +kernel
theorem dX4_hasAllCents_7 : decode cX4_hasAllCents 7 = .ok (.iload_n 2, 1) := by decide +kernel
theorem dX4_hasAllCents_8 : decode cX4_hasAllCents 8 = .ok (.aload_n 0, 1) := by decide +kernel
theorem dX4_hasAllCents_9 : decode cX4_hasAllCents 9 = .ok (.getfield 16, 3) := by decide +kernel
theorem dX4_hasAllCents_12 : decode cX4_hasAllCents 12 = .ok (.invokevirtual 44, 3) := by decide +kernel
theorem dX4_hasAllCents_15 : decode cX4_hasAllCents 15 = .ok (.if_icmp .ge 26, 3) := by decide +kernel
theorem dX4_hasAllCents_18 : decode cX4_hasAllCents 18 = .ok (.iload_n 1, 1) := by decide +kernel
theorem dX4_hasAllCents_19 : decode cX4_hasAllCents 19 = .ok (.aload_n 0, 1) := by decide +kernel
theorem dX4_hasAllCents_20 : decode cX4_hasAllCents 20 = .ok (.getfield 16, 3) := by decide +kernel
theorem dX4_hasAllCents_23 : decode cX4_hasAllCents 23 = .ok (.iload_n 2, 1) := by decide +kernel
theorem dX4_hasAllCents_24 : decode cX4_hasAllCents 24 = .ok (.invokevirtual 188, 3) := by decide +kernel
theorem dX4_hasAllCents_27 : decode cX4_hasAllCents 27 = .ok (.checkcast 69, 3) := by decide +kernel
theorem dX4_hasAllCents_30 : decode cX4_hasAllCents 30 = .ok (.getfield 217, 3) := by decide +kernel
theorem dX4_hasAllCents_33 : decode cX4_hasAllCents 33 = .ok (.iadd, 1) := by decide +kernel
theorem dX4_hasAllCents_34 : decode cX4_hasAllCents 34 = .ok (.istore_n 1, 1) := by decide +kernel
theorem dX4_hasAllCents_35 : decode cX4_hasAllCents 35 = .ok (.iinc 2 1, 3) := by decide +kernel
theorem dX4_hasAllCents_38 : decode cX4_hasAllCents 38 = .ok (.goto (-31), 3) := by decide +kernel
theorem dX4_hasAllCents_41 : decode cX4_hasAllCents 41 = .ok (.iload_n 1, 1) := by decide +kernel
theorem dX4_hasAllCents_42 : decode cX4_hasAllCents 42 = .ok (.aload_n 0, 1) := by decide +kernel
theorem dX4_hasAllCents_43 : decode cX4_hasAllCents 43 = .ok (.getfield 208, 3) := by decide +kernel
theorem dX4_hasAllCents_46 : decode cX4_hasAllCents 46 = .ok (.if_icmp .ne 7, 3) := by decide +kernel
theorem dX4_hasAllCents_49 : decode cX4_hasAllCents 49 = .ok (.iconst 1, 1) := by decide +kernel
theorem dX4_hasAllCents_50 : decode cX4_hasAllCents 50 = .ok (.goto 4, 3) := by decide +kernel
theorem dX4_hasAllCents_53 : decode cX4_hasAllCents 53 = .ok (.iconst 0, 1) := by decide +kernel
theorem dX4_hasAllCents_54 : decode cX4_hasAllCents 54 = .ok (.ireturn, 1) := by decide +kernel
set_option maxRecDepth 20000 in
theorem ggX4_hasNoBetterChange_Jx4a65c_size_8abf5 : GoodIn wsX4_hasNoBetterChange wsJx4a65c_size_8abf5 := goodIn_r _ [8, 9, 112, 113, 114] (by decide +kernel) (by decide +kernel)
set_option maxRecDepth 20000 in
theorem gX4_hasNoBetterChange_Jx4a65c_size_8abf5 : GoodIn wsX4_hasNoBetterChange (wsV RX4 44 RJx4a65c yJx4a65c_size_8abf5 wsJx4a65c_size_8abf5) := goodIn_app (goodIn_of _ (by decide +kernel)) ggX4_hasNoBetterChange_Jx4a65c_size_8abf5
set_option maxRecDepth 20000 in
theorem ggX4_hasNoBetterChange_Jx4a65c_get_915e3 : GoodIn wsX4_hasNoBetterChange wsJx4a65c_get_915e3 := goodIn_r _ [13, 9, 14, 15, 16, 17, 18, 19, 20, 21, 22, 23, 24, 7, 25, 26, 112, 113, 114] (by decide +kernel) (by decide +kernel)
set_option maxRecDepth 20000 in
theorem gX4_hasNoBetterChange_Jx4a65c_get_915e3 : GoodIn wsX4_hasNoBetterChange (wsV RX4 188 RJx4a65c yJx4a65c_get_915e3 wsJx4a65c_get_915e3) := goodIn_app (goodIn_of _ (by decide +kernel)) ggX4_hasNoBetterChange_Jx4a65c_get_915e3
set_option maxRecDepth 20000 in
theorem ggX4_hasNoBetterChange_X4_gainByBest : GoodIn wsX4_hasNoBetterChange wsX4_gainByBest := goodIn_ca (goodIn_r _ [31, 32, 33, 34, 35, 36, 37, 38, 39, 40, 30, 41, 42, 43, 44, 45, 46, 47, 48, 49, 4, 5, 6, 7, 8, 9, 10, 11, 12, 13, 14, 15, 16, 17, 18, 19, 20, 21, 22, 23, 24, 25, 26, 50, 51, 52, 53, 54, 55, 56, 57, 58, 59, 60, 61, 62, 63, 64, 65, 66, 67, 68, 69, 70, 71, 72, 3, 73, 74, 75, 76, 77, 78, 79, 88, 89, 90, 91, 92, 93, 94, 95, 96, 97, 98, 99, 100, 101, 102, 103, 104, 105, 106, 107, 108, 109, 110, 111, 112, 113, 114, 115, 116, 117, 118, 119, 120, 121, 122, 123, 124, 125] (by decide +kernel) (by decide +kernel)) (goodIn_sub (fun _ h => List.mem_cons_of_mem _ (List.mem_append_right _ h)) (by decide +kernel))
set_option maxRecDepth 20000 in
theorem gX4_hasNoBetterChange_X4_gainByBest : GoodIn wsX4_hasNoBetterChange (wsV RX4 255 RX4 yX4_gainByBest wsX4_gainByBest) := goodIn_app (goodIn_of _ (by decide +kernel)) ggX4_hasNoBetterChange_X4_gainByBest
set_option maxRecDepth 20000 in
theorem ggX4_hasNoBetterChange_X4_isBeatenIn : GoodIn wsX4_hasNoBetterChange wsX4_isBeatenIn := goodIn_r _ [83, 42, 43, 4, 5, 6, 7, 8, 9, 10, 11, 12, 13, 14, 15, 16, 17, 18, 19, 20, 21, 22, 23, 24, 25, 26, 50, 51, 52, 53, 54, 55, 56, 84, 85, 86, 30, 87, 44, 45, 57, 58, 59, 60, 61, 62, 63, 35, 36, 37, 64, 65, 73, 74, 75, 76, 77, 78, 79, 88, 89, 90, 91, 92, 93, 94, 95, 96, 112, 113, 114, 115, 116, 117, 118, 119, 120, 121, 122, 97, 98, 99, 100, 101, 102, 103, 104, 105, 106, 107, 108, 109, 110, 111, 123, 124, 125] (by decide +kernel) (by decide +kernel)
set_option maxRecDepth 20000 in
theorem gX4_hasNoBetterChange_X4_isBeatenIn : GoodIn wsX4_hasNoBetterChange (wsV RX4 327 RX4 yX4_isBeatenIn wsX4_isBeatenIn) := goodIn_app (goodIn_of _ (by decide +kernel)) ggX4_hasNoBetterChange_X4_isBeatenIn
theorem dX4_hasNoBetterChange_0 : decode cX4_hasNoBetterChange 0 = .ok (.iconst 0, 1) := by decide +kernel
theorem dX4_hasNoBetterChange_1 : decode cX4_hasNoBetterChange 1 = .ok (.istore_n 1, 1) := by decide +kernel
theorem dX4_hasNoBetterChange_2 : decode cX4_hasNoBetterChange 2 = .ok (.iload_n 1, 1) := by decide +kernel
theorem dX4_hasNoBetterChange_3 : decode cX4_hasNoBetterChange 3 = .ok (.aload_n 0, 1) := by decide +kernel
theorem dX4_hasNoBetterChange_4 : decode cX4_hasNoBetterChange 4 = .ok (.getfield 16, 3) := by decide +kernel
theorem dX4_hasNoBetterChange_7 : decode cX4_hasNoBetterChange 7 = .ok (.invokevirtual 44, 3) := by decide +kernel
theorem dX4_hasNoBetterChange_10 : decode cX4_hasNoBetterChange 10 = .ok (.if_icmp .ge 75, 3) := by decide +kernel
theorem dX4_hasNoBetterChange_13 : decode cX4_hasNoBetterChange 13 = .ok (.aload_n 0, 1) := by decide +kernel
theorem dX4_hasNoBetterChange_14 : decode cX4_hasNoBetterChange 14 = .ok (.getfield 16, 3) := by decide +kernel
theorem dX4_hasNoBetterChange_17 : decode cX4_hasNoBetterChange 17 = .ok (.iload_n 1, 1) := by decide +kernel
theorem dX4_hasNoBetterChange_18 : decode cX4_hasNoBetterChange 18 = .ok (.invokevirtual 188, 3) := by decide +kernel
theorem dX4_hasNoBetterChange_21 : decode cX4_hasNoBetterChange 21 = .ok (.checkcast 69, 3) := by decide +kernel
theorem dX4_hasNoBetterChange_24 : decode cX4_hasNoBetterChange 24 = .ok (.astore_n 2, 1) := by decide +kernel
theorem dX4_hasNoBetterChange_25 : decode cX4_hasNoBetterChange 25 = .ok (.aload_n 0, 1) := by decide +kernel
theorem dX4_hasNoBetterChange_26 : decode cX4_hasNoBetterChange 26 = .ok (.aload_n 2, 1) := by decide +kernel
theorem dX4_hasNoBetterChange_27 : decode cX4_hasNoBetterChange 27 = .ok (.iconst 1, 1) := by decide +kernel
theorem dX4_hasNoBetterChange_28 : decode cX4_hasNoBetterChange 28 = .ok (.invokevirtual 255, 3) := by decide +kernel
theorem dX4_hasNoBetterChange_31 : decode cX4_hasNoBetterChange 31 = .ok (.istore_n 3, 1) := by decide +kernel
theorem dX4_hasNoBetterChange_32 : decode cX4_hasNoBetterChange 32 = .ok (.aload_n 2, 1) := by decide +kernel
theorem dX4_hasNoBetterChange_33 : decode cX4_hasNoBetterChange 33 = .ok (.getfield 242, 3) := by decide +kernel
theorem dX4_hasNoBetterChange_36 : decode cX4_hasNoBetterChange 36 = .ok (.astore 4, 2) := by decide +kernel
theorem dX4_hasNoBetterChange_38 : decode cX4_hasNoBetterChange 38 = .ok (.aload 4, 2) := by decide +kernel
theorem dX4_hasNoBetterChange_40 : decode cX4_hasNoBetterChange 40 = .ok (.arraylength, 1) := by decide +kernel
theorem dX4_hasNoBetterChange_41 : decode cX4_hasNoBetterChange 41 = .ok (.istore 5, 2) := by decide +kernel
theorem dX4_hasNoBetterChange_43 : decode cX4_hasNoBetterChange 43 = .ok (.iconst 0, 1) := by decide +kernel
theorem dX4_hasNoBetterChange_44 : decode cX4_hasNoBetterChange 44 = .ok (.istore 6, 2) := by decide +kernel
theorem dX4_hasNoBetterChange_46 : decode cX4_hasNoBetterChange 46 = .ok (.iload 6, 2) := by decide +kernel
theorem dX4_hasNoBetterChange_48 : decode cX4_hasNoBetterChange 48 = .ok (.iload 5, 2) := by decide +kernel
theorem dX4_hasNoBetterChange_50 : decode cX4_hasNoBetterChange 50 = .ok (.if_icmp .ge 29, 3) := by decide +kernel
theorem dX4_hasNoBetterChange_53 : decode cX4_hasNoBetterChange 53 = .ok (.aload 4, 2) := by decide +kernel
theorem dX4_hasNoBetterChange_55 : decode cX4_hasNoBetterChange 55 = .ok (.iload 6, 2) := by decide +kernel
theorem dX4_hasNoBetterChange_57 : decode cX4_hasNoBetterChange 57 = .ok (.aaload, 1) := by decide +kernel
theorem dX4_hasNoBetterChange_58 : decode cX4_hasNoBetterChange 58 = .ok (.astore 7, 2) := by decide +kernel
theorem dX4_hasNoBetterChange_60 : decode cX4_hasNoBetterChange 60 = .ok (.aload_n 0, 1) := by decide +kernel
theorem dX4_hasNoBetterChange_61 : decode cX4_hasNoBetterChange 61 = .ok (.aload_n 2, 1) := by decide +kernel
theorem dX4_hasNoBetterChange_62 : decode cX4_hasNoBetterChange 62 = .ok (.aload 7, 2) := by decide +kernel
theorem dX4_hasNoBetterChange_64 : decode cX4_hasNoBetterChange 64 = .ok (.iload_n 3, 1) := by decide +kernel
theorem dX4_hasNoBetterChange_65 : decode cX4_hasNoBetterChange 65 = .ok (.invokevirtual 327, 3) := by decide +kernel
theorem dX4_hasNoBetterChange_68 : decode cX4_hasNoBetterChange 68 = .ok (.ifCond .eq 5, 3) := by decide +kernel
theorem dX4_hasNoBetterChange_71 : decode cX4_hasNoBetterChange 71 = .ok (.iconst 0, 1) := by decide +kernel
theorem dX4_hasNoBetterChange_72 : decode cX4_hasNoBetterChange 72 = .ok (.ireturn, 1) := by decide +kernel
theorem dX4_hasNoBetterChange_73 : decode cX4_hasNoBetterChange 73 = .ok (.iinc 6 1, 3) := by decide +kernel
theorem dX4_hasNoBetterChange_76 : decode cX4_hasNoBetterChange 76 = .ok (.goto (-30), 3) := by decide +kernel
theorem dX4_hasNoBetterChange_79 : decode cX4_hasNoBetterChange 79 = .ok (.iinc 1 1, 3) := by decide +kernel
theorem dX4_hasNoBetterChange_82 : decode cX4_hasNoBetterChange 82 = .ok (.goto (-80), 3) := by decide +kernel
theorem dX4_hasNoBetterChange_85 : decode cX4_hasNoBetterChange 85 = .ok (.iconst 1, 1) := by decide +kernel
theorem dX4_hasNoBetterChange_86 : decode cX4_hasNoBetterChange 86 = .ok (.ireturn, 1) := by decide +kernel
set_option maxRecDepth 20000 in
theorem ggX4_isBeatenIn_Jx4a65c_size_8abf5 : GoodIn wsX4_isBeatenIn wsJx4a65c_size_8abf5 := goodIn_r _ [7, 8, 68, 69, 70] (by decide +kernel) (by decide +kernel)
set_option maxRecDepth 20000 in
theorem gX4_isBeatenIn_Jx4a65c_size_8abf5 : GoodIn wsX4_isBeatenIn (wsV RX4 44 RJx4a65c yJx4a65c_size_8abf5 wsJx4a65c_size_8abf5) := goodIn_app (goodIn_of _ (by decide +kernel)) ggX4_isBeatenIn_Jx4a65c_size_8abf5
set_option maxRecDepth 20000 in
theorem ggX4_isBeatenIn_Jx4a65c_get_915e3 : GoodIn wsX4_isBeatenIn wsJx4a65c_get_915e3 := goodIn_r _ [12, 8, 13, 14, 15, 16, 17, 18, 19, 20, 21, 22, 23, 6, 24, 25, 68, 69, 70] (by decide +kernel) (by decide +kernel)
set_option maxRecDepth 20000 in
theorem gX4_isBeatenIn_Jx4a65c_get_915e3 : GoodIn wsX4_isBeatenIn (wsV RX4 188 RJx4a65c yJx4a65c_get_915e3 wsJx4a65c_get_915e3) := goodIn_app (goodIn_of _ (by decide +kernel)) ggX4_isBeatenIn_Jx4a65c_get_915e3
set_option maxRecDepth 20000 in
theorem ggX4_isBeatenIn_X2_isInVan : GoodIn wsX4_isBeatenIn wsX2_isInVan := goodIn_r _ [30, 31, 32, 71, 72, 73, 74, 75, 76, 77, 78] (by decide +kernel) (by decide +kernel)
set_option maxRecDepth 20000 in
theorem gX4_isBeatenIn_X2_isInVan : GoodIn wsX4_isBeatenIn (wsV RX4 220 RX2 yX2_isInVan wsX2_isInVan) := goodIn_app (goodIn_of _ (by decide +kernel)) ggX4_isBeatenIn_X2_isInVan
set_option maxRecDepth 20000 in
theorem ggX4_isBeatenIn_X4_gainBy : GoodIn wsX4_isBeatenIn wsX4_gainBy := goodIn_r _ [37, 38, 39, 40, 41, 42, 29, 43, 31, 44, 45, 46, 47, 48, 49, 50, 51, 52, 53, 54, 55, 56, 57, 58, 79, 80, 81, 82, 83, 84, 85, 86, 87, 88, 89, 90, 91, 92, 93, 59, 60, 61, 62, 63, 64, 65, 66, 67, 71, 72, 73, 74, 75, 76, 77, 78, 94, 95, 96] (by decide +kernel) (by decide +kernel)
set_option maxRecDepth 20000 in
theorem gX4_isBeatenIn_X4_gainBy : GoodIn wsX4_isBeatenIn (wsV RX4 249 RX4 yX4_gainBy wsX4_gainBy) := goodIn_app (goodIn_of _ (by decide +kernel)) ggX4_isBeatenIn_X4_gainBy
theorem dX4_isBeatenIn_0 : decode cX4_isBeatenIn 0 = .ok (.iconst 0, 1) := by decide +kernel
theorem dX4_isBeatenIn_1 : decode cX4_isBeatenIn 1 = .ok (.istore 4, 2) := by decide +kernel
theorem dX4_isBeatenIn_3 : decode cX4_isBeatenIn 3 = .ok (.iload 4, 2) := by decide +kernel
theorem dX4_isBeatenIn_5 : decode cX4_isBeatenIn 5 = .ok (.aload_n 0, 1) := by decide +kernel
theorem dX4_isBeatenIn_6 : decode cX4_isBeatenIn 6 = .ok (.getfield 10, 3) := by decide +kernel
theorem dX4_isBeatenIn_9 : decode cX4_isBeatenIn 9 = .ok (.invokevirtual 44, 3) := by decide +kernel
theorem dX4_isBeatenIn_12 : decode cX4_isBeatenIn 12 = .ok (.if_icmp .ge 45, 3) := by decide +kernel
theorem dX4_isBeatenIn_15 : decode cX4_isBeatenIn 15 = .ok (.aload_n 0, 1) := by decide +kernel
theorem dX4_isBeatenIn_16 : decode cX4_isBeatenIn 16 = .ok (.getfield 10, 3) := by decide +kernel
theorem dX4_isBeatenIn_19 : decode cX4_isBeatenIn 19 = .ok (.iload 4, 2) := by decide +kernel
theorem dX4_isBeatenIn_21 : decode cX4_isBeatenIn 21 = .ok (.invokevirtual 188, 3) := by decide +kernel
theorem dX4_isBeatenIn_24 : decode cX4_isBeatenIn 24 = .ok (.checkcast 53, 3) := by decide +kernel
theorem dX4_isBeatenIn_27 : decode cX4_isBeatenIn 27 = .ok (.astore 5, 2) := by decide +kernel
theorem dX4_isBeatenIn_29 : decode cX4_isBeatenIn 29 = .ok (.aload 5, 2) := by decide +kernel
theorem dX4_isBeatenIn_31 : decode cX4_isBeatenIn 31 = .ok (.invokevirtual 220, 3) := by decide +kernel
theorem dX4_isBeatenIn_34 : decode cX4_isBeatenIn 34 = .ok (.ifCond .eq 17, 3) := by decide +kernel
theorem dX4_isBeatenIn_37 : decode cX4_isBeatenIn 37 = .ok (.aload_n 0, 1) := by decide +kernel
theorem dX4_isBeatenIn_38 : decode cX4_isBeatenIn 38 = .ok (.aload_n 1, 1) := by decide +kernel
theorem dX4_isBeatenIn_39 : decode cX4_isBeatenIn 39 = .ok (.aload_n 2, 1) := by decide +kernel
theorem dX4_isBeatenIn_40 : decode cX4_isBeatenIn 40 = .ok (.aload 5, 2) := by decide +kernel
theorem dX4_isBeatenIn_42 : decode cX4_isBeatenIn 42 = .ok (.invokevirtual 249, 3) := by decide +kernel
theorem dX4_isBeatenIn_45 : decode cX4_isBeatenIn 45 = .ok (.iload_n 3, 1) := by decide +kernel
theorem dX4_isBeatenIn_46 : decode cX4_isBeatenIn 46 = .ok (.if_icmp .le 5, 3) := by decide +kernel
theorem dX4_isBeatenIn_49 : decode cX4_isBeatenIn 49 = .ok (.iconst 1, 1) := by decide +kernel
theorem dX4_isBeatenIn_50 : decode cX4_isBeatenIn 50 = .ok (.ireturn, 1) := by decide +kernel
theorem dX4_isBeatenIn_51 : decode cX4_isBeatenIn 51 = .ok (.iinc 4 1, 3) := by decide +kernel
theorem dX4_isBeatenIn_54 : decode cX4_isBeatenIn 54 = .ok (.goto (-51), 3) := by decide +kernel
theorem dX4_isBeatenIn_57 : decode cX4_isBeatenIn 57 = .ok (.iconst 0, 1) := by decide +kernel
theorem dX4_isBeatenIn_58 : decode cX4_isBeatenIn 58 = .ok (.ireturn, 1) := by decide +kernel
