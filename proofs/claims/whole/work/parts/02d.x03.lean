set_option maxRecDepth 20000 in
theorem ggX0_init_Jx4a65c_init_da8c8 : GoodIn wsX0_init wsJx4a65c_init_da8c8 := goodIn_r _ [20, 21, 22, 23, 24, 25, 26, 27, 28, 29, 30, 31, 32, 2, 3, 53, 54, 55] (by decide +kernel) (by decide +kernel)
set_option maxRecDepth 20000 in
theorem gX0_init_Jx4a65c_init_da8c8 : GoodIn wsX0_init (wsJx4a65c_init_da8c8) := ggX0_init_Jx4a65c_init_da8c8
set_option maxRecDepth 20000 in
theorem ggX0_init_X3_init : GoodIn wsX0_init wsX3_init := goodIn_r _ [35, 36, 2, 3, 37, 56, 57, 58] (by decide +kernel) (by decide +kernel)
set_option maxRecDepth 20000 in
theorem gX0_init_X3_init : GoodIn wsX0_init (wsX3_init) := ggX0_init_X3_init
theorem dX0_init_0 : decode cX0_init 0 = .ok (.aload_n 0, 1) := by decide +kernel
theorem dX0_init_1 : decode cX0_init 1 = .ok (.invokespecial 3, 3) := by decide +kernel
theorem dX0_init_4 : decode cX0_init 4 = .ok (.aload_n 0, 1) := by decide +kernel
theorem dX0_init_5 : decode cX0_init 5 = .ok (.bipush 10, 2) := by decide +kernel
theorem dX0_init_7 : decode cX0_init 7 = .ok (.anewarray 9, 3) := by decide +kernel
theorem dX0_init_10 : decode cX0_init 10 = .ok (.putfield 11, 3) := by decide +kernel
theorem dX0_init_13 : decode cX0_init 13 = .ok (.aload_n 0, 1) := by decide +kernel
theorem dX0_init_14 : decode cX0_init 14 = .ok (.new 17, 3) := by decide +kernel
theorem dX0_init_17 : decode cX0_init 17 = .ok (.dup, 1) := by decide +kernel
theorem dX0_init_18 : decode cX0_init 18 = .ok (.invokespecial 19, 3) := by decide +kernel
theorem dX0_init_21 : decode cX0_init 21 = .ok (.putfield 20, 3) := by decide +kernel
theorem dX0_init_24 : decode cX0_init 24 = .ok (.aload_n 0, 1) := by decide +kernel
theorem dX0_init_25 : decode cX0_init 25 = .ok (.bipush 100, 2) := by decide +kernel
theorem dX0_init_27 : decode cX0_init 27 = .ok (.newarray .int, 2) := by decide +kernel
theorem dX0_init_29 : decode cX0_init 29 = .ok (.putfield 24, 3) := by decide +kernel
theorem dX0_init_32 : decode cX0_init 32 = .ok (.aload_n 0, 1) := by decide +kernel
theorem dX0_init_33 : decode cX0_init 33 = .ok (.iconst (-1), 1) := by decide +kernel
theorem dX0_init_34 : decode cX0_init 34 = .ok (.putfield 28, 3) := by decide +kernel
theorem dX0_init_37 : decode cX0_init 37 = .ok (.aload_n 0, 1) := by decide +kernel
theorem dX0_init_38 : decode cX0_init 38 = .ok (.iload_n 1, 1) := by decide +kernel
theorem dX0_init_39 : decode cX0_init 39 = .ok (.putfield 32, 3) := by decide +kernel
theorem dX0_init_42 : decode cX0_init 42 = .ok (.aload_n 0, 1) := by decide +kernel
theorem dX0_init_43 : decode cX0_init 43 = .ok (.iload_n 2, 1) := by decide +kernel
theorem dX0_init_44 : decode cX0_init 44 = .ok (.putfield 35, 3) := by decide +kernel
theorem dX0_init_47 : decode cX0_init 47 = .ok (.aload_n 0, 1) := by decide +kernel
theorem dX0_init_48 : decode cX0_init 48 = .ok (.iload_n 3, 1) := by decide +kernel
theorem dX0_init_49 : decode cX0_init 49 = .ok (.putfield 38, 3) := by decide +kernel
theorem dX0_init_52 : decode cX0_init 52 = .ok (.iconst 0, 1) := by decide +kernel
theorem dX0_init_53 : decode cX0_init 53 = .ok (.istore 4, 2) := by decide +kernel
theorem dX0_init_55 : decode cX0_init 55 = .ok (.iload 4, 2) := by decide +kernel
theorem dX0_init_57 : decode cX0_init 57 = .ok (.aload_n 0, 1) := by decide +kernel
theorem dX0_init_58 : decode cX0_init 58 = .ok (.getfield 11, 3) := by decide +kernel
theorem dX0_init_61 : decode cX0_init 61 = .ok (.arraylength, 1) := by decide +kernel
theorem dX0_init_62 : decode cX0_init 62 = .ok (.if_icmp .ge 25, 3) := by decide +kernel
theorem dX0_init_65 : decode cX0_init 65 = .ok (.aload_n 0, 1) := by decide +kernel
theorem dX0_init_66 : decode cX0_init 66 = .ok (.getfield 11, 3) := by decide +kernel
theorem dX0_init_69 : decode cX0_init 69 = .ok (.iload 4, 2) := by decide +kernel
theorem dX0_init_71 : decode cX0_init 71 = .ok (.new 9, 3) := by decide +kernel
theorem dX0_init_74 : decode cX0_init 74 = .ok (.dup, 1) := by decide +kernel
theorem dX0_init_75 : decode cX0_init 75 = .ok (.iload 4, 2) := by decide +kernel
theorem dX0_init_77 : decode cX0_init 77 = .ok (.invokespecial 41, 3) := by decide +kernel
theorem dX0_init_80 : decode cX0_init 80 = .ok (.aastore, 1) := by decide +kernel
theorem dX0_init_81 : decode cX0_init 81 = .ok (.iinc 4 1, 3) := by decide +kernel
theorem dX0_init_84 : decode cX0_init 84 = .ok (.goto (-29), 3) := by decide +kernel
theorem dX0_init_87 : decode cX0_init 87 = .ok (.return_, 1) := by decide +kernel
set_option maxRecDepth 20000 in
theorem ggX0_playNext_Jx4a65c_isEmpty_aae02 : GoodIn wsX0_playNext wsJx4a65c_isEmpty_aae02 := goodIn_r _ [9, 10, 67, 68, 69] (by decide +kernel) (by decide +kernel)
set_option maxRecDepth 20000 in
theorem gX0_playNext_Jx4a65c_isEmpty_aae02 : GoodIn wsX0_playNext (wsV RX0 44 RJx4a65c yJx4a65c_isEmpty_aae02 wsJx4a65c_isEmpty_aae02) := goodIn_app (goodIn_of _ (by decide +kernel)) ggX0_playNext_Jx4a65c_isEmpty_aae02
set_option maxRecDepth 20000 in
theorem ggX0_playNext_Jx4a65c_remove_915e3 : GoodIn wsX0_playNext wsJx4a65c_remove_915e3 := goodIn_r _ [14, 10, 15, 16, 17, 18, 19, 20, 21, 22, 23, 24, 25, 26, 8, 27, 28, 29, 30, 31, 32, 33, 67, 68, 69] (by decide +kernel) (by decide +kernel)
set_option maxRecDepth 20000 in
theorem gX0_playNext_Jx4a65c_remove_915e3 : GoodIn wsX0_playNext (wsV RX0 48 RJx4a65c yJx4a65c_remove_915e3 wsJx4a65c_remove_915e3) := goodIn_app (goodIn_of _ (by decide +kernel)) ggX0_playNext_Jx4a65c_remove_915e3
set_option maxRecDepth 20000 in
theorem ggX0_playNext_X2_isWorn : GoodIn wsX0_playNext wsX2_isWorn := goodIn_r _ [38, 39, 70, 71, 72, 73, 74, 75, 76, 77] (by decide +kernel) (by decide +kernel)
set_option maxRecDepth 20000 in
theorem gX0_playNext_X2_isWorn : GoodIn wsX0_playNext (wsV RX0 56 RX2 yX2_isWorn wsX2_isWorn) := goodIn_app (goodIn_of _ (by decide +kernel)) ggX0_playNext_X2_isWorn
set_option maxRecDepth 20000 in
theorem ggX0_playNext_X0_playDisc : GoodIn wsX0_playNext wsX0_playDisc := goodIn_r _ [44, 45, 46, 47, 48, 64, 65, 66, 70, 71, 72, 73, 74, 75, 76, 77, 49, 50, 51, 52, 53, 54, 55, 56, 57, 58, 59, 60, 61, 62, 63] (by decide +kernel) (by decide +kernel)
set_option maxRecDepth 20000 in
theorem gX0_playNext_X0_playDisc : GoodIn wsX0_playNext (wsV RX0 64 RX0 yX0_playDisc wsX0_playDisc) := goodIn_app (goodIn_of _ (by decide +kernel)) ggX0_playNext_X0_playDisc
theorem dX0_playNext_0 : decode cX0_playNext 0 = .ok (.aload_n 0, 1) := by decide +kernel
theorem dX0_playNext_1 : decode cX0_playNext 1 = .ok (.getfield 20, 3) := by decide +kernel
theorem dX0_playNext_4 : decode cX0_playNext 4 = .ok (.invokevirtual 44, 3) := by decide +kernel
theorem dX0_playNext_7 : decode cX0_playNext 7 = .ok (.ifCond .eq 5, 3) := by decide +kernel
theorem dX0_playNext_10 : decode cX0_playNext 10 = .ok (.iconst 0, 1) := by decide +kernel
theorem dX0_playNext_11 : decode cX0_playNext 11 = .ok (.ireturn, 1) := by decide +kernel
theorem dX0_playNext_12 : decode cX0_playNext 12 = .ok (.aload_n 0, 1) := by decide +kernel
theorem dX0_playNext_13 : decode cX0_playNext 13 = .ok (.getfield 20, 3) := by decide +kernel
theorem dX0_playNext_16 : decode cX0_playNext 16 = .ok (.iconst 0, 1) := by decide +kernel
theorem dX0_playNext_17 : decode cX0_playNext 17 = .ok (.invokevirtual 48, 3) := by decide +kernel
theorem dX0_playNext_20 : decode cX0_playNext 20 = .ok (.checkcast 9, 3) := by decide +kernel
theorem dX0_playNext_23 : decode cX0_playNext 23 = .ok (.astore_n 1, 1) := by decide +kernel
theorem dX0_playNext_24 : decode cX0_playNext 24 = .ok (.aload_n 1, 1) := by decide +kernel
theorem dX0_playNext_25 : decode cX0_playNext 25 = .ok (.getfield 52, 3) := by decide +kernel
theorem dX0_playNext_28 : decode cX0_playNext 28 = .ok (.ifnull 13, 3) := by decide +kernel
theorem dX0_playNext_31 : decode cX0_playNext 31 = .ok (.aload_n 1, 1) := by decide +kernel
theorem dX0_playNext_32 : decode cX0_playNext 32 = .ok (.getfield 52, 3) := by decide +kernel
theorem dX0_playNext_35 : decode cX0_playNext 35 = .ok (.invokevirtual 56, 3) := by decide +kernel
theorem dX0_playNext_38 : decode cX0_playNext 38 = .ok (.ifCond .eq 15, 3) := by decide +kernel
theorem dX0_playNext_41 : decode cX0_playNext 41 = .ok (.aload_n 0, 1) := by decide +kernel
theorem dX0_playNext_42 : decode cX0_playNext 42 = .ok (.dup, 1) := by decide +kernel
theorem dX0_playNext_43 : decode cX0_playNext 43 = .ok (.getfield 61, 3) := by decide +kernel
theorem dX0_playNext_46 : decode cX0_playNext 46 = .ok (.iconst 1, 1) := by decide +kernel
theorem dX0_playNext_47 : decode cX0_playNext 47 = .ok (.iadd, 1) := by decide +kernel
theorem dX0_playNext_48 : decode cX0_playNext 48 = .ok (.putfield 61, 3) := by decide +kernel
theorem dX0_playNext_51 : decode cX0_playNext 51 = .ok (.iconst 0, 1) := by decide +kernel
theorem dX0_playNext_52 : decode cX0_playNext 52 = .ok (.ireturn, 1) := by decide +kernel
theorem dX0_playNext_53 : decode cX0_playNext 53 = .ok (.aload_n 0, 1) := by decide +kernel
theorem dX0_playNext_54 : decode cX0_playNext 54 = .ok (.aload_n 1, 1) := by decide +kernel
theorem dX0_playNext_55 : decode cX0_playNext 55 = .ok (.aload_n 1, 1) := by decide +kernel
theorem dX0_playNext_56 : decode cX0_playNext 56 = .ok (.getfield 52, 3) := by decide +kernel
theorem dX0_playNext_59 : decode cX0_playNext 59 = .ok (.iconst 1, 1) := by decide +kernel
theorem dX0_playNext_60 : decode cX0_playNext 60 = .ok (.invokevirtual 64, 3) := by decide +kernel
theorem dX0_playNext_63 : decode cX0_playNext 63 = .ok (.iconst 1, 1) := by decide +kernel
theorem dX0_playNext_64 : decode cX0_playNext 64 = .ok (.ireturn, 1) := by decide +kernel
set_option maxRecDepth 20000 in
theorem ggX0_letGuestsPlay_X2_isWorn : GoodIn wsX0_letGuestsPlay wsX2_isWorn := goodIn_r _ [9, 10, 50, 51, 52, 53, 54, 55, 56, 57] (by decide +kernel) (by decide +kernel)
set_option maxRecDepth 20000 in
theorem gX0_letGuestsPlay_X2_isWorn : GoodIn wsX0_letGuestsPlay (wsV RX0 56 RX2 yX2_isWorn wsX2_isWorn) := goodIn_app (goodIn_of _ (by decide +kernel)) ggX0_letGuestsPlay_X2_isWorn
set_option maxRecDepth 20000 in
theorem ggX0_letGuestsPlay_X2_pullFor : GoodIn wsX0_letGuestsPlay wsX2_pullFor := goodIn_r _ [14, 15, 16, 17, 18, 19, 20, 21, 22, 10, 50, 51, 52, 53, 54, 55, 56, 57] (by decide +kernel) (by decide +kernel)
set_option maxRecDepth 20000 in
theorem gX0_letGuestsPlay_X2_pullFor : GoodIn wsX0_letGuestsPlay (wsV RX0 68 RX2 yX2_pullFor wsX2_pullFor) := goodIn_app (goodIn_of _ (by decide +kernel)) ggX0_letGuestsPlay_X2_pullFor
set_option maxRecDepth 20000 in
theorem ggX0_letGuestsPlay_X0_playDisc : GoodIn wsX0_letGuestsPlay wsX0_playDisc := goodIn_r _ [27, 28, 29, 30, 31, 47, 48, 49, 50, 51, 52, 53, 54, 55, 56, 57, 32, 33, 34, 35, 36, 37, 38, 39, 40, 41, 42, 43, 44, 45, 46] (by decide +kernel) (by decide +kernel)
set_option maxRecDepth 20000 in
theorem gX0_letGuestsPlay_X0_playDisc : GoodIn wsX0_letGuestsPlay (wsV RX0 64 RX0 yX0_playDisc wsX0_playDisc) := goodIn_app (goodIn_of _ (by decide +kernel)) ggX0_letGuestsPlay_X0_playDisc
theorem dX0_letGuestsPlay_0 : decode cX0_letGuestsPlay 0 = .ok (.aload_n 0, 1) := by decide +kernel
theorem dX0_letGuestsPlay_1 : decode cX0_letGuestsPlay 1 = .ok (.getfield 11, 3) := by decide +kernel
theorem dX0_letGuestsPlay_4 : decode cX0_letGuestsPlay 4 = .ok (.astore_n 2, 1) := by decide +kernel
theorem dX0_letGuestsPlay_5 : decode cX0_letGuestsPlay 5 = .ok (.aload_n 2, 1) := by decide +kernel
theorem dX0_letGuestsPlay_6 : decode cX0_letGuestsPlay 6 = .ok (.arraylength, 1) := by decide +kernel
theorem dX0_letGuestsPlay_7 : decode cX0_letGuestsPlay 7 = .ok (.istore_n 3, 1) := by decide +kernel
theorem dX0_letGuestsPlay_8 : decode cX0_letGuestsPlay 8 = .ok (.iconst 0, 1) := by decide +kernel
theorem dX0_letGuestsPlay_9 : decode cX0_letGuestsPlay 9 = .ok (.istore 4, 2) := by decide +kernel
theorem dX0_letGuestsPlay_11 : decode cX0_letGuestsPlay 11 = .ok (.iload 4, 2) := by decide +kernel
theorem dX0_letGuestsPlay_13 : decode cX0_letGuestsPlay 13 = .ok (.iload_n 3, 1) := by decide +kernel
theorem dX0_letGuestsPlay_14 : decode cX0_letGuestsPlay 14 = .ok (.if_icmp .ge 73, 3) := by decide +kernel
theorem dX0_letGuestsPlay_17 : decode cX0_letGuestsPlay 17 = .ok (.aload_n 2, 1) := by decide +kernel
theorem dX0_letGuestsPlay_18 : decode cX0_letGuestsPlay 18 = .ok (.iload 4, 2) := by decide +kernel
theorem dX0_letGuestsPlay_20 : decode cX0_letGuestsPlay 20 = .ok (.aaload, 1) := by decide +kernel
theorem dX0_letGuestsPlay_21 : decode cX0_letGuestsPlay 21 = .ok (.astore 5, 2) := by decide +kernel
theorem dX0_letGuestsPlay_23 : decode cX0_letGuestsPlay 23 = .ok (.aload 5, 2) := by decide +kernel
theorem dX0_letGuestsPlay_25 : decode cX0_letGuestsPlay 25 = .ok (.getfield 52, 3) := by decide +kernel
theorem dX0_letGuestsPlay_28 : decode cX0_letGuestsPlay 28 = .ok (.astore 6, 2) := by decide +kernel
theorem dX0_letGuestsPlay_30 : decode cX0_letGuestsPlay 30 = .ok (.aload 6, 2) := by decide +kernel
theorem dX0_letGuestsPlay_32 : decode cX0_letGuestsPlay 32 = .ok (.ifnull 49, 3) := by decide +kernel
theorem dX0_letGuestsPlay_35 : decode cX0_letGuestsPlay 35 = .ok (.aload 6, 2) := by decide +kernel
theorem dX0_letGuestsPlay_37 : decode cX0_letGuestsPlay 37 = .ok (.invokevirtual 56, 3) := by decide +kernel
theorem dX0_letGuestsPlay_40 : decode cX0_letGuestsPlay 40 = .ok (.ifCond .ne 41, 3) := by decide +kernel
theorem dX0_letGuestsPlay_43 : decode cX0_letGuestsPlay 43 = .ok (.aload 6, 2) := by decide +kernel
theorem dX0_letGuestsPlay_45 : decode cX0_letGuestsPlay 45 = .ok (.aload_n 0, 1) := by decide +kernel
theorem dX0_letGuestsPlay_46 : decode cX0_letGuestsPlay 46 = .ok (.getfield 38, 3) := by decide +kernel
theorem dX0_letGuestsPlay_49 : decode cX0_letGuestsPlay 49 = .ok (.iload_n 1, 1) := by decide +kernel
theorem dX0_letGuestsPlay_50 : decode cX0_letGuestsPlay 50 = .ok (.invokevirtual 68, 3) := by decide +kernel
theorem dX0_letGuestsPlay_53 : decode cX0_letGuestsPlay 53 = .ok (.bipush 8, 2) := by decide +kernel
theorem dX0_letGuestsPlay_55 : decode cX0_letGuestsPlay 55 = .ok (.idiv, 1) := by decide +kernel
theorem dX0_letGuestsPlay_56 : decode cX0_letGuestsPlay 56 = .ok (.istore 7, 2) := by decide +kernel
theorem dX0_letGuestsPlay_58 : decode cX0_letGuestsPlay 58 = .ok (.aload_n 0, 1) := by decide +kernel
theorem dX0_letGuestsPlay_59 : decode cX0_letGuestsPlay 59 = .ok (.dup, 1) := by decide +kernel
theorem dX0_letGuestsPlay_60 : decode cX0_letGuestsPlay 60 = .ok (.getfield 72, 3) := by decide +kernel
theorem dX0_letGuestsPlay_63 : decode cX0_letGuestsPlay 63 = .ok (.iconst 5, 1) := by decide +kernel
theorem dX0_letGuestsPlay_64 : decode cX0_letGuestsPlay 64 = .ok (.iload 7, 2) := by decide +kernel
theorem dX0_letGuestsPlay_66 : decode cX0_letGuestsPlay 66 = .ok (.imul, 1) := by decide +kernel
theorem dX0_letGuestsPlay_67 : decode cX0_letGuestsPlay 67 = .ok (.iadd, 1) := by decide +kernel
theorem dX0_letGuestsPlay_68 : decode cX0_letGuestsPlay 68 = .ok (.putfield 72, 3) := by decide +kernel
theorem dX0_letGuestsPlay_71 : decode cX0_letGuestsPlay 71 = .ok (.aload_n 0, 1) := by decide +kernel
theorem dX0_letGuestsPlay_72 : decode cX0_letGuestsPlay 72 = .ok (.aload 5, 2) := by decide +kernel
theorem dX0_letGuestsPlay_74 : decode cX0_letGuestsPlay 74 = .ok (.aload 6, 2) := by decide +kernel
theorem dX0_letGuestsPlay_76 : decode cX0_letGuestsPlay 76 = .ok (.iload 7, 2) := by decide +kernel
theorem dX0_letGuestsPlay_78 : decode cX0_letGuestsPlay 78 = .ok (.invokevirtual 64, 3) := by decide +kernel
theorem dX0_letGuestsPlay_81 : decode cX0_letGuestsPlay 81 = .ok (.iinc 4 1, 3) := by decide +kernel
theorem dX0_letGuestsPlay_84 : decode cX0_letGuestsPlay 84 = .ok (.goto (-73), 3) := by decide +kernel
theorem dX0_letGuestsPlay_87 : decode cX0_letGuestsPlay 87 = .ok (.return_, 1) := by decide +kernel
theorem dX0_playDisc_0 : decode cX0_playDisc 0 = .ok (.aload_n 1, 1) := by decide +kernel
theorem dX0_playDisc_1 : decode cX0_playDisc 1 = .ok (.dup, 1) := by decide +kernel
theorem dX0_playDisc_2 : decode cX0_playDisc 2 = .ok (.getfield 75, 3) := by decide +kernel
theorem dX0_playDisc_5 : decode cX0_playDisc 5 = .ok (.iload_n 3, 1) := by decide +kernel
theorem dX0_playDisc_6 : decode cX0_playDisc 6 = .ok (.iadd, 1) := by decide +kernel
theorem dX0_playDisc_7 : decode cX0_playDisc 7 = .ok (.putfield 75, 3) := by decide +kernel
theorem dX0_playDisc_10 : decode cX0_playDisc 10 = .ok (.aload_n 2, 1) := by decide +kernel
theorem dX0_playDisc_11 : decode cX0_playDisc 11 = .ok (.dup, 1) := by decide +kernel
theorem dX0_playDisc_12 : decode cX0_playDisc 12 = .ok (.getfield 78, 3) := by decide +kernel
theorem dX0_playDisc_15 : decode cX0_playDisc 15 = .ok (.iload_n 3, 1) := by decide +kernel
theorem dX0_playDisc_16 : decode cX0_playDisc 16 = .ok (.iconst 1, 1) := by decide +kernel
theorem dX0_playDisc_17 : decode cX0_playDisc 17 = .ok (.aload_n 0, 1) := by decide +kernel
theorem dX0_playDisc_18 : decode cX0_playDisc 18 = .ok (.getfield 81, 3) := by decide +kernel
theorem dX0_playDisc_21 : decode cX0_playDisc 21 = .ok (.bipush 40, 2) := by decide +kernel
theorem dX0_playDisc_23 : decode cX0_playDisc 23 = .ok (.idiv, 1) := by decide +kernel
theorem dX0_playDisc_24 : decode cX0_playDisc 24 = .ok (.iadd, 1) := by decide +kernel
theorem dX0_playDisc_25 : decode cX0_playDisc 25 = .ok (.imul, 1) := by decide +kernel
theorem dX0_playDisc_26 : decode cX0_playDisc 26 = .ok (.iadd, 1) := by decide +kernel
theorem dX0_playDisc_27 : decode cX0_playDisc 27 = .ok (.putfield 78, 3) := by decide +kernel
theorem dX0_playDisc_30 : decode cX0_playDisc 30 = .ok (.aload_n 0, 1) := by decide +kernel
theorem dX0_playDisc_31 : decode cX0_playDisc 31 = .ok (.dup, 1) := by decide +kernel
theorem dX0_playDisc_32 : decode cX0_playDisc 32 = .ok (.getfield 81, 3) := by decide +kernel
theorem dX0_playDisc_35 : decode cX0_playDisc 35 = .ok (.iload_n 3, 1) := by decide +kernel
theorem dX0_playDisc_36 : decode cX0_playDisc 36 = .ok (.iadd, 1) := by decide +kernel
theorem dX0_playDisc_37 : decode cX0_playDisc 37 = .ok (.putfield 81, 3) := by decide +kernel
theorem dX0_playDisc_40 : decode cX0_playDisc 40 = .ok (.aload_n 0, 1) := by decide +kernel
theorem dX0_playDisc_41 : decode cX0_playDisc 41 = .ok (.dup, 1) := by decide +kernel
theorem dX0_playDisc_42 : decode cX0_playDisc 42 = .ok (.getfield 84, 3) := by decide +kernel
theorem dX0_playDisc_45 : decode cX0_playDisc 45 = .ok (.iload_n 3, 1) := by decide +kernel
theorem dX0_playDisc_46 : decode cX0_playDisc 46 = .ok (.iadd, 1) := by decide +kernel
theorem dX0_playDisc_47 : decode cX0_playDisc 47 = .ok (.putfield 84, 3) := by decide +kernel
theorem dX0_playDisc_50 : decode cX0_playDisc 50 = .ok (.return_, 1) := by decide +kernel
theorem dX0_settle_0 : decode cX0_settle 0 = .ok (.aload_n 0, 1) := by decide +kernel
theorem dX0_settle_1 : decode cX0_settle 1 = .ok (.iconst 5, 1) := by decide +kernel
theorem dX0_settle_2 : decode cX0_settle 2 = .ok (.aload_n 0, 1) := by decide +kernel
theorem dX0_settle_3 : decode cX0_settle 3 = .ok (.getfield 84, 3) := by decide +kernel
theorem dX0_settle_6 : decode cX0_settle 6 = .ok (.imul, 1) := by decide +kernel
theorem dX0_settle_7 : decode cX0_settle 7 = .ok (.aload_n 0, 1) := by decide +kernel
theorem dX0_settle_8 : decode cX0_settle 8 = .ok (.getfield 72, 3) := by decide +kernel
theorem dX0_settle_11 : decode cX0_settle 11 = .ok (.isub, 1) := by decide +kernel
theorem dX0_settle_12 : decode cX0_settle 12 = .ok (.putfield 87, 3) := by decide +kernel
theorem dX0_settle_15 : decode cX0_settle 15 = .ok (.aload_n 0, 1) := by decide +kernel
theorem dX0_settle_16 : decode cX0_settle 16 = .ok (.dup, 1) := by decide +kernel
theorem dX0_settle_17 : decode cX0_settle 17 = .ok (.getfield 90, 3) := by decide +kernel
theorem dX0_settle_20 : decode cX0_settle 20 = .ok (.iload_n 1, 1) := by decide +kernel
theorem dX0_settle_21 : decode cX0_settle 21 = .ok (.iadd, 1) := by decide +kernel
theorem dX0_settle_22 : decode cX0_settle 22 = .ok (.putfield 90, 3) := by decide +kernel
theorem dX0_settle_25 : decode cX0_settle 25 = .ok (.aload_n 0, 1) := by decide +kernel
theorem dX0_settle_26 : decode cX0_settle 26 = .ok (.iconst 0, 1) := by decide +kernel
theorem dX0_settle_27 : decode cX0_settle 27 = .ok (.putfield 72, 3) := by decide +kernel
theorem dX0_settle_30 : decode cX0_settle 30 = .ok (.aload_n 0, 1) := by decide +kernel
theorem dX0_settle_31 : decode cX0_settle 31 = .ok (.iconst 0, 1) := by decide +kernel
theorem dX0_settle_32 : decode cX0_settle 32 = .ok (.putfield 84, 3) := by decide +kernel
theorem dX0_settle_35 : decode cX0_settle 35 = .ok (.aload_n 0, 1) := by decide +kernel
theorem dX0_settle_36 : decode cX0_settle 36 = .ok (.iconst 0, 1) := by decide +kernel
theorem dX0_settle_37 : decode cX0_settle 37 = .ok (.putfield 93, 3) := by decide +kernel
theorem dX0_settle_40 : decode cX0_settle 40 = .ok (.aload_n 0, 1) := by decide +kernel
theorem dX0_settle_41 : decode cX0_settle 41 = .ok (.iload_n 2, 1) := by decide +kernel
theorem dX0_settle_42 : decode cX0_settle 42 = .ok (.putfield 28, 3) := by decide +kernel
theorem dX0_settle_45 : decode cX0_settle 45 = .ok (.return_, 1) := by decide +kernel
set_option maxRecDepth 20000 in
theorem ggX0_swap_X0_forget : GoodIn wsX0_swap wsX0_forget := goodIn_ca (goodIn_r _ [11, 12, 24, 25, 26, 27, 28, 29, 30, 31, 32, 33, 34, 35, 36, 37, 38] (by decide +kernel) (by decide +kernel)) (goodIn_sub (fun _ h => List.mem_cons_of_mem _ (List.mem_append_right _ h)) (by decide +kernel))
set_option maxRecDepth 20000 in
theorem gX0_swap_X0_forget : GoodIn wsX0_swap (wsV RX0 108 RX0 yX0_forget wsX0_forget) := goodIn_app (goodIn_of _ (by decide +kernel)) ggX0_swap_X0_forget
theorem dX0_swap_0 : decode cX0_swap 0 = .ok (.aload_n 1, 1) := by decide +kernel
theorem dX0_swap_1 : decode cX0_swap 1 = .ok (.getfield 52, 3) := by decide +kernel
theorem dX0_swap_4 : decode cX0_swap 4 = .ok (.astore_n 3, 1) := by decide +kernel
theorem dX0_swap_5 : decode cX0_swap 5 = .ok (.aload_n 3, 1) := by decide +kernel
theorem dX0_swap_6 : decode cX0_swap 6 = .ok (.ifnull 8, 3) := by decide +kernel
theorem dX0_swap_9 : decode cX0_swap 9 = .ok (.aload_n 3, 1) := by decide +kernel
theorem dX0_swap_10 : decode cX0_swap 10 = .ok (.aconst_null, 1) := by decide +kernel
theorem dX0_swap_11 : decode cX0_swap 11 = .ok (.putfield 97, 3) := by decide +kernel
theorem dX0_swap_14 : decode cX0_swap 14 = .ok (.aload_n 1, 1) := by decide +kernel
theorem dX0_swap_15 : decode cX0_swap 15 = .ok (.aload_n 2, 1) := by decide +kernel
theorem dX0_swap_16 : decode cX0_swap 16 = .ok (.putfield 52, 3) := by decide +kernel
theorem dX0_swap_19 : decode cX0_swap 19 = .ok (.aload_n 1, 1) := by decide +kernel
theorem dX0_swap_20 : decode cX0_swap 20 = .ok (.iconst 0, 1) := by decide +kernel
theorem dX0_swap_21 : decode cX0_swap 21 = .ok (.putfield 75, 3) := by decide +kernel
theorem dX0_swap_24 : decode cX0_swap 24 = .ok (.aload_n 2, 1) := by decide +kernel
theorem dX0_swap_25 : decode cX0_swap 25 = .ok (.ifnull 24, 3) := by decide +kernel
theorem dX0_swap_28 : decode cX0_swap 28 = .ok (.aload_n 2, 1) := by decide +kernel
theorem dX0_swap_29 : decode cX0_swap 29 = .ok (.aload_n 0, 1) := by decide +kernel
theorem dX0_swap_30 : decode cX0_swap 30 = .ok (.putfield 97, 3) := by decide +kernel
theorem dX0_swap_33 : decode cX0_swap 33 = .ok (.aload_n 2, 1) := by decide +kernel
theorem dX0_swap_34 : decode cX0_swap 34 = .ok (.aload_n 1, 1) := by decide +kernel
theorem dX0_swap_35 : decode cX0_swap 35 = .ok (.getfield 101, 3) := by decide +kernel
theorem dX0_swap_38 : decode cX0_swap 38 = .ok (.putfield 102, 3) := by decide +kernel
theorem dX0_swap_41 : decode cX0_swap 41 = .ok (.aload_n 0, 1) := by decide +kernel
theorem dX0_swap_42 : decode cX0_swap 42 = .ok (.aload_n 2, 1) := by decide +kernel
theorem dX0_swap_43 : decode cX0_swap 43 = .ok (.getfield 105, 3) := by decide +kernel
theorem dX0_swap_46 : decode cX0_swap 46 = .ok (.invokevirtual 108, 3) := by decide +kernel
theorem dX0_swap_49 : decode cX0_swap 49 = .ok (.aload_n 3, 1) := by decide +kernel
theorem dX0_swap_50 : decode cX0_swap 50 = .ok (.areturn, 1) := by decide +kernel
theorem dX0_forget_0 : decode cX0_forget 0 = .ok (.iload_n 1, 1) := by decide +kernel
theorem dX0_forget_1 : decode cX0_forget 1 = .ok (.ifCond .lt 19, 3) := by decide +kernel
theorem dX0_forget_4 : decode cX0_forget 4 = .ok (.iload_n 1, 1) := by decide +kernel
theorem dX0_forget_5 : decode cX0_forget 5 = .ok (.aload_n 0, 1) := by decide +kernel
theorem dX0_forget_6 : decode cX0_forget 6 = .ok (.getfield 24, 3) := by decide +kernel
theorem dX0_forget_9 : decode cX0_forget 9 = .ok (.arraylength, 1) := by decide +kernel
theorem dX0_forget_10 : decode cX0_forget 10 = .ok (.if_icmp .ge 10, 3) := by decide +kernel
theorem dX0_forget_13 : decode cX0_forget 13 = .ok (.aload_n 0, 1) := by decide +kernel
theorem dX0_forget_14 : decode cX0_forget 14 = .ok (.getfield 24, 3) := by decide +kernel
theorem dX0_forget_17 : decode cX0_forget 17 = .ok (.iload_n 1, 1) := by decide +kernel
theorem dX0_forget_18 : decode cX0_forget 18 = .ok (.iconst 0, 1) := by decide +kernel
theorem dX0_forget_19 : decode cX0_forget 19 = .ok (.iastore, 1) := by decide +kernel
theorem dX0_forget_20 : decode cX0_forget 20 = .ok (.return_, 1) := by decide +kernel
theorem dX2_init_0 : decode cX2_init 0 = .ok (.aload_n 0, 1) := by decide +kernel
theorem dX2_init_1 : decode cX2_init 1 = .ok (.invokespecial 3, 3) := by decide +kernel
theorem dX2_init_4 : decode cX2_init 4 = .ok (.aload_n 0, 1) := by decide +kernel
theorem dX2_init_5 : decode cX2_init 5 = .ok (.iload_n 1, 1) := by decide +kernel
theorem dX2_init_6 : decode cX2_init 6 = .ok (.putfield 9, 3) := by decide +kernel
theorem dX2_init_9 : decode cX2_init 9 = .ok (.aload_n 0, 1) := by decide +kernel
theorem dX2_init_10 : decode cX2_init 10 = .ok (.iload_n 2, 1) := by decide +kernel
theorem dX2_init_11 : decode cX2_init 11 = .ok (.putfield 15, 3) := by decide +kernel
theorem dX2_init_14 : decode cX2_init 14 = .ok (.aload_n 0, 1) := by decide +kernel
theorem dX2_init_15 : decode cX2_init 15 = .ok (.iload_n 3, 1) := by decide +kernel
theorem dX2_init_16 : decode cX2_init 16 = .ok (.putfield 18, 3) := by decide +kernel
theorem dX2_init_19 : decode cX2_init 19 = .ok (.aload_n 0, 1) := by decide +kernel
theorem dX2_init_20 : decode cX2_init 20 = .ok (.iload 4, 2) := by decide +kernel
theorem dX2_init_22 : decode cX2_init 22 = .ok (.putfield 21, 3) := by decide +kernel
theorem dX2_init_25 : decode cX2_init 25 = .ok (.return_, 1) := by decide +kernel
theorem dX2_isInVan_0 : decode cX2_isInVan 0 = .ok (.aload_n 0, 1) := by decide +kernel
theorem dX2_isInVan_1 : decode cX2_isInVan 1 = .ok (.getfield 24, 3) := by decide +kernel
theorem dX2_isInVan_4 : decode cX2_isInVan 4 = .ok (.ifCond .ne 14, 3) := by decide +kernel
theorem dX2_isInVan_7 : decode cX2_isInVan 7 = .ok (.aload_n 0, 1) := by decide +kernel
theorem dX2_isInVan_8 : decode cX2_isInVan 8 = .ok (.getfield 28, 3) := by decide +kernel
theorem dX2_isInVan_11 : decode cX2_isInVan 11 = .ok (.ifnonnull 7, 3) := by decide +kernel
theorem dX2_isInVan_14 : decode cX2_isInVan 14 = .ok (.iconst 1, 1) := by decide +kernel
theorem dX2_isInVan_15 : decode cX2_isInVan 15 = .ok (.goto 4, 3) := by decide +kernel
theorem dX2_isInVan_18 : decode cX2_isInVan 18 = .ok (.iconst 0, 1) := by decide +kernel
theorem dX2_isInVan_19 : decode cX2_isInVan 19 = .ok (.ireturn, 1) := by decide +kernel
theorem dX2_isWorn_0 : decode cX2_isWorn 0 = .ok (.aload_n 0, 1) := by decide +kernel
theorem dX2_isWorn_1 : decode cX2_isWorn 1 = .ok (.getfield 32, 3) := by decide +kernel
theorem dX2_isWorn_4 : decode cX2_isWorn 4 = .ok (.bipush 60, 2) := by decide +kernel
theorem dX2_isWorn_6 : decode cX2_isWorn 6 = .ok (.if_icmp .lt 7, 3) := by decide +kernel
theorem dX2_isWorn_9 : decode cX2_isWorn 9 = .ok (.iconst 1, 1) := by decide +kernel
theorem dX2_isWorn_10 : decode cX2_isWorn 10 = .ok (.goto 4, 3) := by decide +kernel
theorem dX2_isWorn_13 : decode cX2_isWorn 13 = .ok (.iconst 0, 1) := by decide +kernel
theorem dX2_isWorn_14 : decode cX2_isWorn 14 = .ok (.ireturn, 1) := by decide +kernel
theorem dX2_pullFor_0 : decode cX2_pullFor 0 = .ok (.aload_n 0, 1) := by decide +kernel
theorem dX2_pullFor_1 : decode cX2_pullFor 1 = .ok (.getfield 24, 3) := by decide +kernel
theorem dX2_pullFor_4 : decode cX2_pullFor 4 = .ok (.ifCond .ne 11, 3) := by decide +kernel
theorem dX2_pullFor_7 : decode cX2_pullFor 7 = .ok (.iload_n 2, 1) := by decide +kernel
theorem dX2_pullFor_8 : decode cX2_pullFor 8 = .ok (.aload_n 0, 1) := by decide +kernel
theorem dX2_pullFor_9 : decode cX2_pullFor 9 = .ok (.getfield 21, 3) := by decide +kernel
theorem dX2_pullFor_12 : decode cX2_pullFor 12 = .ok (.if_icmp .ge 5, 3) := by decide +kernel
theorem dX2_pullFor_15 : decode cX2_pullFor 15 = .ok (.iconst 0, 1) := by decide +kernel
theorem dX2_pullFor_16 : decode cX2_pullFor 16 = .ok (.ireturn, 1) := by decide +kernel
theorem dX2_pullFor_17 : decode cX2_pullFor 17 = .ok (.aload_n 0, 1) := by decide +kernel
theorem dX2_pullFor_18 : decode cX2_pullFor 18 = .ok (.getfield 18, 3) := by decide +kernel
theorem dX2_pullFor_21 : decode cX2_pullFor 21 = .ok (.iconst 2, 1) := by decide +kernel
theorem dX2_pullFor_22 : decode cX2_pullFor 22 = .ok (.iload_n 2, 1) := by decide +kernel
theorem dX2_pullFor_23 : decode cX2_pullFor 23 = .ok (.aload_n 0, 1) := by decide +kernel
theorem dX2_pullFor_24 : decode cX2_pullFor 24 = .ok (.getfield 21, 3) := by decide +kernel
theorem dX2_pullFor_27 : decode cX2_pullFor 27 = .ok (.isub, 1) := by decide +kernel
theorem dX2_pullFor_28 : decode cX2_pullFor 28 = .ok (.imul, 1) := by decide +kernel
theorem dX2_pullFor_29 : decode cX2_pullFor 29 = .ok (.isub, 1) := by decide +kernel
theorem dX2_pullFor_30 : decode cX2_pullFor 30 = .ok (.aload_n 0, 1) := by decide +kernel
theorem dX2_pullFor_31 : decode cX2_pullFor 31 = .ok (.getfield 18, 3) := by decide +kernel
theorem dX2_pullFor_34 : decode cX2_pullFor 34 = .ok (.iconst 5, 1) := by decide +kernel
theorem dX2_pullFor_35 : decode cX2_pullFor 35 = .ok (.idiv, 1) := by decide +kernel
theorem dX2_pullFor_36 : decode cX2_pullFor 36 = .ok (.invokestatic 35, 3) := by decide +kernel
theorem dX2_pullFor_39 : decode cX2_pullFor 39 = .ok (.istore_n 3, 1) := by decide +kernel
theorem dX2_pullFor_40 : decode cX2_pullFor 40 = .ok (.aload_n 0, 1) := by decide +kernel
theorem dX2_pullFor_41 : decode cX2_pullFor 41 = .ok (.getfield 15, 3) := by decide +kernel
theorem dX2_pullFor_44 : decode cX2_pullFor 44 = .ok (.bipush 10, 2) := by decide +kernel
theorem dX2_pullFor_46 : decode cX2_pullFor 46 = .ok (.irem, 1) := by decide +kernel
theorem dX2_pullFor_47 : decode cX2_pullFor 47 = .ok (.iload_n 1, 1) := by decide +kernel
theorem dX2_pullFor_48 : decode cX2_pullFor 48 = .ok (.if_icmp .ne 9, 3) := by decide +kernel
theorem dX2_pullFor_51 : decode cX2_pullFor 51 = .ok (.iload_n 3, 1) := by decide +kernel
theorem dX2_pullFor_52 : decode cX2_pullFor 52 = .ok (.iload_n 3, 1) := by decide +kernel
theorem dX2_pullFor_53 : decode cX2_pullFor 53 = .ok (.iconst 2, 1) := by decide +kernel
theorem dX2_pullFor_54 : decode cX2_pullFor 54 = .ok (.idiv, 1) := by decide +kernel
theorem dX2_pullFor_55 : decode cX2_pullFor 55 = .ok (.iadd, 1) := by decide +kernel
theorem dX2_pullFor_56 : decode cX2_pullFor 56 = .ok (.istore_n 3, 1) := by decide +kernel
theorem dX2_pullFor_57 : decode cX2_pullFor 57 = .ok (.iload_n 3, 1) := by decide +kernel
theorem dX2_pullFor_58 : decode cX2_pullFor 58 = .ok (.aload_n 0, 1) := by decide +kernel
theorem dX2_pullFor_59 : decode cX2_pullFor 59 = .ok (.getfield 32, 3) := by decide +kernel
theorem dX2_pullFor_62 : decode cX2_pullFor 62 = .ok (.bipush 10, 2) := by decide +kernel
theorem dX2_pullFor_64 : decode cX2_pullFor 64 = .ok (.idiv, 1) := by decide +kernel
theorem dX2_pullFor_65 : decode cX2_pullFor 65 = .ok (.isub, 1) := by decide +kernel
theorem dX2_pullFor_66 : decode cX2_pullFor 66 = .ok (.iconst 0, 1) := by decide +kernel
theorem dX2_pullFor_67 : decode cX2_pullFor 67 = .ok (.invokestatic 35, 3) := by decide +kernel
theorem dX2_pullFor_70 : decode cX2_pullFor 70 = .ok (.ireturn, 1) := by decide +kernel
set_option maxRecDepth 20000 in
theorem ggX2_pullWhereItIs_X2_pullFor : GoodIn wsX2_pullWhereItIs wsX2_pullFor := goodIn_r _ [7, 8, 9, 10, 11, 12, 13, 14, 15, 16, 17, 18, 19, 20, 21, 22, 23, 24] (by decide +kernel) (by decide +kernel)
set_option maxRecDepth 20000 in
theorem gX2_pullWhereItIs_X2_pullFor : GoodIn wsX2_pullWhereItIs (wsV RX2 46 RX2 yX2_pullFor wsX2_pullFor) := goodIn_app (goodIn_of _ (by decide +kernel)) ggX2_pullWhereItIs_X2_pullFor
theorem dX2_pullWhereItIs_0 : decode cX2_pullWhereItIs 0 = .ok (.aload_n 0, 1) := by decide +kernel
theorem dX2_pullWhereItIs_1 : decode cX2_pullWhereItIs 1 = .ok (.aload_n 0, 1) := by decide +kernel
theorem dX2_pullWhereItIs_2 : decode cX2_pullWhereItIs 2 = .ok (.getfield 28, 3) := by decide +kernel
theorem dX2_pullWhereItIs_5 : decode cX2_pullWhereItIs 5 = .ok (.ifnonnull 7, 3) := by decide +kernel
theorem dX2_pullWhereItIs_8 : decode cX2_pullWhereItIs 8 = .ok (.iconst (-1), 1) := by decide +kernel
theorem dX2_pullWhereItIs_9 : decode cX2_pullWhereItIs 9 = .ok (.goto 10, 3) := by decide +kernel
theorem dX2_pullWhereItIs_12 : decode cX2_pullWhereItIs 12 = .ok (.aload_n 0, 1) := by decide +kernel
theorem dX2_pullWhereItIs_13 : decode cX2_pullWhereItIs 13 = .ok (.getfield 28, 3) := by decide +kernel
theorem dX2_pullWhereItIs_16 : decode cX2_pullWhereItIs 16 = .ok (.getfield 41, 3) := by decide +kernel
theorem dX2_pullWhereItIs_19 : decode cX2_pullWhereItIs 19 = .ok (.iload_n 1, 1) := by decide +kernel
theorem dX2_pullWhereItIs_20 : decode cX2_pullWhereItIs 20 = .ok (.invokevirtual 46, 3) := by decide +kernel
theorem dX2_pullWhereItIs_23 : decode cX2_pullWhereItIs 23 = .ok (.ireturn, 1) := by decide +kernel
theorem dX3_init_0 : decode cX3_init 0 = .ok (.aload_n 0, 1) := by decide +kernel
theorem dX3_init_1 : decode cX3_init 1 = .ok (.invokespecial 1, 3) := by decide +kernel
theorem dX3_init_4 : decode cX3_init 4 = .ok (.aload_n 0, 1) := by decide +kernel
theorem dX3_init_5 : decode cX3_init 5 = .ok (.iload_n 1, 1) := by decide +kernel
theorem dX3_init_6 : decode cX3_init 6 = .ok (.putfield 7, 3) := by decide +kernel
theorem dX3_init_9 : decode cX3_init 9 = .ok (.return_, 1) := by decide +kernel
set_option maxRecDepth 20000 in
theorem ggX3_pullFor_X2_pullFor : GoodIn wsX3_pullFor wsX2_pullFor := goodIn_r _ [6, 7, 8, 9, 10, 11, 12, 13, 14, 15, 19, 20, 21, 22, 23, 24, 25, 26] (by decide +kernel) (by decide +kernel)
set_option maxRecDepth 20000 in
theorem gX3_pullFor_X2_pullFor : GoodIn wsX3_pullFor (wsV RX3 17 RX2 yX2_pullFor wsX2_pullFor) := goodIn_app (goodIn_of _ (by decide +kernel)) ggX3_pullFor_X2_pullFor
theorem dX3_pullFor_0 : decode cX3_pullFor 0 = .ok (.aload_n 0, 1) := by decide +kernel
theorem dX3_pullFor_1 : decode cX3_pullFor 1 = .ok (.getfield 13, 3) := by decide +kernel
theorem dX3_pullFor_4 : decode cX3_pullFor 4 = .ok (.ifnonnull 7, 3) := by decide +kernel
theorem dX3_pullFor_7 : decode cX3_pullFor 7 = .ok (.iconst 0, 1) := by decide +kernel
theorem dX3_pullFor_8 : decode cX3_pullFor 8 = .ok (.goto 12, 3) := by decide +kernel
theorem dX3_pullFor_11 : decode cX3_pullFor 11 = .ok (.aload_n 0, 1) := by decide +kernel
theorem dX3_pullFor_12 : decode cX3_pullFor 12 = .ok (.getfield 13, 3) := by decide +kernel
theorem dX3_pullFor_15 : decode cX3_pullFor 15 = .ok (.iload_n 1, 1) := by decide +kernel
theorem dX3_pullFor_16 : decode cX3_pullFor 16 = .ok (.iload_n 2, 1) := by decide +kernel
theorem dX3_pullFor_17 : decode cX3_pullFor 17 = .ok (.invokevirtual 17, 3) := by decide +kernel
theorem dX3_pullFor_20 : decode cX3_pullFor 20 = .ok (.ireturn, 1) := by decide +kernel
abbrev vwCl : List vw_C := [(RJ0, TJ0, 2), (RJx00060, TJx00060, 6), (RJx4a65c, TJx4a65c, 3), (RX0, TX0, 15), (RX2, TX2, 8), (RX3, TX3, 3), (RX4, TX4, 9), (RX5, TX5, 30)]
