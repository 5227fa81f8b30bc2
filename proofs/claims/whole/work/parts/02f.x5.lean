theorem dX5_init_0 : decode cX5_init 0 = .ok (.aload_n 0, 1) := by decide +kernel
theorem dX5_init_1 : decode cX5_init 1 = .ok (.invokespecial 1, 3) := by decide +kernel
theorem dX5_init_4 : decode cX5_init 4 = .ok (.aload_n 0, 1) := by decide +kernel
theorem dX5_init_5 : decode cX5_init 5 = .ok (.bipush 30, 2) := by decide +kernel
theorem dX5_init_7 : decode cX5_init 7 = .ok (.newarray .int, 2) := by decide +kernel
theorem dX5_init_9 : decode cX5_init 9 = .ok (.putfield 7, 3) := by decide +kernel
theorem dX5_init_12 : decode cX5_init 12 = .ok (.aload_n 0, 1) := by decide +kernel
theorem dX5_init_13 : decode cX5_init 13 = .ok (.bipush 30, 2) := by decide +kernel
theorem dX5_init_15 : decode cX5_init 15 = .ok (.newarray .int, 2) := by decide +kernel
theorem dX5_init_17 : decode cX5_init 17 = .ok (.putfield 13, 3) := by decide +kernel
theorem dX5_init_20 : decode cX5_init 20 = .ok (.aload_n 0, 1) := by decide +kernel
theorem dX5_init_21 : decode cX5_init 21 = .ok (.bipush 30, 2) := by decide +kernel
theorem dX5_init_23 : decode cX5_init 23 = .ok (.newarray .int, 2) := by decide +kernel
theorem dX5_init_25 : decode cX5_init 25 = .ok (.putfield 16, 3) := by decide +kernel
theorem dX5_init_28 : decode cX5_init 28 = .ok (.aload_n 0, 1) := by decide +kernel
theorem dX5_init_29 : decode cX5_init 29 = .ok (.bipush 30, 2) := by decide +kernel
theorem dX5_init_31 : decode cX5_init 31 = .ok (.newarray .int, 2) := by decide +kernel
theorem dX5_init_33 : decode cX5_init 33 = .ok (.putfield 19, 3) := by decide +kernel
theorem dX5_init_36 : decode cX5_init 36 = .ok (.aload_n 0, 1) := by decide +kernel
theorem dX5_init_37 : decode cX5_init 37 = .ok (.bipush 30, 2) := by decide +kernel
theorem dX5_init_39 : decode cX5_init 39 = .ok (.newarray .int, 2) := by decide +kernel
theorem dX5_init_41 : decode cX5_init 41 = .ok (.putfield 22, 3) := by decide +kernel
theorem dX5_init_44 : decode cX5_init 44 = .ok (.aload_n 0, 1) := by decide +kernel
theorem dX5_init_45 : decode cX5_init 45 = .ok (.iconst 4, 1) := by decide +kernel
theorem dX5_init_46 : decode cX5_init 46 = .ok (.newarray .int, 2) := by decide +kernel
theorem dX5_init_48 : decode cX5_init 48 = .ok (.putfield 25, 3) := by decide +kernel
theorem dX5_init_51 : decode cX5_init 51 = .ok (.aload_n 0, 1) := by decide +kernel
theorem dX5_init_52 : decode cX5_init 52 = .ok (.iconst 4, 1) := by decide +kernel
theorem dX5_init_53 : decode cX5_init 53 = .ok (.newarray .int, 2) := by decide +kernel
theorem dX5_init_55 : decode cX5_init 55 = .ok (.putfield 28, 3) := by decide +kernel
theorem dX5_init_58 : decode cX5_init 58 = .ok (.aload_n 0, 1) := by decide +kernel
theorem dX5_init_59 : decode cX5_init 59 = .ok (.iconst 4, 1) := by decide +kernel
theorem dX5_init_60 : decode cX5_init 60 = .ok (.newarray .int, 2) := by decide +kernel
theorem dX5_init_62 : decode cX5_init 62 = .ok (.putfield 31, 3) := by decide +kernel
theorem dX5_init_65 : decode cX5_init 65 = .ok (.aload_n 0, 1) := by decide +kernel
theorem dX5_init_66 : decode cX5_init 66 = .ok (.iconst 4, 1) := by decide +kernel
theorem dX5_init_67 : decode cX5_init 67 = .ok (.newarray .int, 2) := by decide +kernel
theorem dX5_init_69 : decode cX5_init 69 = .ok (.putfield 34, 3) := by decide +kernel
theorem dX5_init_72 : decode cX5_init 72 = .ok (.aload_n 0, 1) := by decide +kernel
theorem dX5_init_73 : decode cX5_init 73 = .ok (.iconst 4, 1) := by decide +kernel
theorem dX5_init_74 : decode cX5_init 74 = .ok (.newarray .int, 2) := by decide +kernel
theorem dX5_init_76 : decode cX5_init 76 = .ok (.putfield 37, 3) := by decide +kernel
theorem dX5_init_79 : decode cX5_init 79 = .ok (.aload_n 0, 1) := by decide +kernel
theorem dX5_init_80 : decode cX5_init 80 = .ok (.iconst 4, 1) := by decide +kernel
theorem dX5_init_81 : decode cX5_init 81 = .ok (.newarray .int, 2) := by decide +kernel
theorem dX5_init_83 : decode cX5_init 83 = .ok (.putfield 40, 3) := by decide +kernel
theorem dX5_init_86 : decode cX5_init 86 = .ok (.aload_n 0, 1) := by decide +kernel
theorem dX5_init_87 : decode cX5_init 87 = .ok (.iconst 4, 1) := by decide +kernel
theorem dX5_init_88 : decode cX5_init 88 = .ok (.newarray .int, 2) := by decide +kernel
theorem dX5_init_90 : decode cX5_init 90 = .ok (.putfield 43, 3) := by decide +kernel
theorem dX5_init_93 : decode cX5_init 93 = .ok (.aload_n 0, 1) := by decide +kernel
theorem dX5_init_94 : decode cX5_init 94 = .ok (.bipush 32, 2) := by decide +kernel
theorem dX5_init_96 : decode cX5_init 96 = .ok (.newarray .int, 2) := by decide +kernel
theorem dX5_init_98 : decode cX5_init 98 = .ok (.putfield 46, 3) := by decide +kernel
theorem dX5_init_101 : decode cX5_init 101 = .ok (.aload_n 0, 1) := by decide +kernel
theorem dX5_init_102 : decode cX5_init 102 = .ok (.iconst 4, 1) := by decide +kernel
theorem dX5_init_103 : decode cX5_init 103 = .ok (.newarray .int, 2) := by decide +kernel
theorem dX5_init_105 : decode cX5_init 105 = .ok (.putfield 49, 3) := by decide +kernel
theorem dX5_init_108 : decode cX5_init 108 = .ok (.aload_n 0, 1) := by decide +kernel
theorem dX5_init_109 : decode cX5_init 109 = .ok (.iconst 4, 1) := by decide +kernel
theorem dX5_init_110 : decode cX5_init 110 = .ok (.newarray .int, 2) := by decide +kernel
theorem dX5_init_112 : decode cX5_init 112 = .ok (.putfield 52, 3) := by decide +kernel
theorem dX5_init_115 : decode cX5_init 115 = .ok (.aload_n 0, 1) := by decide +kernel
theorem dX5_init_116 : decode cX5_init 116 = .ok (.iconst 4, 1) := by decide +kernel
theorem dX5_init_117 : decode cX5_init 117 = .ok (.newarray .int, 2) := by decide +kernel
theorem dX5_init_119 : decode cX5_init 119 = .ok (.putfield 55, 3) := by decide +kernel
theorem dX5_init_122 : decode cX5_init 122 = .ok (.aload_n 0, 1) := by decide +kernel
theorem dX5_init_123 : decode cX5_init 123 = .ok (.iconst 4, 1) := by decide +kernel
theorem dX5_init_124 : decode cX5_init 124 = .ok (.newarray .boolean, 2) := by decide +kernel
theorem dX5_init_126 : decode cX5_init 126 = .ok (.putfield 58, 3) := by decide +kernel
theorem dX5_init_129 : decode cX5_init 129 = .ok (.aload_n 0, 1) := by decide +kernel
theorem dX5_init_130 : decode cX5_init 130 = .ok (.iconst 4, 1) := by decide +kernel
theorem dX5_init_131 : decode cX5_init 131 = .ok (.newarray .boolean, 2) := by decide +kernel
theorem dX5_init_133 : decode cX5_init 133 = .ok (.putfield 62, 3) := by decide +kernel
theorem dX5_init_136 : decode cX5_init 136 = .ok (.aload_n 0, 1) := by decide +kernel
theorem dX5_init_137 : decode cX5_init 137 = .ok (.bipush 40, 2) := by decide +kernel
theorem dX5_init_139 : decode cX5_init 139 = .ok (.newarray .int, 2) := by decide +kernel
theorem dX5_init_141 : decode cX5_init 141 = .ok (.putfield 65, 3) := by decide +kernel
theorem dX5_init_144 : decode cX5_init 144 = .ok (.aload_n 0, 1) := by decide +kernel
theorem dX5_init_145 : decode cX5_init 145 = .ok (.bipush 40, 2) := by decide +kernel
theorem dX5_init_147 : decode cX5_init 147 = .ok (.newarray .int, 2) := by decide +kernel
theorem dX5_init_149 : decode cX5_init 149 = .ok (.putfield 68, 3) := by decide +kernel
theorem dX5_init_152 : decode cX5_init 152 = .ok (.aload_n 0, 1) := by decide +kernel
theorem dX5_init_153 : decode cX5_init 153 = .ok (.sipush 400, 3) := by decide +kernel
theorem dX5_init_156 : decode cX5_init 156 = .ok (.newarray .int, 2) := by decide +kernel
theorem dX5_init_158 : decode cX5_init 158 = .ok (.putfield 71, 3) := by decide +kernel
theorem dX5_init_161 : decode cX5_init 161 = .ok (.aload_n 0, 1) := by decide +kernel
theorem dX5_init_162 : decode cX5_init 162 = .ok (.bipush 30, 2) := by decide +kernel
theorem dX5_init_164 : decode cX5_init 164 = .ok (.newarray .boolean, 2) := by decide +kernel
theorem dX5_init_166 : decode cX5_init 166 = .ok (.putfield 74, 3) := by decide +kernel
theorem dX5_init_169 : decode cX5_init 169 = .ok (.aload_n 0, 1) := by decide +kernel
theorem dX5_init_170 : decode cX5_init 170 = .ok (.bipush 10, 2) := by decide +kernel
theorem dX5_init_172 : decode cX5_init 172 = .ok (.newarray .boolean, 2) := by decide +kernel
theorem dX5_init_174 : decode cX5_init 174 = .ok (.putfield 77, 3) := by decide +kernel
theorem dX5_init_177 : decode cX5_init 177 = .ok (.aload_n 0, 1) := by decide +kernel
theorem dX5_init_178 : decode cX5_init 178 = .ok (.iconst 1, 1) := by decide +kernel
theorem dX5_init_179 : decode cX5_init 179 = .ok (.putfield 80, 3) := by decide +kernel
theorem dX5_init_182 : decode cX5_init 182 = .ok (.aload_n 0, 1) := by decide +kernel
theorem dX5_init_183 : decode cX5_init 183 = .ok (.sipush 600, 3) := by decide +kernel
theorem dX5_init_186 : decode cX5_init 186 = .ok (.putfield 84, 3) := by decide +kernel
theorem dX5_init_189 : decode cX5_init 189 = .ok (.return_, 1) := by decide +kernel
theorem dX5_thrown_0 : decode cX5_thrown 0 = .ok (.aload_n 0, 1) := by decide +kernel
theorem dX5_thrown_1 : decode cX5_thrown 1 = .ok (.getfield 87, 3) := by decide +kernel
theorem dX5_thrown_4 : decode cX5_thrown 4 = .ok (.ireturn, 1) := by decide +kernel
theorem dX5_no_0 : decode cX5_no 0 = .ok (.aload_n 0, 1) := by decide +kernel
theorem dX5_no_1 : decode cX5_no 1 = .ok (.iload_n 1, 1) := by decide +kernel
theorem dX5_no_2 : decode cX5_no 2 = .ok (.ifCond .eq 7, 3) := by decide +kernel
theorem dX5_no_5 : decode cX5_no 5 = .ok (.iconst 0, 1) := by decide +kernel
theorem dX5_no_6 : decode cX5_no 6 = .ok (.goto 4, 3) := by decide +kernel
theorem dX5_no_9 : decode cX5_no 9 = .ok (.iload_n 2, 1) := by decide +kernel
theorem dX5_no_10 : decode cX5_no 10 = .ok (.putfield 87, 3) := by decide +kernel
theorem dX5_no_13 : decode cX5_no 13 = .ok (.iload_n 1, 1) := by decide +kernel
theorem dX5_no_14 : decode cX5_no 14 = .ok (.ifCond .ne 7, 3) := by decide +kernel
theorem dX5_no_17 : decode cX5_no 17 = .ok (.iconst 1, 1) := by decide +kernel
theorem dX5_no_18 : decode cX5_no 18 = .ok (.goto 4, 3) := by decide +kernel
theorem dX5_no_21 : decode cX5_no 21 = .ok (.iconst 0, 1) := by decide +kernel
theorem dX5_no_22 : decode cX5_no 22 = .ok (.ireturn, 1) := by decide +kernel
theorem dX5_isIn_0 : decode cX5_isIn 0 = .ok (.iload_n 0, 1) := by decide +kernel
theorem dX5_isIn_1 : decode cX5_isIn 1 = .ok (.iload_n 1, 1) := by decide +kernel
theorem dX5_isIn_2 : decode cX5_isIn 2 = .ok (.if_icmp .lt 12, 3) := by decide +kernel
theorem dX5_isIn_5 : decode cX5_isIn 5 = .ok (.iload_n 0, 1) := by decide +kernel
theorem dX5_isIn_6 : decode cX5_isIn 6 = .ok (.iload_n 2, 1) := by decide +kernel
theorem dX5_isIn_7 : decode cX5_isIn 7 = .ok (.if_icmp .gt 7, 3) := by decide +kernel
theorem dX5_isIn_10 : decode cX5_isIn 10 = .ok (.iconst 1, 1) := by decide +kernel
theorem dX5_isIn_11 : decode cX5_isIn 11 = .ok (.goto 4, 3) := by decide +kernel
theorem dX5_isIn_14 : decode cX5_isIn 14 = .ok (.iconst 0, 1) := by decide +kernel
theorem dX5_isIn_15 : decode cX5_isIn 15 = .ok (.ireturn, 1) := by decide +kernel
set_option maxRecDepth 20000 in
theorem ggX5_isDisc_X5_isIn : GoodIn wsX5_isDisc wsX5_isIn := goodIn_r _ [5] (by decide +kernel) (by decide +kernel)
set_option maxRecDepth 20000 in
theorem gX5_isDisc_X5_isIn : GoodIn wsX5_isDisc (va_wsS RX5 93 yX5_isIn wsX5_isIn) := goodIn_app (goodIn_of _ (by decide +kernel)) ggX5_isDisc_X5_isIn
theorem dX5_isDisc_0 : decode cX5_isDisc 0 = .ok (.iload_n 1, 1) := by decide +kernel
theorem dX5_isDisc_1 : decode cX5_isDisc 1 = .ok (.iconst 0, 1) := by decide +kernel
theorem dX5_isDisc_2 : decode cX5_isDisc 2 = .ok (.aload_n 0, 1) := by decide +kernel
theorem dX5_isDisc_3 : decode cX5_isDisc 3 = .ok (.getfield 90, 3) := by decide +kernel
theorem dX5_isDisc_6 : decode cX5_isDisc 6 = .ok (.iconst 1, 1) := by decide +kernel
theorem dX5_isDisc_7 : decode cX5_isDisc 7 = .ok (.isub, 1) := by decide +kernel
theorem dX5_isDisc_8 : decode cX5_isDisc 8 = .ok (.invokestatic 93, 3) := by decide +kernel
theorem dX5_isDisc_11 : decode cX5_isDisc 11 = .ok (.ireturn, 1) := by decide +kernel
set_option maxRecDepth 20000 in
theorem ggX5_isBox_X5_isIn : GoodIn wsX5_isBox wsX5_isIn := goodIn_r _ [5] (by decide +kernel) (by decide +kernel)
set_option maxRecDepth 20000 in
theorem gX5_isBox_X5_isIn : GoodIn wsX5_isBox (va_wsS RX5 93 yX5_isIn wsX5_isIn) := goodIn_app (goodIn_of _ (by decide +kernel)) ggX5_isBox_X5_isIn
theorem dX5_isBox_0 : decode cX5_isBox 0 = .ok (.iload_n 1, 1) := by decide +kernel
theorem dX5_isBox_1 : decode cX5_isBox 1 = .ok (.iconst 0, 1) := by decide +kernel
theorem dX5_isBox_2 : decode cX5_isBox 2 = .ok (.aload_n 0, 1) := by decide +kernel
theorem dX5_isBox_3 : decode cX5_isBox 3 = .ok (.getfield 97, 3) := by decide +kernel
theorem dX5_isBox_6 : decode cX5_isBox 6 = .ok (.iconst 1, 1) := by decide +kernel
theorem dX5_isBox_7 : decode cX5_isBox 7 = .ok (.isub, 1) := by decide +kernel
theorem dX5_isBox_8 : decode cX5_isBox 8 = .ok (.invokestatic 93, 3) := by decide +kernel
theorem dX5_isBox_11 : decode cX5_isBox 11 = .ok (.ireturn, 1) := by decide +kernel
set_option maxRecDepth 20000 in
theorem ggX5_isSlot_X5_isBox : GoodIn wsX5_isSlot wsX5_isBox := goodIn_r _ [5, 6, 7, 8, 4, 9, 10, 11, 12, 13, 14, 15, 16, 17, 18, 19, 20, 21, 22, 23, 24, 25, 26, 27, 28, 29, 30, 31, 32, 33, 34, 35, 36, 37, 38, 39] (by decide +kernel) (by decide +kernel)
set_option maxRecDepth 20000 in
theorem gX5_isSlot_X5_isBox : GoodIn wsX5_isSlot (wsV RX5 100 RX5 yX5_isBox wsX5_isBox) := goodIn_app (goodIn_of _ (by decide +kernel)) ggX5_isSlot_X5_isBox
set_option maxRecDepth 20000 in
theorem ggX5_isSlot_X5_isIn : GoodIn wsX5_isSlot wsX5_isIn := goodIn_r _ [9] (by decide +kernel) (by decide +kernel)
set_option maxRecDepth 20000 in
theorem gX5_isSlot_X5_isIn : GoodIn wsX5_isSlot (va_wsS RX5 93 yX5_isIn wsX5_isIn) := goodIn_app (goodIn_of _ (by decide +kernel)) ggX5_isSlot_X5_isIn
theorem dX5_isSlot_0 : decode cX5_isSlot 0 = .ok (.aload_n 0, 1) := by decide +kernel
theorem dX5_isSlot_1 : decode cX5_isSlot 1 = .ok (.iload_n 1, 1) := by decide +kernel
theorem dX5_isSlot_2 : decode cX5_isSlot 2 = .ok (.invokevirtual 100, 3) := by decide +kernel
theorem dX5_isSlot_5 : decode cX5_isSlot 5 = .ok (.ifCond .eq 17, 3) := by decide +kernel
theorem dX5_isSlot_8 : decode cX5_isSlot 8 = .ok (.iload_n 2, 1) := by decide +kernel
theorem dX5_isSlot_9 : decode cX5_isSlot 9 = .ok (.iconst 0, 1) := by decide +kernel
theorem dX5_isSlot_10 : decode cX5_isSlot 10 = .ok (.bipush 9, 2) := by decide +kernel
theorem dX5_isSlot_12 : decode cX5_isSlot 12 = .ok (.invokestatic 93, 3) := by decide +kernel
theorem dX5_isSlot_15 : decode cX5_isSlot 15 = .ok (.ifCond .eq 7, 3) := by decide +kernel
theorem dX5_isSlot_18 : decode cX5_isSlot 18 = .ok (.iconst 1, 1) := by decide +kernel
theorem dX5_isSlot_19 : decode cX5_isSlot 19 = .ok (.goto 4, 3) := by decide +kernel
theorem dX5_isSlot_22 : decode cX5_isSlot 22 = .ok (.iconst 0, 1) := by decide +kernel
theorem dX5_isSlot_23 : decode cX5_isSlot 23 = .ok (.ireturn, 1) := by decide +kernel
set_option maxRecDepth 20000 in
theorem ggX5_addDisc_X5_isIn : GoodIn wsX5_addDisc wsX5_isIn := goodIn_r _ [9] (by decide +kernel) (by decide +kernel)
set_option maxRecDepth 20000 in
theorem gX5_addDisc_X5_isIn : GoodIn wsX5_addDisc (va_wsS RX5 93 yX5_isIn wsX5_isIn) := goodIn_app (goodIn_of _ (by decide +kernel)) ggX5_addDisc_X5_isIn
set_option maxRecDepth 20000 in
theorem ggX5_addDisc_X5_no : GoodIn wsX5_addDisc wsX5_no := goodIn_r _ [13, 14, 15, 16, 17, 18, 19, 20, 21, 22, 23, 24, 25, 26, 27, 28, 29, 30, 31, 32, 33, 34, 35, 36, 37, 38, 39, 40, 41, 42, 43, 44] (by decide +kernel) (by decide +kernel)
set_option maxRecDepth 20000 in
theorem gX5_addDisc_X5_no : GoodIn wsX5_addDisc (wsV RX5 104 RX5 yX5_no wsX5_no) := goodIn_app (goodIn_of _ (by decide +kernel)) ggX5_addDisc_X5_no
theorem dX5_addDisc_0 : decode cX5_addDisc 0 = .ok (.aload_n 0, 1) := by decide +kernel
theorem dX5_addDisc_1 : decode cX5_addDisc 1 = .ok (.iload_n 1, 1) := by decide +kernel
theorem dX5_addDisc_2 : decode cX5_addDisc 2 = .ok (.iconst 0, 1) := by decide +kernel
theorem dX5_addDisc_3 : decode cX5_addDisc 3 = .ok (.bipush 99, 2) := by decide +kernel
theorem dX5_addDisc_5 : decode cX5_addDisc 5 = .ok (.invokestatic 93, 3) := by decide +kernel
theorem dX5_addDisc_8 : decode cX5_addDisc 8 = .ok (.ifCond .eq 27, 3) := by decide +kernel
theorem dX5_addDisc_11 : decode cX5_addDisc 11 = .ok (.iload_n 2, 1) := by decide +kernel
theorem dX5_addDisc_12 : decode cX5_addDisc 12 = .ok (.iconst 1, 1) := by decide +kernel
theorem dX5_addDisc_13 : decode cX5_addDisc 13 = .ok (.bipush 50, 2) := by decide +kernel
theorem dX5_addDisc_15 : decode cX5_addDisc 15 = .ok (.invokestatic 93, 3) := by decide +kernel
theorem dX5_addDisc_18 : decode cX5_addDisc 18 = .ok (.ifCond .eq 17, 3) := by decide +kernel
theorem dX5_addDisc_21 : decode cX5_addDisc 21 = .ok (.iload_n 3, 1) := by decide +kernel
theorem dX5_addDisc_22 : decode cX5_addDisc 22 = .ok (.iconst 0, 1) := by decide +kernel
theorem dX5_addDisc_23 : decode cX5_addDisc 23 = .ok (.bipush 99, 2) := by decide +kernel
theorem dX5_addDisc_25 : decode cX5_addDisc 25 = .ok (.invokestatic 93, 3) := by decide +kernel
theorem dX5_addDisc_28 : decode cX5_addDisc 28 = .ok (.ifCond .eq 7, 3) := by decide +kernel
theorem dX5_addDisc_31 : decode cX5_addDisc 31 = .ok (.iconst 1, 1) := by decide +kernel
theorem dX5_addDisc_32 : decode cX5_addDisc 32 = .ok (.goto 4, 3) := by decide +kernel
theorem dX5_addDisc_35 : decode cX5_addDisc 35 = .ok (.iconst 0, 1) := by decide +kernel
theorem dX5_addDisc_36 : decode cX5_addDisc 36 = .ok (.iconst 1, 1) := by decide +kernel
theorem dX5_addDisc_37 : decode cX5_addDisc 37 = .ok (.invokevirtual 104, 3) := by decide +kernel
theorem dX5_addDisc_40 : decode cX5_addDisc 40 = .ok (.ifCond .ne 25, 3) := by decide +kernel
theorem dX5_addDisc_43 : decode cX5_addDisc 43 = .ok (.aload_n 0, 1) := by decide +kernel
theorem dX5_addDisc_44 : decode cX5_addDisc 44 = .ok (.aload_n 0, 1) := by decide +kernel
theorem dX5_addDisc_45 : decode cX5_addDisc 45 = .ok (.getfield 90, 3) := by decide +kernel
theorem dX5_addDisc_48 : decode cX5_addDisc 48 = .ok (.bipush 30, 2) := by decide +kernel
theorem dX5_addDisc_50 : decode cX5_addDisc 50 = .ok (.if_icmp .ge 7, 3) := by decide +kernel
theorem dX5_addDisc_53 : decode cX5_addDisc 53 = .ok (.iconst 1, 1) := by decide +kernel
theorem dX5_addDisc_54 : decode cX5_addDisc 54 = .ok (.goto 4, 3) := by decide +kernel
theorem dX5_addDisc_57 : decode cX5_addDisc 57 = .ok (.iconst 0, 1) := by decide +kernel
theorem dX5_addDisc_58 : decode cX5_addDisc 58 = .ok (.iconst 2, 1) := by decide +kernel
theorem dX5_addDisc_59 : decode cX5_addDisc 59 = .ok (.invokevirtual 104, 3) := by decide +kernel
theorem dX5_addDisc_62 : decode cX5_addDisc 62 = .ok (.ifCond .eq 5, 3) := by decide +kernel
theorem dX5_addDisc_65 : decode cX5_addDisc 65 = .ok (.iconst 0, 1) := by decide +kernel
theorem dX5_addDisc_66 : decode cX5_addDisc 66 = .ok (.ireturn, 1) := by decide +kernel
theorem dX5_addDisc_67 : decode cX5_addDisc 67 = .ok (.aload_n 0, 1) := by decide +kernel
theorem dX5_addDisc_68 : decode cX5_addDisc 68 = .ok (.getfield 7, 3) := by decide +kernel
theorem dX5_addDisc_71 : decode cX5_addDisc 71 = .ok (.aload_n 0, 1) := by decide +kernel
theorem dX5_addDisc_72 : decode cX5_addDisc 72 = .ok (.getfield 90, 3) := by decide +kernel
theorem dX5_addDisc_75 : decode cX5_addDisc 75 = .ok (.iload_n 1, 1) := by decide +kernel
theorem dX5_addDisc_76 : decode cX5_addDisc 76 = .ok (.iastore, 1) := by decide +kernel
theorem dX5_addDisc_77 : decode cX5_addDisc 77 = .ok (.aload_n 0, 1) := by decide +kernel
theorem dX5_addDisc_78 : decode cX5_addDisc 78 = .ok (.getfield 13, 3) := by decide +kernel
theorem dX5_addDisc_81 : decode cX5_addDisc 81 = .ok (.aload_n 0, 1) := by decide +kernel
theorem dX5_addDisc_82 : decode cX5_addDisc 82 = .ok (.getfield 90, 3) := by decide +kernel
theorem dX5_addDisc_85 : decode cX5_addDisc 85 = .ok (.iload_n 2, 1) := by decide +kernel
theorem dX5_addDisc_86 : decode cX5_addDisc 86 = .ok (.iastore, 1) := by decide +kernel
theorem dX5_addDisc_87 : decode cX5_addDisc 87 = .ok (.aload_n 0, 1) := by decide +kernel
theorem dX5_addDisc_88 : decode cX5_addDisc 88 = .ok (.getfield 16, 3) := by decide +kernel
theorem dX5_addDisc_91 : decode cX5_addDisc 91 = .ok (.aload_n 0, 1) := by decide +kernel
theorem dX5_addDisc_92 : decode cX5_addDisc 92 = .ok (.getfield 90, 3) := by decide +kernel
theorem dX5_addDisc_95 : decode cX5_addDisc 95 = .ok (.iload_n 3, 1) := by decide +kernel
theorem dX5_addDisc_96 : decode cX5_addDisc 96 = .ok (.iastore, 1) := by decide +kernel
theorem dX5_addDisc_97 : decode cX5_addDisc 97 = .ok (.aload_n 0, 1) := by decide +kernel
theorem dX5_addDisc_98 : decode cX5_addDisc 98 = .ok (.getfield 22, 3) := by decide +kernel
theorem dX5_addDisc_101 : decode cX5_addDisc 101 = .ok (.aload_n 0, 1) := by decide +kernel
theorem dX5_addDisc_102 : decode cX5_addDisc 102 = .ok (.getfield 90, 3) := by decide +kernel
theorem dX5_addDisc_105 : decode cX5_addDisc 105 = .ok (.iconst (-1), 1) := by decide +kernel
theorem dX5_addDisc_106 : decode cX5_addDisc 106 = .ok (.iastore, 1) := by decide +kernel
theorem dX5_addDisc_107 : decode cX5_addDisc 107 = .ok (.aload_n 0, 1) := by decide +kernel
theorem dX5_addDisc_108 : decode cX5_addDisc 108 = .ok (.dup, 1) := by decide +kernel
theorem dX5_addDisc_109 : decode cX5_addDisc 109 = .ok (.getfield 90, 3) := by decide +kernel
theorem dX5_addDisc_112 : decode cX5_addDisc 112 = .ok (.iconst 1, 1) := by decide +kernel
theorem dX5_addDisc_113 : decode cX5_addDisc 113 = .ok (.iadd, 1) := by decide +kernel
theorem dX5_addDisc_114 : decode cX5_addDisc 114 = .ok (.putfield 90, 3) := by decide +kernel
theorem dX5_addDisc_117 : decode cX5_addDisc 117 = .ok (.aload_n 0, 1) := by decide +kernel
theorem dX5_addDisc_118 : decode cX5_addDisc 118 = .ok (.getfield 90, 3) := by decide +kernel
theorem dX5_addDisc_121 : decode cX5_addDisc 121 = .ok (.iconst 1, 1) := by decide +kernel
theorem dX5_addDisc_122 : decode cX5_addDisc 122 = .ok (.isub, 1) := by decide +kernel
theorem dX5_addDisc_123 : decode cX5_addDisc 123 = .ok (.ireturn, 1) := by decide +kernel
set_option maxRecDepth 20000 in
theorem ggX5_addBox_X5_isIn : GoodIn wsX5_addBox wsX5_isIn := goodIn_r _ [7] (by decide +kernel) (by decide +kernel)
set_option maxRecDepth 20000 in
theorem gX5_addBox_X5_isIn : GoodIn wsX5_addBox (va_wsS RX5 93 yX5_isIn wsX5_isIn) := goodIn_app (goodIn_of _ (by decide +kernel)) ggX5_addBox_X5_isIn
set_option maxRecDepth 20000 in
theorem ggX5_addBox_X5_no : GoodIn wsX5_addBox wsX5_no := goodIn_r _ [11, 12, 13, 14, 15, 16, 17, 18, 19, 20, 21, 22, 23, 24, 25, 26, 27, 28, 29, 30, 31, 32, 33, 34, 35, 36, 37, 38, 39, 40, 41, 42] (by decide +kernel) (by decide +kernel)
set_option maxRecDepth 20000 in
theorem gX5_addBox_X5_no : GoodIn wsX5_addBox (wsV RX5 104 RX5 yX5_no wsX5_no) := goodIn_app (goodIn_of _ (by decide +kernel)) ggX5_addBox_X5_no
theorem dX5_addBox_0 : decode cX5_addBox 0 = .ok (.aload_n 0, 1) := by decide +kernel
theorem dX5_addBox_1 : decode cX5_addBox 1 = .ok (.iload_n 1, 1) := by decide +kernel
theorem dX5_addBox_2 : decode cX5_addBox 2 = .ok (.iconst 0, 1) := by decide +kernel
theorem dX5_addBox_3 : decode cX5_addBox 3 = .ok (.bipush 60, 2) := by decide +kernel
theorem dX5_addBox_5 : decode cX5_addBox 5 = .ok (.invokestatic 93, 3) := by decide +kernel
theorem dX5_addBox_8 : decode cX5_addBox 8 = .ok (.ifCond .eq 17, 3) := by decide +kernel
theorem dX5_addBox_11 : decode cX5_addBox 11 = .ok (.iload_n 2, 1) := by decide +kernel
theorem dX5_addBox_12 : decode cX5_addBox 12 = .ok (.iconst 0, 1) := by decide +kernel
theorem dX5_addBox_13 : decode cX5_addBox 13 = .ok (.bipush 9, 2) := by decide +kernel
theorem dX5_addBox_15 : decode cX5_addBox 15 = .ok (.invokestatic 93, 3) := by decide +kernel
theorem dX5_addBox_18 : decode cX5_addBox 18 = .ok (.ifCond .eq 7, 3) := by decide +kernel
theorem dX5_addBox_21 : decode cX5_addBox 21 = .ok (.iconst 1, 1) := by decide +kernel
theorem dX5_addBox_22 : decode cX5_addBox 22 = .ok (.goto 4, 3) := by decide +kernel
theorem dX5_addBox_25 : decode cX5_addBox 25 = .ok (.iconst 0, 1) := by decide +kernel
theorem dX5_addBox_26 : decode cX5_addBox 26 = .ok (.iconst 1, 1) := by decide +kernel
theorem dX5_addBox_27 : decode cX5_addBox 27 = .ok (.invokevirtual 104, 3) := by decide +kernel
theorem dX5_addBox_30 : decode cX5_addBox 30 = .ok (.ifCond .ne 24, 3) := by decide +kernel
theorem dX5_addBox_33 : decode cX5_addBox 33 = .ok (.aload_n 0, 1) := by decide +kernel
theorem dX5_addBox_34 : decode cX5_addBox 34 = .ok (.aload_n 0, 1) := by decide +kernel
theorem dX5_addBox_35 : decode cX5_addBox 35 = .ok (.getfield 97, 3) := by decide +kernel
theorem dX5_addBox_38 : decode cX5_addBox 38 = .ok (.iconst 4, 1) := by decide +kernel
theorem dX5_addBox_39 : decode cX5_addBox 39 = .ok (.if_icmp .ge 7, 3) := by decide +kernel
theorem dX5_addBox_42 : decode cX5_addBox 42 = .ok (.iconst 1, 1) := by decide +kernel
theorem dX5_addBox_43 : decode cX5_addBox 43 = .ok (.goto 4, 3) := by decide +kernel
theorem dX5_addBox_46 : decode cX5_addBox 46 = .ok (.iconst 0, 1) := by decide +kernel
theorem dX5_addBox_47 : decode cX5_addBox 47 = .ok (.iconst 2, 1) := by decide +kernel
theorem dX5_addBox_48 : decode cX5_addBox 48 = .ok (.invokevirtual 104, 3) := by decide +kernel
theorem dX5_addBox_51 : decode cX5_addBox 51 = .ok (.ifCond .eq 5, 3) := by decide +kernel
theorem dX5_addBox_54 : decode cX5_addBox 54 = .ok (.iconst 0, 1) := by decide +kernel
theorem dX5_addBox_55 : decode cX5_addBox 55 = .ok (.ireturn, 1) := by decide +kernel
theorem dX5_addBox_56 : decode cX5_addBox 56 = .ok (.aload_n 0, 1) := by decide +kernel
theorem dX5_addBox_57 : decode cX5_addBox 57 = .ok (.getfield 25, 3) := by decide +kernel
theorem dX5_addBox_60 : decode cX5_addBox 60 = .ok (.aload_n 0, 1) := by decide +kernel
theorem dX5_addBox_61 : decode cX5_addBox 61 = .ok (.getfield 97, 3) := by decide +kernel
theorem dX5_addBox_64 : decode cX5_addBox 64 = .ok (.iload_n 1, 1) := by decide +kernel
theorem dX5_addBox_65 : decode cX5_addBox 65 = .ok (.iastore, 1) := by decide +kernel
theorem dX5_addBox_66 : decode cX5_addBox 66 = .ok (.aload_n 0, 1) := by decide +kernel
theorem dX5_addBox_67 : decode cX5_addBox 67 = .ok (.getfield 28, 3) := by decide +kernel
theorem dX5_addBox_70 : decode cX5_addBox 70 = .ok (.aload_n 0, 1) := by decide +kernel
theorem dX5_addBox_71 : decode cX5_addBox 71 = .ok (.getfield 97, 3) := by decide +kernel
theorem dX5_addBox_74 : decode cX5_addBox 74 = .ok (.iload_n 2, 1) := by decide +kernel
theorem dX5_addBox_75 : decode cX5_addBox 75 = .ok (.iastore, 1) := by decide +kernel
theorem dX5_addBox_76 : decode cX5_addBox 76 = .ok (.aload_n 0, 1) := by decide +kernel
theorem dX5_addBox_77 : decode cX5_addBox 77 = .ok (.dup, 1) := by decide +kernel
theorem dX5_addBox_78 : decode cX5_addBox 78 = .ok (.getfield 97, 3) := by decide +kernel
theorem dX5_addBox_81 : decode cX5_addBox 81 = .ok (.iconst 1, 1) := by decide +kernel
theorem dX5_addBox_82 : decode cX5_addBox 82 = .ok (.iadd, 1) := by decide +kernel
theorem dX5_addBox_83 : decode cX5_addBox 83 = .ok (.putfield 97, 3) := by decide +kernel
theorem dX5_addBox_86 : decode cX5_addBox 86 = .ok (.aload_n 0, 1) := by decide +kernel
theorem dX5_addBox_87 : decode cX5_addBox 87 = .ok (.getfield 97, 3) := by decide +kernel
theorem dX5_addBox_90 : decode cX5_addBox 90 = .ok (.iconst 1, 1) := by decide +kernel
theorem dX5_addBox_91 : decode cX5_addBox 91 = .ok (.isub, 1) := by decide +kernel
theorem dX5_addBox_92 : decode cX5_addBox 92 = .ok (.ireturn, 1) := by decide +kernel
set_option maxRecDepth 20000 in
theorem ggX5_setRisk_X5_isBox : GoodIn wsX5_setRisk wsX5_isBox := goodIn_r _ [6, 7, 8, 9, 5, 10, 16, 17, 18, 19, 20, 21, 22, 23, 24, 25, 26, 27, 28, 29, 30, 31, 32, 33, 34, 35, 36, 37, 38, 39, 40, 41, 42, 43, 44, 45] (by decide +kernel) (by decide +kernel)
set_option maxRecDepth 20000 in
theorem gX5_setRisk_X5_isBox : GoodIn wsX5_setRisk (wsV RX5 100 RX5 yX5_isBox wsX5_isBox) := goodIn_app (goodIn_of _ (by decide +kernel)) ggX5_setRisk_X5_isBox
set_option maxRecDepth 20000 in
theorem ggX5_setRisk_X5_no : GoodIn wsX5_setRisk wsX5_no := goodIn_r _ [14, 15, 16, 17, 18, 19, 20, 21, 22, 23, 24, 25, 26, 27, 28, 29, 30, 31, 32, 33, 34, 35, 36, 37, 38, 39, 40, 41, 42, 43, 44, 45] (by decide +kernel) (by decide +kernel)
set_option maxRecDepth 20000 in
theorem gX5_setRisk_X5_no : GoodIn wsX5_setRisk (wsV RX5 104 RX5 yX5_no wsX5_no) := goodIn_app (goodIn_of _ (by decide +kernel)) ggX5_setRisk_X5_no
set_option maxRecDepth 20000 in
theorem ggX5_setRisk_X5_isIn : GoodIn wsX5_setRisk wsX5_isIn := goodIn_r _ [10] (by decide +kernel) (by decide +kernel)
set_option maxRecDepth 20000 in
theorem gX5_setRisk_X5_isIn : GoodIn wsX5_setRisk (va_wsS RX5 93 yX5_isIn wsX5_isIn) := goodIn_app (goodIn_of _ (by decide +kernel)) ggX5_setRisk_X5_isIn
theorem dX5_setRisk_0 : decode cX5_setRisk 0 = .ok (.aload_n 0, 1) := by decide +kernel
theorem dX5_setRisk_1 : decode cX5_setRisk 1 = .ok (.aload_n 0, 1) := by decide +kernel
theorem dX5_setRisk_2 : decode cX5_setRisk 2 = .ok (.iload_n 1, 1) := by decide +kernel
theorem dX5_setRisk_3 : decode cX5_setRisk 3 = .ok (.invokevirtual 100, 3) := by decide +kernel
theorem dX5_setRisk_6 : decode cX5_setRisk 6 = .ok (.iconst 1, 1) := by decide +kernel
theorem dX5_setRisk_7 : decode cX5_setRisk 7 = .ok (.invokevirtual 104, 3) := by decide +kernel
theorem dX5_setRisk_10 : decode cX5_setRisk 10 = .ok (.ifCond .ne 18, 3) := by decide +kernel
theorem dX5_setRisk_13 : decode cX5_setRisk 13 = .ok (.aload_n 0, 1) := by decide +kernel
theorem dX5_setRisk_14 : decode cX5_setRisk 14 = .ok (.iload_n 2, 1) := by decide +kernel
theorem dX5_setRisk_15 : decode cX5_setRisk 15 = .ok (.iconst 0, 1) := by decide +kernel
theorem dX5_setRisk_16 : decode cX5_setRisk 16 = .ok (.bipush 20, 2) := by decide +kernel
theorem dX5_setRisk_18 : decode cX5_setRisk 18 = .ok (.invokestatic 93, 3) := by decide +kernel
theorem dX5_setRisk_21 : decode cX5_setRisk 21 = .ok (.iconst 2, 1) := by decide +kernel
theorem dX5_setRisk_22 : decode cX5_setRisk 22 = .ok (.invokevirtual 104, 3) := by decide +kernel
theorem dX5_setRisk_25 : decode cX5_setRisk 25 = .ok (.ifCond .eq 5, 3) := by decide +kernel
theorem dX5_setRisk_28 : decode cX5_setRisk 28 = .ok (.iconst 0, 1) := by decide +kernel
theorem dX5_setRisk_29 : decode cX5_setRisk 29 = .ok (.ireturn, 1) := by decide +kernel
theorem dX5_setRisk_30 : decode cX5_setRisk 30 = .ok (.aload_n 0, 1) := by decide +kernel
theorem dX5_setRisk_31 : decode cX5_setRisk 31 = .ok (.getfield 31, 3) := by decide +kernel
theorem dX5_setRisk_34 : decode cX5_setRisk 34 = .ok (.iload_n 1, 1) := by decide +kernel
theorem dX5_setRisk_35 : decode cX5_setRisk 35 = .ok (.iaload, 1) := by decide +kernel
theorem dX5_setRisk_36 : decode cX5_setRisk 36 = .ok (.istore_n 3, 1) := by decide +kernel
theorem dX5_setRisk_37 : decode cX5_setRisk 37 = .ok (.aload_n 0, 1) := by decide +kernel
theorem dX5_setRisk_38 : decode cX5_setRisk 38 = .ok (.getfield 31, 3) := by decide +kernel
theorem dX5_setRisk_41 : decode cX5_setRisk 41 = .ok (.iload_n 1, 1) := by decide +kernel
theorem dX5_setRisk_42 : decode cX5_setRisk 42 = .ok (.iload_n 2, 1) := by decide +kernel
theorem dX5_setRisk_43 : decode cX5_setRisk 43 = .ok (.iastore, 1) := by decide +kernel
theorem dX5_setRisk_44 : decode cX5_setRisk 44 = .ok (.iload_n 3, 1) := by decide +kernel
theorem dX5_setRisk_45 : decode cX5_setRisk 45 = .ok (.ireturn, 1) := by decide +kernel
set_option maxRecDepth 20000 in
theorem ggX5_setSeed_X5_isIn : GoodIn wsX5_setSeed wsX5_isIn := goodIn_r _ [6] (by decide +kernel) (by decide +kernel)
set_option maxRecDepth 20000 in
theorem gX5_setSeed_X5_isIn : GoodIn wsX5_setSeed (va_wsS RX5 93 yX5_isIn wsX5_isIn) := goodIn_app (goodIn_of _ (by decide +kernel)) ggX5_setSeed_X5_isIn
set_option maxRecDepth 20000 in
theorem ggX5_setSeed_X5_no : GoodIn wsX5_setSeed wsX5_no := goodIn_r _ [10, 11, 12, 13, 14, 15, 16, 17, 18, 19, 20, 21, 22, 23, 24, 25, 26, 27, 28, 29, 30, 31, 32, 33, 34, 35, 36, 37, 38, 39, 40, 41] (by decide +kernel) (by decide +kernel)
set_option maxRecDepth 20000 in
theorem gX5_setSeed_X5_no : GoodIn wsX5_setSeed (wsV RX5 104 RX5 yX5_no wsX5_no) := goodIn_app (goodIn_of _ (by decide +kernel)) ggX5_setSeed_X5_no
theorem dX5_setSeed_0 : decode cX5_setSeed 0 = .ok (.aload_n 0, 1) := by decide +kernel
theorem dX5_setSeed_1 : decode cX5_setSeed 1 = .ok (.iload_n 1, 1) := by decide +kernel
theorem dX5_setSeed_2 : decode cX5_setSeed 2 = .ok (.iconst 1, 1) := by decide +kernel
theorem dX5_setSeed_3 : decode cX5_setSeed 3 = .ok (.ldc 108, 2) := by decide +kernel
theorem dX5_setSeed_5 : decode cX5_setSeed 5 = .ok (.invokestatic 93, 3) := by decide +kernel
theorem dX5_setSeed_8 : decode cX5_setSeed 8 = .ok (.iconst 1, 1) := by decide +kernel
theorem dX5_setSeed_9 : decode cX5_setSeed 9 = .ok (.invokevirtual 104, 3) := by decide +kernel
theorem dX5_setSeed_12 : decode cX5_setSeed 12 = .ok (.ifCond .eq 5, 3) := by decide +kernel
theorem dX5_setSeed_15 : decode cX5_setSeed 15 = .ok (.iconst 0, 1) := by decide +kernel
theorem dX5_setSeed_16 : decode cX5_setSeed 16 = .ok (.ireturn, 1) := by decide +kernel
theorem dX5_setSeed_17 : decode cX5_setSeed 17 = .ok (.aload_n 0, 1) := by decide +kernel
theorem dX5_setSeed_18 : decode cX5_setSeed 18 = .ok (.getfield 80, 3) := by decide +kernel
theorem dX5_setSeed_21 : decode cX5_setSeed 21 = .ok (.istore_n 2, 1) := by decide +kernel
theorem dX5_setSeed_22 : decode cX5_setSeed 22 = .ok (.aload_n 0, 1) := by decide +kernel
theorem dX5_setSeed_23 : decode cX5_setSeed 23 = .ok (.iload_n 1, 1) := by decide +kernel
theorem dX5_setSeed_24 : decode cX5_setSeed 24 = .ok (.putfield 80, 3) := by decide +kernel
theorem dX5_setSeed_27 : decode cX5_setSeed 27 = .ok (.iload_n 2, 1) := by decide +kernel
theorem dX5_setSeed_28 : decode cX5_setSeed 28 = .ok (.ireturn, 1) := by decide +kernel
theorem dX5_pullAt_0 : decode cX5_pullAt 0 = .ok (.aload_n 0, 1) := by decide +kernel
theorem dX5_pullAt_1 : decode cX5_pullAt 1 = .ok (.getfield 22, 3) := by decide +kernel
theorem dX5_pullAt_4 : decode cX5_pullAt 4 = .ok (.iload_n 2, 1) := by decide +kernel
theorem dX5_pullAt_5 : decode cX5_pullAt 5 = .ok (.iaload, 1) := by decide +kernel
theorem dX5_pullAt_6 : decode cX5_pullAt 6 = .ok (.bipush (-2), 2) := by decide +kernel
theorem dX5_pullAt_8 : decode cX5_pullAt 8 = .ok (.if_icmp .eq 16, 3) := by decide +kernel
theorem dX5_pullAt_11 : decode cX5_pullAt 11 = .ok (.aload_n 0, 1) := by decide +kernel
theorem dX5_pullAt_12 : decode cX5_pullAt 12 = .ok (.getfield 109, 3) := by decide +kernel
theorem dX5_pullAt_15 : decode cX5_pullAt 15 = .ok (.aload_n 0, 1) := by decide +kernel
theorem dX5_pullAt_16 : decode cX5_pullAt 16 = .ok (.getfield 16, 3) := by decide +kernel
theorem dX5_pullAt_19 : decode cX5_pullAt 19 = .ok (.iload_n 2, 1) := by decide +kernel
theorem dX5_pullAt_20 : decode cX5_pullAt 20 = .ok (.iaload, 1) := by decide +kernel
theorem dX5_pullAt_21 : decode cX5_pullAt 21 = .ok (.if_icmp .ge 5, 3) := by decide +kernel
theorem dX5_pullAt_24 : decode cX5_pullAt 24 = .ok (.iconst 0, 1) := by decide +kernel
theorem dX5_pullAt_25 : decode cX5_pullAt 25 = .ok (.ireturn, 1) := by decide +kernel
theorem dX5_pullAt_26 : decode cX5_pullAt 26 = .ok (.aload_n 0, 1) := by decide +kernel
theorem dX5_pullAt_27 : decode cX5_pullAt 27 = .ok (.getfield 13, 3) := by decide +kernel
theorem dX5_pullAt_30 : decode cX5_pullAt 30 = .ok (.iload_n 2, 1) := by decide +kernel
theorem dX5_pullAt_31 : decode cX5_pullAt 31 = .ok (.iaload, 1) := by decide +kernel
theorem dX5_pullAt_32 : decode cX5_pullAt 32 = .ok (.iconst 5, 1) := by decide +kernel
theorem dX5_pullAt_33 : decode cX5_pullAt 33 = .ok (.idiv, 1) := by decide +kernel
theorem dX5_pullAt_34 : decode cX5_pullAt 34 = .ok (.istore_n 3, 1) := by decide +kernel
theorem dX5_pullAt_35 : decode cX5_pullAt 35 = .ok (.aload_n 0, 1) := by decide +kernel
theorem dX5_pullAt_36 : decode cX5_pullAt 36 = .ok (.getfield 13, 3) := by decide +kernel
theorem dX5_pullAt_39 : decode cX5_pullAt 39 = .ok (.iload_n 2, 1) := by decide +kernel
theorem dX5_pullAt_40 : decode cX5_pullAt 40 = .ok (.iaload, 1) := by decide +kernel
theorem dX5_pullAt_41 : decode cX5_pullAt 41 = .ok (.iconst 2, 1) := by decide +kernel
theorem dX5_pullAt_42 : decode cX5_pullAt 42 = .ok (.aload_n 0, 1) := by decide +kernel
theorem dX5_pullAt_43 : decode cX5_pullAt 43 = .ok (.getfield 109, 3) := by decide +kernel
theorem dX5_pullAt_46 : decode cX5_pullAt 46 = .ok (.aload_n 0, 1) := by decide +kernel
theorem dX5_pullAt_47 : decode cX5_pullAt 47 = .ok (.getfield 16, 3) := by decide +kernel
theorem dX5_pullAt_50 : decode cX5_pullAt 50 = .ok (.iload_n 2, 1) := by decide +kernel
theorem dX5_pullAt_51 : decode cX5_pullAt 51 = .ok (.iaload, 1) := by decide +kernel
theorem dX5_pullAt_52 : decode cX5_pullAt 52 = .ok (.isub, 1) := by decide +kernel
theorem dX5_pullAt_53 : decode cX5_pullAt 53 = .ok (.imul, 1) := by decide +kernel
theorem dX5_pullAt_54 : decode cX5_pullAt 54 = .ok (.isub, 1) := by decide +kernel
theorem dX5_pullAt_55 : decode cX5_pullAt 55 = .ok (.istore 4, 2) := by decide +kernel
theorem dX5_pullAt_57 : decode cX5_pullAt 57 = .ok (.iload 4, 2) := by decide +kernel
theorem dX5_pullAt_59 : decode cX5_pullAt 59 = .ok (.iload_n 3, 1) := by decide +kernel
theorem dX5_pullAt_60 : decode cX5_pullAt 60 = .ok (.if_icmp .ge 7, 3) := by decide +kernel
theorem dX5_pullAt_63 : decode cX5_pullAt 63 = .ok (.iload_n 3, 1) := by decide +kernel
theorem dX5_pullAt_64 : decode cX5_pullAt 64 = .ok (.goto 5, 3) := by decide +kernel
theorem dX5_pullAt_67 : decode cX5_pullAt 67 = .ok (.iload 4, 2) := by decide +kernel
theorem dX5_pullAt_69 : decode cX5_pullAt 69 = .ok (.istore 4, 2) := by decide +kernel
theorem dX5_pullAt_71 : decode cX5_pullAt 71 = .ok (.iload_n 1, 1) := by decide +kernel
theorem dX5_pullAt_72 : decode cX5_pullAt 72 = .ok (.ifCond .lt 30, 3) := by decide +kernel
theorem dX5_pullAt_75 : decode cX5_pullAt 75 = .ok (.aload_n 0, 1) := by decide +kernel
theorem dX5_pullAt_76 : decode cX5_pullAt 76 = .ok (.getfield 7, 3) := by decide +kernel
theorem dX5_pullAt_79 : decode cX5_pullAt 79 = .ok (.iload_n 2, 1) := by decide +kernel
theorem dX5_pullAt_80 : decode cX5_pullAt 80 = .ok (.iaload, 1) := by decide +kernel
theorem dX5_pullAt_81 : decode cX5_pullAt 81 = .ok (.bipush 10, 2) := by decide +kernel
theorem dX5_pullAt_83 : decode cX5_pullAt 83 = .ok (.irem, 1) := by decide +kernel
theorem dX5_pullAt_84 : decode cX5_pullAt 84 = .ok (.aload_n 0, 1) := by decide +kernel
theorem dX5_pullAt_85 : decode cX5_pullAt 85 = .ok (.getfield 28, 3) := by decide +kernel
theorem dX5_pullAt_88 : decode cX5_pullAt 88 = .ok (.iload_n 1, 1) := by decide +kernel
theorem dX5_pullAt_89 : decode cX5_pullAt 89 = .ok (.iaload, 1) := by decide +kernel
theorem dX5_pullAt_90 : decode cX5_pullAt 90 = .ok (.if_icmp .ne 12, 3) := by decide +kernel
theorem dX5_pullAt_93 : decode cX5_pullAt 93 = .ok (.iload 4, 2) := by decide +kernel
theorem dX5_pullAt_95 : decode cX5_pullAt 95 = .ok (.iload 4, 2) := by decide +kernel
theorem dX5_pullAt_97 : decode cX5_pullAt 97 = .ok (.iconst 2, 1) := by decide +kernel
theorem dX5_pullAt_98 : decode cX5_pullAt 98 = .ok (.idiv, 1) := by decide +kernel
theorem dX5_pullAt_99 : decode cX5_pullAt 99 = .ok (.iadd, 1) := by decide +kernel
theorem dX5_pullAt_100 : decode cX5_pullAt 100 = .ok (.istore 4, 2) := by decide +kernel
theorem dX5_pullAt_102 : decode cX5_pullAt 102 = .ok (.iload 4, 2) := by decide +kernel
theorem dX5_pullAt_104 : decode cX5_pullAt 104 = .ok (.aload_n 0, 1) := by decide +kernel
theorem dX5_pullAt_105 : decode cX5_pullAt 105 = .ok (.getfield 19, 3) := by decide +kernel
theorem dX5_pullAt_108 : decode cX5_pullAt 108 = .ok (.iload_n 2, 1) := by decide +kernel
theorem dX5_pullAt_109 : decode cX5_pullAt 109 = .ok (.iaload, 1) := by decide +kernel
theorem dX5_pullAt_110 : decode cX5_pullAt 110 = .ok (.bipush 10, 2) := by decide +kernel
theorem dX5_pullAt_112 : decode cX5_pullAt 112 = .ok (.idiv, 1) := by decide +kernel
theorem dX5_pullAt_113 : decode cX5_pullAt 113 = .ok (.isub, 1) := by decide +kernel
theorem dX5_pullAt_114 : decode cX5_pullAt 114 = .ok (.istore 4, 2) := by decide +kernel
theorem dX5_pullAt_116 : decode cX5_pullAt 116 = .ok (.iload 4, 2) := by decide +kernel
theorem dX5_pullAt_118 : decode cX5_pullAt 118 = .ok (.ifCond .ge 7, 3) := by decide +kernel
theorem dX5_pullAt_121 : decode cX5_pullAt 121 = .ok (.iconst 0, 1) := by decide +kernel
theorem dX5_pullAt_122 : decode cX5_pullAt 122 = .ok (.goto 5, 3) := by decide +kernel
theorem dX5_pullAt_125 : decode cX5_pullAt 125 = .ok (.iload 4, 2) := by decide +kernel
theorem dX5_pullAt_127 : decode cX5_pullAt 127 = .ok (.ireturn, 1) := by decide +kernel
set_option maxRecDepth 20000 in
theorem ggX5_pullOfSlot_X5_pullAt : GoodIn wsX5_pullOfSlot wsX5_pullAt := goodIn_ca (goodIn_r _ [6, 7, 8, 9, 10, 11, 12, 13, 14, 15, 16, 17, 18, 19, 20, 21, 22, 23, 24, 25, 26, 27, 28, 29, 30, 31, 32, 33, 34, 35, 36, 37, 38, 39, 40, 41, 42, 43] (by decide +kernel) (by decide +kernel)) (goodIn_sub (fun _ h => List.mem_cons_of_mem _ (List.mem_append_right _ h)) (by decide +kernel))
set_option maxRecDepth 20000 in
theorem gX5_pullOfSlot_X5_pullAt : GoodIn wsX5_pullOfSlot (wsV RX5 112 RX5 yX5_pullAt wsX5_pullAt) := goodIn_app (goodIn_of _ (by decide +kernel)) ggX5_pullOfSlot_X5_pullAt
theorem dX5_pullOfSlot_0 : decode cX5_pullOfSlot 0 = .ok (.aload_n 0, 1) := by decide +kernel
theorem dX5_pullOfSlot_1 : decode cX5_pullOfSlot 1 = .ok (.getfield 65, 3) := by decide +kernel
theorem dX5_pullOfSlot_4 : decode cX5_pullOfSlot 4 = .ok (.iload_n 1, 1) := by decide +kernel
theorem dX5_pullOfSlot_5 : decode cX5_pullOfSlot 5 = .ok (.iaload, 1) := by decide +kernel
theorem dX5_pullOfSlot_6 : decode cX5_pullOfSlot 6 = .ok (.ifCond .ne 7, 3) := by decide +kernel
theorem dX5_pullOfSlot_9 : decode cX5_pullOfSlot 9 = .ok (.iconst 0, 1) := by decide +kernel
theorem dX5_pullOfSlot_10 : decode cX5_pullOfSlot 10 = .ok (.goto 19, 3) := by decide +kernel
theorem dX5_pullOfSlot_13 : decode cX5_pullOfSlot 13 = .ok (.aload_n 0, 1) := by decide +kernel
theorem dX5_pullOfSlot_14 : decode cX5_pullOfSlot 14 = .ok (.iload_n 1, 1) := by decide +kernel
theorem dX5_pullOfSlot_15 : decode cX5_pullOfSlot 15 = .ok (.bipush 10, 2) := by decide +kernel
theorem dX5_pullOfSlot_17 : decode cX5_pullOfSlot 17 = .ok (.idiv, 1) := by decide +kernel
theorem dX5_pullOfSlot_18 : decode cX5_pullOfSlot 18 = .ok (.aload_n 0, 1) := by decide +kernel
theorem dX5_pullOfSlot_19 : decode cX5_pullOfSlot 19 = .ok (.getfield 65, 3) := by decide +kernel
theorem dX5_pullOfSlot_22 : decode cX5_pullOfSlot 22 = .ok (.iload_n 1, 1) := by decide +kernel
theorem dX5_pullOfSlot_23 : decode cX5_pullOfSlot 23 = .ok (.iaload, 1) := by decide +kernel
theorem dX5_pullOfSlot_24 : decode cX5_pullOfSlot 24 = .ok (.iconst 1, 1) := by decide +kernel
theorem dX5_pullOfSlot_25 : decode cX5_pullOfSlot 25 = .ok (.isub, 1) := by decide +kernel
theorem dX5_pullOfSlot_26 : decode cX5_pullOfSlot 26 = .ok (.invokevirtual 112, 3) := by decide +kernel
theorem dX5_pullOfSlot_29 : decode cX5_pullOfSlot 29 = .ok (.ireturn, 1) := by decide +kernel
set_option maxRecDepth 20000 in
theorem ggX5_insert_X5_isBox : GoodIn wsX5_insert wsX5_isBox := goodIn_r _ [8, 9, 10, 11, 7, 12, 18, 19, 20, 21, 22, 23, 24, 25, 26, 27, 28, 29, 30, 31, 32, 33, 34, 35, 36, 37, 38, 39, 40, 41, 42, 43, 44, 45, 46, 47] (by decide +kernel) (by decide +kernel)
set_option maxRecDepth 20000 in
theorem gX5_insert_X5_isBox : GoodIn wsX5_insert (wsV RX5 100 RX5 yX5_isBox wsX5_isBox) := goodIn_app (goodIn_of _ (by decide +kernel)) ggX5_insert_X5_isBox
set_option maxRecDepth 20000 in
theorem ggX5_insert_X5_no : GoodIn wsX5_insert wsX5_no := goodIn_r _ [16, 17, 18, 19, 20, 21, 22, 23, 24, 25, 26, 27, 28, 29, 30, 31, 32, 33, 34, 35, 36, 37, 38, 39, 40, 41, 42, 43, 44, 45, 46, 47] (by decide +kernel) (by decide +kernel)
set_option maxRecDepth 20000 in
theorem gX5_insert_X5_no : GoodIn wsX5_insert (wsV RX5 104 RX5 yX5_no wsX5_no) := goodIn_app (goodIn_of _ (by decide +kernel)) ggX5_insert_X5_no
theorem dX5_insert_0 : decode cX5_insert 0 = .ok (.iload_n 2, 1) := by decide +kernel
theorem dX5_insert_1 : decode cX5_insert 1 = .ok (.bipush 110, 2) := by decide +kernel
theorem dX5_insert_3 : decode cX5_insert 3 = .ok (.if_icmp .ne 7, 3) := by decide +kernel
theorem dX5_insert_6 : decode cX5_insert 6 = .ok (.iconst 1, 1) := by decide +kernel
theorem dX5_insert_7 : decode cX5_insert 7 = .ok (.goto 31, 3) := by decide +kernel
theorem dX5_insert_10 : decode cX5_insert 10 = .ok (.iload_n 2, 1) := by decide +kernel
theorem dX5_insert_11 : decode cX5_insert 11 = .ok (.bipush 100, 2) := by decide +kernel
theorem dX5_insert_13 : decode cX5_insert 13 = .ok (.if_icmp .ne 7, 3) := by decide +kernel
theorem dX5_insert_16 : decode cX5_insert 16 = .ok (.iconst 2, 1) := by decide +kernel
theorem dX5_insert_17 : decode cX5_insert 17 = .ok (.goto 21, 3) := by decide +kernel
theorem dX5_insert_20 : decode cX5_insert 20 = .ok (.iload_n 2, 1) := by decide +kernel
theorem dX5_insert_21 : decode cX5_insert 21 = .ok (.bipush 113, 2) := by decide +kernel
theorem dX5_insert_23 : decode cX5_insert 23 = .ok (.if_icmp .eq 9, 3) := by decide +kernel
theorem dX5_insert_26 : decode cX5_insert 26 = .ok (.iload_n 2, 1) := by decide +kernel
theorem dX5_insert_27 : decode cX5_insert 27 = .ok (.bipush 115, 2) := by decide +kernel
theorem dX5_insert_29 : decode cX5_insert 29 = .ok (.if_icmp .ne 8, 3) := by decide +kernel
theorem dX5_insert_32 : decode cX5_insert 32 = .ok (.bipush 6, 2) := by decide +kernel
theorem dX5_insert_34 : decode cX5_insert 34 = .ok (.goto 4, 3) := by decide +kernel
theorem dX5_insert_37 : decode cX5_insert 37 = .ok (.iconst 0, 1) := by decide +kernel
theorem dX5_insert_38 : decode cX5_insert 38 = .ok (.istore_n 3, 1) := by decide +kernel
theorem dX5_insert_39 : decode cX5_insert 39 = .ok (.aload_n 0, 1) := by decide +kernel
theorem dX5_insert_40 : decode cX5_insert 40 = .ok (.aload_n 0, 1) := by decide +kernel
theorem dX5_insert_41 : decode cX5_insert 41 = .ok (.iload_n 1, 1) := by decide +kernel
theorem dX5_insert_42 : decode cX5_insert 42 = .ok (.invokevirtual 100, 3) := by decide +kernel
theorem dX5_insert_45 : decode cX5_insert 45 = .ok (.iconst 1, 1) := by decide +kernel
theorem dX5_insert_46 : decode cX5_insert 46 = .ok (.invokevirtual 104, 3) := by decide +kernel
theorem dX5_insert_49 : decode cX5_insert 49 = .ok (.ifCond .ne 68, 3) := by decide +kernel
theorem dX5_insert_52 : decode cX5_insert 52 = .ok (.aload_n 0, 1) := by decide +kernel
theorem dX5_insert_53 : decode cX5_insert 53 = .ok (.iload_n 3, 1) := by decide +kernel
theorem dX5_insert_54 : decode cX5_insert 54 = .ok (.ifCond .le 7, 3) := by decide +kernel
theorem dX5_insert_57 : decode cX5_insert 57 = .ok (.iconst 1, 1) := by decide +kernel
theorem dX5_insert_58 : decode cX5_insert 58 = .ok (.goto 4, 3) := by decide +kernel
theorem dX5_insert_61 : decode cX5_insert 61 = .ok (.iconst 0, 1) := by decide +kernel
theorem dX5_insert_62 : decode cX5_insert 62 = .ok (.iconst 2, 1) := by decide +kernel
theorem dX5_insert_63 : decode cX5_insert 63 = .ok (.invokevirtual 104, 3) := by decide +kernel
theorem dX5_insert_66 : decode cX5_insert 66 = .ok (.ifCond .ne 51, 3) := by decide +kernel
theorem dX5_insert_69 : decode cX5_insert 69 = .ok (.aload_n 0, 1) := by decide +kernel
theorem dX5_insert_70 : decode cX5_insert 70 = .ok (.aload_n 0, 1) := by decide +kernel
theorem dX5_insert_71 : decode cX5_insert 71 = .ok (.getfield 58, 3) := by decide +kernel
theorem dX5_insert_74 : decode cX5_insert 74 = .ok (.iload_n 1, 1) := by decide +kernel
theorem dX5_insert_75 : decode cX5_insert 75 = .ok (.baload, 1) := by decide +kernel
theorem dX5_insert_76 : decode cX5_insert 76 = .ok (.ifCond .ne 7, 3) := by decide +kernel
theorem dX5_insert_79 : decode cX5_insert 79 = .ok (.iconst 1, 1) := by decide +kernel
theorem dX5_insert_80 : decode cX5_insert 80 = .ok (.goto 4, 3) := by decide +kernel
theorem dX5_insert_83 : decode cX5_insert 83 = .ok (.iconst 0, 1) := by decide +kernel
theorem dX5_insert_84 : decode cX5_insert 84 = .ok (.iconst 3, 1) := by decide +kernel
theorem dX5_insert_85 : decode cX5_insert 85 = .ok (.invokevirtual 104, 3) := by decide +kernel
theorem dX5_insert_88 : decode cX5_insert 88 = .ok (.ifCond .ne 29, 3) := by decide +kernel
theorem dX5_insert_91 : decode cX5_insert 91 = .ok (.aload_n 0, 1) := by decide +kernel
theorem dX5_insert_92 : decode cX5_insert 92 = .ok (.aload_n 0, 1) := by decide +kernel
theorem dX5_insert_93 : decode cX5_insert 93 = .ok (.getfield 34, 3) := by decide +kernel
theorem dX5_insert_96 : decode cX5_insert 96 = .ok (.iload_n 1, 1) := by decide +kernel
theorem dX5_insert_97 : decode cX5_insert 97 = .ok (.iaload, 1) := by decide +kernel
theorem dX5_insert_98 : decode cX5_insert 98 = .ok (.iload_n 3, 1) := by decide +kernel
theorem dX5_insert_99 : decode cX5_insert 99 = .ok (.iadd, 1) := by decide +kernel
theorem dX5_insert_100 : decode cX5_insert 100 = .ok (.bipush 99, 2) := by decide +kernel
theorem dX5_insert_102 : decode cX5_insert 102 = .ok (.if_icmp .gt 7, 3) := by decide +kernel
theorem dX5_insert_105 : decode cX5_insert 105 = .ok (.iconst 1, 1) := by decide +kernel
theorem dX5_insert_106 : decode cX5_insert 106 = .ok (.goto 4, 3) := by decide +kernel
theorem dX5_insert_109 : decode cX5_insert 109 = .ok (.iconst 0, 1) := by decide +kernel
theorem dX5_insert_110 : decode cX5_insert 110 = .ok (.iconst 4, 1) := by decide +kernel
theorem dX5_insert_111 : decode cX5_insert 111 = .ok (.invokevirtual 104, 3) := by decide +kernel
theorem dX5_insert_114 : decode cX5_insert 114 = .ok (.ifCond .eq 5, 3) := by decide +kernel
theorem dX5_insert_117 : decode cX5_insert 117 = .ok (.iconst 0, 1) := by decide +kernel
theorem dX5_insert_118 : decode cX5_insert 118 = .ok (.ireturn, 1) := by decide +kernel
theorem dX5_insert_119 : decode cX5_insert 119 = .ok (.aload_n 0, 1) := by decide +kernel
theorem dX5_insert_120 : decode cX5_insert 120 = .ok (.getfield 34, 3) := by decide +kernel
theorem dX5_insert_123 : decode cX5_insert 123 = .ok (.iload_n 1, 1) := by decide +kernel
theorem dX5_insert_124 : decode cX5_insert 124 = .ok (.dup2, 1) := by decide +kernel
theorem dX5_insert_125 : decode cX5_insert 125 = .ok (.iaload, 1) := by decide +kernel
theorem dX5_insert_126 : decode cX5_insert 126 = .ok (.iload_n 3, 1) := by decide +kernel
theorem dX5_insert_127 : decode cX5_insert 127 = .ok (.iadd, 1) := by decide +kernel
theorem dX5_insert_128 : decode cX5_insert 128 = .ok (.iastore, 1) := by decide +kernel
theorem dX5_insert_129 : decode cX5_insert 129 = .ok (.aload_n 0, 1) := by decide +kernel
theorem dX5_insert_130 : decode cX5_insert 130 = .ok (.getfield 37, 3) := by decide +kernel
theorem dX5_insert_133 : decode cX5_insert 133 = .ok (.iload_n 1, 1) := by decide +kernel
theorem dX5_insert_134 : decode cX5_insert 134 = .ok (.dup2, 1) := by decide +kernel
theorem dX5_insert_135 : decode cX5_insert 135 = .ok (.iaload, 1) := by decide +kernel
theorem dX5_insert_136 : decode cX5_insert 136 = .ok (.iload_n 2, 1) := by decide +kernel
theorem dX5_insert_137 : decode cX5_insert 137 = .ok (.bipush 110, 2) := by decide +kernel
theorem dX5_insert_139 : decode cX5_insert 139 = .ok (.if_icmp .ne 7, 3) := by decide +kernel
theorem dX5_insert_142 : decode cX5_insert 142 = .ok (.iconst 5, 1) := by decide +kernel
theorem dX5_insert_143 : decode cX5_insert 143 = .ok (.goto 26, 3) := by decide +kernel
theorem dX5_insert_146 : decode cX5_insert 146 = .ok (.iload_n 2, 1) := by decide +kernel
theorem dX5_insert_147 : decode cX5_insert 147 = .ok (.bipush 100, 2) := by decide +kernel
theorem dX5_insert_149 : decode cX5_insert 149 = .ok (.if_icmp .ne 8, 3) := by decide +kernel
theorem dX5_insert_152 : decode cX5_insert 152 = .ok (.bipush 10, 2) := by decide +kernel
theorem dX5_insert_154 : decode cX5_insert 154 = .ok (.goto 15, 3) := by decide +kernel
theorem dX5_insert_157 : decode cX5_insert 157 = .ok (.iload_n 2, 1) := by decide +kernel
theorem dX5_insert_158 : decode cX5_insert 158 = .ok (.bipush 113, 2) := by decide +kernel
theorem dX5_insert_160 : decode cX5_insert 160 = .ok (.if_icmp .ne 8, 3) := by decide +kernel
theorem dX5_insert_163 : decode cX5_insert 163 = .ok (.bipush 25, 2) := by decide +kernel
theorem dX5_insert_165 : decode cX5_insert 165 = .ok (.goto 4, 3) := by decide +kernel
theorem dX5_insert_168 : decode cX5_insert 168 = .ok (.iconst 0, 1) := by decide +kernel
theorem dX5_insert_169 : decode cX5_insert 169 = .ok (.iadd, 1) := by decide +kernel
theorem dX5_insert_170 : decode cX5_insert 170 = .ok (.iastore, 1) := by decide +kernel
theorem dX5_insert_171 : decode cX5_insert 171 = .ok (.aload_n 0, 1) := by decide +kernel
theorem dX5_insert_172 : decode cX5_insert 172 = .ok (.getfield 34, 3) := by decide +kernel
theorem dX5_insert_175 : decode cX5_insert 175 = .ok (.iload_n 1, 1) := by decide +kernel
theorem dX5_insert_176 : decode cX5_insert 176 = .ok (.iaload, 1) := by decide +kernel
theorem dX5_insert_177 : decode cX5_insert 177 = .ok (.ireturn, 1) := by decide +kernel
set_option maxRecDepth 20000 in
theorem ggX5_press_X5_isSlot : GoodIn wsX5_press wsX5_isSlot := goodIn_r _ [9, 10, 11, 12, 8, 13, 14, 15, 16, 17, 23, 24, 25, 26, 27, 28, 29, 30, 31, 32, 33, 34, 35, 36, 37, 38, 39, 40, 41, 42, 43, 44, 45, 46, 47, 48, 49, 50, 51, 52] (by decide +kernel) (by decide +kernel)
set_option maxRecDepth 20000 in
theorem gX5_press_X5_isSlot : GoodIn wsX5_press (wsV RX5 116 RX5 yX5_isSlot wsX5_isSlot) := goodIn_app (goodIn_of _ (by decide +kernel)) ggX5_press_X5_isSlot
set_option maxRecDepth 20000 in
theorem ggX5_press_X5_no : GoodIn wsX5_press wsX5_no := goodIn_r _ [21, 22, 23, 24, 25, 26, 27, 28, 29, 30, 31, 32, 33, 34, 35, 36, 37, 38, 39, 40, 41, 42, 43, 44, 45, 46, 47, 48, 49, 50, 51, 52] (by decide +kernel) (by decide +kernel)
set_option maxRecDepth 20000 in
theorem gX5_press_X5_no : GoodIn wsX5_press (wsV RX5 104 RX5 yX5_no wsX5_no) := goodIn_app (goodIn_of _ (by decide +kernel)) ggX5_press_X5_no
theorem dX5_press_0 : decode cX5_press 0 = .ok (.aload_n 0, 1) := by decide +kernel
theorem dX5_press_1 : decode cX5_press 1 = .ok (.aload_n 0, 1) := by decide +kernel
theorem dX5_press_2 : decode cX5_press 2 = .ok (.iload_n 1, 1) := by decide +kernel
theorem dX5_press_3 : decode cX5_press 3 = .ok (.iload_n 2, 1) := by decide +kernel
theorem dX5_press_4 : decode cX5_press 4 = .ok (.invokevirtual 116, 3) := by decide +kernel
theorem dX5_press_7 : decode cX5_press 7 = .ok (.iconst 1, 1) := by decide +kernel
theorem dX5_press_8 : decode cX5_press 8 = .ok (.invokevirtual 104, 3) := by decide +kernel
theorem dX5_press_11 : decode cX5_press 11 = .ok (.ifCond .ne 63, 3) := by decide +kernel
theorem dX5_press_14 : decode cX5_press 14 = .ok (.aload_n 0, 1) := by decide +kernel
theorem dX5_press_15 : decode cX5_press 15 = .ok (.aload_n 0, 1) := by decide +kernel
theorem dX5_press_16 : decode cX5_press 16 = .ok (.getfield 34, 3) := by decide +kernel
theorem dX5_press_19 : decode cX5_press 19 = .ok (.iload_n 1, 1) := by decide +kernel
theorem dX5_press_20 : decode cX5_press 20 = .ok (.iaload, 1) := by decide +kernel
theorem dX5_press_21 : decode cX5_press 21 = .ok (.ifCond .le 21, 3) := by decide +kernel
theorem dX5_press_24 : decode cX5_press 24 = .ok (.aload_n 0, 1) := by decide +kernel
theorem dX5_press_25 : decode cX5_press 25 = .ok (.getfield 65, 3) := by decide +kernel
theorem dX5_press_28 : decode cX5_press 28 = .ok (.bipush 10, 2) := by decide +kernel
theorem dX5_press_30 : decode cX5_press 30 = .ok (.iload_n 1, 1) := by decide +kernel
theorem dX5_press_31 : decode cX5_press 31 = .ok (.imul, 1) := by decide +kernel
theorem dX5_press_32 : decode cX5_press 32 = .ok (.iload_n 2, 1) := by decide +kernel
theorem dX5_press_33 : decode cX5_press 33 = .ok (.iadd, 1) := by decide +kernel
theorem dX5_press_34 : decode cX5_press 34 = .ok (.iaload, 1) := by decide +kernel
theorem dX5_press_35 : decode cX5_press 35 = .ok (.ifCond .le 7, 3) := by decide +kernel
theorem dX5_press_38 : decode cX5_press 38 = .ok (.iconst 1, 1) := by decide +kernel
theorem dX5_press_39 : decode cX5_press 39 = .ok (.goto 4, 3) := by decide +kernel
theorem dX5_press_42 : decode cX5_press 42 = .ok (.iconst 0, 1) := by decide +kernel
theorem dX5_press_43 : decode cX5_press 43 = .ok (.iconst 2, 1) := by decide +kernel
theorem dX5_press_44 : decode cX5_press 44 = .ok (.invokevirtual 104, 3) := by decide +kernel
theorem dX5_press_47 : decode cX5_press 47 = .ok (.ifCond .ne 27, 3) := by decide +kernel
theorem dX5_press_50 : decode cX5_press 50 = .ok (.aload_n 0, 1) := by decide +kernel
theorem dX5_press_51 : decode cX5_press 51 = .ok (.aload_n 0, 1) := by decide +kernel
theorem dX5_press_52 : decode cX5_press 52 = .ok (.getfield 43, 3) := by decide +kernel
theorem dX5_press_55 : decode cX5_press 55 = .ok (.iload_n 1, 1) := by decide +kernel
theorem dX5_press_56 : decode cX5_press 56 = .ok (.iaload, 1) := by decide +kernel
theorem dX5_press_57 : decode cX5_press 57 = .ok (.bipush 8, 2) := by decide +kernel
theorem dX5_press_59 : decode cX5_press 59 = .ok (.if_icmp .ge 7, 3) := by decide +kernel
theorem dX5_press_62 : decode cX5_press 62 = .ok (.iconst 1, 1) := by decide +kernel
theorem dX5_press_63 : decode cX5_press 63 = .ok (.goto 4, 3) := by decide +kernel
theorem dX5_press_66 : decode cX5_press 66 = .ok (.iconst 0, 1) := by decide +kernel
theorem dX5_press_67 : decode cX5_press 67 = .ok (.iconst 3, 1) := by decide +kernel
theorem dX5_press_68 : decode cX5_press 68 = .ok (.invokevirtual 104, 3) := by decide +kernel
theorem dX5_press_71 : decode cX5_press 71 = .ok (.ifCond .eq 5, 3) := by decide +kernel
theorem dX5_press_74 : decode cX5_press 74 = .ok (.iconst 0, 1) := by decide +kernel
theorem dX5_press_75 : decode cX5_press 75 = .ok (.ireturn, 1) := by decide +kernel
theorem dX5_press_76 : decode cX5_press 76 = .ok (.aload_n 0, 1) := by decide +kernel
theorem dX5_press_77 : decode cX5_press 77 = .ok (.getfield 34, 3) := by decide +kernel
theorem dX5_press_80 : decode cX5_press 80 = .ok (.iload_n 1, 1) := by decide +kernel
theorem dX5_press_81 : decode cX5_press 81 = .ok (.dup2, 1) := by decide +kernel
theorem dX5_press_82 : decode cX5_press 82 = .ok (.iaload, 1) := by decide +kernel
theorem dX5_press_83 : decode cX5_press 83 = .ok (.iconst 1, 1) := by decide +kernel
theorem dX5_press_84 : decode cX5_press 84 = .ok (.isub, 1) := by decide +kernel
theorem dX5_press_85 : decode cX5_press 85 = .ok (.iastore, 1) := by decide +kernel
theorem dX5_press_86 : decode cX5_press 86 = .ok (.aload_n 0, 1) := by decide +kernel
theorem dX5_press_87 : decode cX5_press 87 = .ok (.getfield 46, 3) := by decide +kernel
theorem dX5_press_90 : decode cX5_press 90 = .ok (.bipush 8, 2) := by decide +kernel
theorem dX5_press_92 : decode cX5_press 92 = .ok (.iload_n 1, 1) := by decide +kernel
theorem dX5_press_93 : decode cX5_press 93 = .ok (.imul, 1) := by decide +kernel
theorem dX5_press_94 : decode cX5_press 94 = .ok (.aload_n 0, 1) := by decide +kernel
theorem dX5_press_95 : decode cX5_press 95 = .ok (.getfield 43, 3) := by decide +kernel
theorem dX5_press_98 : decode cX5_press 98 = .ok (.iload_n 1, 1) := by decide +kernel
theorem dX5_press_99 : decode cX5_press 99 = .ok (.iaload, 1) := by decide +kernel
theorem dX5_press_100 : decode cX5_press 100 = .ok (.iadd, 1) := by decide +kernel
theorem dX5_press_101 : decode cX5_press 101 = .ok (.iload_n 2, 1) := by decide +kernel
theorem dX5_press_102 : decode cX5_press 102 = .ok (.iastore, 1) := by decide +kernel
theorem dX5_press_103 : decode cX5_press 103 = .ok (.aload_n 0, 1) := by decide +kernel
theorem dX5_press_104 : decode cX5_press 104 = .ok (.getfield 43, 3) := by decide +kernel
theorem dX5_press_107 : decode cX5_press 107 = .ok (.iload_n 1, 1) := by decide +kernel
theorem dX5_press_108 : decode cX5_press 108 = .ok (.dup2, 1) := by decide +kernel
theorem dX5_press_109 : decode cX5_press 109 = .ok (.iaload, 1) := by decide +kernel
theorem dX5_press_110 : decode cX5_press 110 = .ok (.iconst 1, 1) := by decide +kernel
theorem dX5_press_111 : decode cX5_press 111 = .ok (.iadd, 1) := by decide +kernel
theorem dX5_press_112 : decode cX5_press 112 = .ok (.iastore, 1) := by decide +kernel
theorem dX5_press_113 : decode cX5_press 113 = .ok (.aload_n 0, 1) := by decide +kernel
theorem dX5_press_114 : decode cX5_press 114 = .ok (.getfield 43, 3) := by decide +kernel
theorem dX5_press_117 : decode cX5_press 117 = .ok (.iload_n 1, 1) := by decide +kernel
theorem dX5_press_118 : decode cX5_press 118 = .ok (.iaload, 1) := by decide +kernel
theorem dX5_press_119 : decode cX5_press 119 = .ok (.ireturn, 1) := by decide +kernel
theorem dX5_wears_0 : decode cX5_wears 0 = .ok (.iload_n 1, 1) := by decide +kernel
theorem dX5_wears_1 : decode cX5_wears 1 = .ok (.bipush 10, 2) := by decide +kernel
theorem dX5_wears_3 : decode cX5_wears 3 = .ok (.idiv, 1) := by decide +kernel
theorem dX5_wears_4 : decode cX5_wears 4 = .ok (.istore_n 3, 1) := by decide +kernel
theorem dX5_wears_5 : decode cX5_wears 5 = .ok (.aload_n 0, 1) := by decide +kernel
theorem dX5_wears_6 : decode cX5_wears 6 = .ok (.getfield 65, 3) := by decide +kernel
theorem dX5_wears_9 : decode cX5_wears 9 = .ok (.iload_n 1, 1) := by decide +kernel
theorem dX5_wears_10 : decode cX5_wears 10 = .ok (.iaload, 1) := by decide +kernel
theorem dX5_wears_11 : decode cX5_wears 11 = .ok (.iconst 1, 1) := by decide +kernel
theorem dX5_wears_12 : decode cX5_wears 12 = .ok (.isub, 1) := by decide +kernel
theorem dX5_wears_13 : decode cX5_wears 13 = .ok (.istore 4, 2) := by decide +kernel
theorem dX5_wears_15 : decode cX5_wears 15 = .ok (.aload_n 0, 1) := by decide +kernel
theorem dX5_wears_16 : decode cX5_wears 16 = .ok (.getfield 68, 3) := by decide +kernel
theorem dX5_wears_19 : decode cX5_wears 19 = .ok (.iload_n 1, 1) := by decide +kernel
theorem dX5_wears_20 : decode cX5_wears 20 = .ok (.dup2, 1) := by decide +kernel
theorem dX5_wears_21 : decode cX5_wears 21 = .ok (.iaload, 1) := by decide +kernel
theorem dX5_wears_22 : decode cX5_wears 22 = .ok (.iload_n 2, 1) := by decide +kernel
theorem dX5_wears_23 : decode cX5_wears 23 = .ok (.iadd, 1) := by decide +kernel
theorem dX5_wears_24 : decode cX5_wears 24 = .ok (.iastore, 1) := by decide +kernel
theorem dX5_wears_25 : decode cX5_wears 25 = .ok (.aload_n 0, 1) := by decide +kernel
theorem dX5_wears_26 : decode cX5_wears 26 = .ok (.getfield 49, 3) := by decide +kernel
theorem dX5_wears_29 : decode cX5_wears 29 = .ok (.iload_n 3, 1) := by decide +kernel
theorem dX5_wears_30 : decode cX5_wears 30 = .ok (.dup2, 1) := by decide +kernel
theorem dX5_wears_31 : decode cX5_wears 31 = .ok (.iaload, 1) := by decide +kernel
theorem dX5_wears_32 : decode cX5_wears 32 = .ok (.iload_n 2, 1) := by decide +kernel
theorem dX5_wears_33 : decode cX5_wears 33 = .ok (.iadd, 1) := by decide +kernel
theorem dX5_wears_34 : decode cX5_wears 34 = .ok (.iastore, 1) := by decide +kernel
theorem dX5_wears_35 : decode cX5_wears 35 = .ok (.aload_n 0, 1) := by decide +kernel
theorem dX5_wears_36 : decode cX5_wears 36 = .ok (.getfield 19, 3) := by decide +kernel
theorem dX5_wears_39 : decode cX5_wears 39 = .ok (.iload 4, 2) := by decide +kernel
theorem dX5_wears_41 : decode cX5_wears 41 = .ok (.dup2, 1) := by decide +kernel
theorem dX5_wears_42 : decode cX5_wears 42 = .ok (.iaload, 1) := by decide +kernel
theorem dX5_wears_43 : decode cX5_wears 43 = .ok (.iload_n 2, 1) := by decide +kernel
theorem dX5_wears_44 : decode cX5_wears 44 = .ok (.iconst 1, 1) := by decide +kernel
theorem dX5_wears_45 : decode cX5_wears 45 = .ok (.aload_n 0, 1) := by decide +kernel
theorem dX5_wears_46 : decode cX5_wears 46 = .ok (.getfield 40, 3) := by decide +kernel
theorem dX5_wears_49 : decode cX5_wears 49 = .ok (.iload_n 3, 1) := by decide +kernel
theorem dX5_wears_50 : decode cX5_wears 50 = .ok (.iaload, 1) := by decide +kernel
theorem dX5_wears_51 : decode cX5_wears 51 = .ok (.bipush 40, 2) := by decide +kernel
theorem dX5_wears_53 : decode cX5_wears 53 = .ok (.idiv, 1) := by decide +kernel
theorem dX5_wears_54 : decode cX5_wears 54 = .ok (.iadd, 1) := by decide +kernel
theorem dX5_wears_55 : decode cX5_wears 55 = .ok (.imul, 1) := by decide +kernel
theorem dX5_wears_56 : decode cX5_wears 56 = .ok (.iadd, 1) := by decide +kernel
theorem dX5_wears_57 : decode cX5_wears 57 = .ok (.iastore, 1) := by decide +kernel
theorem dX5_wears_58 : decode cX5_wears 58 = .ok (.aload_n 0, 1) := by decide +kernel
theorem dX5_wears_59 : decode cX5_wears 59 = .ok (.getfield 40, 3) := by decide +kernel
theorem dX5_wears_62 : decode cX5_wears 62 = .ok (.iload_n 3, 1) := by decide +kernel
theorem dX5_wears_63 : decode cX5_wears 63 = .ok (.dup2, 1) := by decide +kernel
theorem dX5_wears_64 : decode cX5_wears 64 = .ok (.iaload, 1) := by decide +kernel
theorem dX5_wears_65 : decode cX5_wears 65 = .ok (.iload_n 2, 1) := by decide +kernel
theorem dX5_wears_66 : decode cX5_wears 66 = .ok (.iadd, 1) := by decide +kernel
theorem dX5_wears_67 : decode cX5_wears 67 = .ok (.iastore, 1) := by decide +kernel
theorem dX5_wears_68 : decode cX5_wears 68 = .ok (.return_, 1) := by decide +kernel
set_option maxRecDepth 20000 in
theorem ggX5_play_X5_isBox : GoodIn wsX5_play wsX5_isBox := goodIn_r _ [15, 16, 17, 18, 14, 19, 32, 33, 34, 35, 36, 37, 38, 39, 40, 41, 42, 43, 44, 45, 46, 47, 48, 49, 50, 51, 52, 53, 54, 55, 56, 57, 58, 59, 60, 61] (by decide +kernel) (by decide +kernel)
set_option maxRecDepth 20000 in
theorem gX5_play_X5_isBox : GoodIn wsX5_play (wsV RX5 100 RX5 yX5_isBox wsX5_isBox) := goodIn_app (goodIn_of _ (by decide +kernel)) ggX5_play_X5_isBox
set_option maxRecDepth 20000 in
theorem ggX5_play_X5_no : GoodIn wsX5_play wsX5_no := goodIn_r _ [23, 24, 32, 33, 34, 35, 36, 37, 38, 39, 40, 41, 42, 43, 44, 45, 46, 47, 48, 49, 50, 51, 52, 53, 54, 55, 56, 57, 58, 59, 60, 61] (by decide +kernel) (by decide +kernel)
set_option maxRecDepth 20000 in
theorem gX5_play_X5_no : GoodIn wsX5_play (wsV RX5 104 RX5 yX5_no wsX5_no) := goodIn_app (goodIn_of _ (by decide +kernel)) ggX5_play_X5_no
set_option maxRecDepth 20000 in
theorem ggX5_play_X5_wears : GoodIn wsX5_play wsX5_wears := goodIn_ca (goodIn_r _ [28, 8, 29, 30, 9, 31, 32, 33, 34, 35, 36, 37, 38, 39, 40, 41, 42, 43, 44, 45, 46, 47, 48, 49, 50, 51, 52, 53, 54, 55, 56, 57, 58, 59, 60, 61] (by decide +kernel) (by decide +kernel)) (goodIn_sub (fun _ h => List.mem_cons_of_mem _ (List.mem_append_right _ h)) (by decide +kernel))
set_option maxRecDepth 20000 in
theorem gX5_play_X5_wears : GoodIn wsX5_play (wsV RX5 124 RX5 yX5_wears wsX5_wears) := goodIn_app (goodIn_of _ (by decide +kernel)) ggX5_play_X5_wears
theorem dX5_play_0 : decode cX5_play 0 = .ok (.aload_n 0, 1) := by decide +kernel
theorem dX5_play_1 : decode cX5_play 1 = .ok (.aload_n 0, 1) := by decide +kernel
theorem dX5_play_2 : decode cX5_play 2 = .ok (.iload_n 1, 1) := by decide +kernel
theorem dX5_play_3 : decode cX5_play 3 = .ok (.invokevirtual 100, 3) := by decide +kernel
theorem dX5_play_6 : decode cX5_play 6 = .ok (.iconst 1, 1) := by decide +kernel
theorem dX5_play_7 : decode cX5_play 7 = .ok (.invokevirtual 104, 3) := by decide +kernel
theorem dX5_play_10 : decode cX5_play 10 = .ok (.ifCond .ne 47, 3) := by decide +kernel
theorem dX5_play_13 : decode cX5_play 13 = .ok (.aload_n 0, 1) := by decide +kernel
theorem dX5_play_14 : decode cX5_play 14 = .ok (.aload_n 0, 1) := by decide +kernel
theorem dX5_play_15 : decode cX5_play 15 = .ok (.getfield 58, 3) := by decide +kernel
theorem dX5_play_18 : decode cX5_play 18 = .ok (.iload_n 1, 1) := by decide +kernel
theorem dX5_play_19 : decode cX5_play 19 = .ok (.baload, 1) := by decide +kernel
theorem dX5_play_20 : decode cX5_play 20 = .ok (.ifCond .ne 7, 3) := by decide +kernel
theorem dX5_play_23 : decode cX5_play 23 = .ok (.iconst 1, 1) := by decide +kernel
theorem dX5_play_24 : decode cX5_play 24 = .ok (.goto 4, 3) := by decide +kernel
theorem dX5_play_27 : decode cX5_play 27 = .ok (.iconst 0, 1) := by decide +kernel
theorem dX5_play_28 : decode cX5_play 28 = .ok (.iconst 2, 1) := by decide +kernel
theorem dX5_play_29 : decode cX5_play 29 = .ok (.invokevirtual 104, 3) := by decide +kernel
theorem dX5_play_32 : decode cX5_play 32 = .ok (.ifCond .ne 25, 3) := by decide +kernel
theorem dX5_play_35 : decode cX5_play 35 = .ok (.aload_n 0, 1) := by decide +kernel
theorem dX5_play_36 : decode cX5_play 36 = .ok (.aload_n 0, 1) := by decide +kernel
theorem dX5_play_37 : decode cX5_play 37 = .ok (.getfield 43, 3) := by decide +kernel
theorem dX5_play_40 : decode cX5_play 40 = .ok (.iload_n 1, 1) := by decide +kernel
theorem dX5_play_41 : decode cX5_play 41 = .ok (.iaload, 1) := by decide +kernel
theorem dX5_play_42 : decode cX5_play 42 = .ok (.ifCond .le 7, 3) := by decide +kernel
theorem dX5_play_45 : decode cX5_play 45 = .ok (.iconst 1, 1) := by decide +kernel
theorem dX5_play_46 : decode cX5_play 46 = .ok (.goto 4, 3) := by decide +kernel
theorem dX5_play_49 : decode cX5_play 49 = .ok (.iconst 0, 1) := by decide +kernel
theorem dX5_play_50 : decode cX5_play 50 = .ok (.iconst 3, 1) := by decide +kernel
theorem dX5_play_51 : decode cX5_play 51 = .ok (.invokevirtual 104, 3) := by decide +kernel
theorem dX5_play_54 : decode cX5_play 54 = .ok (.ifCond .eq 6, 3) := by decide +kernel
theorem dX5_play_57 : decode cX5_play 57 = .ok (.bipush 45, 2) := by decide +kernel
theorem dX5_play_59 : decode cX5_play 59 = .ok (.ireturn, 1) := by decide +kernel
theorem dX5_play_60 : decode cX5_play 60 = .ok (.aload_n 0, 1) := by decide +kernel
theorem dX5_play_61 : decode cX5_play 61 = .ok (.aload_n 0, 1) := by decide +kernel
theorem dX5_play_62 : decode cX5_play 62 = .ok (.getfield 80, 3) := by decide +kernel
theorem dX5_play_65 : decode cX5_play 65 = .ok (.i2l, 1) := by decide +kernel
theorem dX5_play_66 : decode cX5_play 66 = .ok (.ldc2_w 120, 3) := by decide +kernel
theorem dX5_play_69 : decode cX5_play 69 = .ok (.lmul, 1) := by decide +kernel
theorem dX5_play_70 : decode cX5_play 70 = .ok (.ldc2_w 122, 3) := by decide +kernel
theorem dX5_play_73 : decode cX5_play 73 = .ok (.lrem, 1) := by decide +kernel
theorem dX5_play_74 : decode cX5_play 74 = .ok (.l2i, 1) := by decide +kernel
theorem dX5_play_75 : decode cX5_play 75 = .ok (.putfield 80, 3) := by decide +kernel
theorem dX5_play_78 : decode cX5_play 78 = .ok (.aload_n 0, 1) := by decide +kernel
theorem dX5_play_79 : decode cX5_play 79 = .ok (.getfield 80, 3) := by decide +kernel
theorem dX5_play_82 : decode cX5_play 82 = .ok (.bipush 100, 2) := by decide +kernel
theorem dX5_play_84 : decode cX5_play 84 = .ok (.irem, 1) := by decide +kernel
theorem dX5_play_85 : decode cX5_play 85 = .ok (.aload_n 0, 1) := by decide +kernel
theorem dX5_play_86 : decode cX5_play 86 = .ok (.getfield 31, 3) := by decide +kernel
theorem dX5_play_89 : decode cX5_play 89 = .ok (.iload_n 1, 1) := by decide +kernel
theorem dX5_play_90 : decode cX5_play 90 = .ok (.iaload, 1) := by decide +kernel
theorem dX5_play_91 : decode cX5_play 91 = .ok (.if_icmp .ge 13, 3) := by decide +kernel
theorem dX5_play_94 : decode cX5_play 94 = .ok (.aload_n 0, 1) := by decide +kernel
theorem dX5_play_95 : decode cX5_play 95 = .ok (.getfield 58, 3) := by decide +kernel
theorem dX5_play_98 : decode cX5_play 98 = .ok (.iload_n 1, 1) := by decide +kernel
theorem dX5_play_99 : decode cX5_play 99 = .ok (.iconst 1, 1) := by decide +kernel
theorem dX5_play_100 : decode cX5_play 100 = .ok (.bastore, 1) := by decide +kernel
theorem dX5_play_101 : decode cX5_play 101 = .ok (.bipush 106, 2) := by decide +kernel
theorem dX5_play_103 : decode cX5_play 103 = .ok (.ireturn, 1) := by decide +kernel
theorem dX5_play_104 : decode cX5_play 104 = .ok (.bipush 10, 2) := by decide +kernel
theorem dX5_play_106 : decode cX5_play 106 = .ok (.iload_n 1, 1) := by decide +kernel
theorem dX5_play_107 : decode cX5_play 107 = .ok (.imul, 1) := by decide +kernel
theorem dX5_play_108 : decode cX5_play 108 = .ok (.aload_n 0, 1) := by decide +kernel
theorem dX5_play_109 : decode cX5_play 109 = .ok (.getfield 46, 3) := by decide +kernel
theorem dX5_play_112 : decode cX5_play 112 = .ok (.bipush 8, 2) := by decide +kernel
theorem dX5_play_114 : decode cX5_play 114 = .ok (.iload_n 1, 1) := by decide +kernel
theorem dX5_play_115 : decode cX5_play 115 = .ok (.imul, 1) := by decide +kernel
theorem dX5_play_116 : decode cX5_play 116 = .ok (.iaload, 1) := by decide +kernel
theorem dX5_play_117 : decode cX5_play 117 = .ok (.iadd, 1) := by decide +kernel
theorem dX5_play_118 : decode cX5_play 118 = .ok (.istore_n 2, 1) := by decide +kernel
theorem dX5_play_119 : decode cX5_play 119 = .ok (.aload_n 0, 1) := by decide +kernel
theorem dX5_play_120 : decode cX5_play 120 = .ok (.getfield 43, 3) := by decide +kernel
theorem dX5_play_123 : decode cX5_play 123 = .ok (.iload_n 1, 1) := by decide +kernel
theorem dX5_play_124 : decode cX5_play 124 = .ok (.dup2, 1) := by decide +kernel
theorem dX5_play_125 : decode cX5_play 125 = .ok (.iaload, 1) := by decide +kernel
theorem dX5_play_126 : decode cX5_play 126 = .ok (.iconst 1, 1) := by decide +kernel
theorem dX5_play_127 : decode cX5_play 127 = .ok (.isub, 1) := by decide +kernel
theorem dX5_play_128 : decode cX5_play 128 = .ok (.iastore, 1) := by decide +kernel
theorem dX5_play_129 : decode cX5_play 129 = .ok (.iconst 0, 1) := by decide +kernel
theorem dX5_play_130 : decode cX5_play 130 = .ok (.istore_n 3, 1) := by decide +kernel
theorem dX5_play_131 : decode cX5_play 131 = .ok (.iload_n 3, 1) := by decide +kernel
theorem dX5_play_132 : decode cX5_play 132 = .ok (.aload_n 0, 1) := by decide +kernel
theorem dX5_play_133 : decode cX5_play 133 = .ok (.getfield 43, 3) := by decide +kernel
theorem dX5_play_136 : decode cX5_play 136 = .ok (.iload_n 1, 1) := by decide +kernel
theorem dX5_play_137 : decode cX5_play 137 = .ok (.iaload, 1) := by decide +kernel
theorem dX5_play_138 : decode cX5_play 138 = .ok (.if_icmp .ge 33, 3) := by decide +kernel
theorem dX5_play_141 : decode cX5_play 141 = .ok (.aload_n 0, 1) := by decide +kernel
theorem dX5_play_142 : decode cX5_play 142 = .ok (.getfield 46, 3) := by decide +kernel
theorem dX5_play_145 : decode cX5_play 145 = .ok (.bipush 8, 2) := by decide +kernel
theorem dX5_play_147 : decode cX5_play 147 = .ok (.iload_n 1, 1) := by decide +kernel
theorem dX5_play_148 : decode cX5_play 148 = .ok (.imul, 1) := by decide +kernel
theorem dX5_play_149 : decode cX5_play 149 = .ok (.iload_n 3, 1) := by decide +kernel
theorem dX5_play_150 : decode cX5_play 150 = .ok (.iadd, 1) := by decide +kernel
theorem dX5_play_151 : decode cX5_play 151 = .ok (.aload_n 0, 1) := by decide +kernel
theorem dX5_play_152 : decode cX5_play 152 = .ok (.getfield 46, 3) := by decide +kernel
theorem dX5_play_155 : decode cX5_play 155 = .ok (.bipush 8, 2) := by decide +kernel
theorem dX5_play_157 : decode cX5_play 157 = .ok (.iload_n 1, 1) := by decide +kernel
theorem dX5_play_158 : decode cX5_play 158 = .ok (.imul, 1) := by decide +kernel
theorem dX5_play_159 : decode cX5_play 159 = .ok (.iload_n 3, 1) := by decide +kernel
theorem dX5_play_160 : decode cX5_play 160 = .ok (.iadd, 1) := by decide +kernel
theorem dX5_play_161 : decode cX5_play 161 = .ok (.iconst 1, 1) := by decide +kernel
theorem dX5_play_162 : decode cX5_play 162 = .ok (.iadd, 1) := by decide +kernel
theorem dX5_play_163 : decode cX5_play 163 = .ok (.iaload, 1) := by decide +kernel
theorem dX5_play_164 : decode cX5_play 164 = .ok (.iastore, 1) := by decide +kernel
theorem dX5_play_165 : decode cX5_play 165 = .ok (.iinc 3 1, 3) := by decide +kernel
theorem dX5_play_168 : decode cX5_play 168 = .ok (.goto (-37), 3) := by decide +kernel
theorem dX5_play_171 : decode cX5_play 171 = .ok (.aload_n 0, 1) := by decide +kernel
theorem dX5_play_172 : decode cX5_play 172 = .ok (.getfield 65, 3) := by decide +kernel
theorem dX5_play_175 : decode cX5_play 175 = .ok (.iload_n 2, 1) := by decide +kernel
theorem dX5_play_176 : decode cX5_play 176 = .ok (.iaload, 1) := by decide +kernel
theorem dX5_play_177 : decode cX5_play 177 = .ok (.ifCond .eq 21, 3) := by decide +kernel
theorem dX5_play_180 : decode cX5_play 180 = .ok (.aload_n 0, 1) := by decide +kernel
theorem dX5_play_181 : decode cX5_play 181 = .ok (.getfield 19, 3) := by decide +kernel
theorem dX5_play_184 : decode cX5_play 184 = .ok (.aload_n 0, 1) := by decide +kernel
theorem dX5_play_185 : decode cX5_play 185 = .ok (.getfield 65, 3) := by decide +kernel
theorem dX5_play_188 : decode cX5_play 188 = .ok (.iload_n 2, 1) := by decide +kernel
theorem dX5_play_189 : decode cX5_play 189 = .ok (.iaload, 1) := by decide +kernel
theorem dX5_play_190 : decode cX5_play 190 = .ok (.iconst 1, 1) := by decide +kernel
theorem dX5_play_191 : decode cX5_play 191 = .ok (.isub, 1) := by decide +kernel
theorem dX5_play_192 : decode cX5_play 192 = .ok (.iaload, 1) := by decide +kernel
theorem dX5_play_193 : decode cX5_play 193 = .ok (.bipush 60, 2) := by decide +kernel
theorem dX5_play_195 : decode cX5_play 195 = .ok (.if_icmp .lt 16, 3) := by decide +kernel
theorem dX5_play_198 : decode cX5_play 198 = .ok (.aload_n 0, 1) := by decide +kernel
theorem dX5_play_199 : decode cX5_play 199 = .ok (.getfield 34, 3) := by decide +kernel
theorem dX5_play_202 : decode cX5_play 202 = .ok (.iload_n 1, 1) := by decide +kernel
theorem dX5_play_203 : decode cX5_play 203 = .ok (.dup2, 1) := by decide +kernel
theorem dX5_play_204 : decode cX5_play 204 = .ok (.iaload, 1) := by decide +kernel
theorem dX5_play_205 : decode cX5_play 205 = .ok (.iconst 1, 1) := by decide +kernel
theorem dX5_play_206 : decode cX5_play 206 = .ok (.iadd, 1) := by decide +kernel
theorem dX5_play_207 : decode cX5_play 207 = .ok (.iastore, 1) := by decide +kernel
theorem dX5_play_208 : decode cX5_play 208 = .ok (.bipush 98, 2) := by decide +kernel
theorem dX5_play_210 : decode cX5_play 210 = .ok (.ireturn, 1) := by decide +kernel
theorem dX5_play_211 : decode cX5_play 211 = .ok (.aload_n 0, 1) := by decide +kernel
theorem dX5_play_212 : decode cX5_play 212 = .ok (.iload_n 2, 1) := by decide +kernel
theorem dX5_play_213 : decode cX5_play 213 = .ok (.iconst 1, 1) := by decide +kernel
theorem dX5_play_214 : decode cX5_play 214 = .ok (.invokevirtual 124, 3) := by decide +kernel
theorem dX5_play_217 : decode cX5_play 217 = .ok (.bipush 112, 2) := by decide +kernel
theorem dX5_play_219 : decode cX5_play 219 = .ok (.ireturn, 1) := by decide +kernel
set_option maxRecDepth 20000 in
theorem ggX5_getCredits_X5_isBox : GoodIn wsX5_getCredits wsX5_isBox := goodIn_r _ [6, 7, 8, 9, 5, 10, 16, 17, 18, 19, 20, 21, 22, 23, 24, 25, 26, 27, 28, 29, 30, 31, 32, 33, 34, 35, 36, 37, 38, 39, 40, 41, 42, 43, 44, 45] (by decide +kernel) (by decide +kernel)
set_option maxRecDepth 20000 in
theorem gX5_getCredits_X5_isBox : GoodIn wsX5_getCredits (wsV RX5 100 RX5 yX5_isBox wsX5_isBox) := goodIn_app (goodIn_of _ (by decide +kernel)) ggX5_getCredits_X5_isBox
set_option maxRecDepth 20000 in
theorem ggX5_getCredits_X5_no : GoodIn wsX5_getCredits wsX5_no := goodIn_r _ [14, 15, 16, 17, 18, 19, 20, 21, 22, 23, 24, 25, 26, 27, 28, 29, 30, 31, 32, 33, 34, 35, 36, 37, 38, 39, 40, 41, 42, 43, 44, 45] (by decide +kernel) (by decide +kernel)
set_option maxRecDepth 20000 in
theorem gX5_getCredits_X5_no : GoodIn wsX5_getCredits (wsV RX5 104 RX5 yX5_no wsX5_no) := goodIn_app (goodIn_of _ (by decide +kernel)) ggX5_getCredits_X5_no
theorem dX5_getCredits_0 : decode cX5_getCredits 0 = .ok (.aload_n 0, 1) := by decide +kernel
theorem dX5_getCredits_1 : decode cX5_getCredits 1 = .ok (.aload_n 0, 1) := by decide +kernel
theorem dX5_getCredits_2 : decode cX5_getCredits 2 = .ok (.iload_n 1, 1) := by decide +kernel
theorem dX5_getCredits_3 : decode cX5_getCredits 3 = .ok (.invokevirtual 100, 3) := by decide +kernel
theorem dX5_getCredits_6 : decode cX5_getCredits 6 = .ok (.iconst 1, 1) := by decide +kernel
theorem dX5_getCredits_7 : decode cX5_getCredits 7 = .ok (.invokevirtual 104, 3) := by decide +kernel
theorem dX5_getCredits_10 : decode cX5_getCredits 10 = .ok (.ifCond .eq 7, 3) := by decide +kernel
theorem dX5_getCredits_13 : decode cX5_getCredits 13 = .ok (.iconst 0, 1) := by decide +kernel
theorem dX5_getCredits_14 : decode cX5_getCredits 14 = .ok (.goto 9, 3) := by decide +kernel
theorem dX5_getCredits_17 : decode cX5_getCredits 17 = .ok (.aload_n 0, 1) := by decide +kernel
theorem dX5_getCredits_18 : decode cX5_getCredits 18 = .ok (.getfield 34, 3) := by decide +kernel
theorem dX5_getCredits_21 : decode cX5_getCredits 21 = .ok (.iload_n 1, 1) := by decide +kernel
theorem dX5_getCredits_22 : decode cX5_getCredits 22 = .ok (.iaload, 1) := by decide +kernel
theorem dX5_getCredits_23 : decode cX5_getCredits 23 = .ok (.ireturn, 1) := by decide +kernel
set_option maxRecDepth 20000 in
theorem ggX5_getQueued_X5_isBox : GoodIn wsX5_getQueued wsX5_isBox := goodIn_r _ [6, 7, 8, 9, 5, 10, 16, 17, 18, 19, 20, 21, 22, 23, 24, 25, 26, 27, 28, 29, 30, 31, 32, 33, 34, 35, 36, 37, 38, 39, 40, 41, 42, 43, 44, 45] (by decide +kernel) (by decide +kernel)
set_option maxRecDepth 20000 in
theorem gX5_getQueued_X5_isBox : GoodIn wsX5_getQueued (wsV RX5 100 RX5 yX5_isBox wsX5_isBox) := goodIn_app (goodIn_of _ (by decide +kernel)) ggX5_getQueued_X5_isBox
set_option maxRecDepth 20000 in
theorem ggX5_getQueued_X5_no : GoodIn wsX5_getQueued wsX5_no := goodIn_r _ [14, 15, 16, 17, 18, 19, 20, 21, 22, 23, 24, 25, 26, 27, 28, 29, 30, 31, 32, 33, 34, 35, 36, 37, 38, 39, 40, 41, 42, 43, 44, 45] (by decide +kernel) (by decide +kernel)
set_option maxRecDepth 20000 in
theorem gX5_getQueued_X5_no : GoodIn wsX5_getQueued (wsV RX5 104 RX5 yX5_no wsX5_no) := goodIn_app (goodIn_of _ (by decide +kernel)) ggX5_getQueued_X5_no
theorem dX5_getQueued_0 : decode cX5_getQueued 0 = .ok (.aload_n 0, 1) := by decide +kernel
theorem dX5_getQueued_1 : decode cX5_getQueued 1 = .ok (.aload_n 0, 1) := by decide +kernel
theorem dX5_getQueued_2 : decode cX5_getQueued 2 = .ok (.iload_n 1, 1) := by decide +kernel
theorem dX5_getQueued_3 : decode cX5_getQueued 3 = .ok (.invokevirtual 100, 3) := by decide +kernel
theorem dX5_getQueued_6 : decode cX5_getQueued 6 = .ok (.iconst 1, 1) := by decide +kernel
theorem dX5_getQueued_7 : decode cX5_getQueued 7 = .ok (.invokevirtual 104, 3) := by decide +kernel
theorem dX5_getQueued_10 : decode cX5_getQueued 10 = .ok (.ifCond .eq 7, 3) := by decide +kernel
theorem dX5_getQueued_13 : decode cX5_getQueued 13 = .ok (.iconst 0, 1) := by decide +kernel
theorem dX5_getQueued_14 : decode cX5_getQueued 14 = .ok (.goto 9, 3) := by decide +kernel
theorem dX5_getQueued_17 : decode cX5_getQueued 17 = .ok (.aload_n 0, 1) := by decide +kernel
theorem dX5_getQueued_18 : decode cX5_getQueued 18 = .ok (.getfield 43, 3) := by decide +kernel
theorem dX5_getQueued_21 : decode cX5_getQueued 21 = .ok (.iload_n 1, 1) := by decide +kernel
theorem dX5_getQueued_22 : decode cX5_getQueued 22 = .ok (.iaload, 1) := by decide +kernel
theorem dX5_getQueued_23 : decode cX5_getQueued 23 = .ok (.ireturn, 1) := by decide +kernel
set_option maxRecDepth 20000 in
theorem ggX5_getCents_X5_isBox : GoodIn wsX5_getCents wsX5_isBox := goodIn_r _ [6, 7, 8, 9, 5, 10, 16, 17, 18, 19, 20, 21, 22, 23, 24, 25, 26, 27, 28, 29, 30, 31, 32, 33, 34, 35, 36, 37, 38, 39, 40, 41, 42, 43, 44, 45] (by decide +kernel) (by decide +kernel)
set_option maxRecDepth 20000 in
theorem gX5_getCents_X5_isBox : GoodIn wsX5_getCents (wsV RX5 100 RX5 yX5_isBox wsX5_isBox) := goodIn_app (goodIn_of _ (by decide +kernel)) ggX5_getCents_X5_isBox
set_option maxRecDepth 20000 in
theorem ggX5_getCents_X5_no : GoodIn wsX5_getCents wsX5_no := goodIn_r _ [14, 15, 16, 17, 18, 19, 20, 21, 22, 23, 24, 25, 26, 27, 28, 29, 30, 31, 32, 33, 34, 35, 36, 37, 38, 39, 40, 41, 42, 43, 44, 45] (by decide +kernel) (by decide +kernel)
set_option maxRecDepth 20000 in
theorem gX5_getCents_X5_no : GoodIn wsX5_getCents (wsV RX5 104 RX5 yX5_no wsX5_no) := goodIn_app (goodIn_of _ (by decide +kernel)) ggX5_getCents_X5_no
theorem dX5_getCents_0 : decode cX5_getCents 0 = .ok (.aload_n 0, 1) := by decide +kernel
theorem dX5_getCents_1 : decode cX5_getCents 1 = .ok (.aload_n 0, 1) := by decide +kernel
theorem dX5_getCents_2 : decode cX5_getCents 2 = .ok (.iload_n 1, 1) := by decide +kernel
theorem dX5_getCents_3 : decode cX5_getCents 3 = .ok (.invokevirtual 100, 3) := by decide +kernel
theorem dX5_getCents_6 : decode cX5_getCents 6 = .ok (.iconst 1, 1) := by decide +kernel
theorem dX5_getCents_7 : decode cX5_getCents 7 = .ok (.invokevirtual 104, 3) := by decide +kernel
theorem dX5_getCents_10 : decode cX5_getCents 10 = .ok (.ifCond .eq 7, 3) := by decide +kernel
theorem dX5_getCents_13 : decode cX5_getCents 13 = .ok (.iconst 0, 1) := by decide +kernel
theorem dX5_getCents_14 : decode cX5_getCents 14 = .ok (.goto 9, 3) := by decide +kernel
theorem dX5_getCents_17 : decode cX5_getCents 17 = .ok (.aload_n 0, 1) := by decide +kernel
theorem dX5_getCents_18 : decode cX5_getCents 18 = .ok (.getfield 37, 3) := by decide +kernel
theorem dX5_getCents_21 : decode cX5_getCents 21 = .ok (.iload_n 1, 1) := by decide +kernel
theorem dX5_getCents_22 : decode cX5_getCents 22 = .ok (.iaload, 1) := by decide +kernel
theorem dX5_getCents_23 : decode cX5_getCents 23 = .ok (.ireturn, 1) := by decide +kernel
set_option maxRecDepth 20000 in
theorem ggX5_isJammed_X5_isBox : GoodIn wsX5_isJammed wsX5_isBox := goodIn_r _ [6, 7, 8, 9, 5, 10, 16, 17, 18, 19, 20, 21, 22, 23, 24, 25, 26, 27, 28, 29, 30, 31, 32, 33, 34, 35, 36, 37, 38, 39, 40, 41, 42, 43, 44, 45] (by decide +kernel) (by decide +kernel)
set_option maxRecDepth 20000 in
theorem gX5_isJammed_X5_isBox : GoodIn wsX5_isJammed (wsV RX5 100 RX5 yX5_isBox wsX5_isBox) := goodIn_app (goodIn_of _ (by decide +kernel)) ggX5_isJammed_X5_isBox
set_option maxRecDepth 20000 in
theorem ggX5_isJammed_X5_no : GoodIn wsX5_isJammed wsX5_no := goodIn_r _ [14, 15, 16, 17, 18, 19, 20, 21, 22, 23, 24, 25, 26, 27, 28, 29, 30, 31, 32, 33, 34, 35, 36, 37, 38, 39, 40, 41, 42, 43, 44, 45] (by decide +kernel) (by decide +kernel)
set_option maxRecDepth 20000 in
theorem gX5_isJammed_X5_no : GoodIn wsX5_isJammed (wsV RX5 104 RX5 yX5_no wsX5_no) := goodIn_app (goodIn_of _ (by decide +kernel)) ggX5_isJammed_X5_no
theorem dX5_isJammed_0 : decode cX5_isJammed 0 = .ok (.aload_n 0, 1) := by decide +kernel
theorem dX5_isJammed_1 : decode cX5_isJammed 1 = .ok (.aload_n 0, 1) := by decide +kernel
theorem dX5_isJammed_2 : decode cX5_isJammed 2 = .ok (.iload_n 1, 1) := by decide +kernel
theorem dX5_isJammed_3 : decode cX5_isJammed 3 = .ok (.invokevirtual 100, 3) := by decide +kernel
theorem dX5_isJammed_6 : decode cX5_isJammed 6 = .ok (.iconst 1, 1) := by decide +kernel
theorem dX5_isJammed_7 : decode cX5_isJammed 7 = .ok (.invokevirtual 104, 3) := by decide +kernel
theorem dX5_isJammed_10 : decode cX5_isJammed 10 = .ok (.ifCond .ne 16, 3) := by decide +kernel
theorem dX5_isJammed_13 : decode cX5_isJammed 13 = .ok (.aload_n 0, 1) := by decide +kernel
theorem dX5_isJammed_14 : decode cX5_isJammed 14 = .ok (.getfield 58, 3) := by decide +kernel
theorem dX5_isJammed_17 : decode cX5_isJammed 17 = .ok (.iload_n 1, 1) := by decide +kernel
theorem dX5_isJammed_18 : decode cX5_isJammed 18 = .ok (.baload, 1) := by decide +kernel
theorem dX5_isJammed_19 : decode cX5_isJammed 19 = .ok (.ifCond .eq 7, 3) := by decide +kernel
theorem dX5_isJammed_22 : decode cX5_isJammed 22 = .ok (.iconst 1, 1) := by decide +kernel
theorem dX5_isJammed_23 : decode cX5_isJammed 23 = .ok (.goto 4, 3) := by decide +kernel
theorem dX5_isJammed_26 : decode cX5_isJammed 26 = .ok (.iconst 0, 1) := by decide +kernel
theorem dX5_isJammed_27 : decode cX5_isJammed 27 = .ok (.ireturn, 1) := by decide +kernel
set_option maxRecDepth 20000 in
theorem ggX5_getWheel_X5_isSlot : GoodIn wsX5_getWheel wsX5_isSlot := goodIn_r _ [6, 7, 8, 9, 5, 10, 11, 12, 13, 14, 20, 21, 22, 23, 24, 25, 26, 27, 28, 29, 30, 31, 32, 33, 34, 35, 36, 37, 38, 39, 40, 41, 42, 43, 44, 45, 46, 47, 48, 49] (by decide +kernel) (by decide +kernel)
set_option maxRecDepth 20000 in
theorem gX5_getWheel_X5_isSlot : GoodIn wsX5_getWheel (wsV RX5 116 RX5 yX5_isSlot wsX5_isSlot) := goodIn_app (goodIn_of _ (by decide +kernel)) ggX5_getWheel_X5_isSlot
set_option maxRecDepth 20000 in
theorem ggX5_getWheel_X5_no : GoodIn wsX5_getWheel wsX5_no := goodIn_r _ [18, 19, 20, 21, 22, 23, 24, 25, 26, 27, 28, 29, 30, 31, 32, 33, 34, 35, 36, 37, 38, 39, 40, 41, 42, 43, 44, 45, 46, 47, 48, 49] (by decide +kernel) (by decide +kernel)
set_option maxRecDepth 20000 in
theorem gX5_getWheel_X5_no : GoodIn wsX5_getWheel (wsV RX5 104 RX5 yX5_no wsX5_no) := goodIn_app (goodIn_of _ (by decide +kernel)) ggX5_getWheel_X5_no
theorem dX5_getWheel_0 : decode cX5_getWheel 0 = .ok (.aload_n 0, 1) := by decide +kernel
theorem dX5_getWheel_1 : decode cX5_getWheel 1 = .ok (.aload_n 0, 1) := by decide +kernel
theorem dX5_getWheel_2 : decode cX5_getWheel 2 = .ok (.iload_n 1, 1) := by decide +kernel
theorem dX5_getWheel_3 : decode cX5_getWheel 3 = .ok (.iload_n 2, 1) := by decide +kernel
theorem dX5_getWheel_4 : decode cX5_getWheel 4 = .ok (.invokevirtual 116, 3) := by decide +kernel
theorem dX5_getWheel_7 : decode cX5_getWheel 7 = .ok (.iconst 1, 1) := by decide +kernel
theorem dX5_getWheel_8 : decode cX5_getWheel 8 = .ok (.invokevirtual 104, 3) := by decide +kernel
theorem dX5_getWheel_11 : decode cX5_getWheel 11 = .ok (.ifCond .eq 7, 3) := by decide +kernel
theorem dX5_getWheel_14 : decode cX5_getWheel 14 = .ok (.iconst 0, 1) := by decide +kernel
theorem dX5_getWheel_15 : decode cX5_getWheel 15 = .ok (.goto 14, 3) := by decide +kernel
theorem dX5_getWheel_18 : decode cX5_getWheel 18 = .ok (.aload_n 0, 1) := by decide +kernel
theorem dX5_getWheel_19 : decode cX5_getWheel 19 = .ok (.getfield 68, 3) := by decide +kernel
theorem dX5_getWheel_22 : decode cX5_getWheel 22 = .ok (.bipush 10, 2) := by decide +kernel
theorem dX5_getWheel_24 : decode cX5_getWheel 24 = .ok (.iload_n 1, 1) := by decide +kernel
theorem dX5_getWheel_25 : decode cX5_getWheel 25 = .ok (.imul, 1) := by decide +kernel
theorem dX5_getWheel_26 : decode cX5_getWheel 26 = .ok (.iload_n 2, 1) := by decide +kernel
theorem dX5_getWheel_27 : decode cX5_getWheel 27 = .ok (.iadd, 1) := by decide +kernel
theorem dX5_getWheel_28 : decode cX5_getWheel 28 = .ok (.iaload, 1) := by decide +kernel
theorem dX5_getWheel_29 : decode cX5_getWheel 29 = .ok (.ireturn, 1) := by decide +kernel
set_option maxRecDepth 20000 in
theorem ggX5_getNeedle_X5_isBox : GoodIn wsX5_getNeedle wsX5_isBox := goodIn_r _ [6, 7, 8, 9, 5, 10, 16, 17, 18, 19, 20, 21, 22, 23, 24, 25, 26, 27, 28, 29, 30, 31, 32, 33, 34, 35, 36, 37, 38, 39, 40, 41, 42, 43, 44, 45] (by decide +kernel) (by decide +kernel)
set_option maxRecDepth 20000 in
theorem gX5_getNeedle_X5_isBox : GoodIn wsX5_getNeedle (wsV RX5 100 RX5 yX5_isBox wsX5_isBox) := goodIn_app (goodIn_of _ (by decide +kernel)) ggX5_getNeedle_X5_isBox
set_option maxRecDepth 20000 in
theorem ggX5_getNeedle_X5_no : GoodIn wsX5_getNeedle wsX5_no := goodIn_r _ [14, 15, 16, 17, 18, 19, 20, 21, 22, 23, 24, 25, 26, 27, 28, 29, 30, 31, 32, 33, 34, 35, 36, 37, 38, 39, 40, 41, 42, 43, 44, 45] (by decide +kernel) (by decide +kernel)
set_option maxRecDepth 20000 in
theorem gX5_getNeedle_X5_no : GoodIn wsX5_getNeedle (wsV RX5 104 RX5 yX5_no wsX5_no) := goodIn_app (goodIn_of _ (by decide +kernel)) ggX5_getNeedle_X5_no
theorem dX5_getNeedle_0 : decode cX5_getNeedle 0 = .ok (.aload_n 0, 1) := by decide +kernel
theorem dX5_getNeedle_1 : decode cX5_getNeedle 1 = .ok (.aload_n 0, 1) := by decide +kernel
theorem dX5_getNeedle_2 : decode cX5_getNeedle 2 = .ok (.iload_n 1, 1) := by decide +kernel
theorem dX5_getNeedle_3 : decode cX5_getNeedle 3 = .ok (.invokevirtual 100, 3) := by decide +kernel
theorem dX5_getNeedle_6 : decode cX5_getNeedle 6 = .ok (.iconst 1, 1) := by decide +kernel
theorem dX5_getNeedle_7 : decode cX5_getNeedle 7 = .ok (.invokevirtual 104, 3) := by decide +kernel
theorem dX5_getNeedle_10 : decode cX5_getNeedle 10 = .ok (.ifCond .eq 7, 3) := by decide +kernel
theorem dX5_getNeedle_13 : decode cX5_getNeedle 13 = .ok (.iconst 0, 1) := by decide +kernel
theorem dX5_getNeedle_14 : decode cX5_getNeedle 14 = .ok (.goto 9, 3) := by decide +kernel
theorem dX5_getNeedle_17 : decode cX5_getNeedle 17 = .ok (.aload_n 0, 1) := by decide +kernel
theorem dX5_getNeedle_18 : decode cX5_getNeedle 18 = .ok (.getfield 40, 3) := by decide +kernel
theorem dX5_getNeedle_21 : decode cX5_getNeedle 21 = .ok (.iload_n 1, 1) := by decide +kernel
theorem dX5_getNeedle_22 : decode cX5_getNeedle 22 = .ok (.iaload, 1) := by decide +kernel
theorem dX5_getNeedle_23 : decode cX5_getNeedle 23 = .ok (.ireturn, 1) := by decide +kernel
set_option maxRecDepth 20000 in
theorem ggX5_getWear_X5_isDisc : GoodIn wsX5_getWear wsX5_isDisc := goodIn_r _ [6, 7, 8, 9, 5, 10, 16, 17, 18, 19, 20, 21, 22, 23, 24, 25, 26, 27, 28, 29, 30, 31, 32, 33, 34, 35, 36, 37, 38, 39, 40, 41, 42, 43, 44, 45] (by decide +kernel) (by decide +kernel)
set_option maxRecDepth 20000 in
theorem gX5_getWear_X5_isDisc : GoodIn wsX5_getWear (wsV RX5 128 RX5 yX5_isDisc wsX5_isDisc) := goodIn_app (goodIn_of _ (by decide +kernel)) ggX5_getWear_X5_isDisc
set_option maxRecDepth 20000 in
theorem ggX5_getWear_X5_no : GoodIn wsX5_getWear wsX5_no := goodIn_r _ [14, 15, 16, 17, 18, 19, 20, 21, 22, 23, 24, 25, 26, 27, 28, 29, 30, 31, 32, 33, 34, 35, 36, 37, 38, 39, 40, 41, 42, 43, 44, 45] (by decide +kernel) (by decide +kernel)
set_option maxRecDepth 20000 in
theorem gX5_getWear_X5_no : GoodIn wsX5_getWear (wsV RX5 104 RX5 yX5_no wsX5_no) := goodIn_app (goodIn_of _ (by decide +kernel)) ggX5_getWear_X5_no
theorem dX5_getWear_0 : decode cX5_getWear 0 = .ok (.aload_n 0, 1) := by decide +kernel
theorem dX5_getWear_1 : decode cX5_getWear 1 = .ok (.aload_n 0, 1) := by decide +kernel
theorem dX5_getWear_2 : decode cX5_getWear 2 = .ok (.iload_n 1, 1) := by decide +kernel
theorem dX5_getWear_3 : decode cX5_getWear 3 = .ok (.invokevirtual 128, 3) := by decide +kernel
theorem dX5_getWear_6 : decode cX5_getWear 6 = .ok (.iconst 1, 1) := by decide +kernel
theorem dX5_getWear_7 : decode cX5_getWear 7 = .ok (.invokevirtual 104, 3) := by decide +kernel
theorem dX5_getWear_10 : decode cX5_getWear 10 = .ok (.ifCond .eq 7, 3) := by decide +kernel
theorem dX5_getWear_13 : decode cX5_getWear 13 = .ok (.iconst 0, 1) := by decide +kernel
theorem dX5_getWear_14 : decode cX5_getWear 14 = .ok (.goto 9, 3) := by decide +kernel
theorem dX5_getWear_17 : decode cX5_getWear 17 = .ok (.aload_n 0, 1) := by decide +kernel
theorem dX5_getWear_18 : decode cX5_getWear 18 = .ok (.getfield 19, 3) := by decide +kernel
theorem dX5_getWear_21 : decode cX5_getWear 21 = .ok (.iload_n 1, 1) := by decide +kernel
theorem dX5_getWear_22 : decode cX5_getWear 22 = .ok (.iaload, 1) := by decide +kernel
theorem dX5_getWear_23 : decode cX5_getWear 23 = .ok (.ireturn, 1) := by decide +kernel
set_option maxRecDepth 20000 in
theorem ggX5_getPlace_X5_isDisc : GoodIn wsX5_getPlace wsX5_isDisc := goodIn_r _ [6, 7, 8, 9, 5, 10, 16, 17, 18, 19, 20, 21, 22, 23, 24, 25, 26, 27, 28, 29, 30, 31, 32, 33, 34, 35, 36, 37, 38, 39, 40, 41, 42, 43, 44, 45] (by decide +kernel) (by decide +kernel)
set_option maxRecDepth 20000 in
theorem gX5_getPlace_X5_isDisc : GoodIn wsX5_getPlace (wsV RX5 128 RX5 yX5_isDisc wsX5_isDisc) := goodIn_app (goodIn_of _ (by decide +kernel)) ggX5_getPlace_X5_isDisc
set_option maxRecDepth 20000 in
theorem ggX5_getPlace_X5_no : GoodIn wsX5_getPlace wsX5_no := goodIn_r _ [14, 15, 16, 17, 18, 19, 20, 21, 22, 23, 24, 25, 26, 27, 28, 29, 30, 31, 32, 33, 34, 35, 36, 37, 38, 39, 40, 41, 42, 43, 44, 45] (by decide +kernel) (by decide +kernel)
set_option maxRecDepth 20000 in
theorem gX5_getPlace_X5_no : GoodIn wsX5_getPlace (wsV RX5 104 RX5 yX5_no wsX5_no) := goodIn_app (goodIn_of _ (by decide +kernel)) ggX5_getPlace_X5_no
theorem dX5_getPlace_0 : decode cX5_getPlace 0 = .ok (.aload_n 0, 1) := by decide +kernel
theorem dX5_getPlace_1 : decode cX5_getPlace 1 = .ok (.aload_n 0, 1) := by decide +kernel
theorem dX5_getPlace_2 : decode cX5_getPlace 2 = .ok (.iload_n 1, 1) := by decide +kernel
theorem dX5_getPlace_3 : decode cX5_getPlace 3 = .ok (.invokevirtual 128, 3) := by decide +kernel
theorem dX5_getPlace_6 : decode cX5_getPlace 6 = .ok (.iconst 1, 1) := by decide +kernel
theorem dX5_getPlace_7 : decode cX5_getPlace 7 = .ok (.invokevirtual 104, 3) := by decide +kernel
theorem dX5_getPlace_10 : decode cX5_getPlace 10 = .ok (.ifCond .eq 7, 3) := by decide +kernel
theorem dX5_getPlace_13 : decode cX5_getPlace 13 = .ok (.iconst 0, 1) := by decide +kernel
theorem dX5_getPlace_14 : decode cX5_getPlace 14 = .ok (.goto 9, 3) := by decide +kernel
theorem dX5_getPlace_17 : decode cX5_getPlace 17 = .ok (.aload_n 0, 1) := by decide +kernel
theorem dX5_getPlace_18 : decode cX5_getPlace 18 = .ok (.getfield 22, 3) := by decide +kernel
theorem dX5_getPlace_21 : decode cX5_getPlace 21 = .ok (.iload_n 1, 1) := by decide +kernel
theorem dX5_getPlace_22 : decode cX5_getPlace 22 = .ok (.iaload, 1) := by decide +kernel
theorem dX5_getPlace_23 : decode cX5_getPlace 23 = .ok (.ireturn, 1) := by decide +kernel
set_option maxRecDepth 20000 in
theorem ggX5_discAt_X5_isSlot : GoodIn wsX5_discAt wsX5_isSlot := goodIn_r _ [6, 7, 8, 9, 5, 10, 11, 12, 13, 14, 20, 21, 22, 23, 24, 25, 26, 27, 28, 29, 30, 31, 32, 33, 34, 35, 36, 37, 38, 39, 40, 41, 42, 43, 44, 45, 46, 47, 48, 49] (by decide +kernel) (by decide +kernel)
set_option maxRecDepth 20000 in
theorem gX5_discAt_X5_isSlot : GoodIn wsX5_discAt (wsV RX5 116 RX5 yX5_isSlot wsX5_isSlot) := goodIn_app (goodIn_of _ (by decide +kernel)) ggX5_discAt_X5_isSlot
set_option maxRecDepth 20000 in
theorem ggX5_discAt_X5_no : GoodIn wsX5_discAt wsX5_no := goodIn_r _ [18, 19, 20, 21, 22, 23, 24, 25, 26, 27, 28, 29, 30, 31, 32, 33, 34, 35, 36, 37, 38, 39, 40, 41, 42, 43, 44, 45, 46, 47, 48, 49] (by decide +kernel) (by decide +kernel)
set_option maxRecDepth 20000 in
theorem gX5_discAt_X5_no : GoodIn wsX5_discAt (wsV RX5 104 RX5 yX5_no wsX5_no) := goodIn_app (goodIn_of _ (by decide +kernel)) ggX5_discAt_X5_no
theorem dX5_discAt_0 : decode cX5_discAt 0 = .ok (.aload_n 0, 1) := by decide +kernel
theorem dX5_discAt_1 : decode cX5_discAt 1 = .ok (.aload_n 0, 1) := by decide +kernel
theorem dX5_discAt_2 : decode cX5_discAt 2 = .ok (.iload_n 1, 1) := by decide +kernel
theorem dX5_discAt_3 : decode cX5_discAt 3 = .ok (.iload_n 2, 1) := by decide +kernel
theorem dX5_discAt_4 : decode cX5_discAt 4 = .ok (.invokevirtual 116, 3) := by decide +kernel
theorem dX5_discAt_7 : decode cX5_discAt 7 = .ok (.iconst 1, 1) := by decide +kernel
theorem dX5_discAt_8 : decode cX5_discAt 8 = .ok (.invokevirtual 104, 3) := by decide +kernel
theorem dX5_discAt_11 : decode cX5_discAt 11 = .ok (.ifCond .ne 30, 3) := by decide +kernel
theorem dX5_discAt_14 : decode cX5_discAt 14 = .ok (.aload_n 0, 1) := by decide +kernel
theorem dX5_discAt_15 : decode cX5_discAt 15 = .ok (.aload_n 0, 1) := by decide +kernel
theorem dX5_discAt_16 : decode cX5_discAt 16 = .ok (.getfield 65, 3) := by decide +kernel
theorem dX5_discAt_19 : decode cX5_discAt 19 = .ok (.bipush 10, 2) := by decide +kernel
theorem dX5_discAt_21 : decode cX5_discAt 21 = .ok (.iload_n 1, 1) := by decide +kernel
theorem dX5_discAt_22 : decode cX5_discAt 22 = .ok (.imul, 1) := by decide +kernel
theorem dX5_discAt_23 : decode cX5_discAt 23 = .ok (.iload_n 2, 1) := by decide +kernel
theorem dX5_discAt_24 : decode cX5_discAt 24 = .ok (.iadd, 1) := by decide +kernel
theorem dX5_discAt_25 : decode cX5_discAt 25 = .ok (.iaload, 1) := by decide +kernel
theorem dX5_discAt_26 : decode cX5_discAt 26 = .ok (.ifCond .le 7, 3) := by decide +kernel
theorem dX5_discAt_29 : decode cX5_discAt 29 = .ok (.iconst 1, 1) := by decide +kernel
theorem dX5_discAt_30 : decode cX5_discAt 30 = .ok (.goto 4, 3) := by decide +kernel
theorem dX5_discAt_33 : decode cX5_discAt 33 = .ok (.iconst 0, 1) := by decide +kernel
theorem dX5_discAt_34 : decode cX5_discAt 34 = .ok (.iconst 2, 1) := by decide +kernel
theorem dX5_discAt_35 : decode cX5_discAt 35 = .ok (.invokevirtual 104, 3) := by decide +kernel
theorem dX5_discAt_38 : decode cX5_discAt 38 = .ok (.ifCond .eq 5, 3) := by decide +kernel
theorem dX5_discAt_41 : decode cX5_discAt 41 = .ok (.iconst 0, 1) := by decide +kernel
theorem dX5_discAt_42 : decode cX5_discAt 42 = .ok (.ireturn, 1) := by decide +kernel
theorem dX5_discAt_43 : decode cX5_discAt 43 = .ok (.aload_n 0, 1) := by decide +kernel
theorem dX5_discAt_44 : decode cX5_discAt 44 = .ok (.getfield 65, 3) := by decide +kernel
theorem dX5_discAt_47 : decode cX5_discAt 47 = .ok (.bipush 10, 2) := by decide +kernel
theorem dX5_discAt_49 : decode cX5_discAt 49 = .ok (.iload_n 1, 1) := by decide +kernel
theorem dX5_discAt_50 : decode cX5_discAt 50 = .ok (.imul, 1) := by decide +kernel
theorem dX5_discAt_51 : decode cX5_discAt 51 = .ok (.iload_n 2, 1) := by decide +kernel
theorem dX5_discAt_52 : decode cX5_discAt 52 = .ok (.iadd, 1) := by decide +kernel
theorem dX5_discAt_53 : decode cX5_discAt 53 = .ok (.iaload, 1) := by decide +kernel
theorem dX5_discAt_54 : decode cX5_discAt 54 = .ok (.iconst 1, 1) := by decide +kernel
theorem dX5_discAt_55 : decode cX5_discAt 55 = .ok (.isub, 1) := by decide +kernel
theorem dX5_discAt_56 : decode cX5_discAt 56 = .ok (.ireturn, 1) := by decide +kernel
set_option maxRecDepth 20000 in
theorem ggX5_pull_X5_isDisc : GoodIn wsX5_pull wsX5_isDisc := goodIn_r _ [6, 7, 8, 9, 5, 10, 26, 27, 28, 29, 30, 31, 32, 33, 34, 35, 36, 37, 38, 39, 40, 41, 42, 43, 44, 45, 46, 47, 48, 49, 50, 51, 52, 53, 54, 55] (by decide +kernel) (by decide +kernel)
set_option maxRecDepth 20000 in
theorem gX5_pull_X5_isDisc : GoodIn wsX5_pull (wsV RX5 128 RX5 yX5_isDisc wsX5_isDisc) := goodIn_app (goodIn_of _ (by decide +kernel)) ggX5_pull_X5_isDisc
set_option maxRecDepth 20000 in
theorem ggX5_pull_X5_no : GoodIn wsX5_pull wsX5_no := goodIn_r _ [14, 15, 26, 27, 28, 29, 30, 31, 32, 33, 34, 35, 36, 37, 38, 39, 40, 41, 42, 43, 44, 45, 46, 47, 48, 49, 50, 51, 52, 53, 54, 55] (by decide +kernel) (by decide +kernel)
set_option maxRecDepth 20000 in
theorem gX5_pull_X5_no : GoodIn wsX5_pull (wsV RX5 104 RX5 yX5_no wsX5_no) := goodIn_app (goodIn_of _ (by decide +kernel)) ggX5_pull_X5_no
set_option maxRecDepth 20000 in
theorem ggX5_pull_X5_pullAt : GoodIn wsX5_pull wsX5_pullAt := goodIn_ca (goodIn_r _ [19, 1, 20, 21, 22, 23, 24, 25, 26, 27, 28, 29, 30, 31, 32, 33, 34, 35, 36, 37, 38, 39, 40, 41, 42, 43, 44, 45, 46, 47, 48, 49, 50, 51, 52, 53, 54, 55] (by decide +kernel) (by decide +kernel)) (goodIn_sub (fun _ h => List.mem_cons_of_mem _ (List.mem_append_right _ h)) (by decide +kernel))
set_option maxRecDepth 20000 in
theorem gX5_pull_X5_pullAt : GoodIn wsX5_pull (wsV RX5 112 RX5 yX5_pullAt wsX5_pullAt) := goodIn_app (goodIn_of _ (by decide +kernel)) ggX5_pull_X5_pullAt
theorem dX5_pull_0 : decode cX5_pull 0 = .ok (.aload_n 0, 1) := by decide +kernel
theorem dX5_pull_1 : decode cX5_pull 1 = .ok (.aload_n 0, 1) := by decide +kernel
theorem dX5_pull_2 : decode cX5_pull 2 = .ok (.iload_n 1, 1) := by decide +kernel
theorem dX5_pull_3 : decode cX5_pull 3 = .ok (.invokevirtual 128, 3) := by decide +kernel
theorem dX5_pull_6 : decode cX5_pull 6 = .ok (.iconst 1, 1) := by decide +kernel
theorem dX5_pull_7 : decode cX5_pull 7 = .ok (.invokevirtual 104, 3) := by decide +kernel
theorem dX5_pull_10 : decode cX5_pull 10 = .ok (.ifCond .eq 5, 3) := by decide +kernel
theorem dX5_pull_13 : decode cX5_pull 13 = .ok (.iconst 0, 1) := by decide +kernel
theorem dX5_pull_14 : decode cX5_pull 14 = .ok (.ireturn, 1) := by decide +kernel
theorem dX5_pull_15 : decode cX5_pull 15 = .ok (.aload_n 0, 1) := by decide +kernel
theorem dX5_pull_16 : decode cX5_pull 16 = .ok (.aload_n 0, 1) := by decide +kernel
theorem dX5_pull_17 : decode cX5_pull 17 = .ok (.getfield 22, 3) := by decide +kernel
theorem dX5_pull_20 : decode cX5_pull 20 = .ok (.iload_n 1, 1) := by decide +kernel
theorem dX5_pull_21 : decode cX5_pull 21 = .ok (.iaload, 1) := by decide +kernel
theorem dX5_pull_22 : decode cX5_pull 22 = .ok (.ifCond .lt 15, 3) := by decide +kernel
theorem dX5_pull_25 : decode cX5_pull 25 = .ok (.aload_n 0, 1) := by decide +kernel
theorem dX5_pull_26 : decode cX5_pull 26 = .ok (.getfield 22, 3) := by decide +kernel
theorem dX5_pull_29 : decode cX5_pull 29 = .ok (.iload_n 1, 1) := by decide +kernel
theorem dX5_pull_30 : decode cX5_pull 30 = .ok (.iaload, 1) := by decide +kernel
theorem dX5_pull_31 : decode cX5_pull 31 = .ok (.bipush 10, 2) := by decide +kernel
theorem dX5_pull_33 : decode cX5_pull 33 = .ok (.idiv, 1) := by decide +kernel
theorem dX5_pull_34 : decode cX5_pull 34 = .ok (.goto 4, 3) := by decide +kernel
theorem dX5_pull_37 : decode cX5_pull 37 = .ok (.iconst (-1), 1) := by decide +kernel
theorem dX5_pull_38 : decode cX5_pull 38 = .ok (.iload_n 1, 1) := by decide +kernel
theorem dX5_pull_39 : decode cX5_pull 39 = .ok (.invokevirtual 112, 3) := by decide +kernel
theorem dX5_pull_42 : decode cX5_pull 42 = .ok (.ireturn, 1) := by decide +kernel
set_option maxRecDepth 20000 in
theorem ggX5_pullIn_X5_isBox : GoodIn wsX5_pullIn wsX5_isBox := goodIn_r _ [5, 6, 7, 8, 4, 9, 31, 32, 33, 34, 35, 36, 37, 38, 39, 40, 41, 42, 43, 44, 45, 46, 47, 48, 49, 50, 51, 52, 53, 54, 55, 56, 57, 58, 59, 60] (by decide +kernel) (by decide +kernel)
set_option maxRecDepth 20000 in
theorem gX5_pullIn_X5_isBox : GoodIn wsX5_pullIn (wsV RX5 100 RX5 yX5_isBox wsX5_isBox) := goodIn_app (goodIn_of _ (by decide +kernel)) ggX5_pullIn_X5_isBox
set_option maxRecDepth 20000 in
theorem ggX5_pullIn_X5_isDisc : GoodIn wsX5_pullIn wsX5_isDisc := goodIn_r _ [13, 14, 7, 8, 4, 9, 31, 32, 33, 34, 35, 36, 37, 38, 39, 40, 41, 42, 43, 44, 45, 46, 47, 48, 49, 50, 51, 52, 53, 54, 55, 56, 57, 58, 59, 60] (by decide +kernel) (by decide +kernel)
set_option maxRecDepth 20000 in
theorem gX5_pullIn_X5_isDisc : GoodIn wsX5_pullIn (wsV RX5 128 RX5 yX5_isDisc wsX5_isDisc) := goodIn_app (goodIn_of _ (by decide +kernel)) ggX5_pullIn_X5_isDisc
set_option maxRecDepth 20000 in
theorem ggX5_pullIn_X5_no : GoodIn wsX5_pullIn wsX5_no := goodIn_r _ [18, 19, 31, 32, 33, 34, 35, 36, 37, 38, 39, 40, 41, 42, 43, 44, 45, 46, 47, 48, 49, 50, 51, 52, 53, 54, 55, 56, 57, 58, 59, 60] (by decide +kernel) (by decide +kernel)
set_option maxRecDepth 20000 in
theorem gX5_pullIn_X5_no : GoodIn wsX5_pullIn (wsV RX5 104 RX5 yX5_no wsX5_no) := goodIn_app (goodIn_of _ (by decide +kernel)) ggX5_pullIn_X5_no
set_option maxRecDepth 20000 in
theorem ggX5_pullIn_X5_pullAt : GoodIn wsX5_pullIn wsX5_pullAt := goodIn_ca (goodIn_r _ [23, 24, 25, 26, 27, 28, 29, 30, 31, 32, 33, 34, 35, 36, 37, 38, 39, 40, 41, 42, 43, 44, 45, 46, 47, 48, 49, 50, 51, 52, 53, 54, 55, 56, 57, 58, 59, 60] (by decide +kernel) (by decide +kernel)) (goodIn_sub (fun _ h => List.mem_cons_of_mem _ (List.mem_append_right _ h)) (by decide +kernel))
set_option maxRecDepth 20000 in
theorem gX5_pullIn_X5_pullAt : GoodIn wsX5_pullIn (wsV RX5 112 RX5 yX5_pullAt wsX5_pullAt) := goodIn_app (goodIn_of _ (by decide +kernel)) ggX5_pullIn_X5_pullAt
theorem dX5_pullIn_0 : decode cX5_pullIn 0 = .ok (.aload_n 0, 1) := by decide +kernel
theorem dX5_pullIn_1 : decode cX5_pullIn 1 = .ok (.aload_n 0, 1) := by decide +kernel
theorem dX5_pullIn_2 : decode cX5_pullIn 2 = .ok (.iload_n 1, 1) := by decide +kernel
theorem dX5_pullIn_3 : decode cX5_pullIn 3 = .ok (.invokevirtual 100, 3) := by decide +kernel
theorem dX5_pullIn_6 : decode cX5_pullIn 6 = .ok (.ifCond .eq 15, 3) := by decide +kernel
theorem dX5_pullIn_9 : decode cX5_pullIn 9 = .ok (.aload_n 0, 1) := by decide +kernel
theorem dX5_pullIn_10 : decode cX5_pullIn 10 = .ok (.iload_n 2, 1) := by decide +kernel
theorem dX5_pullIn_11 : decode cX5_pullIn 11 = .ok (.invokevirtual 128, 3) := by decide +kernel
theorem dX5_pullIn_14 : decode cX5_pullIn 14 = .ok (.ifCond .eq 7, 3) := by decide +kernel
theorem dX5_pullIn_17 : decode cX5_pullIn 17 = .ok (.iconst 1, 1) := by decide +kernel
theorem dX5_pullIn_18 : decode cX5_pullIn 18 = .ok (.goto 4, 3) := by decide +kernel
theorem dX5_pullIn_21 : decode cX5_pullIn 21 = .ok (.iconst 0, 1) := by decide +kernel
theorem dX5_pullIn_22 : decode cX5_pullIn 22 = .ok (.iconst 1, 1) := by decide +kernel
theorem dX5_pullIn_23 : decode cX5_pullIn 23 = .ok (.invokevirtual 104, 3) := by decide +kernel
theorem dX5_pullIn_26 : decode cX5_pullIn 26 = .ok (.ifCond .eq 7, 3) := by decide +kernel
theorem dX5_pullIn_29 : decode cX5_pullIn 29 = .ok (.iconst 0, 1) := by decide +kernel
theorem dX5_pullIn_30 : decode cX5_pullIn 30 = .ok (.goto 9, 3) := by decide +kernel
theorem dX5_pullIn_33 : decode cX5_pullIn 33 = .ok (.aload_n 0, 1) := by decide +kernel
theorem dX5_pullIn_34 : decode cX5_pullIn 34 = .ok (.iload_n 1, 1) := by decide +kernel
theorem dX5_pullIn_35 : decode cX5_pullIn 35 = .ok (.iload_n 2, 1) := by decide +kernel
theorem dX5_pullIn_36 : decode cX5_pullIn 36 = .ok (.invokevirtual 112, 3) := by decide +kernel
theorem dX5_pullIn_39 : decode cX5_pullIn 39 = .ok (.ireturn, 1) := by decide +kernel
set_option maxRecDepth 20000 in
theorem ggX5_pass_X5_no : GoodIn wsX5_pass wsX5_no := goodIn_r _ [13, 14, 35, 36, 37, 38, 39, 40, 41, 42, 43, 44, 45, 46, 47, 48, 49, 50, 51, 52, 53, 54, 55, 56, 57, 58, 59, 60, 61, 62, 63, 64] (by decide +kernel) (by decide +kernel)
set_option maxRecDepth 20000 in
theorem gX5_pass_X5_no : GoodIn wsX5_pass (wsV RX5 104 RX5 yX5_no wsX5_no) := goodIn_app (goodIn_of _ (by decide +kernel)) ggX5_pass_X5_no
set_option maxRecDepth 20000 in
theorem ggX5_pass_X5_pullOfSlot : GoodIn wsX5_pass wsX5_pullOfSlot := goodIn_ca (goodIn_r _ [18, 4, 19, 20, 21, 12, 22, 23, 1, 24, 25, 26, 27, 5, 35, 36, 37, 38, 39, 40, 41, 42, 43, 44, 45, 46, 47, 48, 49, 50, 51, 52, 53, 54, 55, 56, 57, 58, 59, 60, 61, 62, 63, 64] (by decide +kernel) (by decide +kernel)) (goodIn_sub (fun _ h => List.mem_cons_of_mem _ (List.mem_append_right _ h)) (by decide +kernel))
set_option maxRecDepth 20000 in
theorem gX5_pass_X5_pullOfSlot : GoodIn wsX5_pass (wsV RX5 131 RX5 yX5_pullOfSlot wsX5_pullOfSlot) := goodIn_app (goodIn_of _ (by decide +kernel)) ggX5_pass_X5_pullOfSlot
set_option maxRecDepth 20000 in
theorem ggX5_pass_X5_wears : GoodIn wsX5_pass wsX5_wears := goodIn_ca (goodIn_r _ [31, 4, 32, 33, 5, 34, 35, 36, 37, 38, 39, 40, 41, 42, 43, 44, 45, 46, 47, 48, 49, 50, 51, 52, 53, 54, 55, 56, 57, 58, 59, 60, 61, 62, 63, 64] (by decide +kernel) (by decide +kernel)) (goodIn_sub (fun _ h => List.mem_cons_of_mem _ (List.mem_append_right _ h)) (by decide +kernel))
set_option maxRecDepth 20000 in
theorem gX5_pass_X5_wears : GoodIn wsX5_pass (wsV RX5 124 RX5 yX5_wears wsX5_wears) := goodIn_app (goodIn_of _ (by decide +kernel)) ggX5_pass_X5_wears
theorem dX5_pass_0 : decode cX5_pass 0 = .ok (.aload_n 0, 1) := by decide +kernel
theorem dX5_pass_1 : decode cX5_pass 1 = .ok (.aload_n 0, 1) := by decide +kernel
theorem dX5_pass_2 : decode cX5_pass 2 = .ok (.getfield 109, 3) := by decide +kernel
theorem dX5_pass_5 : decode cX5_pass 5 = .ok (.bipush 99, 2) := by decide +kernel
theorem dX5_pass_7 : decode cX5_pass 7 = .ok (.if_icmp .ge 7, 3) := by decide +kernel
theorem dX5_pass_10 : decode cX5_pass 10 = .ok (.iconst 1, 1) := by decide +kernel
theorem dX5_pass_11 : decode cX5_pass 11 = .ok (.goto 4, 3) := by decide +kernel
theorem dX5_pass_14 : decode cX5_pass 14 = .ok (.iconst 0, 1) := by decide +kernel
theorem dX5_pass_15 : decode cX5_pass 15 = .ok (.iconst 1, 1) := by decide +kernel
theorem dX5_pass_16 : decode cX5_pass 16 = .ok (.invokevirtual 104, 3) := by decide +kernel
theorem dX5_pass_19 : decode cX5_pass 19 = .ok (.ifCond .eq 5, 3) := by decide +kernel
theorem dX5_pass_22 : decode cX5_pass 22 = .ok (.iconst 0, 1) := by decide +kernel
theorem dX5_pass_23 : decode cX5_pass 23 = .ok (.ireturn, 1) := by decide +kernel
theorem dX5_pass_24 : decode cX5_pass 24 = .ok (.iconst 0, 1) := by decide +kernel
theorem dX5_pass_25 : decode cX5_pass 25 = .ok (.istore_n 1, 1) := by decide +kernel
theorem dX5_pass_26 : decode cX5_pass 26 = .ok (.iload_n 1, 1) := by decide +kernel
theorem dX5_pass_27 : decode cX5_pass 27 = .ok (.bipush 10, 2) := by decide +kernel
theorem dX5_pass_29 : decode cX5_pass 29 = .ok (.aload_n 0, 1) := by decide +kernel
theorem dX5_pass_30 : decode cX5_pass 30 = .ok (.getfield 97, 3) := by decide +kernel
theorem dX5_pass_33 : decode cX5_pass 33 = .ok (.imul, 1) := by decide +kernel
theorem dX5_pass_34 : decode cX5_pass 34 = .ok (.if_icmp .ge 88, 3) := by decide +kernel
theorem dX5_pass_37 : decode cX5_pass 37 = .ok (.aload_n 0, 1) := by decide +kernel
theorem dX5_pass_38 : decode cX5_pass 38 = .ok (.getfield 58, 3) := by decide +kernel
theorem dX5_pass_41 : decode cX5_pass 41 = .ok (.iload_n 1, 1) := by decide +kernel
theorem dX5_pass_42 : decode cX5_pass 42 = .ok (.bipush 10, 2) := by decide +kernel
theorem dX5_pass_44 : decode cX5_pass 44 = .ok (.idiv, 1) := by decide +kernel
theorem dX5_pass_45 : decode cX5_pass 45 = .ok (.baload, 1) := by decide +kernel
theorem dX5_pass_46 : decode cX5_pass 46 = .ok (.ifCond .ne 16, 3) := by decide +kernel
theorem dX5_pass_49 : decode cX5_pass 49 = .ok (.aload_n 0, 1) := by decide +kernel
theorem dX5_pass_50 : decode cX5_pass 50 = .ok (.getfield 65, 3) := by decide +kernel
theorem dX5_pass_53 : decode cX5_pass 53 = .ok (.iload_n 1, 1) := by decide +kernel
theorem dX5_pass_54 : decode cX5_pass 54 = .ok (.iaload, 1) := by decide +kernel
theorem dX5_pass_55 : decode cX5_pass 55 = .ok (.ifCond .le 7, 3) := by decide +kernel
theorem dX5_pass_58 : decode cX5_pass 58 = .ok (.iconst 1, 1) := by decide +kernel
theorem dX5_pass_59 : decode cX5_pass 59 = .ok (.goto 4, 3) := by decide +kernel
theorem dX5_pass_62 : decode cX5_pass 62 = .ok (.iconst 0, 1) := by decide +kernel
theorem dX5_pass_63 : decode cX5_pass 63 = .ok (.istore_n 2, 1) := by decide +kernel
theorem dX5_pass_64 : decode cX5_pass 64 = .ok (.iload_n 2, 1) := by decide +kernel
theorem dX5_pass_65 : decode cX5_pass 65 = .ok (.ifCond .eq 51, 3) := by decide +kernel
theorem dX5_pass_68 : decode cX5_pass 68 = .ok (.aload_n 0, 1) := by decide +kernel
theorem dX5_pass_69 : decode cX5_pass 69 = .ok (.getfield 19, 3) := by decide +kernel
theorem dX5_pass_72 : decode cX5_pass 72 = .ok (.aload_n 0, 1) := by decide +kernel
theorem dX5_pass_73 : decode cX5_pass 73 = .ok (.getfield 65, 3) := by decide +kernel
theorem dX5_pass_76 : decode cX5_pass 76 = .ok (.iload_n 1, 1) := by decide +kernel
theorem dX5_pass_77 : decode cX5_pass 77 = .ok (.iaload, 1) := by decide +kernel
theorem dX5_pass_78 : decode cX5_pass 78 = .ok (.iconst 1, 1) := by decide +kernel
theorem dX5_pass_79 : decode cX5_pass 79 = .ok (.isub, 1) := by decide +kernel
theorem dX5_pass_80 : decode cX5_pass 80 = .ok (.iaload, 1) := by decide +kernel
theorem dX5_pass_81 : decode cX5_pass 81 = .ok (.bipush 60, 2) := by decide +kernel
theorem dX5_pass_83 : decode cX5_pass 83 = .ok (.if_icmp .ge 33, 3) := by decide +kernel
theorem dX5_pass_86 : decode cX5_pass 86 = .ok (.aload_n 0, 1) := by decide +kernel
theorem dX5_pass_87 : decode cX5_pass 87 = .ok (.iload_n 1, 1) := by decide +kernel
theorem dX5_pass_88 : decode cX5_pass 88 = .ok (.invokevirtual 131, 3) := by decide +kernel
theorem dX5_pass_91 : decode cX5_pass 91 = .ok (.bipush 8, 2) := by decide +kernel
theorem dX5_pass_93 : decode cX5_pass 93 = .ok (.idiv, 1) := by decide +kernel
theorem dX5_pass_94 : decode cX5_pass 94 = .ok (.istore_n 3, 1) := by decide +kernel
theorem dX5_pass_95 : decode cX5_pass 95 = .ok (.aload_n 0, 1) := by decide +kernel
theorem dX5_pass_96 : decode cX5_pass 96 = .ok (.getfield 37, 3) := by decide +kernel
theorem dX5_pass_99 : decode cX5_pass 99 = .ok (.iload_n 1, 1) := by decide +kernel
theorem dX5_pass_100 : decode cX5_pass 100 = .ok (.bipush 10, 2) := by decide +kernel
theorem dX5_pass_102 : decode cX5_pass 102 = .ok (.idiv, 1) := by decide +kernel
theorem dX5_pass_103 : decode cX5_pass 103 = .ok (.dup2, 1) := by decide +kernel
theorem dX5_pass_104 : decode cX5_pass 104 = .ok (.iaload, 1) := by decide +kernel
theorem dX5_pass_105 : decode cX5_pass 105 = .ok (.iconst 5, 1) := by decide +kernel
theorem dX5_pass_106 : decode cX5_pass 106 = .ok (.iload_n 3, 1) := by decide +kernel
theorem dX5_pass_107 : decode cX5_pass 107 = .ok (.imul, 1) := by decide +kernel
theorem dX5_pass_108 : decode cX5_pass 108 = .ok (.iadd, 1) := by decide +kernel
theorem dX5_pass_109 : decode cX5_pass 109 = .ok (.iastore, 1) := by decide +kernel
theorem dX5_pass_110 : decode cX5_pass 110 = .ok (.aload_n 0, 1) := by decide +kernel
theorem dX5_pass_111 : decode cX5_pass 111 = .ok (.iload_n 1, 1) := by decide +kernel
theorem dX5_pass_112 : decode cX5_pass 112 = .ok (.iload_n 3, 1) := by decide +kernel
theorem dX5_pass_113 : decode cX5_pass 113 = .ok (.invokevirtual 124, 3) := by decide +kernel
theorem dX5_pass_116 : decode cX5_pass 116 = .ok (.iinc 1 1, 3) := by decide +kernel
theorem dX5_pass_119 : decode cX5_pass 119 = .ok (.goto (-93), 3) := by decide +kernel
theorem dX5_pass_122 : decode cX5_pass 122 = .ok (.aload_n 0, 1) := by decide +kernel
theorem dX5_pass_123 : decode cX5_pass 123 = .ok (.dup, 1) := by decide +kernel
theorem dX5_pass_124 : decode cX5_pass 124 = .ok (.getfield 109, 3) := by decide +kernel
theorem dX5_pass_127 : decode cX5_pass 127 = .ok (.iconst 1, 1) := by decide +kernel
theorem dX5_pass_128 : decode cX5_pass 128 = .ok (.iadd, 1) := by decide +kernel
theorem dX5_pass_129 : decode cX5_pass 129 = .ok (.putfield 109, 3) := by decide +kernel
theorem dX5_pass_132 : decode cX5_pass 132 = .ok (.aload_n 0, 1) := by decide +kernel
theorem dX5_pass_133 : decode cX5_pass 133 = .ok (.sipush 600, 3) := by decide +kernel
theorem dX5_pass_136 : decode cX5_pass 136 = .ok (.putfield 84, 3) := by decide +kernel
theorem dX5_pass_139 : decode cX5_pass 139 = .ok (.iconst 0, 1) := by decide +kernel
theorem dX5_pass_140 : decode cX5_pass 140 = .ok (.istore_n 1, 1) := by decide +kernel
theorem dX5_pass_141 : decode cX5_pass 141 = .ok (.iload_n 1, 1) := by decide +kernel
theorem dX5_pass_142 : decode cX5_pass 142 = .ok (.iconst 4, 1) := by decide +kernel
theorem dX5_pass_143 : decode cX5_pass 143 = .ok (.if_icmp .ge 16, 3) := by decide +kernel
theorem dX5_pass_146 : decode cX5_pass 146 = .ok (.aload_n 0, 1) := by decide +kernel
theorem dX5_pass_147 : decode cX5_pass 147 = .ok (.getfield 62, 3) := by decide +kernel
theorem dX5_pass_150 : decode cX5_pass 150 = .ok (.iload_n 1, 1) := by decide +kernel
theorem dX5_pass_151 : decode cX5_pass 151 = .ok (.iconst 0, 1) := by decide +kernel
theorem dX5_pass_152 : decode cX5_pass 152 = .ok (.bastore, 1) := by decide +kernel
theorem dX5_pass_153 : decode cX5_pass 153 = .ok (.iinc 1 1, 3) := by decide +kernel
theorem dX5_pass_156 : decode cX5_pass 156 = .ok (.goto (-15), 3) := by decide +kernel
theorem dX5_pass_159 : decode cX5_pass 159 = .ok (.aload_n 0, 1) := by decide +kernel
theorem dX5_pass_160 : decode cX5_pass 160 = .ok (.getfield 109, 3) := by decide +kernel
theorem dX5_pass_163 : decode cX5_pass 163 = .ok (.ireturn, 1) := by decide +kernel
theorem dX5_getWeek_0 : decode cX5_getWeek 0 = .ok (.aload_n 0, 1) := by decide +kernel
theorem dX5_getWeek_1 : decode cX5_getWeek 1 = .ok (.getfield 109, 3) := by decide +kernel
theorem dX5_getWeek_4 : decode cX5_getWeek 4 = .ok (.ireturn, 1) := by decide +kernel
theorem dX5_getMinutes_0 : decode cX5_getMinutes 0 = .ok (.aload_n 0, 1) := by decide +kernel
theorem dX5_getMinutes_1 : decode cX5_getMinutes 1 = .ok (.getfield 84, 3) := by decide +kernel
theorem dX5_getMinutes_4 : decode cX5_getMinutes 4 = .ok (.ireturn, 1) := by decide +kernel
set_option maxRecDepth 20000 in
theorem ggX5_visit_X5_isBox : GoodIn wsX5_visit wsX5_isBox := goodIn_r _ [14, 15, 16, 17, 13, 18, 24, 25, 26, 27, 28, 29, 30, 31, 32, 33, 34, 35, 36, 37, 38, 39, 40, 41, 42, 43, 44, 45, 46, 47, 48, 49, 50, 51, 52, 53] (by decide +kernel) (by decide +kernel)
set_option maxRecDepth 20000 in
theorem gX5_visit_X5_isBox : GoodIn wsX5_visit (wsV RX5 100 RX5 yX5_isBox wsX5_isBox) := goodIn_app (goodIn_of _ (by decide +kernel)) ggX5_visit_X5_isBox
set_option maxRecDepth 20000 in
theorem ggX5_visit_X5_no : GoodIn wsX5_visit wsX5_no := goodIn_r _ [22, 23, 24, 25, 26, 27, 28, 29, 30, 31, 32, 33, 34, 35, 36, 37, 38, 39, 40, 41, 42, 43, 44, 45, 46, 47, 48, 49, 50, 51, 52, 53] (by decide +kernel) (by decide +kernel)
set_option maxRecDepth 20000 in
theorem gX5_visit_X5_no : GoodIn wsX5_visit (wsV RX5 104 RX5 yX5_no wsX5_no) := goodIn_app (goodIn_of _ (by decide +kernel)) ggX5_visit_X5_no
theorem dX5_visit_0 : decode cX5_visit 0 = .ok (.aload_n 0, 1) := by decide +kernel
theorem dX5_visit_1 : decode cX5_visit 1 = .ok (.aload_n 0, 1) := by decide +kernel
theorem dX5_visit_2 : decode cX5_visit 2 = .ok (.iload_n 1, 1) := by decide +kernel
theorem dX5_visit_3 : decode cX5_visit 3 = .ok (.invokevirtual 100, 3) := by decide +kernel
theorem dX5_visit_6 : decode cX5_visit 6 = .ok (.iconst 1, 1) := by decide +kernel
theorem dX5_visit_7 : decode cX5_visit 7 = .ok (.invokevirtual 104, 3) := by decide +kernel
theorem dX5_visit_10 : decode cX5_visit 10 = .ok (.ifCond .ne 34, 3) := by decide +kernel
theorem dX5_visit_13 : decode cX5_visit 13 = .ok (.aload_n 0, 1) := by decide +kernel
theorem dX5_visit_14 : decode cX5_visit 14 = .ok (.aload_n 0, 1) := by decide +kernel
theorem dX5_visit_15 : decode cX5_visit 15 = .ok (.getfield 62, 3) := by decide +kernel
theorem dX5_visit_18 : decode cX5_visit 18 = .ok (.iload_n 1, 1) := by decide +kernel
theorem dX5_visit_19 : decode cX5_visit 19 = .ok (.baload, 1) := by decide +kernel
theorem dX5_visit_20 : decode cX5_visit 20 = .ok (.ifCond .ne 16, 3) := by decide +kernel
theorem dX5_visit_23 : decode cX5_visit 23 = .ok (.aload_n 0, 1) := by decide +kernel
theorem dX5_visit_24 : decode cX5_visit 24 = .ok (.getfield 84, 3) := by decide +kernel
theorem dX5_visit_27 : decode cX5_visit 27 = .ok (.bipush 40, 2) := by decide +kernel
theorem dX5_visit_29 : decode cX5_visit 29 = .ok (.if_icmp .lt 7, 3) := by decide +kernel
theorem dX5_visit_32 : decode cX5_visit 32 = .ok (.iconst 1, 1) := by decide +kernel
theorem dX5_visit_33 : decode cX5_visit 33 = .ok (.goto 4, 3) := by decide +kernel
theorem dX5_visit_36 : decode cX5_visit 36 = .ok (.iconst 0, 1) := by decide +kernel
theorem dX5_visit_37 : decode cX5_visit 37 = .ok (.iconst 2, 1) := by decide +kernel
theorem dX5_visit_38 : decode cX5_visit 38 = .ok (.invokevirtual 104, 3) := by decide +kernel
theorem dX5_visit_41 : decode cX5_visit 41 = .ok (.ifCond .eq 5, 3) := by decide +kernel
theorem dX5_visit_44 : decode cX5_visit 44 = .ok (.iconst 0, 1) := by decide +kernel
theorem dX5_visit_45 : decode cX5_visit 45 = .ok (.ireturn, 1) := by decide +kernel
theorem dX5_visit_46 : decode cX5_visit 46 = .ok (.aload_n 0, 1) := by decide +kernel
theorem dX5_visit_47 : decode cX5_visit 47 = .ok (.dup, 1) := by decide +kernel
theorem dX5_visit_48 : decode cX5_visit 48 = .ok (.getfield 84, 3) := by decide +kernel
theorem dX5_visit_51 : decode cX5_visit 51 = .ok (.bipush 40, 2) := by decide +kernel
theorem dX5_visit_53 : decode cX5_visit 53 = .ok (.isub, 1) := by decide +kernel
theorem dX5_visit_54 : decode cX5_visit 54 = .ok (.putfield 84, 3) := by decide +kernel
theorem dX5_visit_57 : decode cX5_visit 57 = .ok (.aload_n 0, 1) := by decide +kernel
theorem dX5_visit_58 : decode cX5_visit 58 = .ok (.getfield 62, 3) := by decide +kernel
theorem dX5_visit_61 : decode cX5_visit 61 = .ok (.iload_n 1, 1) := by decide +kernel
theorem dX5_visit_62 : decode cX5_visit 62 = .ok (.iconst 1, 1) := by decide +kernel
theorem dX5_visit_63 : decode cX5_visit 63 = .ok (.bastore, 1) := by decide +kernel
theorem dX5_visit_64 : decode cX5_visit 64 = .ok (.aload_n 0, 1) := by decide +kernel
theorem dX5_visit_65 : decode cX5_visit 65 = .ok (.getfield 58, 3) := by decide +kernel
theorem dX5_visit_68 : decode cX5_visit 68 = .ok (.iload_n 1, 1) := by decide +kernel
theorem dX5_visit_69 : decode cX5_visit 69 = .ok (.iconst 0, 1) := by decide +kernel
theorem dX5_visit_70 : decode cX5_visit 70 = .ok (.bastore, 1) := by decide +kernel
theorem dX5_visit_71 : decode cX5_visit 71 = .ok (.aload_n 0, 1) := by decide +kernel
theorem dX5_visit_72 : decode cX5_visit 72 = .ok (.getfield 37, 3) := by decide +kernel
theorem dX5_visit_75 : decode cX5_visit 75 = .ok (.iload_n 1, 1) := by decide +kernel
theorem dX5_visit_76 : decode cX5_visit 76 = .ok (.iaload, 1) := by decide +kernel
theorem dX5_visit_77 : decode cX5_visit 77 = .ok (.istore_n 2, 1) := by decide +kernel
theorem dX5_visit_78 : decode cX5_visit 78 = .ok (.iload_n 2, 1) := by decide +kernel
theorem dX5_visit_79 : decode cX5_visit 79 = .ok (.aload_n 0, 1) := by decide +kernel
theorem dX5_visit_80 : decode cX5_visit 80 = .ok (.getfield 25, 3) := by decide +kernel
theorem dX5_visit_83 : decode cX5_visit 83 = .ok (.iload_n 1, 1) := by decide +kernel
theorem dX5_visit_84 : decode cX5_visit 84 = .ok (.iaload, 1) := by decide +kernel
theorem dX5_visit_85 : decode cX5_visit 85 = .ok (.imul, 1) := by decide +kernel
theorem dX5_visit_86 : decode cX5_visit 86 = .ok (.bipush 100, 2) := by decide +kernel
theorem dX5_visit_88 : decode cX5_visit 88 = .ok (.idiv, 1) := by decide +kernel
theorem dX5_visit_89 : decode cX5_visit 89 = .ok (.istore_n 3, 1) := by decide +kernel
theorem dX5_visit_90 : decode cX5_visit 90 = .ok (.aload_n 0, 1) := by decide +kernel
theorem dX5_visit_91 : decode cX5_visit 91 = .ok (.getfield 55, 3) := by decide +kernel
theorem dX5_visit_94 : decode cX5_visit 94 = .ok (.iload_n 1, 1) := by decide +kernel
theorem dX5_visit_95 : decode cX5_visit 95 = .ok (.dup2, 1) := by decide +kernel
theorem dX5_visit_96 : decode cX5_visit 96 = .ok (.iaload, 1) := by decide +kernel
theorem dX5_visit_97 : decode cX5_visit 97 = .ok (.iload_n 3, 1) := by decide +kernel
theorem dX5_visit_98 : decode cX5_visit 98 = .ok (.iadd, 1) := by decide +kernel
theorem dX5_visit_99 : decode cX5_visit 99 = .ok (.iastore, 1) := by decide +kernel
theorem dX5_visit_100 : decode cX5_visit 100 = .ok (.aload_n 0, 1) := by decide +kernel
theorem dX5_visit_101 : decode cX5_visit 101 = .ok (.dup, 1) := by decide +kernel
theorem dX5_visit_102 : decode cX5_visit 102 = .ok (.getfield 135, 3) := by decide +kernel
theorem dX5_visit_105 : decode cX5_visit 105 = .ok (.iload_n 2, 1) := by decide +kernel
theorem dX5_visit_106 : decode cX5_visit 106 = .ok (.iload_n 3, 1) := by decide +kernel
theorem dX5_visit_107 : decode cX5_visit 107 = .ok (.isub, 1) := by decide +kernel
theorem dX5_visit_108 : decode cX5_visit 108 = .ok (.iadd, 1) := by decide +kernel
theorem dX5_visit_109 : decode cX5_visit 109 = .ok (.putfield 135, 3) := by decide +kernel
theorem dX5_visit_112 : decode cX5_visit 112 = .ok (.aload_n 0, 1) := by decide +kernel
theorem dX5_visit_113 : decode cX5_visit 113 = .ok (.getfield 52, 3) := by decide +kernel
theorem dX5_visit_116 : decode cX5_visit 116 = .ok (.iload_n 1, 1) := by decide +kernel
theorem dX5_visit_117 : decode cX5_visit 117 = .ok (.iconst 5, 1) := by decide +kernel
theorem dX5_visit_118 : decode cX5_visit 118 = .ok (.aload_n 0, 1) := by decide +kernel
theorem dX5_visit_119 : decode cX5_visit 119 = .ok (.getfield 49, 3) := by decide +kernel
theorem dX5_visit_122 : decode cX5_visit 122 = .ok (.iload_n 1, 1) := by decide +kernel
theorem dX5_visit_123 : decode cX5_visit 123 = .ok (.iaload, 1) := by decide +kernel
theorem dX5_visit_124 : decode cX5_visit 124 = .ok (.imul, 1) := by decide +kernel
theorem dX5_visit_125 : decode cX5_visit 125 = .ok (.iload_n 2, 1) := by decide +kernel
theorem dX5_visit_126 : decode cX5_visit 126 = .ok (.isub, 1) := by decide +kernel
theorem dX5_visit_127 : decode cX5_visit 127 = .ok (.iastore, 1) := by decide +kernel
theorem dX5_visit_128 : decode cX5_visit 128 = .ok (.aload_n 0, 1) := by decide +kernel
theorem dX5_visit_129 : decode cX5_visit 129 = .ok (.getfield 49, 3) := by decide +kernel
theorem dX5_visit_132 : decode cX5_visit 132 = .ok (.iload_n 1, 1) := by decide +kernel
theorem dX5_visit_133 : decode cX5_visit 133 = .ok (.iconst 0, 1) := by decide +kernel
theorem dX5_visit_134 : decode cX5_visit 134 = .ok (.iastore, 1) := by decide +kernel
theorem dX5_visit_135 : decode cX5_visit 135 = .ok (.aload_n 0, 1) := by decide +kernel
theorem dX5_visit_136 : decode cX5_visit 136 = .ok (.getfield 37, 3) := by decide +kernel
theorem dX5_visit_139 : decode cX5_visit 139 = .ok (.iload_n 1, 1) := by decide +kernel
theorem dX5_visit_140 : decode cX5_visit 140 = .ok (.iconst 0, 1) := by decide +kernel
theorem dX5_visit_141 : decode cX5_visit 141 = .ok (.iastore, 1) := by decide +kernel
theorem dX5_visit_142 : decode cX5_visit 142 = .ok (.iload_n 2, 1) := by decide +kernel
theorem dX5_visit_143 : decode cX5_visit 143 = .ok (.ireturn, 1) := by decide +kernel
set_option maxRecDepth 20000 in
theorem ggX5_getShort_X5_isBox : GoodIn wsX5_getShort wsX5_isBox := goodIn_r _ [6, 7, 8, 9, 5, 10, 16, 17, 18, 19, 20, 21, 22, 23, 24, 25, 26, 27, 28, 29, 30, 31, 32, 33, 34, 35, 36, 37, 38, 39, 40, 41, 42, 43, 44, 45] (by decide +kernel) (by decide +kernel)
set_option maxRecDepth 20000 in
theorem gX5_getShort_X5_isBox : GoodIn wsX5_getShort (wsV RX5 100 RX5 yX5_isBox wsX5_isBox) := goodIn_app (goodIn_of _ (by decide +kernel)) ggX5_getShort_X5_isBox
set_option maxRecDepth 20000 in
theorem ggX5_getShort_X5_no : GoodIn wsX5_getShort wsX5_no := goodIn_r _ [14, 15, 16, 17, 18, 19, 20, 21, 22, 23, 24, 25, 26, 27, 28, 29, 30, 31, 32, 33, 34, 35, 36, 37, 38, 39, 40, 41, 42, 43, 44, 45] (by decide +kernel) (by decide +kernel)
set_option maxRecDepth 20000 in
theorem gX5_getShort_X5_no : GoodIn wsX5_getShort (wsV RX5 104 RX5 yX5_no wsX5_no) := goodIn_app (goodIn_of _ (by decide +kernel)) ggX5_getShort_X5_no
theorem dX5_getShort_0 : decode cX5_getShort 0 = .ok (.aload_n 0, 1) := by decide +kernel
theorem dX5_getShort_1 : decode cX5_getShort 1 = .ok (.aload_n 0, 1) := by decide +kernel
theorem dX5_getShort_2 : decode cX5_getShort 2 = .ok (.iload_n 1, 1) := by decide +kernel
theorem dX5_getShort_3 : decode cX5_getShort 3 = .ok (.invokevirtual 100, 3) := by decide +kernel
theorem dX5_getShort_6 : decode cX5_getShort 6 = .ok (.iconst 1, 1) := by decide +kernel
theorem dX5_getShort_7 : decode cX5_getShort 7 = .ok (.invokevirtual 104, 3) := by decide +kernel
theorem dX5_getShort_10 : decode cX5_getShort 10 = .ok (.ifCond .eq 7, 3) := by decide +kernel
theorem dX5_getShort_13 : decode cX5_getShort 13 = .ok (.iconst 0, 1) := by decide +kernel
theorem dX5_getShort_14 : decode cX5_getShort 14 = .ok (.goto 9, 3) := by decide +kernel
theorem dX5_getShort_17 : decode cX5_getShort 17 = .ok (.aload_n 0, 1) := by decide +kernel
theorem dX5_getShort_18 : decode cX5_getShort 18 = .ok (.getfield 52, 3) := by decide +kernel
theorem dX5_getShort_21 : decode cX5_getShort 21 = .ok (.iload_n 1, 1) := by decide +kernel
theorem dX5_getShort_22 : decode cX5_getShort 22 = .ok (.iaload, 1) := by decide +kernel
theorem dX5_getShort_23 : decode cX5_getShort 23 = .ok (.ireturn, 1) := by decide +kernel
set_option maxRecDepth 20000 in
theorem ggX5_getShare_X5_isBox : GoodIn wsX5_getShare wsX5_isBox := goodIn_r _ [6, 7, 8, 9, 5, 10, 16, 17, 18, 19, 20, 21, 22, 23, 24, 25, 26, 27, 28, 29, 30, 31, 32, 33, 34, 35, 36, 37, 38, 39, 40, 41, 42, 43, 44, 45] (by decide +kernel) (by decide +kernel)
set_option maxRecDepth 20000 in
theorem gX5_getShare_X5_isBox : GoodIn wsX5_getShare (wsV RX5 100 RX5 yX5_isBox wsX5_isBox) := goodIn_app (goodIn_of _ (by decide +kernel)) ggX5_getShare_X5_isBox
set_option maxRecDepth 20000 in
theorem ggX5_getShare_X5_no : GoodIn wsX5_getShare wsX5_no := goodIn_r _ [14, 15, 16, 17, 18, 19, 20, 21, 22, 23, 24, 25, 26, 27, 28, 29, 30, 31, 32, 33, 34, 35, 36, 37, 38, 39, 40, 41, 42, 43, 44, 45] (by decide +kernel) (by decide +kernel)
set_option maxRecDepth 20000 in
theorem gX5_getShare_X5_no : GoodIn wsX5_getShare (wsV RX5 104 RX5 yX5_no wsX5_no) := goodIn_app (goodIn_of _ (by decide +kernel)) ggX5_getShare_X5_no
theorem dX5_getShare_0 : decode cX5_getShare 0 = .ok (.aload_n 0, 1) := by decide +kernel
theorem dX5_getShare_1 : decode cX5_getShare 1 = .ok (.aload_n 0, 1) := by decide +kernel
theorem dX5_getShare_2 : decode cX5_getShare 2 = .ok (.iload_n 1, 1) := by decide +kernel
theorem dX5_getShare_3 : decode cX5_getShare 3 = .ok (.invokevirtual 100, 3) := by decide +kernel
theorem dX5_getShare_6 : decode cX5_getShare 6 = .ok (.iconst 1, 1) := by decide +kernel
theorem dX5_getShare_7 : decode cX5_getShare 7 = .ok (.invokevirtual 104, 3) := by decide +kernel
theorem dX5_getShare_10 : decode cX5_getShare 10 = .ok (.ifCond .eq 7, 3) := by decide +kernel
theorem dX5_getShare_13 : decode cX5_getShare 13 = .ok (.iconst 0, 1) := by decide +kernel
theorem dX5_getShare_14 : decode cX5_getShare 14 = .ok (.goto 9, 3) := by decide +kernel
theorem dX5_getShare_17 : decode cX5_getShare 17 = .ok (.aload_n 0, 1) := by decide +kernel
theorem dX5_getShare_18 : decode cX5_getShare 18 = .ok (.getfield 55, 3) := by decide +kernel
theorem dX5_getShare_21 : decode cX5_getShare 21 = .ok (.iload_n 1, 1) := by decide +kernel
theorem dX5_getShare_22 : decode cX5_getShare 22 = .ok (.iaload, 1) := by decide +kernel
theorem dX5_getShare_23 : decode cX5_getShare 23 = .ok (.ireturn, 1) := by decide +kernel
theorem dX5_getEarned_0 : decode cX5_getEarned 0 = .ok (.aload_n 0, 1) := by decide +kernel
theorem dX5_getEarned_1 : decode cX5_getEarned 1 = .ok (.getfield 135, 3) := by decide +kernel
theorem dX5_getEarned_4 : decode cX5_getEarned 4 = .ok (.ireturn, 1) := by decide +kernel
theorem dX5_isInVan_0 : decode cX5_isInVan 0 = .ok (.aload_n 0, 1) := by decide +kernel
theorem dX5_isInVan_1 : decode cX5_isInVan 1 = .ok (.getfield 22, 3) := by decide +kernel
theorem dX5_isInVan_4 : decode cX5_isInVan 4 = .ok (.iload_n 1, 1) := by decide +kernel
theorem dX5_isInVan_5 : decode cX5_isInVan 5 = .ok (.iaload, 1) := by decide +kernel
theorem dX5_isInVan_6 : decode cX5_isInVan 6 = .ok (.iconst (-1), 1) := by decide +kernel
theorem dX5_isInVan_7 : decode cX5_isInVan 7 = .ok (.if_icmp .ne 7, 3) := by decide +kernel
theorem dX5_isInVan_10 : decode cX5_isInVan 10 = .ok (.iconst 1, 1) := by decide +kernel
theorem dX5_isInVan_11 : decode cX5_isInVan 11 = .ok (.goto 4, 3) := by decide +kernel
theorem dX5_isInVan_14 : decode cX5_isInVan 14 = .ok (.iconst 0, 1) := by decide +kernel
theorem dX5_isInVan_15 : decode cX5_isInVan 15 = .ok (.ireturn, 1) := by decide +kernel
set_option maxRecDepth 20000 in
theorem ggX5_change_X5_isSlot : GoodIn wsX5_change wsX5_isSlot := goodIn_r _ [12, 13, 14, 15, 11, 16, 17, 18, 19, 20, 35, 36, 37, 38, 39, 40, 41, 42, 43, 44, 45, 46, 47, 48, 49, 50, 51, 52, 53, 54, 55, 56, 57, 58, 59, 60, 61, 62, 63, 64] (by decide +kernel) (by decide +kernel)
set_option maxRecDepth 20000 in
theorem gX5_change_X5_isSlot : GoodIn wsX5_change (wsV RX5 116 RX5 yX5_isSlot wsX5_isSlot) := goodIn_app (goodIn_of _ (by decide +kernel)) ggX5_change_X5_isSlot
set_option maxRecDepth 20000 in
theorem ggX5_change_X5_isDisc : GoodIn wsX5_change wsX5_isDisc := goodIn_r _ [24, 25, 18, 19, 11, 20, 35, 36, 37, 38, 39, 40, 41, 42, 43, 44, 45, 46, 47, 48, 49, 50, 51, 52, 53, 54, 55, 56, 57, 58, 59, 60, 61, 62, 63, 64] (by decide +kernel) (by decide +kernel)
set_option maxRecDepth 20000 in
theorem gX5_change_X5_isDisc : GoodIn wsX5_change (wsV RX5 128 RX5 yX5_isDisc wsX5_isDisc) := goodIn_app (goodIn_of _ (by decide +kernel)) ggX5_change_X5_isDisc
set_option maxRecDepth 20000 in
theorem ggX5_change_X5_no : GoodIn wsX5_change wsX5_no := goodIn_r _ [29, 30, 35, 36, 37, 38, 39, 40, 41, 42, 43, 44, 45, 46, 47, 48, 49, 50, 51, 52, 53, 54, 55, 56, 57, 58, 59, 60, 61, 62, 63, 64] (by decide +kernel) (by decide +kernel)
set_option maxRecDepth 20000 in
theorem gX5_change_X5_no : GoodIn wsX5_change (wsV RX5 104 RX5 yX5_no wsX5_no) := goodIn_app (goodIn_of _ (by decide +kernel)) ggX5_change_X5_no
set_option maxRecDepth 20000 in
theorem ggX5_change_X5_isInVan : GoodIn wsX5_change wsX5_isInVan := goodIn_ca (goodIn_r _ [34, 4, 35, 36, 37, 38, 39, 40, 41, 42, 43, 44, 45, 46, 47, 48, 49, 50, 51, 52, 53, 54, 55, 56, 57, 58, 59, 60, 61, 62, 63, 64] (by decide +kernel) (by decide +kernel)) (goodIn_sub (fun _ h => List.mem_cons_of_mem _ (List.mem_append_right _ h)) (by decide +kernel))
set_option maxRecDepth 20000 in
theorem gX5_change_X5_isInVan : GoodIn wsX5_change (wsV RX5 138 RX5 yX5_isInVan wsX5_isInVan) := goodIn_app (goodIn_of _ (by decide +kernel)) ggX5_change_X5_isInVan
theorem dX5_change_0 : decode cX5_change 0 = .ok (.aload_n 0, 1) := by decide +kernel
theorem dX5_change_1 : decode cX5_change 1 = .ok (.aload_n 0, 1) := by decide +kernel
theorem dX5_change_2 : decode cX5_change 2 = .ok (.iload_n 1, 1) := by decide +kernel
theorem dX5_change_3 : decode cX5_change 3 = .ok (.iload_n 2, 1) := by decide +kernel
theorem dX5_change_4 : decode cX5_change 4 = .ok (.invokevirtual 116, 3) := by decide +kernel
theorem dX5_change_7 : decode cX5_change 7 = .ok (.ifCond .eq 20, 3) := by decide +kernel
theorem dX5_change_10 : decode cX5_change 10 = .ok (.iload_n 3, 1) := by decide +kernel
theorem dX5_change_11 : decode cX5_change 11 = .ok (.iconst (-1), 1) := by decide +kernel
theorem dX5_change_12 : decode cX5_change 12 = .ok (.if_icmp .eq 11, 3) := by decide +kernel
theorem dX5_change_15 : decode cX5_change 15 = .ok (.aload_n 0, 1) := by decide +kernel
theorem dX5_change_16 : decode cX5_change 16 = .ok (.iload_n 3, 1) := by decide +kernel
theorem dX5_change_17 : decode cX5_change 17 = .ok (.invokevirtual 128, 3) := by decide +kernel
theorem dX5_change_20 : decode cX5_change 20 = .ok (.ifCond .eq 7, 3) := by decide +kernel
theorem dX5_change_23 : decode cX5_change 23 = .ok (.iconst 1, 1) := by decide +kernel
theorem dX5_change_24 : decode cX5_change 24 = .ok (.goto 4, 3) := by decide +kernel
theorem dX5_change_27 : decode cX5_change 27 = .ok (.iconst 0, 1) := by decide +kernel
theorem dX5_change_28 : decode cX5_change 28 = .ok (.iconst 1, 1) := by decide +kernel
theorem dX5_change_29 : decode cX5_change 29 = .ok (.invokevirtual 104, 3) := by decide +kernel
theorem dX5_change_32 : decode cX5_change 32 = .ok (.ifCond .eq 5, 3) := by decide +kernel
theorem dX5_change_35 : decode cX5_change 35 = .ok (.iconst 0, 1) := by decide +kernel
theorem dX5_change_36 : decode cX5_change 36 = .ok (.ireturn, 1) := by decide +kernel
theorem dX5_change_37 : decode cX5_change 37 = .ok (.aload_n 0, 1) := by decide +kernel
theorem dX5_change_38 : decode cX5_change 38 = .ok (.aload_n 0, 1) := by decide +kernel
theorem dX5_change_39 : decode cX5_change 39 = .ok (.getfield 62, 3) := by decide +kernel
theorem dX5_change_42 : decode cX5_change 42 = .ok (.iload_n 1, 1) := by decide +kernel
theorem dX5_change_43 : decode cX5_change 43 = .ok (.baload, 1) := by decide +kernel
theorem dX5_change_44 : decode cX5_change 44 = .ok (.ifCond .eq 29, 3) := by decide +kernel
theorem dX5_change_47 : decode cX5_change 47 = .ok (.iload_n 3, 1) := by decide +kernel
theorem dX5_change_48 : decode cX5_change 48 = .ok (.iconst (-1), 1) := by decide +kernel
theorem dX5_change_49 : decode cX5_change 49 = .ok (.if_icmp .eq 11, 3) := by decide +kernel
theorem dX5_change_52 : decode cX5_change 52 = .ok (.aload_n 0, 1) := by decide +kernel
theorem dX5_change_53 : decode cX5_change 53 = .ok (.iload_n 3, 1) := by decide +kernel
theorem dX5_change_54 : decode cX5_change 54 = .ok (.invokevirtual 138, 3) := by decide +kernel
theorem dX5_change_57 : decode cX5_change 57 = .ok (.ifCond .eq 16, 3) := by decide +kernel
theorem dX5_change_60 : decode cX5_change 60 = .ok (.aload_n 0, 1) := by decide +kernel
theorem dX5_change_61 : decode cX5_change 61 = .ok (.getfield 84, 3) := by decide +kernel
theorem dX5_change_64 : decode cX5_change 64 = .ok (.bipush 10, 2) := by decide +kernel
theorem dX5_change_66 : decode cX5_change 66 = .ok (.if_icmp .lt 7, 3) := by decide +kernel
theorem dX5_change_69 : decode cX5_change 69 = .ok (.iconst 1, 1) := by decide +kernel
theorem dX5_change_70 : decode cX5_change 70 = .ok (.goto 4, 3) := by decide +kernel
theorem dX5_change_73 : decode cX5_change 73 = .ok (.iconst 0, 1) := by decide +kernel
theorem dX5_change_74 : decode cX5_change 74 = .ok (.iconst 2, 1) := by decide +kernel
theorem dX5_change_75 : decode cX5_change 75 = .ok (.invokevirtual 104, 3) := by decide +kernel
theorem dX5_change_78 : decode cX5_change 78 = .ok (.ifCond .eq 5, 3) := by decide +kernel
theorem dX5_change_81 : decode cX5_change 81 = .ok (.iconst 0, 1) := by decide +kernel
theorem dX5_change_82 : decode cX5_change 82 = .ok (.ireturn, 1) := by decide +kernel
theorem dX5_change_83 : decode cX5_change 83 = .ok (.bipush 10, 2) := by decide +kernel
theorem dX5_change_85 : decode cX5_change 85 = .ok (.iload_n 1, 1) := by decide +kernel
theorem dX5_change_86 : decode cX5_change 86 = .ok (.imul, 1) := by decide +kernel
theorem dX5_change_87 : decode cX5_change 87 = .ok (.iload_n 2, 1) := by decide +kernel
theorem dX5_change_88 : decode cX5_change 88 = .ok (.iadd, 1) := by decide +kernel
theorem dX5_change_89 : decode cX5_change 89 = .ok (.istore 4, 2) := by decide +kernel
theorem dX5_change_91 : decode cX5_change 91 = .ok (.aload_n 0, 1) := by decide +kernel
theorem dX5_change_92 : decode cX5_change 92 = .ok (.getfield 65, 3) := by decide +kernel
theorem dX5_change_95 : decode cX5_change 95 = .ok (.iload 4, 2) := by decide +kernel
theorem dX5_change_97 : decode cX5_change 97 = .ok (.iaload, 1) := by decide +kernel
theorem dX5_change_98 : decode cX5_change 98 = .ok (.iconst 1, 1) := by decide +kernel
theorem dX5_change_99 : decode cX5_change 99 = .ok (.isub, 1) := by decide +kernel
theorem dX5_change_100 : decode cX5_change 100 = .ok (.istore 5, 2) := by decide +kernel
theorem dX5_change_102 : decode cX5_change 102 = .ok (.aload_n 0, 1) := by decide +kernel
theorem dX5_change_103 : decode cX5_change 103 = .ok (.dup, 1) := by decide +kernel
theorem dX5_change_104 : decode cX5_change 104 = .ok (.getfield 84, 3) := by decide +kernel
theorem dX5_change_107 : decode cX5_change 107 = .ok (.bipush 10, 2) := by decide +kernel
theorem dX5_change_109 : decode cX5_change 109 = .ok (.isub, 1) := by decide +kernel
theorem dX5_change_110 : decode cX5_change 110 = .ok (.putfield 84, 3) := by decide +kernel
theorem dX5_change_113 : decode cX5_change 113 = .ok (.iload 5, 2) := by decide +kernel
theorem dX5_change_115 : decode cX5_change 115 = .ok (.ifCond .lt 11, 3) := by decide +kernel
theorem dX5_change_118 : decode cX5_change 118 = .ok (.aload_n 0, 1) := by decide +kernel
theorem dX5_change_119 : decode cX5_change 119 = .ok (.getfield 22, 3) := by decide +kernel
theorem dX5_change_122 : decode cX5_change 122 = .ok (.iload 5, 2) := by decide +kernel
theorem dX5_change_124 : decode cX5_change 124 = .ok (.iconst (-1), 1) := by decide +kernel
theorem dX5_change_125 : decode cX5_change 125 = .ok (.iastore, 1) := by decide +kernel
theorem dX5_change_126 : decode cX5_change 126 = .ok (.aload_n 0, 1) := by decide +kernel
theorem dX5_change_127 : decode cX5_change 127 = .ok (.getfield 65, 3) := by decide +kernel
theorem dX5_change_130 : decode cX5_change 130 = .ok (.iload 4, 2) := by decide +kernel
theorem dX5_change_132 : decode cX5_change 132 = .ok (.iload_n 3, 1) := by decide +kernel
theorem dX5_change_133 : decode cX5_change 133 = .ok (.iconst 1, 1) := by decide +kernel
theorem dX5_change_134 : decode cX5_change 134 = .ok (.iadd, 1) := by decide +kernel
theorem dX5_change_135 : decode cX5_change 135 = .ok (.iastore, 1) := by decide +kernel
theorem dX5_change_136 : decode cX5_change 136 = .ok (.aload_n 0, 1) := by decide +kernel
theorem dX5_change_137 : decode cX5_change 137 = .ok (.getfield 68, 3) := by decide +kernel
theorem dX5_change_140 : decode cX5_change 140 = .ok (.iload 4, 2) := by decide +kernel
theorem dX5_change_142 : decode cX5_change 142 = .ok (.iconst 0, 1) := by decide +kernel
theorem dX5_change_143 : decode cX5_change 143 = .ok (.iastore, 1) := by decide +kernel
theorem dX5_change_144 : decode cX5_change 144 = .ok (.iload_n 3, 1) := by decide +kernel
theorem dX5_change_145 : decode cX5_change 145 = .ok (.ifCond .lt 28, 3) := by decide +kernel
theorem dX5_change_148 : decode cX5_change 148 = .ok (.aload_n 0, 1) := by decide +kernel
theorem dX5_change_149 : decode cX5_change 149 = .ok (.getfield 22, 3) := by decide +kernel
theorem dX5_change_152 : decode cX5_change 152 = .ok (.iload_n 3, 1) := by decide +kernel
theorem dX5_change_153 : decode cX5_change 153 = .ok (.iload 4, 2) := by decide +kernel
theorem dX5_change_155 : decode cX5_change 155 = .ok (.iastore, 1) := by decide +kernel
theorem dX5_change_156 : decode cX5_change 156 = .ok (.aload_n 0, 1) := by decide +kernel
theorem dX5_change_157 : decode cX5_change 157 = .ok (.getfield 71, 3) := by decide +kernel
theorem dX5_change_160 : decode cX5_change 160 = .ok (.bipush 100, 2) := by decide +kernel
theorem dX5_change_162 : decode cX5_change 162 = .ok (.iload_n 1, 1) := by decide +kernel
theorem dX5_change_163 : decode cX5_change 163 = .ok (.imul, 1) := by decide +kernel
theorem dX5_change_164 : decode cX5_change 164 = .ok (.aload_n 0, 1) := by decide +kernel
theorem dX5_change_165 : decode cX5_change 165 = .ok (.getfield 7, 3) := by decide +kernel
theorem dX5_change_168 : decode cX5_change 168 = .ok (.iload_n 3, 1) := by decide +kernel
theorem dX5_change_169 : decode cX5_change 169 = .ok (.iaload, 1) := by decide +kernel
theorem dX5_change_170 : decode cX5_change 170 = .ok (.iadd, 1) := by decide +kernel
theorem dX5_change_171 : decode cX5_change 171 = .ok (.iconst 0, 1) := by decide +kernel
theorem dX5_change_172 : decode cX5_change 172 = .ok (.iastore, 1) := by decide +kernel
theorem dX5_change_173 : decode cX5_change 173 = .ok (.iload 5, 2) := by decide +kernel
theorem dX5_change_175 : decode cX5_change 175 = .ok (.ireturn, 1) := by decide +kernel
set_option maxRecDepth 20000 in
theorem ggX5_changeNeedle_X5_isBox : GoodIn wsX5_changeNeedle wsX5_isBox := goodIn_r _ [8, 9, 10, 11, 7, 12, 18, 19, 20, 21, 22, 23, 24, 25, 26, 27, 28, 29, 30, 31, 32, 33, 34, 35, 36, 37, 38, 39, 40, 41, 42, 43, 44, 45, 46, 47] (by decide +kernel) (by decide +kernel)
set_option maxRecDepth 20000 in
theorem gX5_changeNeedle_X5_isBox : GoodIn wsX5_changeNeedle (wsV RX5 100 RX5 yX5_isBox wsX5_isBox) := goodIn_app (goodIn_of _ (by decide +kernel)) ggX5_changeNeedle_X5_isBox
set_option maxRecDepth 20000 in
theorem ggX5_changeNeedle_X5_no : GoodIn wsX5_changeNeedle wsX5_no := goodIn_r _ [16, 17, 18, 19, 20, 21, 22, 23, 24, 25, 26, 27, 28, 29, 30, 31, 32, 33, 34, 35, 36, 37, 38, 39, 40, 41, 42, 43, 44, 45, 46, 47] (by decide +kernel) (by decide +kernel)
set_option maxRecDepth 20000 in
theorem gX5_changeNeedle_X5_no : GoodIn wsX5_changeNeedle (wsV RX5 104 RX5 yX5_no wsX5_no) := goodIn_app (goodIn_of _ (by decide +kernel)) ggX5_changeNeedle_X5_no
theorem dX5_changeNeedle_0 : decode cX5_changeNeedle 0 = .ok (.aload_n 0, 1) := by decide +kernel
theorem dX5_changeNeedle_1 : decode cX5_changeNeedle 1 = .ok (.aload_n 0, 1) := by decide +kernel
theorem dX5_changeNeedle_2 : decode cX5_changeNeedle 2 = .ok (.iload_n 1, 1) := by decide +kernel
theorem dX5_changeNeedle_3 : decode cX5_changeNeedle 3 = .ok (.invokevirtual 100, 3) := by decide +kernel
theorem dX5_changeNeedle_6 : decode cX5_changeNeedle 6 = .ok (.iconst 1, 1) := by decide +kernel
theorem dX5_changeNeedle_7 : decode cX5_changeNeedle 7 = .ok (.invokevirtual 104, 3) := by decide +kernel
theorem dX5_changeNeedle_10 : decode cX5_changeNeedle 10 = .ok (.ifCond .ne 33, 3) := by decide +kernel
theorem dX5_changeNeedle_13 : decode cX5_changeNeedle 13 = .ok (.aload_n 0, 1) := by decide +kernel
theorem dX5_changeNeedle_14 : decode cX5_changeNeedle 14 = .ok (.aload_n 0, 1) := by decide +kernel
theorem dX5_changeNeedle_15 : decode cX5_changeNeedle 15 = .ok (.getfield 62, 3) := by decide +kernel
theorem dX5_changeNeedle_18 : decode cX5_changeNeedle 18 = .ok (.iload_n 1, 1) := by decide +kernel
theorem dX5_changeNeedle_19 : decode cX5_changeNeedle 19 = .ok (.baload, 1) := by decide +kernel
theorem dX5_changeNeedle_20 : decode cX5_changeNeedle 20 = .ok (.ifCond .eq 15, 3) := by decide +kernel
theorem dX5_changeNeedle_23 : decode cX5_changeNeedle 23 = .ok (.aload_n 0, 1) := by decide +kernel
theorem dX5_changeNeedle_24 : decode cX5_changeNeedle 24 = .ok (.getfield 84, 3) := by decide +kernel
theorem dX5_changeNeedle_27 : decode cX5_changeNeedle 27 = .ok (.iconst 5, 1) := by decide +kernel
theorem dX5_changeNeedle_28 : decode cX5_changeNeedle 28 = .ok (.if_icmp .lt 7, 3) := by decide +kernel
theorem dX5_changeNeedle_31 : decode cX5_changeNeedle 31 = .ok (.iconst 1, 1) := by decide +kernel
theorem dX5_changeNeedle_32 : decode cX5_changeNeedle 32 = .ok (.goto 4, 3) := by decide +kernel
theorem dX5_changeNeedle_35 : decode cX5_changeNeedle 35 = .ok (.iconst 0, 1) := by decide +kernel
theorem dX5_changeNeedle_36 : decode cX5_changeNeedle 36 = .ok (.iconst 2, 1) := by decide +kernel
theorem dX5_changeNeedle_37 : decode cX5_changeNeedle 37 = .ok (.invokevirtual 104, 3) := by decide +kernel
theorem dX5_changeNeedle_40 : decode cX5_changeNeedle 40 = .ok (.ifCond .eq 5, 3) := by decide +kernel
theorem dX5_changeNeedle_43 : decode cX5_changeNeedle 43 = .ok (.iconst 0, 1) := by decide +kernel
theorem dX5_changeNeedle_44 : decode cX5_changeNeedle 44 = .ok (.ireturn, 1) := by decide +kernel
theorem dX5_changeNeedle_45 : decode cX5_changeNeedle 45 = .ok (.aload_n 0, 1) := by decide +kernel
theorem dX5_changeNeedle_46 : decode cX5_changeNeedle 46 = .ok (.getfield 40, 3) := by decide +kernel
theorem dX5_changeNeedle_49 : decode cX5_changeNeedle 49 = .ok (.iload_n 1, 1) := by decide +kernel
theorem dX5_changeNeedle_50 : decode cX5_changeNeedle 50 = .ok (.iaload, 1) := by decide +kernel
theorem dX5_changeNeedle_51 : decode cX5_changeNeedle 51 = .ok (.istore_n 2, 1) := by decide +kernel
theorem dX5_changeNeedle_52 : decode cX5_changeNeedle 52 = .ok (.aload_n 0, 1) := by decide +kernel
theorem dX5_changeNeedle_53 : decode cX5_changeNeedle 53 = .ok (.dup, 1) := by decide +kernel
theorem dX5_changeNeedle_54 : decode cX5_changeNeedle 54 = .ok (.getfield 84, 3) := by decide +kernel
theorem dX5_changeNeedle_57 : decode cX5_changeNeedle 57 = .ok (.iconst 5, 1) := by decide +kernel
theorem dX5_changeNeedle_58 : decode cX5_changeNeedle 58 = .ok (.isub, 1) := by decide +kernel
theorem dX5_changeNeedle_59 : decode cX5_changeNeedle 59 = .ok (.putfield 84, 3) := by decide +kernel
theorem dX5_changeNeedle_62 : decode cX5_changeNeedle 62 = .ok (.aload_n 0, 1) := by decide +kernel
theorem dX5_changeNeedle_63 : decode cX5_changeNeedle 63 = .ok (.getfield 40, 3) := by decide +kernel
theorem dX5_changeNeedle_66 : decode cX5_changeNeedle 66 = .ok (.iload_n 1, 1) := by decide +kernel
theorem dX5_changeNeedle_67 : decode cX5_changeNeedle 67 = .ok (.iconst 0, 1) := by decide +kernel
theorem dX5_changeNeedle_68 : decode cX5_changeNeedle 68 = .ok (.iastore, 1) := by decide +kernel
theorem dX5_changeNeedle_69 : decode cX5_changeNeedle 69 = .ok (.iload_n 2, 1) := by decide +kernel
theorem dX5_changeNeedle_70 : decode cX5_changeNeedle 70 = .ok (.ireturn, 1) := by decide +kernel
set_option maxRecDepth 20000 in
theorem ggX5_burn_X5_isDisc : GoodIn wsX5_burn wsX5_isDisc := goodIn_r _ [7, 8, 9, 10, 6, 11, 21, 22, 23, 24, 25, 26, 27, 28, 29, 30, 31, 32, 33, 34, 35, 36, 37, 38, 39, 40, 41, 42, 43, 44, 45, 46, 47, 48, 49, 50] (by decide +kernel) (by decide +kernel)
set_option maxRecDepth 20000 in
theorem gX5_burn_X5_isDisc : GoodIn wsX5_burn (wsV RX5 128 RX5 yX5_isDisc wsX5_isDisc) := goodIn_app (goodIn_of _ (by decide +kernel)) ggX5_burn_X5_isDisc
set_option maxRecDepth 20000 in
theorem ggX5_burn_X5_no : GoodIn wsX5_burn wsX5_no := goodIn_r _ [15, 16, 21, 22, 23, 24, 25, 26, 27, 28, 29, 30, 31, 32, 33, 34, 35, 36, 37, 38, 39, 40, 41, 42, 43, 44, 45, 46, 47, 48, 49, 50] (by decide +kernel) (by decide +kernel)
set_option maxRecDepth 20000 in
theorem gX5_burn_X5_no : GoodIn wsX5_burn (wsV RX5 104 RX5 yX5_no wsX5_no) := goodIn_app (goodIn_of _ (by decide +kernel)) ggX5_burn_X5_no
set_option maxRecDepth 20000 in
theorem ggX5_burn_X5_isInVan : GoodIn wsX5_burn wsX5_isInVan := goodIn_ca (goodIn_r _ [20, 1, 21, 22, 23, 24, 25, 26, 27, 28, 29, 30, 31, 32, 33, 34, 35, 36, 37, 38, 39, 40, 41, 42, 43, 44, 45, 46, 47, 48, 49, 50] (by decide +kernel) (by decide +kernel)) (goodIn_sub (fun _ h => List.mem_cons_of_mem _ (List.mem_append_right _ h)) (by decide +kernel))
set_option maxRecDepth 20000 in
theorem gX5_burn_X5_isInVan : GoodIn wsX5_burn (wsV RX5 138 RX5 yX5_isInVan wsX5_isInVan) := goodIn_app (goodIn_of _ (by decide +kernel)) ggX5_burn_X5_isInVan
theorem dX5_burn_0 : decode cX5_burn 0 = .ok (.aload_n 0, 1) := by decide +kernel
theorem dX5_burn_1 : decode cX5_burn 1 = .ok (.aload_n 0, 1) := by decide +kernel
theorem dX5_burn_2 : decode cX5_burn 2 = .ok (.iload_n 1, 1) := by decide +kernel
theorem dX5_burn_3 : decode cX5_burn 3 = .ok (.invokevirtual 128, 3) := by decide +kernel
theorem dX5_burn_6 : decode cX5_burn 6 = .ok (.iconst 1, 1) := by decide +kernel
theorem dX5_burn_7 : decode cX5_burn 7 = .ok (.invokevirtual 104, 3) := by decide +kernel
theorem dX5_burn_10 : decode cX5_burn 10 = .ok (.ifCond .ne 16, 3) := by decide +kernel
theorem dX5_burn_13 : decode cX5_burn 13 = .ok (.aload_n 0, 1) := by decide +kernel
theorem dX5_burn_14 : decode cX5_burn 14 = .ok (.aload_n 0, 1) := by decide +kernel
theorem dX5_burn_15 : decode cX5_burn 15 = .ok (.iload_n 1, 1) := by decide +kernel
theorem dX5_burn_16 : decode cX5_burn 16 = .ok (.invokevirtual 138, 3) := by decide +kernel
theorem dX5_burn_19 : decode cX5_burn 19 = .ok (.iconst 2, 1) := by decide +kernel
theorem dX5_burn_20 : decode cX5_burn 20 = .ok (.invokevirtual 104, 3) := by decide +kernel
theorem dX5_burn_23 : decode cX5_burn 23 = .ok (.ifCond .eq 5, 3) := by decide +kernel
theorem dX5_burn_26 : decode cX5_burn 26 = .ok (.iconst 0, 1) := by decide +kernel
theorem dX5_burn_27 : decode cX5_burn 27 = .ok (.ireturn, 1) := by decide +kernel
theorem dX5_burn_28 : decode cX5_burn 28 = .ok (.aload_n 0, 1) := by decide +kernel
theorem dX5_burn_29 : decode cX5_burn 29 = .ok (.getfield 22, 3) := by decide +kernel
theorem dX5_burn_32 : decode cX5_burn 32 = .ok (.iload_n 1, 1) := by decide +kernel
theorem dX5_burn_33 : decode cX5_burn 33 = .ok (.bipush (-2), 2) := by decide +kernel
theorem dX5_burn_35 : decode cX5_burn 35 = .ok (.iastore, 1) := by decide +kernel
theorem dX5_burn_36 : decode cX5_burn 36 = .ok (.aload_n 0, 1) := by decide +kernel
theorem dX5_burn_37 : decode cX5_burn 37 = .ok (.getfield 19, 3) := by decide +kernel
theorem dX5_burn_40 : decode cX5_burn 40 = .ok (.iload_n 1, 1) := by decide +kernel
theorem dX5_burn_41 : decode cX5_burn 41 = .ok (.iaload, 1) := by decide +kernel
theorem dX5_burn_42 : decode cX5_burn 42 = .ok (.ireturn, 1) := by decide +kernel
set_option maxRecDepth 20000 in
theorem ggX5_ask_X5_isBox : GoodIn wsX5_ask wsX5_isBox := goodIn_r _ [6, 7, 8, 9, 5, 10, 16, 17, 18, 19, 20, 21, 22, 23, 24, 25, 26, 27, 28, 29, 30, 31, 32, 33, 34, 35, 36, 37, 38, 39, 40, 41, 42, 43, 44, 45] (by decide +kernel) (by decide +kernel)
set_option maxRecDepth 20000 in
theorem gX5_ask_X5_isBox : GoodIn wsX5_ask (wsV RX5 100 RX5 yX5_isBox wsX5_isBox) := goodIn_app (goodIn_of _ (by decide +kernel)) ggX5_ask_X5_isBox
set_option maxRecDepth 20000 in
theorem ggX5_ask_X5_no : GoodIn wsX5_ask wsX5_no := goodIn_r _ [14, 15, 16, 17, 18, 19, 20, 21, 22, 23, 24, 25, 26, 27, 28, 29, 30, 31, 32, 33, 34, 35, 36, 37, 38, 39, 40, 41, 42, 43, 44, 45] (by decide +kernel) (by decide +kernel)
set_option maxRecDepth 20000 in
theorem gX5_ask_X5_no : GoodIn wsX5_ask (wsV RX5 104 RX5 yX5_no wsX5_no) := goodIn_app (goodIn_of _ (by decide +kernel)) ggX5_ask_X5_no
set_option maxRecDepth 20000 in
theorem ggX5_ask_X5_isIn : GoodIn wsX5_ask wsX5_isIn := goodIn_r _ [10] (by decide +kernel) (by decide +kernel)
set_option maxRecDepth 20000 in
theorem gX5_ask_X5_isIn : GoodIn wsX5_ask (va_wsS RX5 93 yX5_isIn wsX5_isIn) := goodIn_app (goodIn_of _ (by decide +kernel)) ggX5_ask_X5_isIn
theorem dX5_ask_0 : decode cX5_ask 0 = .ok (.aload_n 0, 1) := by decide +kernel
theorem dX5_ask_1 : decode cX5_ask 1 = .ok (.aload_n 0, 1) := by decide +kernel
theorem dX5_ask_2 : decode cX5_ask 2 = .ok (.iload_n 1, 1) := by decide +kernel
theorem dX5_ask_3 : decode cX5_ask 3 = .ok (.invokevirtual 100, 3) := by decide +kernel
theorem dX5_ask_6 : decode cX5_ask 6 = .ok (.iconst 1, 1) := by decide +kernel
theorem dX5_ask_7 : decode cX5_ask 7 = .ok (.invokevirtual 104, 3) := by decide +kernel
theorem dX5_ask_10 : decode cX5_ask 10 = .ok (.ifCond .ne 47, 3) := by decide +kernel
theorem dX5_ask_13 : decode cX5_ask 13 = .ok (.aload_n 0, 1) := by decide +kernel
theorem dX5_ask_14 : decode cX5_ask 14 = .ok (.iload_n 2, 1) := by decide +kernel
theorem dX5_ask_15 : decode cX5_ask 15 = .ok (.iconst 0, 1) := by decide +kernel
theorem dX5_ask_16 : decode cX5_ask 16 = .ok (.bipush 99, 2) := by decide +kernel
theorem dX5_ask_18 : decode cX5_ask 18 = .ok (.invokestatic 93, 3) := by decide +kernel
theorem dX5_ask_21 : decode cX5_ask 21 = .ok (.iconst 2, 1) := by decide +kernel
theorem dX5_ask_22 : decode cX5_ask 22 = .ok (.invokevirtual 104, 3) := by decide +kernel
theorem dX5_ask_25 : decode cX5_ask 25 = .ok (.ifCond .ne 32, 3) := by decide +kernel
theorem dX5_ask_28 : decode cX5_ask 28 = .ok (.aload_n 0, 1) := by decide +kernel
theorem dX5_ask_29 : decode cX5_ask 29 = .ok (.aload_n 0, 1) := by decide +kernel
theorem dX5_ask_30 : decode cX5_ask 30 = .ok (.getfield 71, 3) := by decide +kernel
theorem dX5_ask_33 : decode cX5_ask 33 = .ok (.bipush 100, 2) := by decide +kernel
theorem dX5_ask_35 : decode cX5_ask 35 = .ok (.iload_n 1, 1) := by decide +kernel
theorem dX5_ask_36 : decode cX5_ask 36 = .ok (.imul, 1) := by decide +kernel
theorem dX5_ask_37 : decode cX5_ask 37 = .ok (.iload_n 2, 1) := by decide +kernel
theorem dX5_ask_38 : decode cX5_ask 38 = .ok (.iadd, 1) := by decide +kernel
theorem dX5_ask_39 : decode cX5_ask 39 = .ok (.iaload, 1) := by decide +kernel
theorem dX5_ask_40 : decode cX5_ask 40 = .ok (.bipush 99, 2) := by decide +kernel
theorem dX5_ask_42 : decode cX5_ask 42 = .ok (.if_icmp .ge 7, 3) := by decide +kernel
theorem dX5_ask_45 : decode cX5_ask 45 = .ok (.iconst 1, 1) := by decide +kernel
theorem dX5_ask_46 : decode cX5_ask 46 = .ok (.goto 4, 3) := by decide +kernel
theorem dX5_ask_49 : decode cX5_ask 49 = .ok (.iconst 0, 1) := by decide +kernel
theorem dX5_ask_50 : decode cX5_ask 50 = .ok (.iconst 3, 1) := by decide +kernel
theorem dX5_ask_51 : decode cX5_ask 51 = .ok (.invokevirtual 104, 3) := by decide +kernel
theorem dX5_ask_54 : decode cX5_ask 54 = .ok (.ifCond .eq 5, 3) := by decide +kernel
theorem dX5_ask_57 : decode cX5_ask 57 = .ok (.iconst 0, 1) := by decide +kernel
theorem dX5_ask_58 : decode cX5_ask 58 = .ok (.ireturn, 1) := by decide +kernel
theorem dX5_ask_59 : decode cX5_ask 59 = .ok (.aload_n 0, 1) := by decide +kernel
theorem dX5_ask_60 : decode cX5_ask 60 = .ok (.getfield 71, 3) := by decide +kernel
theorem dX5_ask_63 : decode cX5_ask 63 = .ok (.bipush 100, 2) := by decide +kernel
theorem dX5_ask_65 : decode cX5_ask 65 = .ok (.iload_n 1, 1) := by decide +kernel
theorem dX5_ask_66 : decode cX5_ask 66 = .ok (.imul, 1) := by decide +kernel
theorem dX5_ask_67 : decode cX5_ask 67 = .ok (.iload_n 2, 1) := by decide +kernel
theorem dX5_ask_68 : decode cX5_ask 68 = .ok (.iadd, 1) := by decide +kernel
theorem dX5_ask_69 : decode cX5_ask 69 = .ok (.dup2, 1) := by decide +kernel
theorem dX5_ask_70 : decode cX5_ask 70 = .ok (.iaload, 1) := by decide +kernel
theorem dX5_ask_71 : decode cX5_ask 71 = .ok (.iconst 1, 1) := by decide +kernel
theorem dX5_ask_72 : decode cX5_ask 72 = .ok (.iadd, 1) := by decide +kernel
theorem dX5_ask_73 : decode cX5_ask 73 = .ok (.iastore, 1) := by decide +kernel
theorem dX5_ask_74 : decode cX5_ask 74 = .ok (.aload_n 0, 1) := by decide +kernel
theorem dX5_ask_75 : decode cX5_ask 75 = .ok (.getfield 71, 3) := by decide +kernel
theorem dX5_ask_78 : decode cX5_ask 78 = .ok (.bipush 100, 2) := by decide +kernel
theorem dX5_ask_80 : decode cX5_ask 80 = .ok (.iload_n 1, 1) := by decide +kernel
theorem dX5_ask_81 : decode cX5_ask 81 = .ok (.imul, 1) := by decide +kernel
theorem dX5_ask_82 : decode cX5_ask 82 = .ok (.iload_n 2, 1) := by decide +kernel
theorem dX5_ask_83 : decode cX5_ask 83 = .ok (.iadd, 1) := by decide +kernel
theorem dX5_ask_84 : decode cX5_ask 84 = .ok (.iaload, 1) := by decide +kernel
theorem dX5_ask_85 : decode cX5_ask 85 = .ok (.ireturn, 1) := by decide +kernel
set_option maxRecDepth 20000 in
theorem ggX5_mostAsked_X5_isBox : GoodIn wsX5_mostAsked wsX5_isBox := goodIn_r _ [6, 7, 8, 9, 5, 10, 16, 17, 18, 19, 20, 21, 22, 23, 24, 25, 26, 27, 28, 29, 30, 31, 32, 33, 34, 35, 36, 37, 38, 39, 40, 41, 42, 43, 44, 45] (by decide +kernel) (by decide +kernel)
set_option maxRecDepth 20000 in
theorem gX5_mostAsked_X5_isBox : GoodIn wsX5_mostAsked (wsV RX5 100 RX5 yX5_isBox wsX5_isBox) := goodIn_app (goodIn_of _ (by decide +kernel)) ggX5_mostAsked_X5_isBox
set_option maxRecDepth 20000 in
theorem ggX5_mostAsked_X5_no : GoodIn wsX5_mostAsked wsX5_no := goodIn_r _ [14, 15, 16, 17, 18, 19, 20, 21, 22, 23, 24, 25, 26, 27, 28, 29, 30, 31, 32, 33, 34, 35, 36, 37, 38, 39, 40, 41, 42, 43, 44, 45] (by decide +kernel) (by decide +kernel)
set_option maxRecDepth 20000 in
theorem gX5_mostAsked_X5_no : GoodIn wsX5_mostAsked (wsV RX5 104 RX5 yX5_no wsX5_no) := goodIn_app (goodIn_of _ (by decide +kernel)) ggX5_mostAsked_X5_no
theorem dX5_mostAsked_0 : decode cX5_mostAsked 0 = .ok (.aload_n 0, 1) := by decide +kernel
theorem dX5_mostAsked_1 : decode cX5_mostAsked 1 = .ok (.aload_n 0, 1) := by decide +kernel
theorem dX5_mostAsked_2 : decode cX5_mostAsked 2 = .ok (.iload_n 1, 1) := by decide +kernel
theorem dX5_mostAsked_3 : decode cX5_mostAsked 3 = .ok (.invokevirtual 100, 3) := by decide +kernel
theorem dX5_mostAsked_6 : decode cX5_mostAsked 6 = .ok (.iconst 1, 1) := by decide +kernel
theorem dX5_mostAsked_7 : decode cX5_mostAsked 7 = .ok (.invokevirtual 104, 3) := by decide +kernel
theorem dX5_mostAsked_10 : decode cX5_mostAsked 10 = .ok (.ifCond .eq 5, 3) := by decide +kernel
theorem dX5_mostAsked_13 : decode cX5_mostAsked 13 = .ok (.iconst 0, 1) := by decide +kernel
theorem dX5_mostAsked_14 : decode cX5_mostAsked 14 = .ok (.ireturn, 1) := by decide +kernel
theorem dX5_mostAsked_15 : decode cX5_mostAsked 15 = .ok (.iconst 0, 1) := by decide +kernel
theorem dX5_mostAsked_16 : decode cX5_mostAsked 16 = .ok (.istore_n 2, 1) := by decide +kernel
theorem dX5_mostAsked_17 : decode cX5_mostAsked 17 = .ok (.bipush 99, 2) := by decide +kernel
theorem dX5_mostAsked_19 : decode cX5_mostAsked 19 = .ok (.istore_n 3, 1) := by decide +kernel
theorem dX5_mostAsked_20 : decode cX5_mostAsked 20 = .ok (.iload_n 3, 1) := by decide +kernel
theorem dX5_mostAsked_21 : decode cX5_mostAsked 21 = .ok (.ifCond .lt 40, 3) := by decide +kernel
theorem dX5_mostAsked_24 : decode cX5_mostAsked 24 = .ok (.aload_n 0, 1) := by decide +kernel
theorem dX5_mostAsked_25 : decode cX5_mostAsked 25 = .ok (.getfield 71, 3) := by decide +kernel
theorem dX5_mostAsked_28 : decode cX5_mostAsked 28 = .ok (.bipush 100, 2) := by decide +kernel
theorem dX5_mostAsked_30 : decode cX5_mostAsked 30 = .ok (.iload_n 1, 1) := by decide +kernel
theorem dX5_mostAsked_31 : decode cX5_mostAsked 31 = .ok (.imul, 1) := by decide +kernel
theorem dX5_mostAsked_32 : decode cX5_mostAsked 32 = .ok (.iload_n 3, 1) := by decide +kernel
theorem dX5_mostAsked_33 : decode cX5_mostAsked 33 = .ok (.iadd, 1) := by decide +kernel
theorem dX5_mostAsked_34 : decode cX5_mostAsked 34 = .ok (.iaload, 1) := by decide +kernel
theorem dX5_mostAsked_35 : decode cX5_mostAsked 35 = .ok (.aload_n 0, 1) := by decide +kernel
theorem dX5_mostAsked_36 : decode cX5_mostAsked 36 = .ok (.getfield 71, 3) := by decide +kernel
theorem dX5_mostAsked_39 : decode cX5_mostAsked 39 = .ok (.bipush 100, 2) := by decide +kernel
theorem dX5_mostAsked_41 : decode cX5_mostAsked 41 = .ok (.iload_n 1, 1) := by decide +kernel
theorem dX5_mostAsked_42 : decode cX5_mostAsked 42 = .ok (.imul, 1) := by decide +kernel
theorem dX5_mostAsked_43 : decode cX5_mostAsked 43 = .ok (.iload_n 2, 1) := by decide +kernel
theorem dX5_mostAsked_44 : decode cX5_mostAsked 44 = .ok (.iadd, 1) := by decide +kernel
theorem dX5_mostAsked_45 : decode cX5_mostAsked 45 = .ok (.iaload, 1) := by decide +kernel
theorem dX5_mostAsked_46 : decode cX5_mostAsked 46 = .ok (.if_icmp .lt 7, 3) := by decide +kernel
theorem dX5_mostAsked_49 : decode cX5_mostAsked 49 = .ok (.iload_n 3, 1) := by decide +kernel
theorem dX5_mostAsked_50 : decode cX5_mostAsked 50 = .ok (.goto 4, 3) := by decide +kernel
theorem dX5_mostAsked_53 : decode cX5_mostAsked 53 = .ok (.iload_n 2, 1) := by decide +kernel
theorem dX5_mostAsked_54 : decode cX5_mostAsked 54 = .ok (.istore_n 2, 1) := by decide +kernel
theorem dX5_mostAsked_55 : decode cX5_mostAsked 55 = .ok (.iinc 3 (-1), 3) := by decide +kernel
theorem dX5_mostAsked_58 : decode cX5_mostAsked 58 = .ok (.goto (-38), 3) := by decide +kernel
theorem dX5_mostAsked_61 : decode cX5_mostAsked 61 = .ok (.aload_n 0, 1) := by decide +kernel
theorem dX5_mostAsked_62 : decode cX5_mostAsked 62 = .ok (.aload_n 0, 1) := by decide +kernel
theorem dX5_mostAsked_63 : decode cX5_mostAsked 63 = .ok (.getfield 71, 3) := by decide +kernel
theorem dX5_mostAsked_66 : decode cX5_mostAsked 66 = .ok (.bipush 100, 2) := by decide +kernel
theorem dX5_mostAsked_68 : decode cX5_mostAsked 68 = .ok (.iload_n 1, 1) := by decide +kernel
theorem dX5_mostAsked_69 : decode cX5_mostAsked 69 = .ok (.imul, 1) := by decide +kernel
theorem dX5_mostAsked_70 : decode cX5_mostAsked 70 = .ok (.iload_n 2, 1) := by decide +kernel
theorem dX5_mostAsked_71 : decode cX5_mostAsked 71 = .ok (.iadd, 1) := by decide +kernel
theorem dX5_mostAsked_72 : decode cX5_mostAsked 72 = .ok (.iaload, 1) := by decide +kernel
theorem dX5_mostAsked_73 : decode cX5_mostAsked 73 = .ok (.ifCond .le 7, 3) := by decide +kernel
theorem dX5_mostAsked_76 : decode cX5_mostAsked 76 = .ok (.iconst 1, 1) := by decide +kernel
theorem dX5_mostAsked_77 : decode cX5_mostAsked 77 = .ok (.goto 4, 3) := by decide +kernel
theorem dX5_mostAsked_80 : decode cX5_mostAsked 80 = .ok (.iconst 0, 1) := by decide +kernel
theorem dX5_mostAsked_81 : decode cX5_mostAsked 81 = .ok (.iconst 2, 1) := by decide +kernel
theorem dX5_mostAsked_82 : decode cX5_mostAsked 82 = .ok (.invokevirtual 104, 3) := by decide +kernel
theorem dX5_mostAsked_85 : decode cX5_mostAsked 85 = .ok (.ifCond .eq 7, 3) := by decide +kernel
theorem dX5_mostAsked_88 : decode cX5_mostAsked 88 = .ok (.iconst 0, 1) := by decide +kernel
theorem dX5_mostAsked_89 : decode cX5_mostAsked 89 = .ok (.goto 4, 3) := by decide +kernel
theorem dX5_mostAsked_92 : decode cX5_mostAsked 92 = .ok (.iload_n 2, 1) := by decide +kernel
theorem dX5_mostAsked_93 : decode cX5_mostAsked 93 = .ok (.ireturn, 1) := by decide +kernel
set_option maxRecDepth 20000 in
theorem ggX5_least_X5_isBox : GoodIn wsX5_least wsX5_isBox := goodIn_r _ [7, 8, 9, 10, 6, 11, 17, 18, 19, 20, 21, 22, 23, 24, 25, 26, 27, 28, 29, 30, 31, 32, 33, 34, 35, 36, 37, 38, 39, 40, 41, 42, 43, 44, 45, 46] (by decide +kernel) (by decide +kernel)
set_option maxRecDepth 20000 in
theorem gX5_least_X5_isBox : GoodIn wsX5_least (wsV RX5 100 RX5 yX5_isBox wsX5_isBox) := goodIn_app (goodIn_of _ (by decide +kernel)) ggX5_least_X5_isBox
set_option maxRecDepth 20000 in
theorem ggX5_least_X5_no : GoodIn wsX5_least wsX5_no := goodIn_r _ [15, 16, 17, 18, 19, 20, 21, 22, 23, 24, 25, 26, 27, 28, 29, 30, 31, 32, 33, 34, 35, 36, 37, 38, 39, 40, 41, 42, 43, 44, 45, 46] (by decide +kernel) (by decide +kernel)
set_option maxRecDepth 20000 in
theorem gX5_least_X5_no : GoodIn wsX5_least (wsV RX5 104 RX5 yX5_no wsX5_no) := goodIn_app (goodIn_of _ (by decide +kernel)) ggX5_least_X5_no
theorem dX5_least_0 : decode cX5_least 0 = .ok (.aload_n 0, 1) := by decide +kernel
theorem dX5_least_1 : decode cX5_least 1 = .ok (.aload_n 0, 1) := by decide +kernel
theorem dX5_least_2 : decode cX5_least 2 = .ok (.iload_n 1, 1) := by decide +kernel
theorem dX5_least_3 : decode cX5_least 3 = .ok (.invokevirtual 100, 3) := by decide +kernel
theorem dX5_least_6 : decode cX5_least 6 = .ok (.iconst 1, 1) := by decide +kernel
theorem dX5_least_7 : decode cX5_least 7 = .ok (.invokevirtual 104, 3) := by decide +kernel
theorem dX5_least_10 : decode cX5_least 10 = .ok (.ifCond .eq 5, 3) := by decide +kernel
theorem dX5_least_13 : decode cX5_least 13 = .ok (.iconst 0, 1) := by decide +kernel
theorem dX5_least_14 : decode cX5_least 14 = .ok (.ireturn, 1) := by decide +kernel
theorem dX5_least_15 : decode cX5_least 15 = .ok (.iconst (-1), 1) := by decide +kernel
theorem dX5_least_16 : decode cX5_least 16 = .ok (.istore_n 2, 1) := by decide +kernel
theorem dX5_least_17 : decode cX5_least 17 = .ok (.bipush 9, 2) := by decide +kernel
theorem dX5_least_19 : decode cX5_least 19 = .ok (.istore_n 3, 1) := by decide +kernel
theorem dX5_least_20 : decode cX5_least 20 = .ok (.iload_n 3, 1) := by decide +kernel
theorem dX5_least_21 : decode cX5_least 21 = .ok (.ifCond .lt 70, 3) := by decide +kernel
theorem dX5_least_24 : decode cX5_least 24 = .ok (.aload_n 0, 1) := by decide +kernel
theorem dX5_least_25 : decode cX5_least 25 = .ok (.getfield 65, 3) := by decide +kernel
theorem dX5_least_28 : decode cX5_least 28 = .ok (.bipush 10, 2) := by decide +kernel
theorem dX5_least_30 : decode cX5_least 30 = .ok (.iload_n 1, 1) := by decide +kernel
theorem dX5_least_31 : decode cX5_least 31 = .ok (.imul, 1) := by decide +kernel
theorem dX5_least_32 : decode cX5_least 32 = .ok (.iload_n 3, 1) := by decide +kernel
theorem dX5_least_33 : decode cX5_least 33 = .ok (.iadd, 1) := by decide +kernel
theorem dX5_least_34 : decode cX5_least 34 = .ok (.iaload, 1) := by decide +kernel
theorem dX5_least_35 : decode cX5_least 35 = .ok (.ifCond .le 7, 3) := by decide +kernel
theorem dX5_least_38 : decode cX5_least 38 = .ok (.iconst 1, 1) := by decide +kernel
theorem dX5_least_39 : decode cX5_least 39 = .ok (.goto 4, 3) := by decide +kernel
theorem dX5_least_42 : decode cX5_least 42 = .ok (.iconst 0, 1) := by decide +kernel
theorem dX5_least_43 : decode cX5_least 43 = .ok (.istore 4, 2) := by decide +kernel
theorem dX5_least_45 : decode cX5_least 45 = .ok (.iload 4, 2) := by decide +kernel
theorem dX5_least_47 : decode cX5_least 47 = .ok (.ifCond .eq 36, 3) := by decide +kernel
theorem dX5_least_50 : decode cX5_least 50 = .ok (.iload_n 2, 1) := by decide +kernel
theorem dX5_least_51 : decode cX5_least 51 = .ok (.ifCond .lt 28, 3) := by decide +kernel
theorem dX5_least_54 : decode cX5_least 54 = .ok (.aload_n 0, 1) := by decide +kernel
theorem dX5_least_55 : decode cX5_least 55 = .ok (.getfield 68, 3) := by decide +kernel
theorem dX5_least_58 : decode cX5_least 58 = .ok (.bipush 10, 2) := by decide +kernel
theorem dX5_least_60 : decode cX5_least 60 = .ok (.iload_n 1, 1) := by decide +kernel
theorem dX5_least_61 : decode cX5_least 61 = .ok (.imul, 1) := by decide +kernel
theorem dX5_least_62 : decode cX5_least 62 = .ok (.iload_n 3, 1) := by decide +kernel
theorem dX5_least_63 : decode cX5_least 63 = .ok (.iadd, 1) := by decide +kernel
theorem dX5_least_64 : decode cX5_least 64 = .ok (.iaload, 1) := by decide +kernel
theorem dX5_least_65 : decode cX5_least 65 = .ok (.aload_n 0, 1) := by decide +kernel
theorem dX5_least_66 : decode cX5_least 66 = .ok (.getfield 68, 3) := by decide +kernel
theorem dX5_least_69 : decode cX5_least 69 = .ok (.bipush 10, 2) := by decide +kernel
theorem dX5_least_71 : decode cX5_least 71 = .ok (.iload_n 1, 1) := by decide +kernel
theorem dX5_least_72 : decode cX5_least 72 = .ok (.imul, 1) := by decide +kernel
theorem dX5_least_73 : decode cX5_least 73 = .ok (.iload_n 2, 1) := by decide +kernel
theorem dX5_least_74 : decode cX5_least 74 = .ok (.iadd, 1) := by decide +kernel
theorem dX5_least_75 : decode cX5_least 75 = .ok (.iaload, 1) := by decide +kernel
theorem dX5_least_76 : decode cX5_least 76 = .ok (.if_icmp .gt 7, 3) := by decide +kernel
theorem dX5_least_79 : decode cX5_least 79 = .ok (.iload_n 3, 1) := by decide +kernel
theorem dX5_least_80 : decode cX5_least 80 = .ok (.goto 4, 3) := by decide +kernel
theorem dX5_least_83 : decode cX5_least 83 = .ok (.iload_n 2, 1) := by decide +kernel
theorem dX5_least_84 : decode cX5_least 84 = .ok (.istore_n 2, 1) := by decide +kernel
theorem dX5_least_85 : decode cX5_least 85 = .ok (.iinc 3 (-1), 3) := by decide +kernel
theorem dX5_least_88 : decode cX5_least 88 = .ok (.goto (-68), 3) := by decide +kernel
theorem dX5_least_91 : decode cX5_least 91 = .ok (.aload_n 0, 1) := by decide +kernel
theorem dX5_least_92 : decode cX5_least 92 = .ok (.iload_n 2, 1) := by decide +kernel
theorem dX5_least_93 : decode cX5_least 93 = .ok (.ifCond .lt 7, 3) := by decide +kernel
theorem dX5_least_96 : decode cX5_least 96 = .ok (.iconst 1, 1) := by decide +kernel
theorem dX5_least_97 : decode cX5_least 97 = .ok (.goto 4, 3) := by decide +kernel
theorem dX5_least_100 : decode cX5_least 100 = .ok (.iconst 0, 1) := by decide +kernel
theorem dX5_least_101 : decode cX5_least 101 = .ok (.iconst 2, 1) := by decide +kernel
theorem dX5_least_102 : decode cX5_least 102 = .ok (.invokevirtual 104, 3) := by decide +kernel
theorem dX5_least_105 : decode cX5_least 105 = .ok (.ifCond .eq 7, 3) := by decide +kernel
theorem dX5_least_108 : decode cX5_least 108 = .ok (.iconst 0, 1) := by decide +kernel
theorem dX5_least_109 : decode cX5_least 109 = .ok (.goto 4, 3) := by decide +kernel
theorem dX5_least_112 : decode cX5_least 112 = .ok (.iload_n 2, 1) := by decide +kernel
theorem dX5_least_113 : decode cX5_least 113 = .ok (.ireturn, 1) := by decide +kernel
set_option maxRecDepth 20000 in
theorem ggX5_worth_X5_isSlot : GoodIn wsX5_worth wsX5_isSlot := goodIn_r _ [5, 6, 7, 8, 4, 9, 10, 11, 12, 13, 44, 45, 46, 47, 48, 49, 50, 51, 52, 53, 54, 55, 56, 57, 58, 59, 60, 61, 62, 63, 64, 65, 66, 67, 68, 69, 70, 71, 72, 73] (by decide +kernel) (by decide +kernel)
set_option maxRecDepth 20000 in
theorem gX5_worth_X5_isSlot : GoodIn wsX5_worth (wsV RX5 116 RX5 yX5_isSlot wsX5_isSlot) := goodIn_app (goodIn_of _ (by decide +kernel)) ggX5_worth_X5_isSlot
set_option maxRecDepth 20000 in
theorem ggX5_worth_X5_isDisc : GoodIn wsX5_worth wsX5_isDisc := goodIn_r _ [17, 18, 11, 12, 4, 13, 44, 45, 46, 47, 48, 49, 50, 51, 52, 53, 54, 55, 56, 57, 58, 59, 60, 61, 62, 63, 64, 65, 66, 67, 68, 69, 70, 71, 72, 73] (by decide +kernel) (by decide +kernel)
set_option maxRecDepth 20000 in
theorem gX5_worth_X5_isDisc : GoodIn wsX5_worth (wsV RX5 128 RX5 yX5_isDisc wsX5_isDisc) := goodIn_app (goodIn_of _ (by decide +kernel)) ggX5_worth_X5_isDisc
set_option maxRecDepth 20000 in
theorem ggX5_worth_X5_no : GoodIn wsX5_worth wsX5_no := goodIn_r _ [22, 23, 44, 45, 46, 47, 48, 49, 50, 51, 52, 53, 54, 55, 56, 57, 58, 59, 60, 61, 62, 63, 64, 65, 66, 67, 68, 69, 70, 71, 72, 73] (by decide +kernel) (by decide +kernel)
set_option maxRecDepth 20000 in
theorem gX5_worth_X5_no : GoodIn wsX5_worth (wsV RX5 104 RX5 yX5_no wsX5_no) := goodIn_app (goodIn_of _ (by decide +kernel)) ggX5_worth_X5_no
set_option maxRecDepth 20000 in
theorem ggX5_worth_X5_isInVan : GoodIn wsX5_worth wsX5_isInVan := goodIn_ca (goodIn_r _ [27, 28, 44, 45, 46, 47, 48, 49, 50, 51, 52, 53, 54, 55, 56, 57, 58, 59, 60, 61, 62, 63, 64, 65, 66, 67, 68, 69, 70, 71, 72, 73] (by decide +kernel) (by decide +kernel)) (goodIn_sub (fun _ h => List.mem_cons_of_mem _ (List.mem_append_right _ h)) (by decide +kernel))
set_option maxRecDepth 20000 in
theorem gX5_worth_X5_isInVan : GoodIn wsX5_worth (wsV RX5 138 RX5 yX5_isInVan wsX5_isInVan) := goodIn_app (goodIn_of _ (by decide +kernel)) ggX5_worth_X5_isInVan
set_option maxRecDepth 20000 in
theorem ggX5_worth_X5_pullAt : GoodIn wsX5_worth wsX5_pullAt := goodIn_ca (goodIn_r _ [32, 28, 33, 34, 35, 36, 37, 38, 44, 45, 46, 47, 48, 49, 50, 51, 52, 53, 54, 55, 56, 57, 58, 59, 60, 61, 62, 63, 64, 65, 66, 67, 68, 69, 70, 71, 72, 73] (by decide +kernel) (by decide +kernel)) (goodIn_sub (fun _ h => List.mem_cons_of_mem _ (List.mem_append_right _ h)) (by decide +kernel))
set_option maxRecDepth 20000 in
theorem gX5_worth_X5_pullAt : GoodIn wsX5_worth (wsV RX5 112 RX5 yX5_pullAt wsX5_pullAt) := goodIn_app (goodIn_of _ (by decide +kernel)) ggX5_worth_X5_pullAt
set_option maxRecDepth 20000 in
theorem ggX5_worth_X5_pullOfSlot : GoodIn wsX5_worth wsX5_pullOfSlot := goodIn_ca (goodIn_r _ [42, 43, 29, 30, 31, 4, 32, 28, 33, 34, 35, 36, 37, 38, 44, 45, 46, 47, 48, 49, 50, 51, 52, 53, 54, 55, 56, 57, 58, 59, 60, 61, 62, 63, 64, 65, 66, 67, 68, 69, 70, 71, 72, 73] (by decide +kernel) (by decide +kernel)) (goodIn_sub (fun _ h => List.mem_cons_of_mem _ (List.mem_append_right _ h)) (by decide +kernel))
set_option maxRecDepth 20000 in
theorem gX5_worth_X5_pullOfSlot : GoodIn wsX5_worth (wsV RX5 131 RX5 yX5_pullOfSlot wsX5_pullOfSlot) := goodIn_app (goodIn_of _ (by decide +kernel)) ggX5_worth_X5_pullOfSlot
theorem dX5_worth_0 : decode cX5_worth 0 = .ok (.aload_n 0, 1) := by decide +kernel
theorem dX5_worth_1 : decode cX5_worth 1 = .ok (.aload_n 0, 1) := by decide +kernel
theorem dX5_worth_2 : decode cX5_worth 2 = .ok (.iload_n 1, 1) := by decide +kernel
theorem dX5_worth_3 : decode cX5_worth 3 = .ok (.iload_n 2, 1) := by decide +kernel
theorem dX5_worth_4 : decode cX5_worth 4 = .ok (.invokevirtual 116, 3) := by decide +kernel
theorem dX5_worth_7 : decode cX5_worth 7 = .ok (.ifCond .eq 15, 3) := by decide +kernel
theorem dX5_worth_10 : decode cX5_worth 10 = .ok (.aload_n 0, 1) := by decide +kernel
theorem dX5_worth_11 : decode cX5_worth 11 = .ok (.iload_n 3, 1) := by decide +kernel
theorem dX5_worth_12 : decode cX5_worth 12 = .ok (.invokevirtual 128, 3) := by decide +kernel
theorem dX5_worth_15 : decode cX5_worth 15 = .ok (.ifCond .eq 7, 3) := by decide +kernel
theorem dX5_worth_18 : decode cX5_worth 18 = .ok (.iconst 1, 1) := by decide +kernel
theorem dX5_worth_19 : decode cX5_worth 19 = .ok (.goto 4, 3) := by decide +kernel
theorem dX5_worth_22 : decode cX5_worth 22 = .ok (.iconst 0, 1) := by decide +kernel
theorem dX5_worth_23 : decode cX5_worth 23 = .ok (.iconst 1, 1) := by decide +kernel
theorem dX5_worth_24 : decode cX5_worth 24 = .ok (.invokevirtual 104, 3) := by decide +kernel
theorem dX5_worth_27 : decode cX5_worth 27 = .ok (.ifCond .ne 16, 3) := by decide +kernel
theorem dX5_worth_30 : decode cX5_worth 30 = .ok (.aload_n 0, 1) := by decide +kernel
theorem dX5_worth_31 : decode cX5_worth 31 = .ok (.aload_n 0, 1) := by decide +kernel
theorem dX5_worth_32 : decode cX5_worth 32 = .ok (.iload_n 3, 1) := by decide +kernel
theorem dX5_worth_33 : decode cX5_worth 33 = .ok (.invokevirtual 138, 3) := by decide +kernel
theorem dX5_worth_36 : decode cX5_worth 36 = .ok (.iconst 2, 1) := by decide +kernel
theorem dX5_worth_37 : decode cX5_worth 37 = .ok (.invokevirtual 104, 3) := by decide +kernel
theorem dX5_worth_40 : decode cX5_worth 40 = .ok (.ifCond .eq 5, 3) := by decide +kernel
theorem dX5_worth_43 : decode cX5_worth 43 = .ok (.iconst 0, 1) := by decide +kernel
theorem dX5_worth_44 : decode cX5_worth 44 = .ok (.ireturn, 1) := by decide +kernel
theorem dX5_worth_45 : decode cX5_worth 45 = .ok (.aload_n 0, 1) := by decide +kernel
theorem dX5_worth_46 : decode cX5_worth 46 = .ok (.iload_n 1, 1) := by decide +kernel
theorem dX5_worth_47 : decode cX5_worth 47 = .ok (.iload_n 3, 1) := by decide +kernel
theorem dX5_worth_48 : decode cX5_worth 48 = .ok (.invokevirtual 112, 3) := by decide +kernel
theorem dX5_worth_51 : decode cX5_worth 51 = .ok (.aload_n 0, 1) := by decide +kernel
theorem dX5_worth_52 : decode cX5_worth 52 = .ok (.bipush 10, 2) := by decide +kernel
theorem dX5_worth_54 : decode cX5_worth 54 = .ok (.iload_n 1, 1) := by decide +kernel
theorem dX5_worth_55 : decode cX5_worth 55 = .ok (.imul, 1) := by decide +kernel
theorem dX5_worth_56 : decode cX5_worth 56 = .ok (.iload_n 2, 1) := by decide +kernel
theorem dX5_worth_57 : decode cX5_worth 57 = .ok (.iadd, 1) := by decide +kernel
theorem dX5_worth_58 : decode cX5_worth 58 = .ok (.invokevirtual 131, 3) := by decide +kernel
theorem dX5_worth_61 : decode cX5_worth 61 = .ok (.isub, 1) := by decide +kernel
theorem dX5_worth_62 : decode cX5_worth 62 = .ok (.ireturn, 1) := by decide +kernel
set_option maxRecDepth 20000 in
theorem ggX5_strongest_X5_isInVan : GoodIn wsX5_strongest wsX5_isInVan := goodIn_ca (goodIn_r _ [7, 8, 19, 20, 21, 22, 23, 24, 25, 26, 27, 28, 29, 30, 31, 32, 33, 34, 35, 36, 37, 38, 39, 40, 41, 42, 43, 44, 45, 46, 47, 48] (by decide +kernel) (by decide +kernel)) (goodIn_sub (fun _ h => List.mem_cons_of_mem _ (List.mem_append_right _ h)) (by decide +kernel))
set_option maxRecDepth 20000 in
theorem gX5_strongest_X5_isInVan : GoodIn wsX5_strongest (wsV RX5 138 RX5 yX5_isInVan wsX5_isInVan) := goodIn_app (goodIn_of _ (by decide +kernel)) ggX5_strongest_X5_isInVan
set_option maxRecDepth 20000 in
theorem ggX5_strongest_X5_pullAt : GoodIn wsX5_strongest wsX5_pullAt := goodIn_ca (goodIn_r _ [12, 8, 13, 14, 15, 16, 17, 18, 19, 20, 21, 22, 23, 24, 25, 26, 27, 28, 29, 30, 31, 32, 33, 34, 35, 36, 37, 38, 39, 40, 41, 42, 43, 44, 45, 46, 47, 48] (by decide +kernel) (by decide +kernel)) (goodIn_sub (fun _ h => List.mem_cons_of_mem _ (List.mem_append_right _ h)) (by decide +kernel))
set_option maxRecDepth 20000 in
theorem gX5_strongest_X5_pullAt : GoodIn wsX5_strongest (wsV RX5 112 RX5 yX5_pullAt wsX5_pullAt) := goodIn_app (goodIn_of _ (by decide +kernel)) ggX5_strongest_X5_pullAt
theorem dX5_strongest_0 : decode cX5_strongest 0 = .ok (.iconst (-1), 1) := by decide +kernel
theorem dX5_strongest_1 : decode cX5_strongest 1 = .ok (.istore_n 2, 1) := by decide +kernel
theorem dX5_strongest_2 : decode cX5_strongest 2 = .ok (.iconst 0, 1) := by decide +kernel
theorem dX5_strongest_3 : decode cX5_strongest 3 = .ok (.istore_n 3, 1) := by decide +kernel
theorem dX5_strongest_4 : decode cX5_strongest 4 = .ok (.iload_n 3, 1) := by decide +kernel
theorem dX5_strongest_5 : decode cX5_strongest 5 = .ok (.aload_n 0, 1) := by decide +kernel
theorem dX5_strongest_6 : decode cX5_strongest 6 = .ok (.getfield 90, 3) := by decide +kernel
theorem dX5_strongest_9 : decode cX5_strongest 9 = .ok (.if_icmp .ge 63, 3) := by decide +kernel
theorem dX5_strongest_12 : decode cX5_strongest 12 = .ok (.aload_n 0, 1) := by decide +kernel
theorem dX5_strongest_13 : decode cX5_strongest 13 = .ok (.iload_n 3, 1) := by decide +kernel
theorem dX5_strongest_14 : decode cX5_strongest 14 = .ok (.invokevirtual 138, 3) := by decide +kernel
theorem dX5_strongest_17 : decode cX5_strongest 17 = .ok (.ifCond .eq 16, 3) := by decide +kernel
theorem dX5_strongest_20 : decode cX5_strongest 20 = .ok (.aload_n 0, 1) := by decide +kernel
theorem dX5_strongest_21 : decode cX5_strongest 21 = .ok (.getfield 74, 3) := by decide +kernel
theorem dX5_strongest_24 : decode cX5_strongest 24 = .ok (.iload_n 3, 1) := by decide +kernel
theorem dX5_strongest_25 : decode cX5_strongest 25 = .ok (.baload, 1) := by decide +kernel
theorem dX5_strongest_26 : decode cX5_strongest 26 = .ok (.ifCond .ne 7, 3) := by decide +kernel
theorem dX5_strongest_29 : decode cX5_strongest 29 = .ok (.iconst 1, 1) := by decide +kernel
theorem dX5_strongest_30 : decode cX5_strongest 30 = .ok (.goto 4, 3) := by decide +kernel
theorem dX5_strongest_33 : decode cX5_strongest 33 = .ok (.iconst 0, 1) := by decide +kernel
theorem dX5_strongest_34 : decode cX5_strongest 34 = .ok (.istore 4, 2) := by decide +kernel
theorem dX5_strongest_36 : decode cX5_strongest 36 = .ok (.iload 4, 2) := by decide +kernel
theorem dX5_strongest_38 : decode cX5_strongest 38 = .ok (.ifCond .eq 26, 3) := by decide +kernel
theorem dX5_strongest_41 : decode cX5_strongest 41 = .ok (.iload_n 2, 1) := by decide +kernel
theorem dX5_strongest_42 : decode cX5_strongest 42 = .ok (.ifCond .lt 18, 3) := by decide +kernel
theorem dX5_strongest_45 : decode cX5_strongest 45 = .ok (.aload_n 0, 1) := by decide +kernel
theorem dX5_strongest_46 : decode cX5_strongest 46 = .ok (.iload_n 1, 1) := by decide +kernel
theorem dX5_strongest_47 : decode cX5_strongest 47 = .ok (.iload_n 3, 1) := by decide +kernel
theorem dX5_strongest_48 : decode cX5_strongest 48 = .ok (.invokevirtual 112, 3) := by decide +kernel
theorem dX5_strongest_51 : decode cX5_strongest 51 = .ok (.aload_n 0, 1) := by decide +kernel
theorem dX5_strongest_52 : decode cX5_strongest 52 = .ok (.iload_n 1, 1) := by decide +kernel
theorem dX5_strongest_53 : decode cX5_strongest 53 = .ok (.iload_n 2, 1) := by decide +kernel
theorem dX5_strongest_54 : decode cX5_strongest 54 = .ok (.invokevirtual 112, 3) := by decide +kernel
theorem dX5_strongest_57 : decode cX5_strongest 57 = .ok (.if_icmp .le 7, 3) := by decide +kernel
theorem dX5_strongest_60 : decode cX5_strongest 60 = .ok (.iload_n 3, 1) := by decide +kernel
theorem dX5_strongest_61 : decode cX5_strongest 61 = .ok (.goto 4, 3) := by decide +kernel
theorem dX5_strongest_64 : decode cX5_strongest 64 = .ok (.iload_n 2, 1) := by decide +kernel
theorem dX5_strongest_65 : decode cX5_strongest 65 = .ok (.istore_n 2, 1) := by decide +kernel
theorem dX5_strongest_66 : decode cX5_strongest 66 = .ok (.iinc 3 1, 3) := by decide +kernel
theorem dX5_strongest_69 : decode cX5_strongest 69 = .ok (.goto (-65), 3) := by decide +kernel
theorem dX5_strongest_72 : decode cX5_strongest 72 = .ok (.iload_n 2, 1) := by decide +kernel
theorem dX5_strongest_73 : decode cX5_strongest 73 = .ok (.ireturn, 1) := by decide +kernel
set_option maxRecDepth 20000 in
theorem ggX5_weakest_X5_pullOfSlot : GoodIn wsX5_weakest wsX5_pullOfSlot := goodIn_ca (goodIn_r _ [6, 7, 8, 9, 10, 5, 11, 12, 13, 14, 15, 16, 17, 18, 19, 20, 21, 22, 23, 24, 25, 26, 27, 28, 29, 30, 31, 32, 33, 34, 35, 36, 37, 38, 39, 40, 41, 42, 43, 44, 45, 46, 47, 48] (by decide +kernel) (by decide +kernel)) (goodIn_sub (fun _ h => List.mem_cons_of_mem _ (List.mem_append_right _ h)) (by decide +kernel))
set_option maxRecDepth 20000 in
theorem gX5_weakest_X5_pullOfSlot : GoodIn wsX5_weakest (wsV RX5 131 RX5 yX5_pullOfSlot wsX5_pullOfSlot) := goodIn_app (goodIn_of _ (by decide +kernel)) ggX5_weakest_X5_pullOfSlot
theorem dX5_weakest_0 : decode cX5_weakest 0 = .ok (.iconst (-1), 1) := by decide +kernel
theorem dX5_weakest_1 : decode cX5_weakest 1 = .ok (.istore_n 2, 1) := by decide +kernel
theorem dX5_weakest_2 : decode cX5_weakest 2 = .ok (.iconst 0, 1) := by decide +kernel
theorem dX5_weakest_3 : decode cX5_weakest 3 = .ok (.istore_n 3, 1) := by decide +kernel
theorem dX5_weakest_4 : decode cX5_weakest 4 = .ok (.iload_n 3, 1) := by decide +kernel
theorem dX5_weakest_5 : decode cX5_weakest 5 = .ok (.bipush 10, 2) := by decide +kernel
theorem dX5_weakest_7 : decode cX5_weakest 7 = .ok (.if_icmp .ge 51, 3) := by decide +kernel
theorem dX5_weakest_10 : decode cX5_weakest 10 = .ok (.aload_n 0, 1) := by decide +kernel
theorem dX5_weakest_11 : decode cX5_weakest 11 = .ok (.getfield 77, 3) := by decide +kernel
theorem dX5_weakest_14 : decode cX5_weakest 14 = .ok (.iload_n 3, 1) := by decide +kernel
theorem dX5_weakest_15 : decode cX5_weakest 15 = .ok (.baload, 1) := by decide +kernel
theorem dX5_weakest_16 : decode cX5_weakest 16 = .ok (.ifCond .ne 34, 3) := by decide +kernel
theorem dX5_weakest_19 : decode cX5_weakest 19 = .ok (.iload_n 2, 1) := by decide +kernel
theorem dX5_weakest_20 : decode cX5_weakest 20 = .ok (.ifCond .lt 26, 3) := by decide +kernel
theorem dX5_weakest_23 : decode cX5_weakest 23 = .ok (.aload_n 0, 1) := by decide +kernel
theorem dX5_weakest_24 : decode cX5_weakest 24 = .ok (.bipush 10, 2) := by decide +kernel
theorem dX5_weakest_26 : decode cX5_weakest 26 = .ok (.iload_n 1, 1) := by decide +kernel
theorem dX5_weakest_27 : decode cX5_weakest 27 = .ok (.imul, 1) := by decide +kernel
theorem dX5_weakest_28 : decode cX5_weakest 28 = .ok (.iload_n 3, 1) := by decide +kernel
theorem dX5_weakest_29 : decode cX5_weakest 29 = .ok (.iadd, 1) := by decide +kernel
theorem dX5_weakest_30 : decode cX5_weakest 30 = .ok (.invokevirtual 131, 3) := by decide +kernel
theorem dX5_weakest_33 : decode cX5_weakest 33 = .ok (.aload_n 0, 1) := by decide +kernel
theorem dX5_weakest_34 : decode cX5_weakest 34 = .ok (.bipush 10, 2) := by decide +kernel
theorem dX5_weakest_36 : decode cX5_weakest 36 = .ok (.iload_n 1, 1) := by decide +kernel
theorem dX5_weakest_37 : decode cX5_weakest 37 = .ok (.imul, 1) := by decide +kernel
theorem dX5_weakest_38 : decode cX5_weakest 38 = .ok (.iload_n 2, 1) := by decide +kernel
theorem dX5_weakest_39 : decode cX5_weakest 39 = .ok (.iadd, 1) := by decide +kernel
theorem dX5_weakest_40 : decode cX5_weakest 40 = .ok (.invokevirtual 131, 3) := by decide +kernel
theorem dX5_weakest_43 : decode cX5_weakest 43 = .ok (.if_icmp .ge 7, 3) := by decide +kernel
theorem dX5_weakest_46 : decode cX5_weakest 46 = .ok (.iload_n 3, 1) := by decide +kernel
theorem dX5_weakest_47 : decode cX5_weakest 47 = .ok (.goto 4, 3) := by decide +kernel
theorem dX5_weakest_50 : decode cX5_weakest 50 = .ok (.iload_n 2, 1) := by decide +kernel
theorem dX5_weakest_51 : decode cX5_weakest 51 = .ok (.istore_n 2, 1) := by decide +kernel
theorem dX5_weakest_52 : decode cX5_weakest 52 = .ok (.iinc 3 1, 3) := by decide +kernel
theorem dX5_weakest_55 : decode cX5_weakest 55 = .ok (.goto (-51), 3) := by decide +kernel
theorem dX5_weakest_58 : decode cX5_weakest 58 = .ok (.iload_n 2, 1) := by decide +kernel
theorem dX5_weakest_59 : decode cX5_weakest 59 = .ok (.ireturn, 1) := by decide +kernel
set_option maxRecDepth 20000 in
theorem ggX5_bestWorth_X5_isBox : GoodIn wsX5_bestWorth wsX5_isBox := goodIn_r _ [7, 8, 9, 10, 6, 11, 46, 47, 48, 49, 50, 51, 52, 53, 54, 55, 56, 57, 58, 59, 60, 61, 62, 63, 64, 65, 66, 67, 68, 69, 70, 71, 72, 73, 74, 75] (by decide +kernel) (by decide +kernel)
set_option maxRecDepth 20000 in
theorem gX5_bestWorth_X5_isBox : GoodIn wsX5_bestWorth (wsV RX5 100 RX5 yX5_isBox wsX5_isBox) := goodIn_app (goodIn_of _ (by decide +kernel)) ggX5_bestWorth_X5_isBox
set_option maxRecDepth 20000 in
theorem ggX5_bestWorth_X5_no : GoodIn wsX5_bestWorth wsX5_no := goodIn_r _ [15, 16, 46, 47, 48, 49, 50, 51, 52, 53, 54, 55, 56, 57, 58, 59, 60, 61, 62, 63, 64, 65, 66, 67, 68, 69, 70, 71, 72, 73, 74, 75] (by decide +kernel) (by decide +kernel)
set_option maxRecDepth 20000 in
theorem gX5_bestWorth_X5_no : GoodIn wsX5_bestWorth (wsV RX5 104 RX5 yX5_no wsX5_no) := goodIn_app (goodIn_of _ (by decide +kernel)) ggX5_bestWorth_X5_no
set_option maxRecDepth 20000 in
theorem ggX5_bestWorth_X5_isIn : GoodIn wsX5_bestWorth wsX5_isIn := goodIn_r _ [11] (by decide +kernel) (by decide +kernel)
set_option maxRecDepth 20000 in
theorem gX5_bestWorth_X5_isIn : GoodIn wsX5_bestWorth (va_wsS RX5 93 yX5_isIn wsX5_isIn) := goodIn_app (goodIn_of _ (by decide +kernel)) ggX5_bestWorth_X5_isIn
set_option maxRecDepth 20000 in
theorem ggX5_bestWorth_X5_strongest : GoodIn wsX5_bestWorth wsX5_strongest := goodIn_ca (goodIn_r _ [20, 21, 1, 22, 23, 24, 6, 25, 26, 27, 28, 29, 30, 31, 32, 33, 34, 35, 36, 46, 47, 48, 49, 50, 51, 52, 53, 54, 55, 56, 57, 58, 59, 60, 61, 62, 63, 64, 65, 66, 67, 68, 69, 70, 71, 72, 73, 74, 75] (by decide +kernel) (by decide +kernel)) (goodIn_sub (fun _ h => List.mem_cons_of_mem _ (List.mem_append_right _ h)) (by decide +kernel))
set_option maxRecDepth 20000 in
theorem gX5_bestWorth_X5_strongest : GoodIn wsX5_bestWorth (wsV RX5 141 RX5 yX5_strongest wsX5_strongest) := goodIn_app (goodIn_of _ (by decide +kernel)) ggX5_bestWorth_X5_strongest
set_option maxRecDepth 20000 in
theorem ggX5_bestWorth_X5_weakest : GoodIn wsX5_bestWorth wsX5_weakest := goodIn_ca (goodIn_r _ [40, 2, 41, 42, 43, 6, 44, 45, 27, 28, 29, 30, 26, 31, 32, 33, 34, 35, 36, 46, 47, 48, 49, 50, 51, 52, 53, 54, 55, 56, 57, 58, 59, 60, 61, 62, 63, 64, 65, 66, 67, 68, 69, 70, 71, 72, 73, 74, 75] (by decide +kernel) (by decide +kernel)) (goodIn_sub (fun _ h => List.mem_cons_of_mem _ (List.mem_append_right _ h)) (by decide +kernel))
set_option maxRecDepth 20000 in
theorem gX5_bestWorth_X5_weakest : GoodIn wsX5_bestWorth (wsV RX5 144 RX5 yX5_weakest wsX5_weakest) := goodIn_app (goodIn_of _ (by decide +kernel)) ggX5_bestWorth_X5_weakest
set_option maxRecDepth 20000 in
theorem ggX5_bestWorth_X5_pullAt : GoodIn wsX5_bestWorth wsX5_pullAt := goodIn_ca (goodIn_r _ [30, 26, 31, 32, 33, 34, 35, 36, 46, 47, 48, 49, 50, 51, 52, 53, 54, 55, 56, 57, 58, 59, 60, 61, 62, 63, 64, 65, 66, 67, 68, 69, 70, 71, 72, 73, 74, 75] (by decide +kernel) (by decide +kernel)) (goodIn_sub (fun _ h => List.mem_cons_of_mem _ (List.mem_append_right _ h)) (by decide +kernel))
set_option maxRecDepth 20000 in
theorem gX5_bestWorth_X5_pullAt : GoodIn wsX5_bestWorth (wsV RX5 112 RX5 yX5_pullAt wsX5_pullAt) := goodIn_app (goodIn_of _ (by decide +kernel)) ggX5_bestWorth_X5_pullAt
set_option maxRecDepth 20000 in
theorem ggX5_bestWorth_X5_pullOfSlot : GoodIn wsX5_bestWorth wsX5_pullOfSlot := goodIn_ca (goodIn_r _ [44, 45, 27, 28, 29, 6, 30, 26, 31, 32, 33, 34, 35, 36, 46, 47, 48, 49, 50, 51, 52, 53, 54, 55, 56, 57, 58, 59, 60, 61, 62, 63, 64, 65, 66, 67, 68, 69, 70, 71, 72, 73, 74, 75] (by decide +kernel) (by decide +kernel)) (goodIn_sub (fun _ h => List.mem_cons_of_mem _ (List.mem_append_right _ h)) (by decide +kernel))
set_option maxRecDepth 20000 in
theorem gX5_bestWorth_X5_pullOfSlot : GoodIn wsX5_bestWorth (wsV RX5 131 RX5 yX5_pullOfSlot wsX5_pullOfSlot) := goodIn_app (goodIn_of _ (by decide +kernel)) ggX5_bestWorth_X5_pullOfSlot
theorem dX5_bestWorth_0 : decode cX5_bestWorth 0 = .ok (.aload_n 0, 1) := by decide +kernel
theorem dX5_bestWorth_1 : decode cX5_bestWorth 1 = .ok (.aload_n 0, 1) := by decide +kernel
theorem dX5_bestWorth_2 : decode cX5_bestWorth 2 = .ok (.iload_n 1, 1) := by decide +kernel
theorem dX5_bestWorth_3 : decode cX5_bestWorth 3 = .ok (.invokevirtual 100, 3) := by decide +kernel
theorem dX5_bestWorth_6 : decode cX5_bestWorth 6 = .ok (.iconst 1, 1) := by decide +kernel
theorem dX5_bestWorth_7 : decode cX5_bestWorth 7 = .ok (.invokevirtual 104, 3) := by decide +kernel
theorem dX5_bestWorth_10 : decode cX5_bestWorth 10 = .ok (.ifCond .ne 17, 3) := by decide +kernel
theorem dX5_bestWorth_13 : decode cX5_bestWorth 13 = .ok (.aload_n 0, 1) := by decide +kernel
theorem dX5_bestWorth_14 : decode cX5_bestWorth 14 = .ok (.iload_n 2, 1) := by decide +kernel
theorem dX5_bestWorth_15 : decode cX5_bestWorth 15 = .ok (.iconst 0, 1) := by decide +kernel
theorem dX5_bestWorth_16 : decode cX5_bestWorth 16 = .ok (.iconst 3, 1) := by decide +kernel
theorem dX5_bestWorth_17 : decode cX5_bestWorth 17 = .ok (.invokestatic 93, 3) := by decide +kernel
theorem dX5_bestWorth_20 : decode cX5_bestWorth 20 = .ok (.iconst 2, 1) := by decide +kernel
theorem dX5_bestWorth_21 : decode cX5_bestWorth 21 = .ok (.invokevirtual 104, 3) := by decide +kernel
theorem dX5_bestWorth_24 : decode cX5_bestWorth 24 = .ok (.ifCond .eq 5, 3) := by decide +kernel
theorem dX5_bestWorth_27 : decode cX5_bestWorth 27 = .ok (.iconst 0, 1) := by decide +kernel
theorem dX5_bestWorth_28 : decode cX5_bestWorth 28 = .ok (.ireturn, 1) := by decide +kernel
theorem dX5_bestWorth_29 : decode cX5_bestWorth 29 = .ok (.iconst 0, 1) := by decide +kernel
theorem dX5_bestWorth_30 : decode cX5_bestWorth 30 = .ok (.istore_n 3, 1) := by decide +kernel
theorem dX5_bestWorth_31 : decode cX5_bestWorth 31 = .ok (.iload_n 3, 1) := by decide +kernel
theorem dX5_bestWorth_32 : decode cX5_bestWorth 32 = .ok (.bipush 30, 2) := by decide +kernel
theorem dX5_bestWorth_34 : decode cX5_bestWorth 34 = .ok (.if_icmp .ge 26, 3) := by decide +kernel
theorem dX5_bestWorth_37 : decode cX5_bestWorth 37 = .ok (.aload_n 0, 1) := by decide +kernel
theorem dX5_bestWorth_38 : decode cX5_bestWorth 38 = .ok (.getfield 74, 3) := by decide +kernel
theorem dX5_bestWorth_41 : decode cX5_bestWorth 41 = .ok (.iload_n 3, 1) := by decide +kernel
theorem dX5_bestWorth_42 : decode cX5_bestWorth 42 = .ok (.iconst 0, 1) := by decide +kernel
theorem dX5_bestWorth_43 : decode cX5_bestWorth 43 = .ok (.bastore, 1) := by decide +kernel
theorem dX5_bestWorth_44 : decode cX5_bestWorth 44 = .ok (.aload_n 0, 1) := by decide +kernel
theorem dX5_bestWorth_45 : decode cX5_bestWorth 45 = .ok (.getfield 77, 3) := by decide +kernel
theorem dX5_bestWorth_48 : decode cX5_bestWorth 48 = .ok (.iload_n 3, 1) := by decide +kernel
theorem dX5_bestWorth_49 : decode cX5_bestWorth 49 = .ok (.bipush 10, 2) := by decide +kernel
theorem dX5_bestWorth_51 : decode cX5_bestWorth 51 = .ok (.irem, 1) := by decide +kernel
theorem dX5_bestWorth_52 : decode cX5_bestWorth 52 = .ok (.iconst 0, 1) := by decide +kernel
theorem dX5_bestWorth_53 : decode cX5_bestWorth 53 = .ok (.bastore, 1) := by decide +kernel
theorem dX5_bestWorth_54 : decode cX5_bestWorth 54 = .ok (.iinc 3 1, 3) := by decide +kernel
theorem dX5_bestWorth_57 : decode cX5_bestWorth 57 = .ok (.goto (-26), 3) := by decide +kernel
theorem dX5_bestWorth_60 : decode cX5_bestWorth 60 = .ok (.iconst 0, 1) := by decide +kernel
theorem dX5_bestWorth_61 : decode cX5_bestWorth 61 = .ok (.istore_n 3, 1) := by decide +kernel
theorem dX5_bestWorth_62 : decode cX5_bestWorth 62 = .ok (.iconst 0, 1) := by decide +kernel
theorem dX5_bestWorth_63 : decode cX5_bestWorth 63 = .ok (.istore 4, 2) := by decide +kernel
theorem dX5_bestWorth_65 : decode cX5_bestWorth 65 = .ok (.iload 4, 2) := by decide +kernel
theorem dX5_bestWorth_67 : decode cX5_bestWorth 67 = .ok (.iload_n 2, 1) := by decide +kernel
theorem dX5_bestWorth_68 : decode cX5_bestWorth 68 = .ok (.if_icmp .ge 79, 3) := by decide +kernel
theorem dX5_bestWorth_71 : decode cX5_bestWorth 71 = .ok (.aload_n 0, 1) := by decide +kernel
theorem dX5_bestWorth_72 : decode cX5_bestWorth 72 = .ok (.iload_n 1, 1) := by decide +kernel
theorem dX5_bestWorth_73 : decode cX5_bestWorth 73 = .ok (.invokevirtual 141, 3) := by decide +kernel
theorem dX5_bestWorth_76 : decode cX5_bestWorth 76 = .ok (.istore 5, 2) := by decide +kernel
theorem dX5_bestWorth_78 : decode cX5_bestWorth 78 = .ok (.aload_n 0, 1) := by decide +kernel
theorem dX5_bestWorth_79 : decode cX5_bestWorth 79 = .ok (.iload_n 1, 1) := by decide +kernel
theorem dX5_bestWorth_80 : decode cX5_bestWorth 80 = .ok (.invokevirtual 144, 3) := by decide +kernel
theorem dX5_bestWorth_83 : decode cX5_bestWorth 83 = .ok (.istore 6, 2) := by decide +kernel
theorem dX5_bestWorth_85 : decode cX5_bestWorth 85 = .ok (.iload 5, 2) := by decide +kernel
theorem dX5_bestWorth_87 : decode cX5_bestWorth 87 = .ok (.ifCond .lt 54, 3) := by decide +kernel
theorem dX5_bestWorth_90 : decode cX5_bestWorth 90 = .ok (.aload_n 0, 1) := by decide +kernel
theorem dX5_bestWorth_91 : decode cX5_bestWorth 91 = .ok (.iload_n 1, 1) := by decide +kernel
theorem dX5_bestWorth_92 : decode cX5_bestWorth 92 = .ok (.iload 5, 2) := by decide +kernel
theorem dX5_bestWorth_94 : decode cX5_bestWorth 94 = .ok (.invokevirtual 112, 3) := by decide +kernel
theorem dX5_bestWorth_97 : decode cX5_bestWorth 97 = .ok (.aload_n 0, 1) := by decide +kernel
theorem dX5_bestWorth_98 : decode cX5_bestWorth 98 = .ok (.bipush 10, 2) := by decide +kernel
theorem dX5_bestWorth_100 : decode cX5_bestWorth 100 = .ok (.iload_n 1, 1) := by decide +kernel
theorem dX5_bestWorth_101 : decode cX5_bestWorth 101 = .ok (.imul, 1) := by decide +kernel
theorem dX5_bestWorth_102 : decode cX5_bestWorth 102 = .ok (.iload 6, 2) := by decide +kernel
theorem dX5_bestWorth_104 : decode cX5_bestWorth 104 = .ok (.iadd, 1) := by decide +kernel
theorem dX5_bestWorth_105 : decode cX5_bestWorth 105 = .ok (.invokevirtual 131, 3) := by decide +kernel
theorem dX5_bestWorth_108 : decode cX5_bestWorth 108 = .ok (.isub, 1) := by decide +kernel
theorem dX5_bestWorth_109 : decode cX5_bestWorth 109 = .ok (.istore 7, 2) := by decide +kernel
theorem dX5_bestWorth_111 : decode cX5_bestWorth 111 = .ok (.iload_n 3, 1) := by decide +kernel
theorem dX5_bestWorth_112 : decode cX5_bestWorth 112 = .ok (.iload 7, 2) := by decide +kernel
theorem dX5_bestWorth_114 : decode cX5_bestWorth 114 = .ok (.ifCond .le 8, 3) := by decide +kernel
theorem dX5_bestWorth_117 : decode cX5_bestWorth 117 = .ok (.iload 7, 2) := by decide +kernel
theorem dX5_bestWorth_119 : decode cX5_bestWorth 119 = .ok (.goto 4, 3) := by decide +kernel
theorem dX5_bestWorth_122 : decode cX5_bestWorth 122 = .ok (.iconst 0, 1) := by decide +kernel
theorem dX5_bestWorth_123 : decode cX5_bestWorth 123 = .ok (.iadd, 1) := by decide +kernel
theorem dX5_bestWorth_124 : decode cX5_bestWorth 124 = .ok (.istore_n 3, 1) := by decide +kernel
theorem dX5_bestWorth_125 : decode cX5_bestWorth 125 = .ok (.aload_n 0, 1) := by decide +kernel
theorem dX5_bestWorth_126 : decode cX5_bestWorth 126 = .ok (.getfield 74, 3) := by decide +kernel
theorem dX5_bestWorth_129 : decode cX5_bestWorth 129 = .ok (.iload 5, 2) := by decide +kernel
theorem dX5_bestWorth_131 : decode cX5_bestWorth 131 = .ok (.iconst 1, 1) := by decide +kernel
theorem dX5_bestWorth_132 : decode cX5_bestWorth 132 = .ok (.bastore, 1) := by decide +kernel
theorem dX5_bestWorth_133 : decode cX5_bestWorth 133 = .ok (.aload_n 0, 1) := by decide +kernel
theorem dX5_bestWorth_134 : decode cX5_bestWorth 134 = .ok (.getfield 77, 3) := by decide +kernel
theorem dX5_bestWorth_137 : decode cX5_bestWorth 137 = .ok (.iload 6, 2) := by decide +kernel
theorem dX5_bestWorth_139 : decode cX5_bestWorth 139 = .ok (.iconst 1, 1) := by decide +kernel
theorem dX5_bestWorth_140 : decode cX5_bestWorth 140 = .ok (.bastore, 1) := by decide +kernel
theorem dX5_bestWorth_141 : decode cX5_bestWorth 141 = .ok (.iinc 4 1, 3) := by decide +kernel
theorem dX5_bestWorth_144 : decode cX5_bestWorth 144 = .ok (.goto (-79), 3) := by decide +kernel
theorem dX5_bestWorth_147 : decode cX5_bestWorth 147 = .ok (.iload_n 3, 1) := by decide +kernel
theorem dX5_bestWorth_148 : decode cX5_bestWorth 148 = .ok (.ireturn, 1) := by decide +kernel
set_option maxRecDepth 20000 in
theorem ggX5_wornShare_X5_no : GoodIn wsX5_wornShare wsX5_no := goodIn_r _ [8, 9, 10, 11, 12, 13, 14, 15, 16, 17, 18, 19, 20, 21, 22, 23, 24, 25, 26, 27, 28, 29, 30, 31, 32, 33, 34, 35, 36, 37, 38, 39] (by decide +kernel) (by decide +kernel)
set_option maxRecDepth 20000 in
theorem gX5_wornShare_X5_no : GoodIn wsX5_wornShare (wsV RX5 104 RX5 yX5_no wsX5_no) := goodIn_app (goodIn_of _ (by decide +kernel)) ggX5_wornShare_X5_no
theorem dX5_wornShare_0 : decode cX5_wornShare 0 = .ok (.iconst 0, 1) := by decide +kernel
theorem dX5_wornShare_1 : decode cX5_wornShare 1 = .ok (.istore_n 1, 1) := by decide +kernel
theorem dX5_wornShare_2 : decode cX5_wornShare 2 = .ok (.iconst 0, 1) := by decide +kernel
theorem dX5_wornShare_3 : decode cX5_wornShare 3 = .ok (.istore_n 2, 1) := by decide +kernel
theorem dX5_wornShare_4 : decode cX5_wornShare 4 = .ok (.iconst 0, 1) := by decide +kernel
theorem dX5_wornShare_5 : decode cX5_wornShare 5 = .ok (.istore_n 3, 1) := by decide +kernel
theorem dX5_wornShare_6 : decode cX5_wornShare 6 = .ok (.iload_n 3, 1) := by decide +kernel
theorem dX5_wornShare_7 : decode cX5_wornShare 7 = .ok (.aload_n 0, 1) := by decide +kernel
theorem dX5_wornShare_8 : decode cX5_wornShare 8 = .ok (.getfield 90, 3) := by decide +kernel
theorem dX5_wornShare_11 : decode cX5_wornShare 11 = .ok (.if_icmp .ge 58, 3) := by decide +kernel
theorem dX5_wornShare_14 : decode cX5_wornShare 14 = .ok (.iload_n 1, 1) := by decide +kernel
theorem dX5_wornShare_15 : decode cX5_wornShare 15 = .ok (.aload_n 0, 1) := by decide +kernel
theorem dX5_wornShare_16 : decode cX5_wornShare 16 = .ok (.getfield 22, 3) := by decide +kernel
theorem dX5_wornShare_19 : decode cX5_wornShare 19 = .ok (.iload_n 3, 1) := by decide +kernel
theorem dX5_wornShare_20 : decode cX5_wornShare 20 = .ok (.iaload, 1) := by decide +kernel
theorem dX5_wornShare_21 : decode cX5_wornShare 21 = .ok (.bipush (-2), 2) := by decide +kernel
theorem dX5_wornShare_23 : decode cX5_wornShare 23 = .ok (.if_icmp .eq 7, 3) := by decide +kernel
theorem dX5_wornShare_26 : decode cX5_wornShare 26 = .ok (.iconst 1, 1) := by decide +kernel
theorem dX5_wornShare_27 : decode cX5_wornShare 27 = .ok (.goto 4, 3) := by decide +kernel
theorem dX5_wornShare_30 : decode cX5_wornShare 30 = .ok (.iconst 0, 1) := by decide +kernel
theorem dX5_wornShare_31 : decode cX5_wornShare 31 = .ok (.iadd, 1) := by decide +kernel
theorem dX5_wornShare_32 : decode cX5_wornShare 32 = .ok (.istore_n 1, 1) := by decide +kernel
theorem dX5_wornShare_33 : decode cX5_wornShare 33 = .ok (.iload_n 2, 1) := by decide +kernel
theorem dX5_wornShare_34 : decode cX5_wornShare 34 = .ok (.aload_n 0, 1) := by decide +kernel
theorem dX5_wornShare_35 : decode cX5_wornShare 35 = .ok (.getfield 22, 3) := by decide +kernel
theorem dX5_wornShare_38 : decode cX5_wornShare 38 = .ok (.iload_n 3, 1) := by decide +kernel
theorem dX5_wornShare_39 : decode cX5_wornShare 39 = .ok (.iaload, 1) := by decide +kernel
theorem dX5_wornShare_40 : decode cX5_wornShare 40 = .ok (.bipush (-2), 2) := by decide +kernel
theorem dX5_wornShare_42 : decode cX5_wornShare 42 = .ok (.if_icmp .eq 18, 3) := by decide +kernel
theorem dX5_wornShare_45 : decode cX5_wornShare 45 = .ok (.aload_n 0, 1) := by decide +kernel
theorem dX5_wornShare_46 : decode cX5_wornShare 46 = .ok (.getfield 19, 3) := by decide +kernel
theorem dX5_wornShare_49 : decode cX5_wornShare 49 = .ok (.iload_n 3, 1) := by decide +kernel
theorem dX5_wornShare_50 : decode cX5_wornShare 50 = .ok (.iaload, 1) := by decide +kernel
theorem dX5_wornShare_51 : decode cX5_wornShare 51 = .ok (.bipush 60, 2) := by decide +kernel
theorem dX5_wornShare_53 : decode cX5_wornShare 53 = .ok (.if_icmp .lt 7, 3) := by decide +kernel
theorem dX5_wornShare_56 : decode cX5_wornShare 56 = .ok (.iconst 1, 1) := by decide +kernel
theorem dX5_wornShare_57 : decode cX5_wornShare 57 = .ok (.goto 4, 3) := by decide +kernel
theorem dX5_wornShare_60 : decode cX5_wornShare 60 = .ok (.iconst 0, 1) := by decide +kernel
theorem dX5_wornShare_61 : decode cX5_wornShare 61 = .ok (.iadd, 1) := by decide +kernel
theorem dX5_wornShare_62 : decode cX5_wornShare 62 = .ok (.istore_n 2, 1) := by decide +kernel
theorem dX5_wornShare_63 : decode cX5_wornShare 63 = .ok (.iinc 3 1, 3) := by decide +kernel
theorem dX5_wornShare_66 : decode cX5_wornShare 66 = .ok (.goto (-60), 3) := by decide +kernel
theorem dX5_wornShare_69 : decode cX5_wornShare 69 = .ok (.aload_n 0, 1) := by decide +kernel
theorem dX5_wornShare_70 : decode cX5_wornShare 70 = .ok (.iload_n 1, 1) := by decide +kernel
theorem dX5_wornShare_71 : decode cX5_wornShare 71 = .ok (.ifCond .le 7, 3) := by decide +kernel
theorem dX5_wornShare_74 : decode cX5_wornShare 74 = .ok (.iconst 1, 1) := by decide +kernel
theorem dX5_wornShare_75 : decode cX5_wornShare 75 = .ok (.goto 4, 3) := by decide +kernel
theorem dX5_wornShare_78 : decode cX5_wornShare 78 = .ok (.iconst 0, 1) := by decide +kernel
theorem dX5_wornShare_79 : decode cX5_wornShare 79 = .ok (.iconst 1, 1) := by decide +kernel
theorem dX5_wornShare_80 : decode cX5_wornShare 80 = .ok (.invokevirtual 104, 3) := by decide +kernel
theorem dX5_wornShare_83 : decode cX5_wornShare 83 = .ok (.ifCond .eq 7, 3) := by decide +kernel
theorem dX5_wornShare_86 : decode cX5_wornShare 86 = .ok (.fconst 0, 1) := by decide +kernel
theorem dX5_wornShare_87 : decode cX5_wornShare 87 = .ok (.goto 8, 3) := by decide +kernel
theorem dX5_wornShare_90 : decode cX5_wornShare 90 = .ok (.iload_n 2, 1) := by decide +kernel
theorem dX5_wornShare_91 : decode cX5_wornShare 91 = .ok (.i2f, 1) := by decide +kernel
theorem dX5_wornShare_92 : decode cX5_wornShare 92 = .ok (.iload_n 1, 1) := by decide +kernel
theorem dX5_wornShare_93 : decode cX5_wornShare 93 = .ok (.i2f, 1) := by decide +kernel
theorem dX5_wornShare_94 : decode cX5_wornShare 94 = .ok (.fdiv, 1) := by decide +kernel
theorem dX5_wornShare_95 : decode cX5_wornShare 95 = .ok (.freturn, 1) := by decide +kernel
set_option maxRecDepth 20000 in
theorem ggX5_meanPull_X5_pullOfSlot : GoodIn wsX5_meanPull wsX5_pullOfSlot := goodIn_ca (goodIn_r _ [6, 1, 7, 8, 9, 5, 10, 11, 12, 13, 14, 15, 16, 17, 23, 24, 25, 26, 27, 28, 29, 30, 31, 32, 33, 34, 35, 36, 37, 38, 39, 40, 41, 42, 43, 44, 45, 46, 47, 48, 49, 50, 51, 52] (by decide +kernel) (by decide +kernel)) (goodIn_sub (fun _ h => List.mem_cons_of_mem _ (List.mem_append_right _ h)) (by decide +kernel))
set_option maxRecDepth 20000 in
theorem gX5_meanPull_X5_pullOfSlot : GoodIn wsX5_meanPull (wsV RX5 131 RX5 yX5_pullOfSlot wsX5_pullOfSlot) := goodIn_app (goodIn_of _ (by decide +kernel)) ggX5_meanPull_X5_pullOfSlot
set_option maxRecDepth 20000 in
theorem ggX5_meanPull_X5_no : GoodIn wsX5_meanPull wsX5_no := goodIn_r _ [21, 22, 23, 24, 25, 26, 27, 28, 29, 30, 31, 32, 33, 34, 35, 36, 37, 38, 39, 40, 41, 42, 43, 44, 45, 46, 47, 48, 49, 50, 51, 52] (by decide +kernel) (by decide +kernel)
set_option maxRecDepth 20000 in
theorem gX5_meanPull_X5_no : GoodIn wsX5_meanPull (wsV RX5 104 RX5 yX5_no wsX5_no) := goodIn_app (goodIn_of _ (by decide +kernel)) ggX5_meanPull_X5_no
theorem dX5_meanPull_0 : decode cX5_meanPull 0 = .ok (.iconst 0, 1) := by decide +kernel
theorem dX5_meanPull_1 : decode cX5_meanPull 1 = .ok (.istore_n 1, 1) := by decide +kernel
theorem dX5_meanPull_2 : decode cX5_meanPull 2 = .ok (.iconst 0, 1) := by decide +kernel
theorem dX5_meanPull_3 : decode cX5_meanPull 3 = .ok (.istore_n 2, 1) := by decide +kernel
theorem dX5_meanPull_4 : decode cX5_meanPull 4 = .ok (.iconst 0, 1) := by decide +kernel
theorem dX5_meanPull_5 : decode cX5_meanPull 5 = .ok (.istore_n 3, 1) := by decide +kernel
theorem dX5_meanPull_6 : decode cX5_meanPull 6 = .ok (.iload_n 3, 1) := by decide +kernel
theorem dX5_meanPull_7 : decode cX5_meanPull 7 = .ok (.bipush 40, 2) := by decide +kernel
theorem dX5_meanPull_9 : decode cX5_meanPull 9 = .ok (.if_icmp .ge 34, 3) := by decide +kernel
theorem dX5_meanPull_12 : decode cX5_meanPull 12 = .ok (.iload_n 1, 1) := by decide +kernel
theorem dX5_meanPull_13 : decode cX5_meanPull 13 = .ok (.aload_n 0, 1) := by decide +kernel
theorem dX5_meanPull_14 : decode cX5_meanPull 14 = .ok (.getfield 65, 3) := by decide +kernel
theorem dX5_meanPull_17 : decode cX5_meanPull 17 = .ok (.iload_n 3, 1) := by decide +kernel
theorem dX5_meanPull_18 : decode cX5_meanPull 18 = .ok (.iaload, 1) := by decide +kernel
theorem dX5_meanPull_19 : decode cX5_meanPull 19 = .ok (.ifCond .le 7, 3) := by decide +kernel
theorem dX5_meanPull_22 : decode cX5_meanPull 22 = .ok (.iconst 1, 1) := by decide +kernel
theorem dX5_meanPull_23 : decode cX5_meanPull 23 = .ok (.goto 4, 3) := by decide +kernel
theorem dX5_meanPull_26 : decode cX5_meanPull 26 = .ok (.iconst 0, 1) := by decide +kernel
theorem dX5_meanPull_27 : decode cX5_meanPull 27 = .ok (.iadd, 1) := by decide +kernel
theorem dX5_meanPull_28 : decode cX5_meanPull 28 = .ok (.istore_n 1, 1) := by decide +kernel
theorem dX5_meanPull_29 : decode cX5_meanPull 29 = .ok (.iload_n 2, 1) := by decide +kernel
theorem dX5_meanPull_30 : decode cX5_meanPull 30 = .ok (.aload_n 0, 1) := by decide +kernel
theorem dX5_meanPull_31 : decode cX5_meanPull 31 = .ok (.iload_n 3, 1) := by decide +kernel
theorem dX5_meanPull_32 : decode cX5_meanPull 32 = .ok (.invokevirtual 131, 3) := by decide +kernel
theorem dX5_meanPull_35 : decode cX5_meanPull 35 = .ok (.iadd, 1) := by decide +kernel
theorem dX5_meanPull_36 : decode cX5_meanPull 36 = .ok (.istore_n 2, 1) := by decide +kernel
theorem dX5_meanPull_37 : decode cX5_meanPull 37 = .ok (.iinc 3 1, 3) := by decide +kernel
theorem dX5_meanPull_40 : decode cX5_meanPull 40 = .ok (.goto (-34), 3) := by decide +kernel
theorem dX5_meanPull_43 : decode cX5_meanPull 43 = .ok (.aload_n 0, 1) := by decide +kernel
theorem dX5_meanPull_44 : decode cX5_meanPull 44 = .ok (.iload_n 1, 1) := by decide +kernel
theorem dX5_meanPull_45 : decode cX5_meanPull 45 = .ok (.ifCond .le 7, 3) := by decide +kernel
theorem dX5_meanPull_48 : decode cX5_meanPull 48 = .ok (.iconst 1, 1) := by decide +kernel
theorem dX5_meanPull_49 : decode cX5_meanPull 49 = .ok (.goto 4, 3) := by decide +kernel
theorem dX5_meanPull_52 : decode cX5_meanPull 52 = .ok (.iconst 0, 1) := by decide +kernel
theorem dX5_meanPull_53 : decode cX5_meanPull 53 = .ok (.iconst 1, 1) := by decide +kernel
theorem dX5_meanPull_54 : decode cX5_meanPull 54 = .ok (.invokevirtual 104, 3) := by decide +kernel
theorem dX5_meanPull_57 : decode cX5_meanPull 57 = .ok (.ifCond .eq 7, 3) := by decide +kernel
theorem dX5_meanPull_60 : decode cX5_meanPull 60 = .ok (.dconst 0, 1) := by decide +kernel
theorem dX5_meanPull_61 : decode cX5_meanPull 61 = .ok (.goto 8, 3) := by decide +kernel
theorem dX5_meanPull_64 : decode cX5_meanPull 64 = .ok (.iload_n 2, 1) := by decide +kernel
theorem dX5_meanPull_65 : decode cX5_meanPull 65 = .ok (.i2d, 1) := by decide +kernel
theorem dX5_meanPull_66 : decode cX5_meanPull 66 = .ok (.iload_n 1, 1) := by decide +kernel
theorem dX5_meanPull_67 : decode cX5_meanPull 67 = .ok (.i2d, 1) := by decide +kernel
theorem dX5_meanPull_68 : decode cX5_meanPull 68 = .ok (.ddiv, 1) := by decide +kernel
theorem dX5_meanPull_69 : decode cX5_meanPull 69 = .ok (.dreturn, 1) := by decide +kernel
theorem dX5_checksum_0 : decode cX5_checksum 0 = .ok (.ldc2_w 147, 3) := by decide +kernel
theorem dX5_checksum_3 : decode cX5_checksum 3 = .ok (.lstore_n 1, 1) := by decide +kernel
theorem dX5_checksum_4 : decode cX5_checksum 4 = .ok (.iconst 0, 1) := by decide +kernel
theorem dX5_checksum_5 : decode cX5_checksum 5 = .ok (.istore_n 3, 1) := by decide +kernel
theorem dX5_checksum_6 : decode cX5_checksum 6 = .ok (.iload_n 3, 1) := by decide +kernel
theorem dX5_checksum_7 : decode cX5_checksum 7 = .ok (.aload_n 0, 1) := by decide +kernel
theorem dX5_checksum_8 : decode cX5_checksum 8 = .ok (.getfield 90, 3) := by decide +kernel
theorem dX5_checksum_11 : decode cX5_checksum 11 = .ok (.if_icmp .ge 23, 3) := by decide +kernel
theorem dX5_checksum_14 : decode cX5_checksum 14 = .ok (.ldc2_w 149, 3) := by decide +kernel
theorem dX5_checksum_17 : decode cX5_checksum 17 = .ok (.lload_n 1, 1) := by decide +kernel
theorem dX5_checksum_18 : decode cX5_checksum 18 = .ok (.lmul, 1) := by decide +kernel
theorem dX5_checksum_19 : decode cX5_checksum 19 = .ok (.aload_n 0, 1) := by decide +kernel
theorem dX5_checksum_20 : decode cX5_checksum 20 = .ok (.getfield 19, 3) := by decide +kernel
theorem dX5_checksum_23 : decode cX5_checksum 23 = .ok (.iload_n 3, 1) := by decide +kernel
theorem dX5_checksum_24 : decode cX5_checksum 24 = .ok (.iaload, 1) := by decide +kernel
theorem dX5_checksum_25 : decode cX5_checksum 25 = .ok (.i2l, 1) := by decide +kernel
theorem dX5_checksum_26 : decode cX5_checksum 26 = .ok (.ladd, 1) := by decide +kernel
theorem dX5_checksum_27 : decode cX5_checksum 27 = .ok (.lstore_n 1, 1) := by decide +kernel
theorem dX5_checksum_28 : decode cX5_checksum 28 = .ok (.iinc 3 1, 3) := by decide +kernel
theorem dX5_checksum_31 : decode cX5_checksum 31 = .ok (.goto (-25), 3) := by decide +kernel
theorem dX5_checksum_34 : decode cX5_checksum 34 = .ok (.iconst 0, 1) := by decide +kernel
theorem dX5_checksum_35 : decode cX5_checksum 35 = .ok (.istore_n 3, 1) := by decide +kernel
theorem dX5_checksum_36 : decode cX5_checksum 36 = .ok (.iload_n 3, 1) := by decide +kernel
theorem dX5_checksum_37 : decode cX5_checksum 37 = .ok (.aload_n 0, 1) := by decide +kernel
theorem dX5_checksum_38 : decode cX5_checksum 38 = .ok (.getfield 97, 3) := by decide +kernel
theorem dX5_checksum_41 : decode cX5_checksum 41 = .ok (.if_icmp .ge 51, 3) := by decide +kernel
theorem dX5_checksum_44 : decode cX5_checksum 44 = .ok (.ldc2_w 149, 3) := by decide +kernel
theorem dX5_checksum_47 : decode cX5_checksum 47 = .ok (.lload_n 1, 1) := by decide +kernel
theorem dX5_checksum_48 : decode cX5_checksum 48 = .ok (.lmul, 1) := by decide +kernel
theorem dX5_checksum_49 : decode cX5_checksum 49 = .ok (.aload_n 0, 1) := by decide +kernel
theorem dX5_checksum_50 : decode cX5_checksum 50 = .ok (.getfield 37, 3) := by decide +kernel
theorem dX5_checksum_53 : decode cX5_checksum 53 = .ok (.iload_n 3, 1) := by decide +kernel
theorem dX5_checksum_54 : decode cX5_checksum 54 = .ok (.iaload, 1) := by decide +kernel
theorem dX5_checksum_55 : decode cX5_checksum 55 = .ok (.i2l, 1) := by decide +kernel
theorem dX5_checksum_56 : decode cX5_checksum 56 = .ok (.ladd, 1) := by decide +kernel
theorem dX5_checksum_57 : decode cX5_checksum 57 = .ok (.lstore_n 1, 1) := by decide +kernel
theorem dX5_checksum_58 : decode cX5_checksum 58 = .ok (.ldc2_w 149, 3) := by decide +kernel
theorem dX5_checksum_61 : decode cX5_checksum 61 = .ok (.lload_n 1, 1) := by decide +kernel
theorem dX5_checksum_62 : decode cX5_checksum 62 = .ok (.lmul, 1) := by decide +kernel
theorem dX5_checksum_63 : decode cX5_checksum 63 = .ok (.aload_n 0, 1) := by decide +kernel
theorem dX5_checksum_64 : decode cX5_checksum 64 = .ok (.getfield 34, 3) := by decide +kernel
theorem dX5_checksum_67 : decode cX5_checksum 67 = .ok (.iload_n 3, 1) := by decide +kernel
theorem dX5_checksum_68 : decode cX5_checksum 68 = .ok (.iaload, 1) := by decide +kernel
theorem dX5_checksum_69 : decode cX5_checksum 69 = .ok (.i2l, 1) := by decide +kernel
theorem dX5_checksum_70 : decode cX5_checksum 70 = .ok (.ladd, 1) := by decide +kernel
theorem dX5_checksum_71 : decode cX5_checksum 71 = .ok (.lstore_n 1, 1) := by decide +kernel
theorem dX5_checksum_72 : decode cX5_checksum 72 = .ok (.ldc2_w 149, 3) := by decide +kernel
theorem dX5_checksum_75 : decode cX5_checksum 75 = .ok (.lload_n 1, 1) := by decide +kernel
theorem dX5_checksum_76 : decode cX5_checksum 76 = .ok (.lmul, 1) := by decide +kernel
theorem dX5_checksum_77 : decode cX5_checksum 77 = .ok (.aload_n 0, 1) := by decide +kernel
theorem dX5_checksum_78 : decode cX5_checksum 78 = .ok (.getfield 40, 3) := by decide +kernel
theorem dX5_checksum_81 : decode cX5_checksum 81 = .ok (.iload_n 3, 1) := by decide +kernel
theorem dX5_checksum_82 : decode cX5_checksum 82 = .ok (.iaload, 1) := by decide +kernel
theorem dX5_checksum_83 : decode cX5_checksum 83 = .ok (.i2l, 1) := by decide +kernel
theorem dX5_checksum_84 : decode cX5_checksum 84 = .ok (.ladd, 1) := by decide +kernel
theorem dX5_checksum_85 : decode cX5_checksum 85 = .ok (.lstore_n 1, 1) := by decide +kernel
theorem dX5_checksum_86 : decode cX5_checksum 86 = .ok (.iinc 3 1, 3) := by decide +kernel
theorem dX5_checksum_89 : decode cX5_checksum 89 = .ok (.goto (-53), 3) := by decide +kernel
theorem dX5_checksum_92 : decode cX5_checksum 92 = .ok (.ldc2_w 149, 3) := by decide +kernel
theorem dX5_checksum_95 : decode cX5_checksum 95 = .ok (.lload_n 1, 1) := by decide +kernel
theorem dX5_checksum_96 : decode cX5_checksum 96 = .ok (.lmul, 1) := by decide +kernel
theorem dX5_checksum_97 : decode cX5_checksum 97 = .ok (.aload_n 0, 1) := by decide +kernel
theorem dX5_checksum_98 : decode cX5_checksum 98 = .ok (.getfield 135, 3) := by decide +kernel
theorem dX5_checksum_101 : decode cX5_checksum 101 = .ok (.i2l, 1) := by decide +kernel
theorem dX5_checksum_102 : decode cX5_checksum 102 = .ok (.ladd, 1) := by decide +kernel
theorem dX5_checksum_103 : decode cX5_checksum 103 = .ok (.lstore_n 1, 1) := by decide +kernel
theorem dX5_checksum_104 : decode cX5_checksum 104 = .ok (.ldc2_w 149, 3) := by decide +kernel
theorem dX5_checksum_107 : decode cX5_checksum 107 = .ok (.lload_n 1, 1) := by decide +kernel
theorem dX5_checksum_108 : decode cX5_checksum 108 = .ok (.lmul, 1) := by decide +kernel
theorem dX5_checksum_109 : decode cX5_checksum 109 = .ok (.aload_n 0, 1) := by decide +kernel
theorem dX5_checksum_110 : decode cX5_checksum 110 = .ok (.getfield 80, 3) := by decide +kernel
theorem dX5_checksum_113 : decode cX5_checksum 113 = .ok (.i2l, 1) := by decide +kernel
theorem dX5_checksum_114 : decode cX5_checksum 114 = .ok (.ladd, 1) := by decide +kernel
theorem dX5_checksum_115 : decode cX5_checksum 115 = .ok (.lreturn, 1) := by decide +kernel
theorem dX5_isSound_0 : decode cX5_isSound 0 = .ok (.iconst 1, 1) := by decide +kernel
theorem dX5_isSound_1 : decode cX5_isSound 1 = .ok (.ireturn, 1) := by decide +kernel
theorem dJx00060_init_a7421_0 : decode cJx00060_init_a7421 0 = .ok (.aload_n 0, 1) := by decide +kernel
theorem dJx00060_init_a7421_1 : decode cJx00060_init_a7421 1 = .ok (.aload_n 1, 1) := by decide +kernel
theorem dJx00060_init_a7421_2 : decode cJx00060_init_a7421 2 = .ok (.invokespecial 7, 3) := by decide +kernel
theorem dJx00060_init_a7421_5 : decode cJx00060_init_a7421 5 = .ok (.return_, 1) := by decide +kernel
theorem dJ9_max_7cf53_0 : decode cJ9_max_7cf53 0 = .ok (.iload_n 0, 1) := by decide +kernel
theorem dJ9_max_7cf53_1 : decode cJ9_max_7cf53 1 = .ok (.iload_n 1, 1) := by decide +kernel
theorem dJ9_max_7cf53_2 : decode cJ9_max_7cf53 2 = .ok (.if_icmp .lt 7, 3) := by decide +kernel
theorem dJ9_max_7cf53_5 : decode cJ9_max_7cf53 5 = .ok (.iload_n 0, 1) := by decide +kernel
theorem dJ9_max_7cf53_6 : decode cJ9_max_7cf53 6 = .ok (.goto 4, 3) := by decide +kernel
theorem dJ9_max_7cf53_9 : decode cJ9_max_7cf53 9 = .ok (.iload_n 1, 1) := by decide +kernel
theorem dJ9_max_7cf53_10 : decode cJ9_max_7cf53 10 = .ok (.ireturn, 1) := by decide +kernel
theorem dJ9_min_7cf53_0 : decode cJ9_min_7cf53 0 = .ok (.iload_n 0, 1) := by decide +kernel
theorem dJ9_min_7cf53_1 : decode cJ9_min_7cf53 1 = .ok (.iload_n 1, 1) := by decide +kernel
theorem dJ9_min_7cf53_2 : decode cJ9_min_7cf53 2 = .ok (.if_icmp .gt 7, 3) := by decide +kernel
theorem dJ9_min_7cf53_5 : decode cJ9_min_7cf53 5 = .ok (.iload_n 0, 1) := by decide +kernel
theorem dJ9_min_7cf53_6 : decode cJ9_min_7cf53 6 = .ok (.goto 4, 3) := by decide +kernel
theorem dJ9_min_7cf53_9 : decode cJ9_min_7cf53 9 = .ok (.iload_n 1, 1) := by decide +kernel
theorem dJ9_min_7cf53_10 : decode cJ9_min_7cf53 10 = .ok (.ireturn, 1) := by decide +kernel
theorem dJxa1e45_init_da8c8_0 : decode cJxa1e45_init_da8c8 0 = .ok (.aload_n 0, 1) := by decide +kernel
theorem dJxa1e45_init_da8c8_1 : decode cJxa1e45_init_da8c8 1 = .ok (.invokespecial 1, 3) := by decide +kernel
theorem dJxa1e45_init_da8c8_4 : decode cJxa1e45_init_da8c8 4 = .ok (.return_, 1) := by decide +kernel
set_option maxRecDepth 20000 in
theorem ggJxc12de_init_da8c8_Jxa1e45_init_da8c8 : GoodIn wsJxc12de_init_da8c8 wsJxa1e45_init_da8c8 := goodIn_r _ [5, 6, 7, 8] (by decide +kernel) (by decide +kernel)
set_option maxRecDepth 20000 in
theorem gJxc12de_init_da8c8_Jxa1e45_init_da8c8 : GoodIn wsJxc12de_init_da8c8 (wsJxa1e45_init_da8c8) := ggJxc12de_init_da8c8_Jxa1e45_init_da8c8
theorem dJxc12de_init_da8c8_0 : decode cJxc12de_init_da8c8 0 = .ok (.aload_n 0, 1) := by decide +kernel
theorem dJxc12de_init_da8c8_1 : decode cJxc12de_init_da8c8 1 = .ok (.invokespecial 1, 3) := by decide +kernel
theorem dJxc12de_init_da8c8_4 : decode cJxc12de_init_da8c8 4 = .ok (.aload_n 0, 1) := by decide +kernel
theorem dJxc12de_init_da8c8_5 : decode cJxc12de_init_da8c8 5 = .ok (.iconst 0, 1) := by decide +kernel
theorem dJxc12de_init_da8c8_6 : decode cJxc12de_init_da8c8 6 = .ok (.putfield 7, 3) := by decide +kernel
theorem dJxc12de_init_da8c8_9 : decode cJxc12de_init_da8c8 9 = .ok (.return_, 1) := by decide +kernel
set_option maxRecDepth 20000 in
theorem ggJx4a65c_init_da8c8_Jxc12de_init_da8c8 : GoodIn wsJx4a65c_init_da8c8 wsJxc12de_init_da8c8 := goodIn_r _ [6, 7, 8, 9, 10, 11, 12, 13, 14, 15, 16, 17] (by decide +kernel) (by decide +kernel)
set_option maxRecDepth 20000 in
theorem gJx4a65c_init_da8c8_Jxc12de_init_da8c8 : GoodIn wsJx4a65c_init_da8c8 (wsJxc12de_init_da8c8) := ggJx4a65c_init_da8c8_Jxc12de_init_da8c8
theorem dJx4a65c_init_da8c8_0 : decode cJx4a65c_init_da8c8 0 = .ok (.aload_n 0, 1) := by decide +kernel
theorem dJx4a65c_init_da8c8_1 : decode cJx4a65c_init_da8c8 1 = .ok (.invokespecial 1, 3) := by decide +kernel
theorem dJx4a65c_init_da8c8_4 : decode cJx4a65c_init_da8c8 4 = .ok (.aload_n 0, 1) := by decide +kernel
theorem dJx4a65c_init_da8c8_5 : decode cJx4a65c_init_da8c8 5 = .ok (.getstatic 39, 3) := by decide +kernel
theorem dJx4a65c_init_da8c8_8 : decode cJx4a65c_init_da8c8 8 = .ok (.putfield 9, 3) := by decide +kernel
theorem dJx4a65c_init_da8c8_11 : decode cJx4a65c_init_da8c8 11 = .ok (.return_, 1) := by decide +kernel
set_option maxRecDepth 20000 in
theorem ggJx4a65c_grow_92f84_J8_newLength_cabcc : GoodIn wsJx4a65c_grow_92f84 wsJ8_newLength_cabcc := goodIn_r _ [11, 12, 4, 5, 6, 13, 14, 15, 10, 16] (by decide +kernel) (by decide +kernel)
set_option maxRecDepth 20000 in
theorem gJx4a65c_grow_92f84_J8_newLength_cabcc : GoodIn wsJx4a65c_grow_92f84 (va_wsS RJx4a65c 73 yJ8_newLength_cabcc wsJ8_newLength_cabcc) := goodIn_app (goodIn_of _ (by decide +kernel)) ggJx4a65c_grow_92f84_J8_newLength_cabcc
set_option maxRecDepth 20000 in
theorem ggJx4a65c_grow_92f84_J7_copyOf_1904c : GoodIn wsJx4a65c_grow_92f84 wsJ7_copyOf_1904c := goodIn_r _ [20, 21, 22, 23, 24, 25, 26, 19, 27, 28, 29, 30, 31, 5, 32, 33, 34, 35, 36] (by decide +kernel) (by decide +kernel)
set_option maxRecDepth 20000 in
theorem gJx4a65c_grow_92f84_J7_copyOf_1904c : GoodIn wsJx4a65c_grow_92f84 (va_wsS RJx4a65c 66 yJ7_copyOf_1904c wsJ7_copyOf_1904c) := goodIn_app (goodIn_of _ (by decide +kernel)) ggJx4a65c_grow_92f84_J7_copyOf_1904c
theorem dJx4a65c_grow_92f84_0 : decode cJx4a65c_grow_92f84 0 = .ok (.aload_n 0, 1) := by decide +kernel
theorem dJx4a65c_grow_92f84_1 : decode cJx4a65c_grow_92f84 1 = .ok (.getfield 9, 3) := by decide +kernel
theorem dJx4a65c_grow_92f84_4 : decode cJx4a65c_grow_92f84 4 = .ok (.arraylength, 1) := by decide +kernel
theorem dJx4a65c_grow_92f84_5 : decode cJx4a65c_grow_92f84 5 = .ok (.istore_n 2, 1) := by decide +kernel
theorem dJx4a65c_grow_92f84_6 : decode cJx4a65c_grow_92f84 6 = .ok (.iload_n 2, 1) := by decide +kernel
theorem dJx4a65c_grow_92f84_7 : decode cJx4a65c_grow_92f84 7 = .ok (.ifCond .gt 13, 3) := by decide +kernel
theorem dJx4a65c_grow_92f84_10 : decode cJx4a65c_grow_92f84 10 = .ok (.aload_n 0, 1) := by decide +kernel
theorem dJx4a65c_grow_92f84_11 : decode cJx4a65c_grow_92f84 11 = .ok (.getfield 9, 3) := by decide +kernel
theorem dJx4a65c_grow_92f84_14 : decode cJx4a65c_grow_92f84 14 = .ok (.getstatic 39, 3) := by decide +kernel
theorem dJx4a65c_grow_92f84_17 : decode cJx4a65c_grow_92f84 17 = .ok (.if_acmp .eq 28, 3) := by decide +kernel
theorem dJx4a65c_grow_92f84_20 : decode cJx4a65c_grow_92f84 20 = .ok (.iload_n 2, 1) := by decide +kernel
theorem dJx4a65c_grow_92f84_21 : decode cJx4a65c_grow_92f84 21 = .ok (.iload_n 1, 1) := by decide +kernel
theorem dJx4a65c_grow_92f84_22 : decode cJx4a65c_grow_92f84 22 = .ok (.iload_n 2, 1) := by decide +kernel
theorem dJx4a65c_grow_92f84_23 : decode cJx4a65c_grow_92f84 23 = .ok (.isub, 1) := by decide +kernel
theorem dJx4a65c_grow_92f84_24 : decode cJx4a65c_grow_92f84 24 = .ok (.iload_n 2, 1) := by decide +kernel
theorem dJx4a65c_grow_92f84_25 : decode cJx4a65c_grow_92f84 25 = .ok (.iconst 1, 1) := by decide +kernel
theorem dJx4a65c_grow_92f84_26 : decode cJx4a65c_grow_92f84 26 = .ok (.ishr, 1) := by decide +kernel
theorem dJx4a65c_grow_92f84_27 : decode cJx4a65c_grow_92f84 27 = .ok (.invokestatic 73, 3) := by decide +kernel
theorem dJx4a65c_grow_92f84_30 : decode cJx4a65c_grow_92f84 30 = .ok (.istore_n 3, 1) := by decide +kernel
theorem dJx4a65c_grow_92f84_31 : decode cJx4a65c_grow_92f84 31 = .ok (.aload_n 0, 1) := by decide +kernel
theorem dJx4a65c_grow_92f84_32 : decode cJx4a65c_grow_92f84 32 = .ok (.aload_n 0, 1) := by decide +kernel
theorem dJx4a65c_grow_92f84_33 : decode cJx4a65c_grow_92f84 33 = .ok (.getfield 9, 3) := by decide +kernel
theorem dJx4a65c_grow_92f84_36 : decode cJx4a65c_grow_92f84 36 = .ok (.iload_n 3, 1) := by decide +kernel
theorem dJx4a65c_grow_92f84_37 : decode cJx4a65c_grow_92f84 37 = .ok (.invokestatic 66, 3) := by decide +kernel
theorem dJx4a65c_grow_92f84_40 : decode cJx4a65c_grow_92f84 40 = .ok (.dup_x1, 1) := by decide +kernel
theorem dJx4a65c_grow_92f84_41 : decode cJx4a65c_grow_92f84 41 = .ok (.putfield 9, 3) := by decide +kernel
theorem dJx4a65c_grow_92f84_44 : decode cJx4a65c_grow_92f84 44 = .ok (.areturn, 1) := by decide +kernel
theorem dJx4a65c_grow_92f84_45 : decode cJx4a65c_grow_92f84 45 = .ok (.aload_n 0, 1) := by decide +kernel
theorem dJx4a65c_grow_92f84_46 : decode cJx4a65c_grow_92f84 46 = .ok (.bipush 10, 2) := by decide +kernel
theorem dJx4a65c_grow_92f84_48 : decode cJx4a65c_grow_92f84 48 = .ok (.iload_n 1, 1) := by decide +kernel
theorem dJx4a65c_grow_92f84_49 : decode cJx4a65c_grow_92f84 49 = .ok (.invokestatic 79, 3) := by decide +kernel
theorem dJx4a65c_grow_92f84_52 : decode cJx4a65c_grow_92f84 52 = .ok (.anewarray 7, 3) := by decide +kernel
theorem dJx4a65c_grow_92f84_55 : decode cJx4a65c_grow_92f84 55 = .ok (.dup_x1, 1) := by decide +kernel
theorem dJx4a65c_grow_92f84_56 : decode cJx4a65c_grow_92f84 56 = .ok (.putfield 9, 3) := by decide +kernel
theorem dJx4a65c_grow_92f84_59 : decode cJx4a65c_grow_92f84 59 = .ok (.areturn, 1) := by decide +kernel
set_option maxRecDepth 20000 in
theorem ggJx4a65c_grow_d5877_Jx4a65c_grow_92f84 : GoodIn wsJx4a65c_grow_d5877 wsJx4a65c_grow_92f84 := goodIn_r _ [6, 7, 8, 9, 10, 11, 12, 13, 14, 15, 16, 17, 18, 19, 20, 21, 22, 23, 24, 25, 26, 27, 28, 29, 30, 31, 32, 33, 34, 35, 36, 37, 38, 39, 40, 41, 42, 43, 44, 45] (by decide +kernel) (by decide +kernel)
set_option maxRecDepth 20000 in
theorem gJx4a65c_grow_d5877_Jx4a65c_grow_92f84 : GoodIn wsJx4a65c_grow_d5877 (wsV RJx4a65c 69 RJx4a65c yJx4a65c_grow_92f84 wsJx4a65c_grow_92f84) := goodIn_app (goodIn_of _ (by decide +kernel)) ggJx4a65c_grow_d5877_Jx4a65c_grow_92f84
theorem dJx4a65c_grow_d5877_0 : decode cJx4a65c_grow_d5877 0 = .ok (.aload_n 0, 1) := by decide +kernel
theorem dJx4a65c_grow_d5877_1 : decode cJx4a65c_grow_d5877 1 = .ok (.aload_n 0, 1) := by decide +kernel
theorem dJx4a65c_grow_d5877_2 : decode cJx4a65c_grow_d5877 2 = .ok (.getfield 48, 3) := by decide +kernel
theorem dJx4a65c_grow_d5877_5 : decode cJx4a65c_grow_d5877 5 = .ok (.iconst 1, 1) := by decide +kernel
theorem dJx4a65c_grow_d5877_6 : decode cJx4a65c_grow_d5877 6 = .ok (.iadd, 1) := by decide +kernel
theorem dJx4a65c_grow_d5877_7 : decode cJx4a65c_grow_d5877 7 = .ok (.invokevirtual 69, 3) := by decide +kernel
theorem dJx4a65c_grow_d5877_10 : decode cJx4a65c_grow_d5877 10 = .ok (.areturn, 1) := by decide +kernel
theorem dJx4a65c_size_8abf5_0 : decode cJx4a65c_size_8abf5 0 = .ok (.aload_n 0, 1) := by decide +kernel
theorem dJx4a65c_size_8abf5_1 : decode cJx4a65c_size_8abf5 1 = .ok (.getfield 48, 3) := by decide +kernel
theorem dJx4a65c_size_8abf5_4 : decode cJx4a65c_size_8abf5 4 = .ok (.ireturn, 1) := by decide +kernel
theorem dJx4a65c_isEmpty_aae02_0 : decode cJx4a65c_isEmpty_aae02 0 = .ok (.aload_n 0, 1) := by decide +kernel
theorem dJx4a65c_isEmpty_aae02_1 : decode cJx4a65c_isEmpty_aae02 1 = .ok (.getfield 48, 3) := by decide +kernel
theorem dJx4a65c_isEmpty_aae02_4 : decode cJx4a65c_isEmpty_aae02 4 = .ok (.ifCond .ne 7, 3) := by decide +kernel
theorem dJx4a65c_isEmpty_aae02_7 : decode cJx4a65c_isEmpty_aae02 7 = .ok (.iconst 1, 1) := by decide +kernel
theorem dJx4a65c_isEmpty_aae02_8 : decode cJx4a65c_isEmpty_aae02 8 = .ok (.goto 4, 3) := by decide +kernel
theorem dJx4a65c_isEmpty_aae02_11 : decode cJx4a65c_isEmpty_aae02 11 = .ok (.iconst 0, 1) := by decide +kernel
theorem dJx4a65c_isEmpty_aae02_12 : decode cJx4a65c_isEmpty_aae02 12 = .ok (.ireturn, 1) := by decide +kernel
theorem dJx4a65c_elementData_915e3_0 : decode cJx4a65c_elementData_915e3 0 = .ok (.aload_n 0, 1) := by decide +kernel
theorem dJx4a65c_elementData_915e3_1 : decode cJx4a65c_elementData_915e3 1 = .ok (.getfield 9, 3) := by decide +kernel
theorem dJx4a65c_elementData_915e3_4 : decode cJx4a65c_elementData_915e3 4 = .ok (.iload_n 1, 1) := by decide +kernel
theorem dJx4a65c_elementData_915e3_5 : decode cJx4a65c_elementData_915e3 5 = .ok (.aaload, 1) := by decide +kernel
theorem dJx4a65c_elementData_915e3_6 : decode cJx4a65c_elementData_915e3 6 = .ok (.areturn, 1) := by decide +kernel
set_option maxRecDepth 20000 in
theorem ggJx4a65c_get_915e3_J15_checkIndex_7cf53 : GoodIn wsJx4a65c_get_915e3 wsJ15_checkIndex_7cf53 := goodIn_r _ [5, 6, 7, 8, 9] (by decide +kernel) (by decide +kernel)
set_option maxRecDepth 20000 in
theorem gJx4a65c_get_915e3_J15_checkIndex_7cf53 : GoodIn wsJx4a65c_get_915e3 (va_wsS RJx4a65c 118 yJ15_checkIndex_7cf53 wsJ15_checkIndex_7cf53) := goodIn_app (goodIn_of _ (by decide +kernel)) ggJx4a65c_get_915e3_J15_checkIndex_7cf53
set_option maxRecDepth 20000 in
theorem ggJx4a65c_get_915e3_Jx4a65c_elementData_915e3 : GoodIn wsJx4a65c_get_915e3 wsJx4a65c_elementData_915e3 := goodIn_r _ [14, 15, 16, 17, 18] (by decide +kernel) (by decide +kernel)
set_option maxRecDepth 20000 in
theorem gJx4a65c_get_915e3_Jx4a65c_elementData_915e3 : GoodIn wsJx4a65c_get_915e3 (wsV RJx4a65c 123 RJx4a65c yJx4a65c_elementData_915e3 wsJx4a65c_elementData_915e3) := goodIn_app (goodIn_of _ (by decide +kernel)) ggJx4a65c_get_915e3_Jx4a65c_elementData_915e3
theorem dJx4a65c_get_915e3_0 : decode cJx4a65c_get_915e3 0 = .ok (.iload_n 1, 1) := by decide +kernel
theorem dJx4a65c_get_915e3_1 : decode cJx4a65c_get_915e3 1 = .ok (.aload_n 0, 1) := by decide +kernel
theorem dJx4a65c_get_915e3_2 : decode cJx4a65c_get_915e3 2 = .ok (.getfield 48, 3) := by decide +kernel
theorem dJx4a65c_get_915e3_5 : decode cJx4a65c_get_915e3 5 = .ok (.invokestatic 118, 3) := by decide +kernel
theorem dJx4a65c_get_915e3_8 : decode cJx4a65c_get_915e3 8 = .ok (.pop, 1) := by decide +kernel
theorem dJx4a65c_get_915e3_9 : decode cJx4a65c_get_915e3 9 = .ok (.aload_n 0, 1) := by decide +kernel
theorem dJx4a65c_get_915e3_10 : decode cJx4a65c_get_915e3 10 = .ok (.iload_n 1, 1) := by decide +kernel
theorem dJx4a65c_get_915e3_11 : decode cJx4a65c_get_915e3 11 = .ok (.invokevirtual 123, 3) := by decide +kernel
theorem dJx4a65c_get_915e3_14 : decode cJx4a65c_get_915e3 14 = .ok (.areturn, 1) := by decide +kernel
set_option maxRecDepth 20000 in
theorem ggJx4a65c_add_72be8_Jx4a65c_grow_d5877 : GoodIn wsJx4a65c_add_72be8 wsJx4a65c_grow_d5877 := goodIn_r _ [6, 1, 7, 8, 9, 5, 10, 11, 12, 13, 14, 15, 16, 17, 18, 19, 20, 21, 22, 23, 24, 25, 26, 27, 28, 29, 30, 31, 32, 33, 34, 35, 36, 37, 38, 39, 40, 41, 42, 43, 44, 45, 46, 47, 48, 49] (by decide +kernel) (by decide +kernel)
set_option maxRecDepth 20000 in
theorem gJx4a65c_add_72be8_Jx4a65c_grow_d5877 : GoodIn wsJx4a65c_add_72be8 (wsV RJx4a65c 129 RJx4a65c yJx4a65c_grow_d5877 wsJx4a65c_grow_d5877) := goodIn_app (goodIn_of _ (by decide +kernel)) ggJx4a65c_add_72be8_Jx4a65c_grow_d5877
theorem dJx4a65c_add_72be8_0 : decode cJx4a65c_add_72be8 0 = .ok (.iload_n 3, 1) := by decide +kernel
theorem dJx4a65c_add_72be8_1 : decode cJx4a65c_add_72be8 1 = .ok (.aload_n 2, 1) := by decide +kernel
theorem dJx4a65c_add_72be8_2 : decode cJx4a65c_add_72be8 2 = .ok (.arraylength, 1) := by decide +kernel
theorem dJx4a65c_add_72be8_3 : decode cJx4a65c_add_72be8 3 = .ok (.if_icmp .ne 8, 3) := by decide +kernel
theorem dJx4a65c_add_72be8_6 : decode cJx4a65c_add_72be8 6 = .ok (.aload_n 0, 1) := by decide +kernel
theorem dJx4a65c_add_72be8_7 : decode cJx4a65c_add_72be8 7 = .ok (.invokevirtual 129, 3) := by decide +kernel
theorem dJx4a65c_add_72be8_10 : decode cJx4a65c_add_72be8 10 = .ok (.astore_n 2, 1) := by decide +kernel
theorem dJx4a65c_add_72be8_11 : decode cJx4a65c_add_72be8 11 = .ok (.aload_n 2, 1) := by decide +kernel
theorem dJx4a65c_add_72be8_12 : decode cJx4a65c_add_72be8 12 = .ok (.iload_n 3, 1) := by decide +kernel
theorem dJx4a65c_add_72be8_13 : decode cJx4a65c_add_72be8 13 = .ok (.aload_n 1, 1) := by decide +kernel
theorem dJx4a65c_add_72be8_14 : decode cJx4a65c_add_72be8 14 = .ok (.aastore, 1) := by decide +kernel
theorem dJx4a65c_add_72be8_15 : decode cJx4a65c_add_72be8 15 = .ok (.aload_n 0, 1) := by decide +kernel
theorem dJx4a65c_add_72be8_16 : decode cJx4a65c_add_72be8 16 = .ok (.iload_n 3, 1) := by decide +kernel
theorem dJx4a65c_add_72be8_17 : decode cJx4a65c_add_72be8 17 = .ok (.iconst 1, 1) := by decide +kernel
theorem dJx4a65c_add_72be8_18 : decode cJx4a65c_add_72be8 18 = .ok (.iadd, 1) := by decide +kernel
theorem dJx4a65c_add_72be8_19 : decode cJx4a65c_add_72be8 19 = .ok (.putfield 48, 3) := by decide +kernel
theorem dJx4a65c_add_72be8_22 : decode cJx4a65c_add_72be8 22 = .ok (.return_, 1) := by decide +kernel
set_option maxRecDepth 20000 in
theorem ggJx4a65c_add_9ea2d_Jx4a65c_add_72be8 : GoodIn wsJx4a65c_add_9ea2d wsJx4a65c_add_72be8 := goodIn_r _ [9, 4, 10, 11, 12, 8, 13, 14, 15, 16, 17, 3, 18, 19, 20, 21, 22, 23, 24, 25, 26, 27, 28, 29, 30, 31, 32, 33, 34, 35, 36, 37, 38, 39, 40, 41, 42, 43, 44, 45, 46, 47, 48, 49, 50, 51, 52, 53, 54, 55] (by decide +kernel) (by decide +kernel)
set_option maxRecDepth 20000 in
theorem gJx4a65c_add_9ea2d_Jx4a65c_add_72be8 : GoodIn wsJx4a65c_add_9ea2d (wsV RJx4a65c 131 RJx4a65c yJx4a65c_add_72be8 wsJx4a65c_add_72be8) := goodIn_app (goodIn_of _ (by decide +kernel)) ggJx4a65c_add_9ea2d_Jx4a65c_add_72be8
theorem dJx4a65c_add_9ea2d_0 : decode cJx4a65c_add_9ea2d 0 = .ok (.aload_n 0, 1) := by decide +kernel
theorem dJx4a65c_add_9ea2d_1 : decode cJx4a65c_add_9ea2d 1 = .ok (.dup, 1) := by decide +kernel
theorem dJx4a65c_add_9ea2d_2 : decode cJx4a65c_add_9ea2d 2 = .ok (.getfield 63, 3) := by decide +kernel
theorem dJx4a65c_add_9ea2d_5 : decode cJx4a65c_add_9ea2d 5 = .ok (.iconst 1, 1) := by decide +kernel
theorem dJx4a65c_add_9ea2d_6 : decode cJx4a65c_add_9ea2d 6 = .ok (.iadd, 1) := by decide +kernel
theorem dJx4a65c_add_9ea2d_7 : decode cJx4a65c_add_9ea2d 7 = .ok (.putfield 63, 3) := by decide +kernel
theorem dJx4a65c_add_9ea2d_10 : decode cJx4a65c_add_9ea2d 10 = .ok (.aload_n 0, 1) := by decide +kernel
theorem dJx4a65c_add_9ea2d_11 : decode cJx4a65c_add_9ea2d 11 = .ok (.aload_n 1, 1) := by decide +kernel
theorem dJx4a65c_add_9ea2d_12 : decode cJx4a65c_add_9ea2d 12 = .ok (.aload_n 0, 1) := by decide +kernel
theorem dJx4a65c_add_9ea2d_13 : decode cJx4a65c_add_9ea2d 13 = .ok (.getfield 9, 3) := by decide +kernel
theorem dJx4a65c_add_9ea2d_16 : decode cJx4a65c_add_9ea2d 16 = .ok (.aload_n 0, 1) := by decide +kernel
theorem dJx4a65c_add_9ea2d_17 : decode cJx4a65c_add_9ea2d 17 = .ok (.getfield 48, 3) := by decide +kernel
theorem dJx4a65c_add_9ea2d_20 : decode cJx4a65c_add_9ea2d 20 = .ok (.invokevirtual 131, 3) := by decide +kernel
theorem dJx4a65c_add_9ea2d_23 : decode cJx4a65c_add_9ea2d 23 = .ok (.iconst 1, 1) := by decide +kernel
theorem dJx4a65c_add_9ea2d_24 : decode cJx4a65c_add_9ea2d 24 = .ok (.ireturn, 1) := by decide +kernel
set_option maxRecDepth 20000 in
theorem ggJx4a65c_remove_915e3_J15_checkIndex_7cf53 : GoodIn wsJx4a65c_remove_915e3 wsJ15_checkIndex_7cf53 := goodIn_r _ [6, 7, 8, 9, 10] (by decide +kernel) (by decide +kernel)
set_option maxRecDepth 20000 in
theorem gJx4a65c_remove_915e3_J15_checkIndex_7cf53 : GoodIn wsJx4a65c_remove_915e3 (va_wsS RJx4a65c 118 yJ15_checkIndex_7cf53 wsJ15_checkIndex_7cf53) := goodIn_app (goodIn_of _ (by decide +kernel)) ggJx4a65c_remove_915e3_J15_checkIndex_7cf53
set_option maxRecDepth 20000 in
theorem ggJx4a65c_remove_915e3_Jx4a65c_fastRemove_b59b0 : GoodIn wsJx4a65c_remove_915e3 wsJx4a65c_fastRemove_b59b0 := goodIn_r _ [15, 16, 17, 1, 18, 19, 20, 21, 22, 23, 24] (by decide +kernel) (by decide +kernel)
set_option maxRecDepth 20000 in
theorem gJx4a65c_remove_915e3_Jx4a65c_fastRemove_b59b0 : GoodIn wsJx4a65c_remove_915e3 (wsV RJx4a65c 144 RJx4a65c yJx4a65c_fastRemove_b59b0 wsJx4a65c_fastRemove_b59b0) := goodIn_app (goodIn_of _ (by decide +kernel)) ggJx4a65c_remove_915e3_Jx4a65c_fastRemove_b59b0
theorem dJx4a65c_remove_915e3_0 : decode cJx4a65c_remove_915e3 0 = .ok (.iload_n 1, 1) := by decide +kernel
theorem dJx4a65c_remove_915e3_1 : decode cJx4a65c_remove_915e3 1 = .ok (.aload_n 0, 1) := by decide +kernel
theorem dJx4a65c_remove_915e3_2 : decode cJx4a65c_remove_915e3 2 = .ok (.getfield 48, 3) := by decide +kernel
theorem dJx4a65c_remove_915e3_5 : decode cJx4a65c_remove_915e3 5 = .ok (.invokestatic 118, 3) := by decide +kernel
theorem dJx4a65c_remove_915e3_8 : decode cJx4a65c_remove_915e3 8 = .ok (.pop, 1) := by decide +kernel
theorem dJx4a65c_remove_915e3_9 : decode cJx4a65c_remove_915e3 9 = .ok (.aload_n 0, 1) := by decide +kernel
theorem dJx4a65c_remove_915e3_10 : decode cJx4a65c_remove_915e3 10 = .ok (.getfield 9, 3) := by decide +kernel
theorem dJx4a65c_remove_915e3_13 : decode cJx4a65c_remove_915e3 13 = .ok (.astore_n 2, 1) := by decide +kernel
theorem dJx4a65c_remove_915e3_14 : decode cJx4a65c_remove_915e3 14 = .ok (.aload_n 2, 1) := by decide +kernel
theorem dJx4a65c_remove_915e3_15 : decode cJx4a65c_remove_915e3 15 = .ok (.iload_n 1, 1) := by decide +kernel
theorem dJx4a65c_remove_915e3_16 : decode cJx4a65c_remove_915e3 16 = .ok (.aaload, 1) := by decide +kernel
theorem dJx4a65c_remove_915e3_17 : decode cJx4a65c_remove_915e3 17 = .ok (.astore_n 3, 1) := by decide +kernel
theorem dJx4a65c_remove_915e3_18 : decode cJx4a65c_remove_915e3 18 = .ok (.aload_n 0, 1) := by decide +kernel
theorem dJx4a65c_remove_915e3_19 : decode cJx4a65c_remove_915e3 19 = .ok (.aload_n 2, 1) := by decide +kernel
theorem dJx4a65c_remove_915e3_20 : decode cJx4a65c_remove_915e3 20 = .ok (.iload_n 1, 1) := by decide +kernel
theorem dJx4a65c_remove_915e3_21 : decode cJx4a65c_remove_915e3 21 = .ok (.invokevirtual 144, 3) := by decide +kernel
theorem dJx4a65c_remove_915e3_24 : decode cJx4a65c_remove_915e3 24 = .ok (.aload_n 3, 1) := by decide +kernel
theorem dJx4a65c_remove_915e3_25 : decode cJx4a65c_remove_915e3 25 = .ok (.areturn, 1) := by decide +kernel
theorem dJx4a65c_fastRemove_b59b0_0 : decode cJx4a65c_fastRemove_b59b0 0 = .ok (.aload_n 0, 1) := by decide +kernel
theorem dJx4a65c_fastRemove_b59b0_1 : decode cJx4a65c_fastRemove_b59b0 1 = .ok (.dup, 1) := by decide +kernel
theorem dJx4a65c_fastRemove_b59b0_2 : decode cJx4a65c_fastRemove_b59b0 2 = .ok (.getfield 63, 3) := by decide +kernel
theorem dJx4a65c_fastRemove_b59b0_5 : decode cJx4a65c_fastRemove_b59b0 5 = .ok (.iconst 1, 1) := by decide +kernel
theorem dJx4a65c_fastRemove_b59b0_6 : decode cJx4a65c_fastRemove_b59b0 6 = .ok (.iadd, 1) := by decide +kernel
theorem dJx4a65c_fastRemove_b59b0_7 : decode cJx4a65c_fastRemove_b59b0 7 = .ok (.putfield 63, 3) := by decide +kernel
theorem dJx4a65c_fastRemove_b59b0_10 : decode cJx4a65c_fastRemove_b59b0 10 = .ok (.aload_n 0, 1) := by decide +kernel
theorem dJx4a65c_fastRemove_b59b0_11 : decode cJx4a65c_fastRemove_b59b0 11 = .ok (.getfield 48, 3) := by decide +kernel
theorem dJx4a65c_fastRemove_b59b0_14 : decode cJx4a65c_fastRemove_b59b0 14 = .ok (.iconst 1, 1) := by decide +kernel
theorem dJx4a65c_fastRemove_b59b0_15 : decode cJx4a65c_fastRemove_b59b0 15 = .ok (.isub, 1) := by decide +kernel
theorem dJx4a65c_fastRemove_b59b0_16 : decode cJx4a65c_fastRemove_b59b0 16 = .ok (.dup, 1) := by decide +kernel
theorem dJx4a65c_fastRemove_b59b0_17 : decode cJx4a65c_fastRemove_b59b0 17 = .ok (.istore_n 3, 1) := by decide +kernel
theorem dJx4a65c_fastRemove_b59b0_18 : decode cJx4a65c_fastRemove_b59b0 18 = .ok (.iload_n 2, 1) := by decide +kernel
theorem dJx4a65c_fastRemove_b59b0_19 : decode cJx4a65c_fastRemove_b59b0 19 = .ok (.if_icmp .le 15, 3) := by decide +kernel
theorem dJx4a65c_fastRemove_b59b0_22 : decode cJx4a65c_fastRemove_b59b0 22 = .ok (.aload_n 1, 1) := by decide +kernel
theorem dJx4a65c_fastRemove_b59b0_23 : decode cJx4a65c_fastRemove_b59b0 23 = .ok (.iload_n 2, 1) := by decide +kernel
theorem dJx4a65c_fastRemove_b59b0_24 : decode cJx4a65c_fastRemove_b59b0 24 = .ok (.iconst 1, 1) := by decide +kernel
theorem dJx4a65c_fastRemove_b59b0_25 : decode cJx4a65c_fastRemove_b59b0 25 = .ok (.iadd, 1) := by decide +kernel
theorem dJx4a65c_fastRemove_b59b0_26 : decode cJx4a65c_fastRemove_b59b0 26 = .ok (.aload_n 1, 1) := by decide +kernel
theorem dJx4a65c_fastRemove_b59b0_27 : decode cJx4a65c_fastRemove_b59b0 27 = .ok (.iload_n 2, 1) := by decide +kernel
theorem dJx4a65c_fastRemove_b59b0_28 : decode cJx4a65c_fastRemove_b59b0 28 = .ok (.iload_n 3, 1) := by decide +kernel
theorem dJx4a65c_fastRemove_b59b0_29 : decode cJx4a65c_fastRemove_b59b0 29 = .ok (.iload_n 2, 1) := by decide +kernel
theorem dJx4a65c_fastRemove_b59b0_30 : decode cJx4a65c_fastRemove_b59b0 30 = .ok (.isub, 1) := by decide +kernel
theorem dJx4a65c_fastRemove_b59b0_31 : decode cJx4a65c_fastRemove_b59b0 31 = .ok (.invokestatic 112, 3) := by decide +kernel
theorem dJx4a65c_fastRemove_b59b0_34 : decode cJx4a65c_fastRemove_b59b0 34 = .ok (.aload_n 1, 1) := by decide +kernel
theorem dJx4a65c_fastRemove_b59b0_35 : decode cJx4a65c_fastRemove_b59b0 35 = .ok (.aload_n 0, 1) := by decide +kernel
theorem dJx4a65c_fastRemove_b59b0_36 : decode cJx4a65c_fastRemove_b59b0 36 = .ok (.iload_n 3, 1) := by decide +kernel
theorem dJx4a65c_fastRemove_b59b0_37 : decode cJx4a65c_fastRemove_b59b0 37 = .ok (.dup_x1, 1) := by decide +kernel
theorem dJx4a65c_fastRemove_b59b0_38 : decode cJx4a65c_fastRemove_b59b0 38 = .ok (.putfield 48, 3) := by decide +kernel
theorem dJx4a65c_fastRemove_b59b0_41 : decode cJx4a65c_fastRemove_b59b0 41 = .ok (.aconst_null, 1) := by decide +kernel
theorem dJx4a65c_fastRemove_b59b0_42 : decode cJx4a65c_fastRemove_b59b0 42 = .ok (.aastore, 1) := by decide +kernel
theorem dJx4a65c_fastRemove_b59b0_43 : decode cJx4a65c_fastRemove_b59b0 43 = .ok (.return_, 1) := by decide +kernel
theorem dJ7_fill_53178_0 : decode cJ7_fill_53178 0 = .ok (.iconst 0, 1) := by decide +kernel
theorem dJ7_fill_53178_1 : decode cJ7_fill_53178 1 = .ok (.istore_n 2, 1) := by decide +kernel
theorem dJ7_fill_53178_2 : decode cJ7_fill_53178 2 = .ok (.aload_n 0, 1) := by decide +kernel
theorem dJ7_fill_53178_3 : decode cJ7_fill_53178 3 = .ok (.arraylength, 1) := by decide +kernel
theorem dJ7_fill_53178_4 : decode cJ7_fill_53178 4 = .ok (.istore_n 3, 1) := by decide +kernel
theorem dJ7_fill_53178_5 : decode cJ7_fill_53178 5 = .ok (.iload_n 2, 1) := by decide +kernel
theorem dJ7_fill_53178_6 : decode cJ7_fill_53178 6 = .ok (.iload_n 3, 1) := by decide +kernel
theorem dJ7_fill_53178_7 : decode cJ7_fill_53178 7 = .ok (.if_icmp .ge 13, 3) := by decide +kernel
theorem dJ7_fill_53178_10 : decode cJ7_fill_53178 10 = .ok (.aload_n 0, 1) := by decide +kernel
theorem dJ7_fill_53178_11 : decode cJ7_fill_53178 11 = .ok (.iload_n 2, 1) := by decide +kernel
theorem dJ7_fill_53178_12 : decode cJ7_fill_53178 12 = .ok (.iload_n 1, 1) := by decide +kernel
theorem dJ7_fill_53178_13 : decode cJ7_fill_53178 13 = .ok (.iastore, 1) := by decide +kernel
theorem dJ7_fill_53178_14 : decode cJ7_fill_53178 14 = .ok (.iinc 2 1, 3) := by decide +kernel
theorem dJ7_fill_53178_17 : decode cJ7_fill_53178 17 = .ok (.goto (-12), 3) := by decide +kernel
theorem dJ7_fill_53178_20 : decode cJ7_fill_53178 20 = .ok (.return_, 1) := by decide +kernel
set_option maxRecDepth 20000 in
theorem ggJ7_copyOf_1904c_J7_copyOf_6403c : GoodIn wsJ7_copyOf_1904c wsJ7_copyOf_6403c := goodIn_r _ [8, 9, 10, 11, 12, 13, 14, 15, 16, 17, 18] (by decide +kernel) (by decide +kernel)
set_option maxRecDepth 20000 in
theorem gJ7_copyOf_1904c_J7_copyOf_6403c : GoodIn wsJ7_copyOf_1904c (va_wsS RJ7 300 yJ7_copyOf_6403c wsJ7_copyOf_6403c) := goodIn_app (goodIn_of _ (by decide +kernel)) ggJ7_copyOf_1904c_J7_copyOf_6403c
theorem dJ7_copyOf_1904c_0 : decode cJ7_copyOf_1904c 0 = .ok (.aload_n 0, 1) := by decide +kernel
theorem dJ7_copyOf_1904c_1 : decode cJ7_copyOf_1904c 1 = .ok (.iload_n 1, 1) := by decide +kernel
theorem dJ7_copyOf_1904c_2 : decode cJ7_copyOf_1904c 2 = .ok (.aload_n 0, 1) := by decide +kernel
theorem dJ7_copyOf_1904c_3 : decode cJ7_copyOf_1904c 3 = .ok (.invokevirtual 86, 3) := by decide +kernel
theorem dJ7_copyOf_1904c_6 : decode cJ7_copyOf_1904c 6 = .ok (.invokestatic 300, 3) := by decide +kernel
theorem dJ7_copyOf_1904c_9 : decode cJ7_copyOf_1904c 9 = .ok (.areturn, 1) := by decide +kernel
theorem dJ7_copyOf_6403c_0 : decode cJ7_copyOf_6403c 0 = .ok (.aload_n 2, 1) := by decide +kernel
theorem dJ7_copyOf_6403c_1 : decode cJ7_copyOf_6403c 1 = .ok (.ldc 110, 2) := by decide +kernel
theorem dJ7_copyOf_6403c_3 : decode cJ7_copyOf_6403c 3 = .ok (.if_acmp .ne 10, 3) := by decide +kernel
theorem dJ7_copyOf_6403c_6 : decode cJ7_copyOf_6403c 6 = .ok (.iload_n 1, 1) := by decide +kernel
theorem dJ7_copyOf_6403c_7 : decode cJ7_copyOf_6403c 7 = .ok (.anewarray 2, 3) := by decide +kernel
theorem dJ7_copyOf_6403c_10 : decode cJ7_copyOf_6403c 10 = .ok (.goto 14, 3) := by decide +kernel
theorem dJ7_copyOf_6403c_13 : decode cJ7_copyOf_6403c 13 = .ok (.aload_n 2, 1) := by decide +kernel
theorem dJ7_copyOf_6403c_14 : decode cJ7_copyOf_6403c 14 = .ok (.invokevirtual 90, 3) := by decide +kernel
theorem dJ7_copyOf_6403c_17 : decode cJ7_copyOf_6403c 17 = .ok (.iload_n 1, 1) := by decide +kernel
theorem dJ7_copyOf_6403c_18 : decode cJ7_copyOf_6403c 18 = .ok (.invokestatic 95, 3) := by decide +kernel
theorem dJ7_copyOf_6403c_21 : decode cJ7_copyOf_6403c 21 = .ok (.checkcast 110, 3) := by decide +kernel
theorem dJ7_copyOf_6403c_24 : decode cJ7_copyOf_6403c 24 = .ok (.astore_n 3, 1) := by decide +kernel
theorem dJ7_copyOf_6403c_25 : decode cJ7_copyOf_6403c 25 = .ok (.aload_n 0, 1) := by decide +kernel
theorem dJ7_copyOf_6403c_26 : decode cJ7_copyOf_6403c 26 = .ok (.iconst 0, 1) := by decide +kernel
theorem dJ7_copyOf_6403c_27 : decode cJ7_copyOf_6403c 27 = .ok (.aload_n 3, 1) := by decide +kernel
theorem dJ7_copyOf_6403c_28 : decode cJ7_copyOf_6403c 28 = .ok (.iconst 0, 1) := by decide +kernel
theorem dJ7_copyOf_6403c_29 : decode cJ7_copyOf_6403c 29 = .ok (.aload_n 0, 1) := by decide +kernel
theorem dJ7_copyOf_6403c_30 : decode cJ7_copyOf_6403c 30 = .ok (.arraylength, 1) := by decide +kernel
theorem dJ7_copyOf_6403c_31 : decode cJ7_copyOf_6403c 31 = .ok (.iload_n 1, 1) := by decide +kernel
theorem dJ7_copyOf_6403c_32 : decode cJ7_copyOf_6403c 32 = .ok (.invokestatic 304, 3) := by decide +kernel
theorem dJ7_copyOf_6403c_35 : decode cJ7_copyOf_6403c 35 = .ok (.invokestatic 150, 3) := by decide +kernel
theorem dJ7_copyOf_6403c_38 : decode cJ7_copyOf_6403c 38 = .ok (.aload_n 3, 1) := by decide +kernel
theorem dJ7_copyOf_6403c_39 : decode cJ7_copyOf_6403c 39 = .ok (.areturn, 1) := by decide +kernel
set_option maxRecDepth 20000 in
theorem ggJ15_checkIndex_7cf53_J3_checkIndex_8e157 : GoodIn wsJ15_checkIndex_7cf53 wsJ3_checkIndex_8e157 := goodIn_r _ [4] (by decide +kernel) (by decide +kernel)
set_option maxRecDepth 20000 in
theorem gJ15_checkIndex_7cf53_J3_checkIndex_8e157 : GoodIn wsJ15_checkIndex_7cf53 (va_wsS RJ15 105 yJ3_checkIndex_8e157 wsJ3_checkIndex_8e157) := goodIn_app (goodIn_of _ (by decide +kernel)) ggJ15_checkIndex_7cf53_J3_checkIndex_8e157
theorem dJ15_checkIndex_7cf53_0 : decode cJ15_checkIndex_7cf53 0 = .ok (.iload_n 0, 1) := by decide +kernel
theorem dJ15_checkIndex_7cf53_1 : decode cJ15_checkIndex_7cf53 1 = .ok (.iload_n 1, 1) := by decide +kernel
theorem dJ15_checkIndex_7cf53_2 : decode cJ15_checkIndex_7cf53 2 = .ok (.aconst_null, 1) := by decide +kernel
theorem dJ15_checkIndex_7cf53_3 : decode cJ15_checkIndex_7cf53 3 = .ok (.invokestatic 105, 3) := by decide +kernel
theorem dJ15_checkIndex_7cf53_6 : decode cJ15_checkIndex_7cf53 6 = .ok (.ireturn, 1) := by decide +kernel
set_option maxRecDepth 20000 in
theorem ggJ8_newLength_cabcc_J8_hugeLength_7cf53 : GoodIn wsJ8_newLength_cabcc wsJ8_hugeLength_7cf53 := goodIn_r _ [9, 5] (by decide +kernel) (by decide +kernel)
set_option maxRecDepth 20000 in
theorem gJ8_newLength_cabcc_J8_hugeLength_7cf53 : GoodIn wsJ8_newLength_cabcc (va_wsS RJ8 201 yJ8_hugeLength_7cf53 wsJ8_hugeLength_7cf53) := goodIn_app (goodIn_of _ (by decide +kernel)) ggJ8_newLength_cabcc_J8_hugeLength_7cf53
theorem dJ8_newLength_cabcc_0 : decode cJ8_newLength_cabcc 0 = .ok (.iload_n 0, 1) := by decide +kernel
theorem dJ8_newLength_cabcc_1 : decode cJ8_newLength_cabcc 1 = .ok (.iload_n 1, 1) := by decide +kernel
theorem dJ8_newLength_cabcc_2 : decode cJ8_newLength_cabcc 2 = .ok (.iload_n 2, 1) := by decide +kernel
theorem dJ8_newLength_cabcc_3 : decode cJ8_newLength_cabcc 3 = .ok (.invokestatic 194, 3) := by decide +kernel
theorem dJ8_newLength_cabcc_6 : decode cJ8_newLength_cabcc 6 = .ok (.iadd, 1) := by decide +kernel
theorem dJ8_newLength_cabcc_7 : decode cJ8_newLength_cabcc 7 = .ok (.istore_n 3, 1) := by decide +kernel
theorem dJ8_newLength_cabcc_8 : decode cJ8_newLength_cabcc 8 = .ok (.iconst 0, 1) := by decide +kernel
theorem dJ8_newLength_cabcc_9 : decode cJ8_newLength_cabcc 9 = .ok (.iload_n 3, 1) := by decide +kernel
theorem dJ8_newLength_cabcc_10 : decode cJ8_newLength_cabcc 10 = .ok (.if_icmp .ge 11, 3) := by decide +kernel
theorem dJ8_newLength_cabcc_13 : decode cJ8_newLength_cabcc 13 = .ok (.iload_n 3, 1) := by decide +kernel
theorem dJ8_newLength_cabcc_14 : decode cJ8_newLength_cabcc 14 = .ok (.ldc 200, 2) := by decide +kernel
theorem dJ8_newLength_cabcc_16 : decode cJ8_newLength_cabcc 16 = .ok (.if_icmp .gt 5, 3) := by decide +kernel
theorem dJ8_newLength_cabcc_19 : decode cJ8_newLength_cabcc 19 = .ok (.iload_n 3, 1) := by decide +kernel
theorem dJ8_newLength_cabcc_20 : decode cJ8_newLength_cabcc 20 = .ok (.ireturn, 1) := by decide +kernel
theorem dJ8_newLength_cabcc_21 : decode cJ8_newLength_cabcc 21 = .ok (.iload_n 0, 1) := by decide +kernel
theorem dJ8_newLength_cabcc_22 : decode cJ8_newLength_cabcc 22 = .ok (.iload_n 1, 1) := by decide +kernel
theorem dJ8_newLength_cabcc_23 : decode cJ8_newLength_cabcc 23 = .ok (.invokestatic 201, 3) := by decide +kernel
theorem dJ8_newLength_cabcc_26 : decode cJ8_newLength_cabcc 26 = .ok (.ireturn, 1) := by decide +kernel
theorem dJ8_hugeLength_7cf53_0 : decode cJ8_hugeLength_7cf53 0 = .ok (.iload_n 0, 1) := by decide +kernel
theorem dJ8_hugeLength_7cf53_1 : decode cJ8_hugeLength_7cf53 1 = .ok (.iload_n 1, 1) := by decide +kernel
theorem dJ8_hugeLength_7cf53_2 : decode cJ8_hugeLength_7cf53 2 = .ok (.iadd, 1) := by decide +kernel
theorem dJ8_hugeLength_7cf53_3 : decode cJ8_hugeLength_7cf53 3 = .ok (.istore_n 2, 1) := by decide +kernel
theorem dJ8_hugeLength_7cf53_4 : decode cJ8_hugeLength_7cf53 4 = .ok (.iload_n 2, 1) := by decide +kernel
theorem dJ8_hugeLength_7cf53_5 : decode cJ8_hugeLength_7cf53 5 = .ok (.ifCond .ge 44, 3) := by decide +kernel
theorem dJ8_hugeLength_7cf53_8 : decode cJ8_hugeLength_7cf53 8 = .ok (.new 204, 3) := by decide +kernel
theorem dJ8_hugeLength_7cf53_11 : decode cJ8_hugeLength_7cf53 11 = .ok (.dup, 1) := by decide +kernel
theorem dJ8_hugeLength_7cf53_12 : decode cJ8_hugeLength_7cf53 12 = .ok (.new 89, 3) := by decide +kernel
theorem dJ8_hugeLength_7cf53_15 : decode cJ8_hugeLength_7cf53 15 = .ok (.dup, 1) := by decide +kernel
theorem dJ8_hugeLength_7cf53_16 : decode cJ8_hugeLength_7cf53 16 = .ok (.invokespecial 91, 3) := by decide +kernel
theorem dJ8_hugeLength_7cf53_19 : decode cJ8_hugeLength_7cf53 19 = .ok (.ldc 206, 2) := by decide +kernel
theorem dJ8_hugeLength_7cf53_21 : decode cJ8_hugeLength_7cf53 21 = .ok (.invokevirtual 94, 3) := by decide +kernel
theorem dJ8_hugeLength_7cf53_24 : decode cJ8_hugeLength_7cf53 24 = .ok (.iload_n 0, 1) := by decide +kernel
theorem dJ8_hugeLength_7cf53_25 : decode cJ8_hugeLength_7cf53 25 = .ok (.invokevirtual 98, 3) := by decide +kernel
theorem dJ8_hugeLength_7cf53_28 : decode cJ8_hugeLength_7cf53 28 = .ok (.ldc 208, 2) := by decide +kernel
theorem dJ8_hugeLength_7cf53_30 : decode cJ8_hugeLength_7cf53 30 = .ok (.invokevirtual 94, 3) := by decide +kernel
theorem dJ8_hugeLength_7cf53_33 : decode cJ8_hugeLength_7cf53 33 = .ok (.iload_n 1, 1) := by decide +kernel
theorem dJ8_hugeLength_7cf53_34 : decode cJ8_hugeLength_7cf53 34 = .ok (.invokevirtual 98, 3) := by decide +kernel
theorem dJ8_hugeLength_7cf53_37 : decode cJ8_hugeLength_7cf53 37 = .ok (.ldc 210, 2) := by decide +kernel
theorem dJ8_hugeLength_7cf53_39 : decode cJ8_hugeLength_7cf53 39 = .ok (.invokevirtual 94, 3) := by decide +kernel
theorem dJ8_hugeLength_7cf53_42 : decode cJ8_hugeLength_7cf53 42 = .ok (.invokevirtual 101, 3) := by decide +kernel
theorem dJ8_hugeLength_7cf53_45 : decode cJ8_hugeLength_7cf53 45 = .ok (.invokespecial 212, 3) := by decide +kernel
theorem dJ8_hugeLength_7cf53_48 : decode cJ8_hugeLength_7cf53 48 = .ok (.athrow, 1) := by decide +kernel
theorem dJ8_hugeLength_7cf53_49 : decode cJ8_hugeLength_7cf53 49 = .ok (.iload_n 2, 1) := by decide +kernel
theorem dJ8_hugeLength_7cf53_50 : decode cJ8_hugeLength_7cf53 50 = .ok (.ldc 200, 2) := by decide +kernel
theorem dJ8_hugeLength_7cf53_52 : decode cJ8_hugeLength_7cf53 52 = .ok (.if_icmp .gt 6, 3) := by decide +kernel
theorem dJ8_hugeLength_7cf53_55 : decode cJ8_hugeLength_7cf53 55 = .ok (.ldc 200, 2) := by decide +kernel
theorem dJ8_hugeLength_7cf53_57 : decode cJ8_hugeLength_7cf53 57 = .ok (.ireturn, 1) := by decide +kernel
theorem dJ8_hugeLength_7cf53_58 : decode cJ8_hugeLength_7cf53 58 = .ok (.iload_n 2, 1) := by decide +kernel
theorem dJ8_hugeLength_7cf53_59 : decode cJ8_hugeLength_7cf53 59 = .ok (.ireturn, 1) := by decide +kernel
theorem dJ3_checkIndex_8e157_0 : decode cJ3_checkIndex_8e157 0 = .ok (.iload_n 0, 1) := by decide +kernel
theorem dJ3_checkIndex_8e157_1 : decode cJ3_checkIndex_8e157 1 = .ok (.ifCond .lt 8, 3) := by decide +kernel
theorem dJ3_checkIndex_8e157_4 : decode cJ3_checkIndex_8e157 4 = .ok (.iload_n 0, 1) := by decide +kernel
theorem dJ3_checkIndex_8e157_5 : decode cJ3_checkIndex_8e157 5 = .ok (.iload_n 1, 1) := by decide +kernel
theorem dJ3_checkIndex_8e157_6 : decode cJ3_checkIndex_8e157 6 = .ok (.if_icmp .lt 10, 3) := by decide +kernel
theorem dJ3_checkIndex_8e157_9 : decode cJ3_checkIndex_8e157 9 = .ok (.aload_n 2, 1) := by decide +kernel
theorem dJ3_checkIndex_8e157_10 : decode cJ3_checkIndex_8e157 10 = .ok (.iload_n 0, 1) := by decide +kernel
theorem dJ3_checkIndex_8e157_11 : decode cJ3_checkIndex_8e157 11 = .ok (.iload_n 1, 1) := by decide +kernel
theorem dJ3_checkIndex_8e157_12 : decode cJ3_checkIndex_8e157 12 = .ok (.invokestatic 95, 3) := by decide +kernel
theorem dJ3_checkIndex_8e157_15 : decode cJ3_checkIndex_8e157 15 = .ok (.athrow, 1) := by decide +kernel
theorem dJ3_checkIndex_8e157_16 : decode cJ3_checkIndex_8e157 16 = .ok (.iload_n 0, 1) := by decide +kernel
theorem dJ3_checkIndex_8e157_17 : decode cJ3_checkIndex_8e157 17 = .ok (.ireturn, 1) := by decide +kernel
