set_option maxRecDepth 20000 in
theorem ggX7_init_X6_init : GoodIn wsX7_init wsX6_init := goodIn_r _ [37, 38, 2, 3, 39, 40, 41, 129, 130, 131, 132, 133, 134] (by decide +kernel) (by decide +kernel)
set_option maxRecDepth 20000 in
theorem gX7_init_X6_init_n9 : GoodIn wsX7_init (wsX6_init) := ggX7_init_X6_init
set_option maxRecDepth 20000 in
theorem ggX7_init_X3_init : GoodIn wsX7_init wsX3_init := goodIn_r _ [44, 45, 2, 3, 32, 46, 47, 48, 49, 50, 51, 52, 53, 10, 54, 55, 56, 57, 58, 59, 60, 148, 149, 150, 151, 152, 153, 154, 155, 156, 157, 158] (by decide +kernel) (by decide +kernel)
set_option maxRecDepth 20000 in
theorem gX7_init_X3_init : GoodIn wsX7_init (wsX3_init) := ggX7_init_X3_init
set_option maxRecDepth 20000 in
theorem ggX7_init_X4_init : GoodIn wsX7_init wsX4_init := goodIn_r _ [62, 63, 2, 3, 32, 64, 65, 66, 67, 68, 69, 70, 71, 72, 73, 74, 75, 76, 77, 78, 79, 80, 81, 82, 83, 84, 85, 86, 87, 159, 160, 161, 162, 163, 164, 165, 166, 167, 168, 169, 170, 171, 172, 173, 182, 183, 184, 185, 186, 187] (by decide +kernel) (by decide +kernel)
set_option maxRecDepth 20000 in
theorem gX7_init_X4_init_n28 : GoodIn wsX7_init (wsX4_init) := ggX7_init_X4_init
set_option maxRecDepth 20000 in
theorem ggX7_init_X5_init : GoodIn wsX7_init wsX5_init := goodIn_r _ [90, 91, 2, 3, 92, 93, 94, 174, 175, 176] (by decide +kernel) (by decide +kernel)
set_option maxRecDepth 20000 in
theorem gX7_init_X5_init : GoodIn wsX7_init (wsX5_init) := ggX7_init_X5_init
set_option maxRecDepth 20000 in
theorem ggX7_init_X1_init : GoodIn wsX7_init wsX1_init := goodIn_r _ [97, 98, 2, 3, 99, 100, 101, 102, 14, 15, 61, 62, 63, 32, 64, 65, 66, 67, 68, 69, 70, 71, 72, 73, 74, 75, 76, 77, 78, 79, 80, 81, 82, 83, 84, 85, 86, 87, 177, 178, 179, 159, 160, 161, 162, 163, 164, 165, 166, 167, 168, 169, 170, 171, 172, 173, 182, 183, 184, 185, 186, 187] (by decide +kernel) (by decide +kernel)
set_option maxRecDepth 20000 in
theorem gX7_init_X1_init : GoodIn wsX7_init (wsX1_init) := ggX7_init_X1_init
set_option maxRecDepth 20000 in
theorem ggX7_init_X2_init : GoodIn wsX7_init wsX2_init := goodIn_r _ [104, 105, 2, 3, 106, 107, 14, 15, 108, 61, 62, 63, 32, 64, 65, 66, 67, 68, 69, 70, 71, 72, 73, 74, 75, 76, 77, 78, 79, 80, 81, 82, 83, 84, 85, 86, 87, 180, 181, 159, 160, 161, 162, 163, 164, 165, 166, 167, 168, 169, 170, 171, 172, 173, 182, 183, 184, 185, 186, 187] (by decide +kernel) (by decide +kernel)
set_option maxRecDepth 20000 in
theorem gX7_init_X2_init_n57 : GoodIn wsX7_init (wsX2_init) := ggX7_init_X2_init
set_option maxRecDepth 20000 in
theorem ggX7_init_X7_beginAnew : GoodIn wsX7_init wsX7_beginAnew := goodIn_r _ [113, 16, 11, 114, 26, 115, 30, 116, 31, 35, 117, 118, 119, 15, 120, 121, 122, 123, 64, 65, 66, 67, 68, 69, 70, 71, 72, 73, 74, 78, 124, 125, 126, 127, 128, 135, 136, 137, 138, 139, 140, 141, 142, 143, 144, 145, 146, 147, 148, 149, 150, 151, 152, 153, 154, 155, 156, 157, 158, 177, 178, 179, 180, 181, 159, 160, 161, 162, 163, 164, 165, 166, 167, 168, 169, 170, 171, 172, 173, 182, 183, 184, 185, 186, 187] (by decide +kernel) (by decide +kernel)
set_option maxRecDepth 20000 in
theorem gX7_init_X7_beginAnew : GoodIn wsX7_init (wsV RX7 76 RX7 yX7_beginAnew wsX7_beginAnew) := goodIn_app (goodIn_of _ (by decide +kernel)) ggX7_init_X7_beginAnew
theorem dX7_init_0 : decode cX7_init 0 = .ok (.aload_n 0, 1) := by decide +kernel
theorem dX7_init_1 : decode cX7_init 1 = .ok (.invokespecial 1, 3) := by decide +kernel
theorem dX7_init_4 : decode cX7_init 4 = .ok (.aload_n 0, 1) := by decide +kernel
theorem dX7_init_5 : decode cX7_init 5 = .ok (.new 7, 3) := by decide +kernel
theorem dX7_init_8 : decode cX7_init 8 = .ok (.dup, 1) := by decide +kernel
theorem dX7_init_9 : decode cX7_init 9 = .ok (.invokespecial 9, 3) := by decide +kernel
theorem dX7_init_12 : decode cX7_init 12 = .ok (.putfield 10, 3) := by decide +kernel
theorem dX7_init_15 : decode cX7_init 15 = .ok (.aload_n 0, 1) := by decide +kernel
theorem dX7_init_16 : decode cX7_init 16 = .ok (.new 16, 3) := by decide +kernel
theorem dX7_init_19 : decode cX7_init 19 = .ok (.dup, 1) := by decide +kernel
theorem dX7_init_20 : decode cX7_init 20 = .ok (.invokespecial 18, 3) := by decide +kernel
theorem dX7_init_23 : decode cX7_init 23 = .ok (.putfield 19, 3) := by decide +kernel
theorem dX7_init_26 : decode cX7_init 26 = .ok (.aload_n 0, 1) := by decide +kernel
theorem dX7_init_27 : decode cX7_init 27 = .ok (.new 16, 3) := by decide +kernel
theorem dX7_init_30 : decode cX7_init 30 = .ok (.dup, 1) := by decide +kernel
theorem dX7_init_31 : decode cX7_init 31 = .ok (.invokespecial 18, 3) := by decide +kernel
theorem dX7_init_34 : decode cX7_init 34 = .ok (.putfield 23, 3) := by decide +kernel
theorem dX7_init_37 : decode cX7_init 37 = .ok (.aload_n 0, 1) := by decide +kernel
theorem dX7_init_38 : decode cX7_init 38 = .ok (.new 26, 3) := by decide +kernel
theorem dX7_init_41 : decode cX7_init 41 = .ok (.dup, 1) := by decide +kernel
theorem dX7_init_42 : decode cX7_init 42 = .ok (.invokespecial 28, 3) := by decide +kernel
theorem dX7_init_45 : decode cX7_init 45 = .ok (.putfield 29, 3) := by decide +kernel
theorem dX7_init_48 : decode cX7_init 48 = .ok (.aload_n 0, 1) := by decide +kernel
theorem dX7_init_49 : decode cX7_init 49 = .ok (.new 26, 3) := by decide +kernel
theorem dX7_init_52 : decode cX7_init 52 = .ok (.dup, 1) := by decide +kernel
theorem dX7_init_53 : decode cX7_init 53 = .ok (.invokespecial 28, 3) := by decide +kernel
theorem dX7_init_56 : decode cX7_init 56 = .ok (.putfield 33, 3) := by decide +kernel
theorem dX7_init_59 : decode cX7_init 59 = .ok (.aload_n 0, 1) := by decide +kernel
theorem dX7_init_60 : decode cX7_init 60 = .ok (.new 36, 3) := by decide +kernel
theorem dX7_init_63 : decode cX7_init 63 = .ok (.dup, 1) := by decide +kernel
theorem dX7_init_64 : decode cX7_init 64 = .ok (.aload_n 0, 1) := by decide +kernel
theorem dX7_init_65 : decode cX7_init 65 = .ok (.getfield 19, 3) := by decide +kernel
theorem dX7_init_68 : decode cX7_init 68 = .ok (.aload_n 0, 1) := by decide +kernel
theorem dX7_init_69 : decode cX7_init 69 = .ok (.getfield 29, 3) := by decide +kernel
theorem dX7_init_72 : decode cX7_init 72 = .ok (.invokespecial 38, 3) := by decide +kernel
theorem dX7_init_75 : decode cX7_init 75 = .ok (.putfield 41, 3) := by decide +kernel
theorem dX7_init_78 : decode cX7_init 78 = .ok (.aload_n 0, 1) := by decide +kernel
theorem dX7_init_79 : decode cX7_init 79 = .ok (.new 36, 3) := by decide +kernel
theorem dX7_init_82 : decode cX7_init 82 = .ok (.dup, 1) := by decide +kernel
theorem dX7_init_83 : decode cX7_init 83 = .ok (.aload_n 0, 1) := by decide +kernel
theorem dX7_init_84 : decode cX7_init 84 = .ok (.getfield 19, 3) := by decide +kernel
theorem dX7_init_87 : decode cX7_init 87 = .ok (.aload_n 0, 1) := by decide +kernel
theorem dX7_init_88 : decode cX7_init 88 = .ok (.getfield 33, 3) := by decide +kernel
theorem dX7_init_91 : decode cX7_init 91 = .ok (.invokespecial 38, 3) := by decide +kernel
theorem dX7_init_94 : decode cX7_init 94 = .ok (.putfield 45, 3) := by decide +kernel
theorem dX7_init_97 : decode cX7_init 97 = .ok (.aload_n 0, 1) := by decide +kernel
theorem dX7_init_98 : decode cX7_init 98 = .ok (.new 48, 3) := by decide +kernel
theorem dX7_init_101 : decode cX7_init 101 = .ok (.dup, 1) := by decide +kernel
theorem dX7_init_102 : decode cX7_init 102 = .ok (.invokespecial 50, 3) := by decide +kernel
theorem dX7_init_105 : decode cX7_init 105 = .ok (.putfield 51, 3) := by decide +kernel
theorem dX7_init_108 : decode cX7_init 108 = .ok (.aload_n 0, 1) := by decide +kernel
theorem dX7_init_109 : decode cX7_init 109 = .ok (.new 55, 3) := by decide +kernel
theorem dX7_init_112 : decode cX7_init 112 = .ok (.dup, 1) := by decide +kernel
theorem dX7_init_113 : decode cX7_init 113 = .ok (.invokespecial 57, 3) := by decide +kernel
theorem dX7_init_116 : decode cX7_init 116 = .ok (.putfield 58, 3) := by decide +kernel
theorem dX7_init_119 : decode cX7_init 119 = .ok (.aload_n 0, 1) := by decide +kernel
theorem dX7_init_120 : decode cX7_init 120 = .ok (.new 55, 3) := by decide +kernel
theorem dX7_init_123 : decode cX7_init 123 = .ok (.dup, 1) := by decide +kernel
theorem dX7_init_124 : decode cX7_init 124 = .ok (.invokespecial 57, 3) := by decide +kernel
theorem dX7_init_127 : decode cX7_init 127 = .ok (.putfield 62, 3) := by decide +kernel
theorem dX7_init_130 : decode cX7_init 130 = .ok (.aload_n 0, 1) := by decide +kernel
theorem dX7_init_131 : decode cX7_init 131 = .ok (.iconst 4, 1) := by decide +kernel
theorem dX7_init_132 : decode cX7_init 132 = .ok (.newarray .int, 2) := by decide +kernel
theorem dX7_init_134 : decode cX7_init 134 = .ok (.putfield 65, 3) := by decide +kernel
theorem dX7_init_137 : decode cX7_init 137 = .ok (.aload_n 0, 1) := by decide +kernel
theorem dX7_init_138 : decode cX7_init 138 = .ok (.iconst 4, 1) := by decide +kernel
theorem dX7_init_139 : decode cX7_init 139 = .ok (.newarray .int, 2) := by decide +kernel
theorem dX7_init_141 : decode cX7_init 141 = .ok (.putfield 69, 3) := by decide +kernel
theorem dX7_init_144 : decode cX7_init 144 = .ok (.aload_n 0, 1) := by decide +kernel
theorem dX7_init_145 : decode cX7_init 145 = .ok (.iconst 0, 1) := by decide +kernel
theorem dX7_init_146 : decode cX7_init 146 = .ok (.putfield 72, 3) := by decide +kernel
theorem dX7_init_149 : decode cX7_init 149 = .ok (.aload_n 0, 1) := by decide +kernel
theorem dX7_init_150 : decode cX7_init 150 = .ok (.invokevirtual 76, 3) := by decide +kernel
theorem dX7_init_153 : decode cX7_init 153 = .ok (.return_, 1) := by decide +kernel
set_option maxRecDepth 20000 in
theorem ggX7_type_X7_isWithin : GoodIn wsX7_type wsX7_isWithin := goodIn_r _ [6] (by decide +kernel) (by decide +kernel)
set_option maxRecDepth 20000 in
theorem gX7_type_X7_isWithin : GoodIn wsX7_type (va_wsS RX7 79 yX7_isWithin wsX7_isWithin) := goodIn_app (goodIn_of _ (by decide +kernel)) ggX7_type_X7_isWithin
set_option maxRecDepth 20000 in
theorem ggX7_type_X6_add : GoodIn wsX7_type wsX6_add := goodIn_r _ [11, 12, 13, 27, 28, 29, 30, 31, 32] (by decide +kernel) (by decide +kernel)
set_option maxRecDepth 20000 in
theorem gX7_type_X6_add : GoodIn wsX7_type (wsV RX7 83 RX6 yX6_add wsX6_add) := goodIn_app (goodIn_of _ (by decide +kernel)) ggX7_type_X6_add
theorem dX7_type_0 : decode cX7_type 0 = .ok (.iload_n 1, 1) := by decide +kernel
theorem dX7_type_1 : decode cX7_type 1 = .ok (.iconst 0, 1) := by decide +kernel
theorem dX7_type_2 : decode cX7_type 2 = .ok (.sipush 255, 3) := by decide +kernel
theorem dX7_type_5 : decode cX7_type 5 = .ok (.invokestatic 79, 3) := by decide +kernel
theorem dX7_type_8 : decode cX7_type 8 = .ok (.ifCond .ne 5, 3) := by decide +kernel
theorem dX7_type_11 : decode cX7_type 11 = .ok (.iconst (-1), 1) := by decide +kernel
theorem dX7_type_12 : decode cX7_type 12 = .ok (.ireturn, 1) := by decide +kernel
theorem dX7_type_13 : decode cX7_type 13 = .ok (.aload_n 0, 1) := by decide +kernel
theorem dX7_type_14 : decode cX7_type 14 = .ok (.getfield 10, 3) := by decide +kernel
theorem dX7_type_17 : decode cX7_type 17 = .ok (.iload_n 1, 1) := by decide +kernel
theorem dX7_type_18 : decode cX7_type 18 = .ok (.invokevirtual 83, 3) := by decide +kernel
theorem dX7_type_21 : decode cX7_type 21 = .ok (.ifCond .eq 13, 3) := by decide +kernel
theorem dX7_type_24 : decode cX7_type 24 = .ok (.aload_n 0, 1) := by decide +kernel
theorem dX7_type_25 : decode cX7_type 25 = .ok (.getfield 10, 3) := by decide +kernel
theorem dX7_type_28 : decode cX7_type 28 = .ok (.getfield 87, 3) := by decide +kernel
theorem dX7_type_31 : decode cX7_type 31 = .ok (.goto 5, 3) := by decide +kernel
theorem dX7_type_34 : decode cX7_type 34 = .ok (.bipush (-3), 2) := by decide +kernel
theorem dX7_type_36 : decode cX7_type 36 = .ok (.ireturn, 1) := by decide +kernel
set_option maxRecDepth 20000 in
theorem ggX7_clear_X6_empty : GoodIn wsX7_clear wsX6_empty := goodIn_r _ [6, 7, 21, 22, 23, 24, 25, 26] (by decide +kernel) (by decide +kernel)
set_option maxRecDepth 20000 in
theorem gX7_clear_X6_empty : GoodIn wsX7_clear (wsV RX7 90 RX6 yX6_empty wsX6_empty) := goodIn_app (goodIn_of _ (by decide +kernel)) ggX7_clear_X6_empty
theorem dX7_clear_0 : decode cX7_clear 0 = .ok (.aload_n 0, 1) := by decide +kernel
theorem dX7_clear_1 : decode cX7_clear 1 = .ok (.getfield 10, 3) := by decide +kernel
theorem dX7_clear_4 : decode cX7_clear 4 = .ok (.invokevirtual 90, 3) := by decide +kernel
theorem dX7_clear_7 : decode cX7_clear 7 = .ok (.ireturn, 1) := by decide +kernel
set_option maxRecDepth 20000 in
theorem ggX7_cell_X6_readInto : GoodIn wsX7_cell wsX6_readInto := goodIn_r _ [8, 9, 10, 11, 12, 13, 14, 15, 16, 17, 18, 19, 20, 21, 22, 23, 24, 25, 7, 26, 27, 28, 29, 30, 31, 32, 33, 34, 35, 36, 37, 38, 39, 40, 41, 42, 43, 44, 45, 46, 47, 48, 49, 50, 51, 52, 53, 54, 55, 56, 57, 58, 59, 60, 61, 62, 63, 64, 65, 66, 67, 68, 69, 70, 71, 72, 73, 74, 75, 76, 77, 78, 79, 80, 81, 82, 83, 84, 85, 86, 158, 159, 160, 161, 162, 163, 164, 165, 166, 167, 168, 169, 170, 171, 172, 173, 174] (by decide +kernel) (by decide +kernel)
set_option maxRecDepth 20000 in
theorem gX7_cell_X6_readInto : GoodIn wsX7_cell (wsV RX7 94 RX6 yX6_readInto wsX6_readInto) := goodIn_app (goodIn_of _ (by decide +kernel)) ggX7_cell_X6_readInto
set_option maxRecDepth 20000 in
theorem ggX7_cell_X3_copyFrom : GoodIn wsX7_cell wsX3_copyFrom := goodIn_r _ [90, 17, 18, 19, 20, 21, 22, 91, 92, 93, 94, 95, 96, 97, 98, 99, 42, 43, 44, 100, 101, 102, 103, 164, 165, 166, 167, 168, 169, 170, 171, 172, 173, 174] (by decide +kernel) (by decide +kernel)
set_option maxRecDepth 20000 in
theorem gX7_cell_X3_copyFrom : GoodIn wsX7_cell (wsV RX7 98 RX3 yX3_copyFrom wsX3_copyFrom) := goodIn_app (goodIn_of _ (by decide +kernel)) ggX7_cell_X3_copyFrom
set_option maxRecDepth 20000 in
theorem ggX7_cell_X6_empty : GoodIn wsX7_cell wsX6_empty := goodIn_r _ [107, 27, 158, 159, 160, 161, 162, 163] (by decide +kernel) (by decide +kernel)
set_option maxRecDepth 20000 in
theorem gX7_cell_X6_empty : GoodIn wsX7_cell (wsV RX7 90 RX6 yX6_empty wsX6_empty) := goodIn_app (goodIn_of _ (by decide +kernel)) ggX7_cell_X6_empty
set_option maxRecDepth 20000 in
theorem ggX7_cell_X7_beginAnew : GoodIn wsX7_cell wsX7_beginAnew := goodIn_r _ [111, 112, 3, 113, 114, 115, 116, 117, 118, 119, 120, 121, 122, 123, 124, 125, 126, 127, 128, 129, 130, 131, 132, 133, 134, 135, 136, 137, 138, 139, 140, 141, 142, 143, 144, 145, 146, 147, 148, 149, 150, 151, 152, 153, 154, 155, 156, 157, 164, 165, 166, 167, 168, 169, 170, 171, 172, 173, 174, 175, 176, 177, 178, 179, 180, 181, 182, 183, 184, 185, 186, 187, 188, 189, 190, 191, 192, 193, 194, 195, 196, 197, 198, 199, 200] (by decide +kernel) (by decide +kernel)
set_option maxRecDepth 20000 in
theorem gX7_cell_X7_beginAnew : GoodIn wsX7_cell (wsV RX7 76 RX7 yX7_beginAnew wsX7_beginAnew) := goodIn_app (goodIn_of _ (by decide +kernel)) ggX7_cell_X7_beginAnew
theorem dX7_cell_0 : decode cX7_cell 0 = .ok (.aload_n 0, 1) := by decide +kernel
theorem dX7_cell_1 : decode cX7_cell 1 = .ok (.getfield 10, 3) := by decide +kernel
theorem dX7_cell_4 : decode cX7_cell 4 = .ok (.aload_n 0, 1) := by decide +kernel
theorem dX7_cell_5 : decode cX7_cell 5 = .ok (.getfield 23, 3) := by decide +kernel
theorem dX7_cell_8 : decode cX7_cell 8 = .ok (.invokevirtual 94, 3) := by decide +kernel
theorem dX7_cell_11 : decode cX7_cell 11 = .ok (.istore_n 1, 1) := by decide +kernel
theorem dX7_cell_12 : decode cX7_cell 12 = .ok (.iload_n 1, 1) := by decide +kernel
theorem dX7_cell_13 : decode cX7_cell 13 = .ok (.ifCond .ge 5, 3) := by decide +kernel
theorem dX7_cell_16 : decode cX7_cell 16 = .ok (.iload_n 1, 1) := by decide +kernel
theorem dX7_cell_17 : decode cX7_cell 17 = .ok (.ireturn, 1) := by decide +kernel
theorem dX7_cell_18 : decode cX7_cell 18 = .ok (.aload_n 0, 1) := by decide +kernel
theorem dX7_cell_19 : decode cX7_cell 19 = .ok (.getfield 19, 3) := by decide +kernel
theorem dX7_cell_22 : decode cX7_cell 22 = .ok (.aload_n 0, 1) := by decide +kernel
theorem dX7_cell_23 : decode cX7_cell 23 = .ok (.getfield 23, 3) := by decide +kernel
theorem dX7_cell_26 : decode cX7_cell 26 = .ok (.invokevirtual 98, 3) := by decide +kernel
theorem dX7_cell_29 : decode cX7_cell 29 = .ok (.aload_n 0, 1) := by decide +kernel
theorem dX7_cell_30 : decode cX7_cell 30 = .ok (.getfield 10, 3) := by decide +kernel
theorem dX7_cell_33 : decode cX7_cell 33 = .ok (.invokevirtual 90, 3) := by decide +kernel
theorem dX7_cell_36 : decode cX7_cell 36 = .ok (.pop, 1) := by decide +kernel
theorem dX7_cell_37 : decode cX7_cell 37 = .ok (.aload_n 0, 1) := by decide +kernel
theorem dX7_cell_38 : decode cX7_cell 38 = .ok (.invokevirtual 76, 3) := by decide +kernel
theorem dX7_cell_41 : decode cX7_cell 41 = .ok (.iload_n 1, 1) := by decide +kernel
theorem dX7_cell_42 : decode cX7_cell 42 = .ok (.ireturn, 1) := by decide +kernel
set_option maxRecDepth 20000 in
theorem ggX7_comes_X7_hasClass : GoodIn wsX7_comes wsX7_hasClass := goodIn_r _ [9, 10, 11, 90, 91, 92, 93, 94, 95, 96, 97, 98, 99, 100, 101, 102, 118, 119, 120, 121, 122, 123, 124, 125, 126, 127, 128] (by decide +kernel) (by decide +kernel)
set_option maxRecDepth 20000 in
theorem gX7_comes_X7_hasClass : GoodIn wsX7_comes (wsV RX7 102 RX7 yX7_hasClass wsX7_hasClass) := goodIn_app (goodIn_of _ (by decide +kernel)) ggX7_comes_X7_hasClass
set_option maxRecDepth 20000 in
theorem ggX7_comes_X7_isWithin : GoodIn wsX7_comes wsX7_isWithin := goodIn_r _ [14] (by decide +kernel) (by decide +kernel)
set_option maxRecDepth 20000 in
theorem gX7_comes_X7_isWithin : GoodIn wsX7_comes (va_wsS RX7 79 yX7_isWithin wsX7_isWithin) := goodIn_app (goodIn_of _ (by decide +kernel)) ggX7_comes_X7_isWithin
set_option maxRecDepth 20000 in
theorem ggX7_comes_X1_remember : GoodIn wsX7_comes wsX1_remember := goodIn_r _ [19, 20, 21, 22, 23, 24, 25, 26, 27, 28, 18, 29, 30, 13, 8, 14, 31, 32, 33, 34, 35, 36, 37, 38, 39, 40, 41, 42, 43, 44, 45, 46, 47, 48, 49, 50, 51, 52, 53, 54, 55, 56, 57, 58, 59, 60, 61, 62, 63, 64, 65, 66, 67, 68, 129, 130, 131, 103, 104, 105, 106, 107, 108, 109, 110, 111, 112, 113, 114, 115, 116, 117, 132, 133, 134, 135, 136, 137] (by decide +kernel) (by decide +kernel)
set_option maxRecDepth 20000 in
theorem gX7_comes_X1_remember : GoodIn wsX7_comes (wsV RX7 108 RX1 yX1_remember wsX1_remember) := goodIn_app (goodIn_of _ (by decide +kernel)) ggX7_comes_X1_remember
set_option maxRecDepth 20000 in
theorem ggX7_comes_X5_bring : GoodIn wsX7_comes wsX5_bring := goodIn_r _ [73, 74, 75, 76, 77, 78, 13, 8, 14, 79, 80, 81, 72, 82, 83, 84, 85, 86, 87, 88, 89, 138, 139, 140, 118, 119, 120, 121, 122, 123, 124, 125, 126, 127, 128, 103, 104, 105, 106, 107, 108, 109, 110, 111, 112, 113, 114, 115, 116, 117] (by decide +kernel) (by decide +kernel)
set_option maxRecDepth 20000 in
theorem gX7_comes_X5_bring : GoodIn wsX7_comes (wsV RX7 112 RX5 yX5_bring wsX5_bring) := goodIn_app (goodIn_of _ (by decide +kernel)) ggX7_comes_X5_bring
theorem dX7_comes_0 : decode cX7_comes 0 = .ok (.aload_n 0, 1) := by decide +kernel
theorem dX7_comes_1 : decode cX7_comes 1 = .ok (.iload_n 1, 1) := by decide +kernel
theorem dX7_comes_2 : decode cX7_comes 2 = .ok (.invokevirtual 102, 3) := by decide +kernel
theorem dX7_comes_5 : decode cX7_comes 5 = .ok (.ifCond .eq 13, 3) := by decide +kernel
theorem dX7_comes_8 : decode cX7_comes 8 = .ok (.iload_n 2, 1) := by decide +kernel
theorem dX7_comes_9 : decode cX7_comes 9 = .ok (.iconst 1, 1) := by decide +kernel
theorem dX7_comes_10 : decode cX7_comes 10 = .ok (.bipush 99, 2) := by decide +kernel
theorem dX7_comes_12 : decode cX7_comes 12 = .ok (.invokestatic 79, 3) := by decide +kernel
theorem dX7_comes_15 : decode cX7_comes 15 = .ok (.ifCond .ne 5, 3) := by decide +kernel
theorem dX7_comes_18 : decode cX7_comes 18 = .ok (.iconst (-1), 1) := by decide +kernel
theorem dX7_comes_19 : decode cX7_comes 19 = .ok (.ireturn, 1) := by decide +kernel
theorem dX7_comes_20 : decode cX7_comes 20 = .ok (.aload_n 0, 1) := by decide +kernel
theorem dX7_comes_21 : decode cX7_comes 21 = .ok (.getfield 29, 3) := by decide +kernel
theorem dX7_comes_24 : decode cX7_comes 24 = .ok (.getfield 105, 3) := by decide +kernel
theorem dX7_comes_27 : decode cX7_comes 27 = .ok (.iload_n 1, 1) := by decide +kernel
theorem dX7_comes_28 : decode cX7_comes 28 = .ok (.iaload, 1) := by decide +kernel
theorem dX7_comes_29 : decode cX7_comes 29 = .ok (.iload_n 2, 1) := by decide +kernel
theorem dX7_comes_30 : decode cX7_comes 30 = .ok (.iadd, 1) := by decide +kernel
theorem dX7_comes_31 : decode cX7_comes 31 = .ok (.sipush 999, 3) := by decide +kernel
theorem dX7_comes_34 : decode cX7_comes 34 = .ok (.if_icmp .le 6, 3) := by decide +kernel
theorem dX7_comes_37 : decode cX7_comes 37 = .ok (.bipush (-3), 2) := by decide +kernel
theorem dX7_comes_39 : decode cX7_comes 39 = .ok (.ireturn, 1) := by decide +kernel
theorem dX7_comes_40 : decode cX7_comes 40 = .ok (.aload_n 0, 1) := by decide +kernel
theorem dX7_comes_41 : decode cX7_comes 41 = .ok (.getfield 51, 3) := by decide +kernel
theorem dX7_comes_44 : decode cX7_comes 44 = .ok (.aload_n 0, 1) := by decide +kernel
theorem dX7_comes_45 : decode cX7_comes 45 = .ok (.getfield 29, 3) := by decide +kernel
theorem dX7_comes_48 : decode cX7_comes 48 = .ok (.invokevirtual 108, 3) := by decide +kernel
theorem dX7_comes_51 : decode cX7_comes 51 = .ok (.aload_n 0, 1) := by decide +kernel
theorem dX7_comes_52 : decode cX7_comes 52 = .ok (.getfield 41, 3) := by decide +kernel
theorem dX7_comes_55 : decode cX7_comes 55 = .ok (.iload_n 1, 1) := by decide +kernel
theorem dX7_comes_56 : decode cX7_comes 56 = .ok (.iload_n 2, 1) := by decide +kernel
theorem dX7_comes_57 : decode cX7_comes 57 = .ok (.invokevirtual 112, 3) := by decide +kernel
theorem dX7_comes_60 : decode cX7_comes 60 = .ok (.aload_n 0, 1) := by decide +kernel
theorem dX7_comes_61 : decode cX7_comes 61 = .ok (.getfield 29, 3) := by decide +kernel
theorem dX7_comes_64 : decode cX7_comes 64 = .ok (.getfield 105, 3) := by decide +kernel
theorem dX7_comes_67 : decode cX7_comes 67 = .ok (.iload_n 1, 1) := by decide +kernel
theorem dX7_comes_68 : decode cX7_comes 68 = .ok (.iaload, 1) := by decide +kernel
theorem dX7_comes_69 : decode cX7_comes 69 = .ok (.ireturn, 1) := by decide +kernel
set_option maxRecDepth 20000 in
theorem ggX7_steps_X7_isWithin : GoodIn wsX7_steps wsX7_isWithin := goodIn_r _ [8] (by decide +kernel) (by decide +kernel)
set_option maxRecDepth 20000 in
theorem gX7_steps_X7_isWithin : GoodIn wsX7_steps (va_wsS RX7 79 yX7_isWithin wsX7_isWithin) := goodIn_app (goodIn_of _ (by decide +kernel)) ggX7_steps_X7_isWithin
set_option maxRecDepth 20000 in
theorem ggX7_steps_X1_remember : GoodIn wsX7_steps wsX1_remember := goodIn_r _ [13, 14, 15, 16, 17, 18, 19, 20, 21, 22, 12, 23, 24, 6, 7, 8, 25, 26, 27, 28, 29, 30, 31, 32, 33, 34, 35, 36, 37, 38, 39, 40, 41, 42, 43, 44, 45, 46, 47, 48, 49, 50, 51, 52, 53, 54, 55, 56, 57, 58, 59, 60, 61, 62, 231, 232, 233, 216, 217, 218, 219, 220, 221, 222, 223, 224, 225, 226, 227, 228, 229, 230, 234, 235, 236, 237, 238, 239] (by decide +kernel) (by decide +kernel)
set_option maxRecDepth 20000 in
theorem gX7_steps_X1_remember : GoodIn wsX7_steps (wsV RX7 108 RX1 yX1_remember wsX1_remember) := goodIn_app (goodIn_of _ (by decide +kernel)) ggX7_steps_X1_remember
set_option maxRecDepth 20000 in
theorem ggX7_steps_X5_takeSteps : GoodIn wsX7_steps wsX5_takeSteps := goodIn_r _ [67, 68, 69, 70, 71, 72, 73, 74, 75, 28, 76, 41, 77, 78, 79, 66, 80, 81, 82, 83, 84, 85, 86, 17, 18, 19, 87, 88, 89, 90, 91, 92, 93, 94, 95, 96, 97, 98, 99, 100, 101, 102, 103, 104, 105, 106, 107, 108, 109, 110, 111, 112, 113, 55, 114, 58, 59, 115, 116, 117, 118, 119, 120, 121, 122, 62, 123, 124, 125, 126, 61, 127, 128, 129, 130, 131, 132, 133, 134, 135, 136, 137, 138, 139, 60, 140, 141, 142, 143, 43, 144, 145, 146, 147, 148, 149, 150, 151, 152, 153, 154, 155, 156, 157, 158, 159, 160, 161, 162, 163, 164, 165, 166, 167, 168, 169, 170, 171, 172, 173, 174, 175, 57, 176, 177, 178, 179, 180, 181, 182, 183, 184, 185, 186, 187, 188, 189, 190, 191, 192, 193, 194, 195, 196, 197, 198, 199, 200, 201, 202, 240, 241, 242, 216, 217, 218, 219, 220, 221, 222, 223, 224, 225, 226, 227, 228, 229, 230, 243, 244, 245, 246, 247, 248, 249, 250, 251, 252, 253, 234, 235, 236, 237, 238, 239] (by decide +kernel) (by decide +kernel)
set_option maxRecDepth 20000 in
theorem gX7_steps_X5_takeSteps : GoodIn wsX7_steps (wsV RX7 119 RX5 yX5_takeSteps wsX5_takeSteps) := goodIn_app (goodIn_of _ (by decide +kernel)) ggX7_steps_X5_takeSteps
theorem dX7_steps_0 : decode cX7_steps 0 = .ok (.iload_n 1, 1) := by decide +kernel
theorem dX7_steps_1 : decode cX7_steps 1 = .ok (.iconst 1, 1) := by decide +kernel
theorem dX7_steps_2 : decode cX7_steps 2 = .ok (.bipush 40, 2) := by decide +kernel
theorem dX7_steps_4 : decode cX7_steps 4 = .ok (.invokestatic 79, 3) := by decide +kernel
theorem dX7_steps_7 : decode cX7_steps 7 = .ok (.ifCond .ne 5, 3) := by decide +kernel
theorem dX7_steps_10 : decode cX7_steps 10 = .ok (.iconst (-1), 1) := by decide +kernel
theorem dX7_steps_11 : decode cX7_steps 11 = .ok (.ireturn, 1) := by decide +kernel
theorem dX7_steps_12 : decode cX7_steps 12 = .ok (.aload_n 0, 1) := by decide +kernel
theorem dX7_steps_13 : decode cX7_steps 13 = .ok (.getfield 29, 3) := by decide +kernel
theorem dX7_steps_16 : decode cX7_steps 16 = .ok (.getfield 116, 3) := by decide +kernel
theorem dX7_steps_19 : decode cX7_steps 19 = .ok (.iload_n 1, 1) := by decide +kernel
theorem dX7_steps_20 : decode cX7_steps 20 = .ok (.iadd, 1) := by decide +kernel
theorem dX7_steps_21 : decode cX7_steps 21 = .ok (.sipush 199, 3) := by decide +kernel
theorem dX7_steps_24 : decode cX7_steps 24 = .ok (.if_icmp .le 6, 3) := by decide +kernel
theorem dX7_steps_27 : decode cX7_steps 27 = .ok (.bipush (-2), 2) := by decide +kernel
theorem dX7_steps_29 : decode cX7_steps 29 = .ok (.ireturn, 1) := by decide +kernel
theorem dX7_steps_30 : decode cX7_steps 30 = .ok (.aload_n 0, 1) := by decide +kernel
theorem dX7_steps_31 : decode cX7_steps 31 = .ok (.getfield 51, 3) := by decide +kernel
theorem dX7_steps_34 : decode cX7_steps 34 = .ok (.aload_n 0, 1) := by decide +kernel
theorem dX7_steps_35 : decode cX7_steps 35 = .ok (.getfield 29, 3) := by decide +kernel
theorem dX7_steps_38 : decode cX7_steps 38 = .ok (.invokevirtual 108, 3) := by decide +kernel
theorem dX7_steps_41 : decode cX7_steps 41 = .ok (.aload_n 0, 1) := by decide +kernel
theorem dX7_steps_42 : decode cX7_steps 42 = .ok (.getfield 41, 3) := by decide +kernel
theorem dX7_steps_45 : decode cX7_steps 45 = .ok (.iload_n 1, 1) := by decide +kernel
theorem dX7_steps_46 : decode cX7_steps 46 = .ok (.invokevirtual 119, 3) := by decide +kernel
theorem dX7_steps_49 : decode cX7_steps 49 = .ok (.ireturn, 1) := by decide +kernel
set_option maxRecDepth 20000 in
theorem ggX7_deafens_X7_hasTerminal : GoodIn wsX7_deafens wsX7_hasTerminal := goodIn_r _ [8, 9, 10, 79, 80, 81, 82, 83, 84, 85, 86, 87, 88, 89, 90, 91, 107, 108, 109, 110, 111, 112, 113, 114, 115, 116, 117] (by decide +kernel) (by decide +kernel)
set_option maxRecDepth 20000 in
theorem gX7_deafens_X7_hasTerminal : GoodIn wsX7_deafens (wsV RX7 123 RX7 yX7_hasTerminal wsX7_hasTerminal) := goodIn_app (goodIn_of _ (by decide +kernel)) ggX7_deafens_X7_hasTerminal
set_option maxRecDepth 20000 in
theorem ggX7_deafens_X7_isWithin : GoodIn wsX7_deafens wsX7_isWithin := goodIn_r _ [13] (by decide +kernel) (by decide +kernel)
set_option maxRecDepth 20000 in
theorem gX7_deafens_X7_isWithin : GoodIn wsX7_deafens (va_wsS RX7 79 yX7_isWithin wsX7_isWithin) := goodIn_app (goodIn_of _ (by decide +kernel)) ggX7_deafens_X7_isWithin
set_option maxRecDepth 20000 in
theorem ggX7_deafens_X1_remember : GoodIn wsX7_deafens wsX1_remember := goodIn_r _ [18, 19, 20, 21, 22, 23, 24, 25, 26, 27, 17, 28, 29, 12, 7, 13, 30, 31, 32, 33, 34, 35, 36, 37, 38, 39, 40, 41, 42, 43, 44, 45, 46, 47, 48, 49, 50, 51, 52, 53, 54, 55, 56, 57, 58, 59, 60, 61, 62, 63, 64, 65, 66, 67, 118, 119, 120, 92, 93, 94, 95, 96, 97, 98, 99, 100, 101, 102, 103, 104, 105, 106, 121, 122, 123, 124, 125, 126] (by decide +kernel) (by decide +kernel)
set_option maxRecDepth 20000 in
theorem gX7_deafens_X1_remember : GoodIn wsX7_deafens (wsV RX7 108 RX1 yX1_remember wsX1_remember) := goodIn_app (goodIn_of _ (by decide +kernel)) ggX7_deafens_X1_remember
set_option maxRecDepth 20000 in
theorem ggX7_deafens_X4_makeDeaf : GoodIn wsX7_deafens wsX4_makeDeaf := goodIn_r _ [71, 72, 73, 23, 74, 48, 75, 76, 77, 33, 78, 92, 93, 94, 95, 96, 97, 98, 99, 100, 101, 102, 103, 104, 105, 106] (by decide +kernel) (by decide +kernel)
set_option maxRecDepth 20000 in
theorem gX7_deafens_X4_makeDeaf : GoodIn wsX7_deafens (wsV RX7 126 RX4 yX4_makeDeaf wsX4_makeDeaf) := goodIn_app (goodIn_of _ (by decide +kernel)) ggX7_deafens_X4_makeDeaf
theorem dX7_deafens_0 : decode cX7_deafens 0 = .ok (.aload_n 0, 1) := by decide +kernel
theorem dX7_deafens_1 : decode cX7_deafens 1 = .ok (.iload_n 1, 1) := by decide +kernel
theorem dX7_deafens_2 : decode cX7_deafens 2 = .ok (.invokevirtual 123, 3) := by decide +kernel
theorem dX7_deafens_5 : decode cX7_deafens 5 = .ok (.ifCond .eq 31, 3) := by decide +kernel
theorem dX7_deafens_8 : decode cX7_deafens 8 = .ok (.iload_n 2, 1) := by decide +kernel
theorem dX7_deafens_9 : decode cX7_deafens 9 = .ok (.aload_n 0, 1) := by decide +kernel
theorem dX7_deafens_10 : decode cX7_deafens 10 = .ok (.getfield 29, 3) := by decide +kernel
theorem dX7_deafens_13 : decode cX7_deafens 13 = .ok (.getfield 116, 3) := by decide +kernel
theorem dX7_deafens_16 : decode cX7_deafens 16 = .ok (.sipush 199, 3) := by decide +kernel
theorem dX7_deafens_19 : decode cX7_deafens 19 = .ok (.invokestatic 79, 3) := by decide +kernel
theorem dX7_deafens_22 : decode cX7_deafens 22 = .ok (.ifCond .eq 14, 3) := by decide +kernel
theorem dX7_deafens_25 : decode cX7_deafens 25 = .ok (.iload_n 3, 1) := by decide +kernel
theorem dX7_deafens_26 : decode cX7_deafens 26 = .ok (.iload_n 2, 1) := by decide +kernel
theorem dX7_deafens_27 : decode cX7_deafens 27 = .ok (.sipush 199, 3) := by decide +kernel
theorem dX7_deafens_30 : decode cX7_deafens 30 = .ok (.invokestatic 79, 3) := by decide +kernel
theorem dX7_deafens_33 : decode cX7_deafens 33 = .ok (.ifCond .ne 5, 3) := by decide +kernel
theorem dX7_deafens_36 : decode cX7_deafens 36 = .ok (.iconst (-1), 1) := by decide +kernel
theorem dX7_deafens_37 : decode cX7_deafens 37 = .ok (.ireturn, 1) := by decide +kernel
theorem dX7_deafens_38 : decode cX7_deafens 38 = .ok (.aload_n 0, 1) := by decide +kernel
theorem dX7_deafens_39 : decode cX7_deafens 39 = .ok (.getfield 51, 3) := by decide +kernel
theorem dX7_deafens_42 : decode cX7_deafens 42 = .ok (.aload_n 0, 1) := by decide +kernel
theorem dX7_deafens_43 : decode cX7_deafens 43 = .ok (.getfield 29, 3) := by decide +kernel
theorem dX7_deafens_46 : decode cX7_deafens 46 = .ok (.invokevirtual 108, 3) := by decide +kernel
theorem dX7_deafens_49 : decode cX7_deafens 49 = .ok (.aload_n 0, 1) := by decide +kernel
theorem dX7_deafens_50 : decode cX7_deafens 50 = .ok (.getfield 29, 3) := by decide +kernel
theorem dX7_deafens_53 : decode cX7_deafens 53 = .ok (.iload_n 1, 1) := by decide +kernel
theorem dX7_deafens_54 : decode cX7_deafens 54 = .ok (.iload_n 2, 1) := by decide +kernel
theorem dX7_deafens_55 : decode cX7_deafens 55 = .ok (.iload_n 3, 1) := by decide +kernel
theorem dX7_deafens_56 : decode cX7_deafens 56 = .ok (.invokevirtual 126, 3) := by decide +kernel
theorem dX7_deafens_59 : decode cX7_deafens 59 = .ok (.ireturn, 1) := by decide +kernel
set_option maxRecDepth 20000 in
theorem ggX7_widens_X7_isWithin : GoodIn wsX7_widens wsX7_isWithin := goodIn_r _ [7] (by decide +kernel) (by decide +kernel)
set_option maxRecDepth 20000 in
theorem gX7_widens_X7_isWithin : GoodIn wsX7_widens (va_wsS RX7 79 yX7_isWithin wsX7_isWithin) := goodIn_app (goodIn_of _ (by decide +kernel)) ggX7_widens_X7_isWithin
set_option maxRecDepth 20000 in
theorem ggX7_widens_X1_remember : GoodIn wsX7_widens wsX1_remember := goodIn_r _ [12, 13, 14, 15, 16, 17, 18, 19, 20, 21, 11, 22, 23, 5, 6, 7, 24, 25, 26, 27, 28, 29, 30, 31, 32, 33, 34, 35, 36, 37, 38, 39, 40, 41, 42, 43, 44, 45, 46, 47, 48, 49, 50, 51, 52, 53, 54, 55, 56, 57, 58, 59, 60, 61, 90, 91, 92, 75, 76, 77, 78, 79, 80, 81, 82, 83, 84, 85, 86, 87, 88, 89, 93, 94, 95, 96, 97, 98] (by decide +kernel) (by decide +kernel)
set_option maxRecDepth 20000 in
theorem gX7_widens_X1_remember : GoodIn wsX7_widens (wsV RX7 108 RX1 yX1_remember wsX1_remember) := goodIn_app (goodIn_of _ (by decide +kernel)) ggX7_widens_X1_remember
theorem dX7_widens_0 : decode cX7_widens 0 = .ok (.iload_n 1, 1) := by decide +kernel
theorem dX7_widens_1 : decode cX7_widens 1 = .ok (.iconst 0, 1) := by decide +kernel
theorem dX7_widens_2 : decode cX7_widens 2 = .ok (.bipush 60, 2) := by decide +kernel
theorem dX7_widens_4 : decode cX7_widens 4 = .ok (.invokestatic 79, 3) := by decide +kernel
theorem dX7_widens_7 : decode cX7_widens 7 = .ok (.ifCond .ne 5, 3) := by decide +kernel
theorem dX7_widens_10 : decode cX7_widens 10 = .ok (.iconst (-1), 1) := by decide +kernel
theorem dX7_widens_11 : decode cX7_widens 11 = .ok (.ireturn, 1) := by decide +kernel
theorem dX7_widens_12 : decode cX7_widens 12 = .ok (.aload_n 0, 1) := by decide +kernel
theorem dX7_widens_13 : decode cX7_widens 13 = .ok (.getfield 29, 3) := by decide +kernel
theorem dX7_widens_16 : decode cX7_widens 16 = .ok (.getfield 130, 3) := by decide +kernel
theorem dX7_widens_19 : decode cX7_widens 19 = .ok (.istore_n 2, 1) := by decide +kernel
theorem dX7_widens_20 : decode cX7_widens 20 = .ok (.iload_n 1, 1) := by decide +kernel
theorem dX7_widens_21 : decode cX7_widens 21 = .ok (.iload_n 2, 1) := by decide +kernel
theorem dX7_widens_22 : decode cX7_widens 22 = .ok (.if_icmp .ne 6, 3) := by decide +kernel
theorem dX7_widens_25 : decode cX7_widens 25 = .ok (.bipush (-2), 2) := by decide +kernel
theorem dX7_widens_27 : decode cX7_widens 27 = .ok (.ireturn, 1) := by decide +kernel
theorem dX7_widens_28 : decode cX7_widens 28 = .ok (.aload_n 0, 1) := by decide +kernel
theorem dX7_widens_29 : decode cX7_widens 29 = .ok (.getfield 51, 3) := by decide +kernel
theorem dX7_widens_32 : decode cX7_widens 32 = .ok (.aload_n 0, 1) := by decide +kernel
theorem dX7_widens_33 : decode cX7_widens 33 = .ok (.getfield 29, 3) := by decide +kernel
theorem dX7_widens_36 : decode cX7_widens 36 = .ok (.invokevirtual 108, 3) := by decide +kernel
theorem dX7_widens_39 : decode cX7_widens 39 = .ok (.aload_n 0, 1) := by decide +kernel
theorem dX7_widens_40 : decode cX7_widens 40 = .ok (.getfield 29, 3) := by decide +kernel
theorem dX7_widens_43 : decode cX7_widens 43 = .ok (.iload_n 1, 1) := by decide +kernel
theorem dX7_widens_44 : decode cX7_widens 44 = .ok (.putfield 130, 3) := by decide +kernel
theorem dX7_widens_47 : decode cX7_widens 47 = .ok (.iload_n 2, 1) := by decide +kernel
theorem dX7_widens_48 : decode cX7_widens 48 = .ok (.ireturn, 1) := by decide +kernel
set_option maxRecDepth 20000 in
theorem ggX7_undo_X1_takeBack : GoodIn wsX7_undo wsX1_takeBack := goodIn_r _ [8, 9, 10, 11, 12, 13, 7, 14, 15, 16, 17, 18, 19, 20, 21, 22, 23, 24, 25, 26, 27, 28, 29, 30, 31, 32, 33, 34, 35, 36, 37, 38, 39, 40, 41, 42, 43, 44, 45, 46, 47, 48, 49, 50, 51, 52, 53, 54, 55, 56, 57, 58, 59, 73, 74, 75, 76, 77, 78, 79, 80, 81, 82, 83, 84, 85, 86, 87, 88, 89, 90, 91, 92, 93, 94, 95, 96] (by decide +kernel) (by decide +kernel)
set_option maxRecDepth 20000 in
theorem gX7_undo_X1_takeBack : GoodIn wsX7_undo (wsV RX7 133 RX1 yX1_takeBack wsX1_takeBack) := goodIn_app (goodIn_of _ (by decide +kernel)) ggX7_undo_X1_takeBack
theorem dX7_undo_0 : decode cX7_undo 0 = .ok (.aload_n 0, 1) := by decide +kernel
theorem dX7_undo_1 : decode cX7_undo 1 = .ok (.getfield 51, 3) := by decide +kernel
theorem dX7_undo_4 : decode cX7_undo 4 = .ok (.aload_n 0, 1) := by decide +kernel
theorem dX7_undo_5 : decode cX7_undo 5 = .ok (.getfield 29, 3) := by decide +kernel
theorem dX7_undo_8 : decode cX7_undo 8 = .ok (.invokevirtual 133, 3) := by decide +kernel
theorem dX7_undo_11 : decode cX7_undo 11 = .ok (.ifCond .eq 13, 3) := by decide +kernel
theorem dX7_undo_14 : decode cX7_undo 14 = .ok (.aload_n 0, 1) := by decide +kernel
theorem dX7_undo_15 : decode cX7_undo 15 = .ok (.getfield 51, 3) := by decide +kernel
theorem dX7_undo_18 : decode cX7_undo 18 = .ok (.getfield 137, 3) := by decide +kernel
theorem dX7_undo_21 : decode cX7_undo 21 = .ok (.goto 5, 3) := by decide +kernel
theorem dX7_undo_24 : decode cX7_undo 24 = .ok (.bipush (-2), 2) := by decide +kernel
theorem dX7_undo_26 : decode cX7_undo 26 = .ok (.ireturn, 1) := by decide +kernel
set_option maxRecDepth 20000 in
theorem ggX7_sort_X7_hasClass : GoodIn wsX7_sort wsX7_hasClass := goodIn_r _ [16, 1, 17, 29, 30, 31, 32, 33, 34, 35, 36, 37, 38, 39, 40, 41, 42, 43, 44, 45, 46, 47, 48, 49, 50, 51, 52] (by decide +kernel) (by decide +kernel)
set_option maxRecDepth 20000 in
theorem gX7_sort_X7_hasClass : GoodIn wsX7_sort (wsV RX7 102 RX7 yX7_hasClass wsX7_hasClass) := goodIn_app (goodIn_of _ (by decide +kernel)) ggX7_sort_X7_hasClass
set_option maxRecDepth 20000 in
theorem ggX7_sort_X0_lettersOnTheWay : GoodIn wsX7_sort wsX0_lettersOnTheWay := goodIn_r _ [22, 23, 24, 25, 26, 21, 27, 28, 68, 69, 70, 71, 72, 73] (by decide +kernel) (by decide +kernel)
set_option maxRecDepth 20000 in
theorem gX7_sort_X0_lettersOnTheWay : GoodIn wsX7_sort (wsV RX7 165 RX0 yX0_lettersOnTheWay wsX0_lettersOnTheWay) := goodIn_app (goodIn_of _ (by decide +kernel)) ggX7_sort_X0_lettersOnTheWay
theorem dX7_sort_0 : decode cX7_sort 0 = .ok (.aload_n 0, 1) := by decide +kernel
theorem dX7_sort_1 : decode cX7_sort 1 = .ok (.iload_n 1, 1) := by decide +kernel
theorem dX7_sort_2 : decode cX7_sort 2 = .ok (.invokevirtual 102, 3) := by decide +kernel
theorem dX7_sort_5 : decode cX7_sort 5 = .ok (.ifCond .ne 5, 3) := by decide +kernel
theorem dX7_sort_8 : decode cX7_sort 8 = .ok (.iconst (-1), 1) := by decide +kernel
theorem dX7_sort_9 : decode cX7_sort 9 = .ok (.ireturn, 1) := by decide +kernel
theorem dX7_sort_10 : decode cX7_sort 10 = .ok (.iload_n 2, 1) := by decide +kernel
theorem dX7_sort_11 : decode cX7_sort 11 = .ok (.tableswitch 141 0 8 #[49, 59, 69, 79, 89, 99, 109, 119, 129], 49) := by decide +kernel
theorem dX7_sort_60 : decode cX7_sort 60 = .ok (.aload_n 0, 1) := by decide +kernel
theorem dX7_sort_61 : decode cX7_sort 61 = .ok (.getfield 19, 3) := by decide +kernel
theorem dX7_sort_64 : decode cX7_sort 64 = .ok (.getfield 140, 3) := by decide +kernel
theorem dX7_sort_67 : decode cX7_sort 67 = .ok (.iload_n 1, 1) := by decide +kernel
theorem dX7_sort_68 : decode cX7_sort 68 = .ok (.iaload, 1) := by decide +kernel
theorem dX7_sort_69 : decode cX7_sort 69 = .ok (.ireturn, 1) := by decide +kernel
theorem dX7_sort_70 : decode cX7_sort 70 = .ok (.aload_n 0, 1) := by decide +kernel
theorem dX7_sort_71 : decode cX7_sort 71 = .ok (.getfield 19, 3) := by decide +kernel
theorem dX7_sort_74 : decode cX7_sort 74 = .ok (.getfield 143, 3) := by decide +kernel
theorem dX7_sort_77 : decode cX7_sort 77 = .ok (.iload_n 1, 1) := by decide +kernel
theorem dX7_sort_78 : decode cX7_sort 78 = .ok (.iaload, 1) := by decide +kernel
theorem dX7_sort_79 : decode cX7_sort 79 = .ok (.ireturn, 1) := by decide +kernel
theorem dX7_sort_80 : decode cX7_sort 80 = .ok (.aload_n 0, 1) := by decide +kernel
theorem dX7_sort_81 : decode cX7_sort 81 = .ok (.getfield 19, 3) := by decide +kernel
theorem dX7_sort_84 : decode cX7_sort 84 = .ok (.getfield 146, 3) := by decide +kernel
theorem dX7_sort_87 : decode cX7_sort 87 = .ok (.iload_n 1, 1) := by decide +kernel
theorem dX7_sort_88 : decode cX7_sort 88 = .ok (.iaload, 1) := by decide +kernel
theorem dX7_sort_89 : decode cX7_sort 89 = .ok (.ireturn, 1) := by decide +kernel
theorem dX7_sort_90 : decode cX7_sort 90 = .ok (.aload_n 0, 1) := by decide +kernel
theorem dX7_sort_91 : decode cX7_sort 91 = .ok (.getfield 19, 3) := by decide +kernel
theorem dX7_sort_94 : decode cX7_sort 94 = .ok (.getfield 149, 3) := by decide +kernel
theorem dX7_sort_97 : decode cX7_sort 97 = .ok (.iload_n 1, 1) := by decide +kernel
theorem dX7_sort_98 : decode cX7_sort 98 = .ok (.iaload, 1) := by decide +kernel
theorem dX7_sort_99 : decode cX7_sort 99 = .ok (.ireturn, 1) := by decide +kernel
theorem dX7_sort_100 : decode cX7_sort 100 = .ok (.aload_n 0, 1) := by decide +kernel
theorem dX7_sort_101 : decode cX7_sort 101 = .ok (.getfield 29, 3) := by decide +kernel
theorem dX7_sort_104 : decode cX7_sort 104 = .ok (.getfield 105, 3) := by decide +kernel
theorem dX7_sort_107 : decode cX7_sort 107 = .ok (.iload_n 1, 1) := by decide +kernel
theorem dX7_sort_108 : decode cX7_sort 108 = .ok (.iaload, 1) := by decide +kernel
theorem dX7_sort_109 : decode cX7_sort 109 = .ok (.ireturn, 1) := by decide +kernel
theorem dX7_sort_110 : decode cX7_sort 110 = .ok (.aload_n 0, 1) := by decide +kernel
theorem dX7_sort_111 : decode cX7_sort 111 = .ok (.getfield 29, 3) := by decide +kernel
theorem dX7_sort_114 : decode cX7_sort 114 = .ok (.getfield 152, 3) := by decide +kernel
theorem dX7_sort_117 : decode cX7_sort 117 = .ok (.iload_n 1, 1) := by decide +kernel
theorem dX7_sort_118 : decode cX7_sort 118 = .ok (.iaload, 1) := by decide +kernel
theorem dX7_sort_119 : decode cX7_sort 119 = .ok (.ireturn, 1) := by decide +kernel
theorem dX7_sort_120 : decode cX7_sort 120 = .ok (.aload_n 0, 1) := by decide +kernel
theorem dX7_sort_121 : decode cX7_sort 121 = .ok (.getfield 29, 3) := by decide +kernel
theorem dX7_sort_124 : decode cX7_sort 124 = .ok (.getfield 155, 3) := by decide +kernel
theorem dX7_sort_127 : decode cX7_sort 127 = .ok (.iload_n 1, 1) := by decide +kernel
theorem dX7_sort_128 : decode cX7_sort 128 = .ok (.iaload, 1) := by decide +kernel
theorem dX7_sort_129 : decode cX7_sort 129 = .ok (.ireturn, 1) := by decide +kernel
theorem dX7_sort_130 : decode cX7_sort 130 = .ok (.aload_n 0, 1) := by decide +kernel
theorem dX7_sort_131 : decode cX7_sort 131 = .ok (.getfield 29, 3) := by decide +kernel
theorem dX7_sort_134 : decode cX7_sort 134 = .ok (.getfield 158, 3) := by decide +kernel
theorem dX7_sort_137 : decode cX7_sort 137 = .ok (.iload_n 1, 1) := by decide +kernel
theorem dX7_sort_138 : decode cX7_sort 138 = .ok (.iaload, 1) := by decide +kernel
theorem dX7_sort_139 : decode cX7_sort 139 = .ok (.ireturn, 1) := by decide +kernel
theorem dX7_sort_140 : decode cX7_sort 140 = .ok (.aload_n 0, 1) := by decide +kernel
theorem dX7_sort_141 : decode cX7_sort 141 = .ok (.getfield 29, 3) := by decide +kernel
theorem dX7_sort_144 : decode cX7_sort 144 = .ok (.getfield 161, 3) := by decide +kernel
theorem dX7_sort_147 : decode cX7_sort 147 = .ok (.iload_n 1, 1) := by decide +kernel
theorem dX7_sort_148 : decode cX7_sort 148 = .ok (.invokevirtual 165, 3) := by decide +kernel
theorem dX7_sort_151 : decode cX7_sort 151 = .ok (.ireturn, 1) := by decide +kernel
theorem dX7_sort_152 : decode cX7_sort 152 = .ok (.iconst (-1), 1) := by decide +kernel
theorem dX7_sort_153 : decode cX7_sort 153 = .ok (.ireturn, 1) := by decide +kernel
set_option maxRecDepth 20000 in
theorem ggX7_terminal_X7_hasTerminal : GoodIn wsX7_terminal wsX7_hasTerminal := goodIn_r _ [16, 1, 17, 35, 36, 37, 38, 39, 40, 41, 42, 43, 44, 45, 46, 47, 48, 49, 50, 51, 52, 53, 54, 55, 56, 57, 58] (by decide +kernel) (by decide +kernel)
set_option maxRecDepth 20000 in
theorem gX7_terminal_X7_hasTerminal : GoodIn wsX7_terminal (wsV RX7 123 RX7 yX7_hasTerminal wsX7_hasTerminal) := goodIn_app (goodIn_of _ (by decide +kernel)) ggX7_terminal_X7_hasTerminal
set_option maxRecDepth 20000 in
theorem ggX7_terminal_X5_waitingAt : GoodIn wsX7_terminal wsX5_waitingAt := goodIn_r _ [22, 23, 24, 25, 26, 27, 74, 75, 76, 48, 49, 50, 51, 52, 53, 54, 55, 56, 57, 58, 59, 60, 61, 62, 63, 64, 65, 66, 67, 68, 69, 70, 71, 72, 73] (by decide +kernel) (by decide +kernel)
set_option maxRecDepth 20000 in
theorem gX7_terminal_X5_waitingAt : GoodIn wsX7_terminal (wsV RX7 185 RX5 yX5_waitingAt wsX5_waitingAt) := goodIn_app (goodIn_of _ (by decide +kernel)) ggX7_terminal_X5_waitingAt
set_option maxRecDepth 20000 in
theorem ggX7_terminal_X0_blocksOf : GoodIn wsX7_terminal wsX0_blocksOf := goodIn_r _ [32, 33, 34, 77, 78, 79, 80, 81, 82] (by decide +kernel) (by decide +kernel)
set_option maxRecDepth 20000 in
theorem gX7_terminal_X0_blocksOf : GoodIn wsX7_terminal (wsV RX7 194 RX0 yX0_blocksOf wsX0_blocksOf) := goodIn_app (goodIn_of _ (by decide +kernel)) ggX7_terminal_X0_blocksOf
theorem dX7_terminal_0 : decode cX7_terminal 0 = .ok (.aload_n 0, 1) := by decide +kernel
theorem dX7_terminal_1 : decode cX7_terminal 1 = .ok (.iload_n 1, 1) := by decide +kernel
theorem dX7_terminal_2 : decode cX7_terminal 2 = .ok (.invokevirtual 123, 3) := by decide +kernel
theorem dX7_terminal_5 : decode cX7_terminal 5 = .ok (.ifCond .ne 5, 3) := by decide +kernel
theorem dX7_terminal_8 : decode cX7_terminal 8 = .ok (.iconst (-1), 1) := by decide +kernel
theorem dX7_terminal_9 : decode cX7_terminal 9 = .ok (.ireturn, 1) := by decide +kernel
theorem dX7_terminal_10 : decode cX7_terminal 10 = .ok (.iload_n 2, 1) := by decide +kernel
theorem dX7_terminal_11 : decode cX7_terminal 11 = .ok (.tableswitch 140 0 8 #[49, 59, 69, 79, 89, 99, 108, 118, 128], 49) := by decide +kernel
theorem dX7_terminal_60 : decode cX7_terminal 60 = .ok (.aload_n 0, 1) := by decide +kernel
theorem dX7_terminal_61 : decode cX7_terminal 61 = .ok (.getfield 19, 3) := by decide +kernel
theorem dX7_terminal_64 : decode cX7_terminal 64 = .ok (.getfield 170, 3) := by decide +kernel
theorem dX7_terminal_67 : decode cX7_terminal 67 = .ok (.iload_n 1, 1) := by decide +kernel
theorem dX7_terminal_68 : decode cX7_terminal 68 = .ok (.iaload, 1) := by decide +kernel
theorem dX7_terminal_69 : decode cX7_terminal 69 = .ok (.ireturn, 1) := by decide +kernel
theorem dX7_terminal_70 : decode cX7_terminal 70 = .ok (.aload_n 0, 1) := by decide +kernel
theorem dX7_terminal_71 : decode cX7_terminal 71 = .ok (.getfield 29, 3) := by decide +kernel
theorem dX7_terminal_74 : decode cX7_terminal 74 = .ok (.getfield 173, 3) := by decide +kernel
theorem dX7_terminal_77 : decode cX7_terminal 77 = .ok (.iload_n 1, 1) := by decide +kernel
theorem dX7_terminal_78 : decode cX7_terminal 78 = .ok (.iaload, 1) := by decide +kernel
theorem dX7_terminal_79 : decode cX7_terminal 79 = .ok (.ireturn, 1) := by decide +kernel
theorem dX7_terminal_80 : decode cX7_terminal 80 = .ok (.aload_n 0, 1) := by decide +kernel
theorem dX7_terminal_81 : decode cX7_terminal 81 = .ok (.getfield 29, 3) := by decide +kernel
theorem dX7_terminal_84 : decode cX7_terminal 84 = .ok (.getfield 176, 3) := by decide +kernel
theorem dX7_terminal_87 : decode cX7_terminal 87 = .ok (.iload_n 1, 1) := by decide +kernel
theorem dX7_terminal_88 : decode cX7_terminal 88 = .ok (.iaload, 1) := by decide +kernel
theorem dX7_terminal_89 : decode cX7_terminal 89 = .ok (.ireturn, 1) := by decide +kernel
theorem dX7_terminal_90 : decode cX7_terminal 90 = .ok (.aload_n 0, 1) := by decide +kernel
theorem dX7_terminal_91 : decode cX7_terminal 91 = .ok (.getfield 29, 3) := by decide +kernel
theorem dX7_terminal_94 : decode cX7_terminal 94 = .ok (.getfield 179, 3) := by decide +kernel
theorem dX7_terminal_97 : decode cX7_terminal 97 = .ok (.iload_n 1, 1) := by decide +kernel
theorem dX7_terminal_98 : decode cX7_terminal 98 = .ok (.iaload, 1) := by decide +kernel
theorem dX7_terminal_99 : decode cX7_terminal 99 = .ok (.ireturn, 1) := by decide +kernel
theorem dX7_terminal_100 : decode cX7_terminal 100 = .ok (.aload_n 0, 1) := by decide +kernel
theorem dX7_terminal_101 : decode cX7_terminal 101 = .ok (.getfield 29, 3) := by decide +kernel
theorem dX7_terminal_104 : decode cX7_terminal 104 = .ok (.getfield 182, 3) := by decide +kernel
theorem dX7_terminal_107 : decode cX7_terminal 107 = .ok (.iload_n 1, 1) := by decide +kernel
theorem dX7_terminal_108 : decode cX7_terminal 108 = .ok (.iaload, 1) := by decide +kernel
theorem dX7_terminal_109 : decode cX7_terminal 109 = .ok (.ireturn, 1) := by decide +kernel
theorem dX7_terminal_110 : decode cX7_terminal 110 = .ok (.aload_n 0, 1) := by decide +kernel
theorem dX7_terminal_111 : decode cX7_terminal 111 = .ok (.getfield 41, 3) := by decide +kernel
theorem dX7_terminal_114 : decode cX7_terminal 114 = .ok (.iload_n 1, 1) := by decide +kernel
theorem dX7_terminal_115 : decode cX7_terminal 115 = .ok (.invokevirtual 185, 3) := by decide +kernel
theorem dX7_terminal_118 : decode cX7_terminal 118 = .ok (.ireturn, 1) := by decide +kernel
theorem dX7_terminal_119 : decode cX7_terminal 119 = .ok (.aload_n 0, 1) := by decide +kernel
theorem dX7_terminal_120 : decode cX7_terminal 120 = .ok (.getfield 29, 3) := by decide +kernel
theorem dX7_terminal_123 : decode cX7_terminal 123 = .ok (.getfield 188, 3) := by decide +kernel
theorem dX7_terminal_126 : decode cX7_terminal 126 = .ok (.iload_n 1, 1) := by decide +kernel
theorem dX7_terminal_127 : decode cX7_terminal 127 = .ok (.iaload, 1) := by decide +kernel
theorem dX7_terminal_128 : decode cX7_terminal 128 = .ok (.ireturn, 1) := by decide +kernel
theorem dX7_terminal_129 : decode cX7_terminal 129 = .ok (.aload_n 0, 1) := by decide +kernel
theorem dX7_terminal_130 : decode cX7_terminal 130 = .ok (.getfield 29, 3) := by decide +kernel
theorem dX7_terminal_133 : decode cX7_terminal 133 = .ok (.getfield 191, 3) := by decide +kernel
theorem dX7_terminal_136 : decode cX7_terminal 136 = .ok (.iload_n 1, 1) := by decide +kernel
theorem dX7_terminal_137 : decode cX7_terminal 137 = .ok (.iaload, 1) := by decide +kernel
theorem dX7_terminal_138 : decode cX7_terminal 138 = .ok (.ireturn, 1) := by decide +kernel
theorem dX7_terminal_139 : decode cX7_terminal 139 = .ok (.aload_n 0, 1) := by decide +kernel
theorem dX7_terminal_140 : decode cX7_terminal 140 = .ok (.getfield 29, 3) := by decide +kernel
theorem dX7_terminal_143 : decode cX7_terminal 143 = .ok (.getfield 161, 3) := by decide +kernel
theorem dX7_terminal_146 : decode cX7_terminal 146 = .ok (.iload_n 1, 1) := by decide +kernel
theorem dX7_terminal_147 : decode cX7_terminal 147 = .ok (.invokevirtual 194, 3) := by decide +kernel
theorem dX7_terminal_150 : decode cX7_terminal 150 = .ok (.ireturn, 1) := by decide +kernel
theorem dX7_terminal_151 : decode cX7_terminal 151 = .ok (.iconst (-1), 1) := by decide +kernel
theorem dX7_terminal_152 : decode cX7_terminal 152 = .ok (.ireturn, 1) := by decide +kernel
set_option maxRecDepth 20000 in
theorem ggX7_block_X7_isWithin : GoodIn wsX7_block wsX7_isWithin := goodIn_r _ [6] (by decide +kernel) (by decide +kernel)
set_option maxRecDepth 20000 in
theorem gX7_block_X7_isWithin : GoodIn wsX7_block (va_wsS RX7 79 yX7_isWithin wsX7_isWithin) := goodIn_app (goodIn_of _ (by decide +kernel)) ggX7_block_X7_isWithin
set_option maxRecDepth 20000 in
theorem ggX7_block_X0_placeOf : GoodIn wsX7_block wsX0_placeOf := goodIn_r _ [11, 12, 13, 14, 15, 10, 16, 17, 18, 66, 67, 68, 69, 70, 71] (by decide +kernel) (by decide +kernel)
set_option maxRecDepth 20000 in
theorem gX7_block_X0_placeOf : GoodIn wsX7_block (wsV RX7 197 RX0 yX0_placeOf wsX0_placeOf) := goodIn_app (goodIn_of _ (by decide +kernel)) ggX7_block_X0_placeOf
set_option maxRecDepth 20000 in
theorem ggX7_block_X0_told : GoodIn wsX7_block wsX0_told := goodIn_r _ [22, 18, 17, 23, 24, 25, 26, 27, 10, 28, 29, 30, 31, 32, 33, 34, 35, 36, 37, 66, 67, 68, 69, 70, 71] (by decide +kernel) (by decide +kernel)
set_option maxRecDepth 20000 in
theorem gX7_block_X0_told : GoodIn wsX7_block (wsV RX7 200 RX0 yX0_told wsX0_told) := goodIn_app (goodIn_of _ (by decide +kernel)) ggX7_block_X0_told
theorem dX7_block_0 : decode cX7_block 0 = .ok (.iload_n 1, 1) := by decide +kernel
theorem dX7_block_1 : decode cX7_block 1 = .ok (.ifCond .lt 12, 3) := by decide +kernel
theorem dX7_block_4 : decode cX7_block 4 = .ok (.iload_n 2, 1) := by decide +kernel
theorem dX7_block_5 : decode cX7_block 5 = .ok (.iconst 0, 1) := by decide +kernel
theorem dX7_block_6 : decode cX7_block 6 = .ok (.iconst 4, 1) := by decide +kernel
theorem dX7_block_7 : decode cX7_block 7 = .ok (.invokestatic 79, 3) := by decide +kernel
theorem dX7_block_10 : decode cX7_block 10 = .ok (.ifCond .ne 5, 3) := by decide +kernel
theorem dX7_block_13 : decode cX7_block 13 = .ok (.iconst (-1), 1) := by decide +kernel
theorem dX7_block_14 : decode cX7_block 14 = .ok (.ireturn, 1) := by decide +kernel
theorem dX7_block_15 : decode cX7_block 15 = .ok (.aload_n 0, 1) := by decide +kernel
theorem dX7_block_16 : decode cX7_block 16 = .ok (.getfield 29, 3) := by decide +kernel
theorem dX7_block_19 : decode cX7_block 19 = .ok (.getfield 161, 3) := by decide +kernel
theorem dX7_block_22 : decode cX7_block 22 = .ok (.iload_n 1, 1) := by decide +kernel
theorem dX7_block_23 : decode cX7_block 23 = .ok (.invokevirtual 197, 3) := by decide +kernel
theorem dX7_block_26 : decode cX7_block 26 = .ok (.istore_n 3, 1) := by decide +kernel
theorem dX7_block_27 : decode cX7_block 27 = .ok (.iload_n 3, 1) := by decide +kernel
theorem dX7_block_28 : decode cX7_block 28 = .ok (.ifCond .ge 8, 3) := by decide +kernel
theorem dX7_block_31 : decode cX7_block 31 = .ok (.bipush (-9), 2) := by decide +kernel
theorem dX7_block_33 : decode cX7_block 33 = .ok (.goto 15, 3) := by decide +kernel
theorem dX7_block_36 : decode cX7_block 36 = .ok (.aload_n 0, 1) := by decide +kernel
theorem dX7_block_37 : decode cX7_block 37 = .ok (.getfield 29, 3) := by decide +kernel
theorem dX7_block_40 : decode cX7_block 40 = .ok (.getfield 161, 3) := by decide +kernel
theorem dX7_block_43 : decode cX7_block 43 = .ok (.iload_n 3, 1) := by decide +kernel
theorem dX7_block_44 : decode cX7_block 44 = .ok (.iload_n 2, 1) := by decide +kernel
theorem dX7_block_45 : decode cX7_block 45 = .ok (.invokevirtual 200, 3) := by decide +kernel
theorem dX7_block_48 : decode cX7_block 48 = .ok (.ireturn, 1) := by decide +kernel
set_option maxRecDepth 20000 in
theorem ggX7_deaf_X7_hasTerminal : GoodIn wsX7_deaf wsX7_hasTerminal := goodIn_r _ [6, 7, 8, 18, 19, 20, 21, 22, 23, 24, 25, 26, 27, 28, 29, 30, 31, 32, 33, 34, 35, 36, 37, 38, 39, 40, 41] (by decide +kernel) (by decide +kernel)
set_option maxRecDepth 20000 in
theorem gX7_deaf_X7_hasTerminal : GoodIn wsX7_deaf (wsV RX7 123 RX7 yX7_hasTerminal wsX7_hasTerminal) := goodIn_app (goodIn_of _ (by decide +kernel)) ggX7_deaf_X7_hasTerminal
set_option maxRecDepth 20000 in
theorem ggX7_deaf_X7_isWithin : GoodIn wsX7_deaf wsX7_isWithin := goodIn_r _ [11] (by decide +kernel) (by decide +kernel)
set_option maxRecDepth 20000 in
theorem gX7_deaf_X7_isWithin : GoodIn wsX7_deaf (va_wsS RX7 79 yX7_isWithin wsX7_isWithin) := goodIn_app (goodIn_of _ (by decide +kernel)) ggX7_deaf_X7_isWithin
set_option maxRecDepth 20000 in
theorem ggX7_deaf_X4_isDeaf : GoodIn wsX7_deaf wsX4_isDeaf := goodIn_r _ [16, 17, 42, 43, 44, 45, 46, 47, 48, 49, 50, 51, 52, 53, 54, 55, 56] (by decide +kernel) (by decide +kernel)
set_option maxRecDepth 20000 in
theorem gX7_deaf_X4_isDeaf : GoodIn wsX7_deaf (wsV RX7 204 RX4 yX4_isDeaf wsX4_isDeaf) := goodIn_app (goodIn_of _ (by decide +kernel)) ggX7_deaf_X4_isDeaf
theorem dX7_deaf_0 : decode cX7_deaf 0 = .ok (.aload_n 0, 1) := by decide +kernel
theorem dX7_deaf_1 : decode cX7_deaf 1 = .ok (.iload_n 1, 1) := by decide +kernel
theorem dX7_deaf_2 : decode cX7_deaf 2 = .ok (.invokevirtual 123, 3) := by decide +kernel
theorem dX7_deaf_5 : decode cX7_deaf 5 = .ok (.ifCond .eq 14, 3) := by decide +kernel
theorem dX7_deaf_8 : decode cX7_deaf 8 = .ok (.iload_n 2, 1) := by decide +kernel
theorem dX7_deaf_9 : decode cX7_deaf 9 = .ok (.iconst 0, 1) := by decide +kernel
theorem dX7_deaf_10 : decode cX7_deaf 10 = .ok (.sipush 199, 3) := by decide +kernel
theorem dX7_deaf_13 : decode cX7_deaf 13 = .ok (.invokestatic 79, 3) := by decide +kernel
theorem dX7_deaf_16 : decode cX7_deaf 16 = .ok (.ifCond .ne 5, 3) := by decide +kernel
theorem dX7_deaf_19 : decode cX7_deaf 19 = .ok (.iconst (-1), 1) := by decide +kernel
theorem dX7_deaf_20 : decode cX7_deaf 20 = .ok (.ireturn, 1) := by decide +kernel
theorem dX7_deaf_21 : decode cX7_deaf 21 = .ok (.aload_n 0, 1) := by decide +kernel
theorem dX7_deaf_22 : decode cX7_deaf 22 = .ok (.getfield 29, 3) := by decide +kernel
theorem dX7_deaf_25 : decode cX7_deaf 25 = .ok (.iload_n 1, 1) := by decide +kernel
theorem dX7_deaf_26 : decode cX7_deaf 26 = .ok (.iload_n 2, 1) := by decide +kernel
theorem dX7_deaf_27 : decode cX7_deaf 27 = .ok (.invokevirtual 204, 3) := by decide +kernel
theorem dX7_deaf_30 : decode cX7_deaf 30 = .ok (.ifCond .eq 7, 3) := by decide +kernel
theorem dX7_deaf_33 : decode cX7_deaf 33 = .ok (.iconst 1, 1) := by decide +kernel
theorem dX7_deaf_34 : decode cX7_deaf 34 = .ok (.goto 4, 3) := by decide +kernel
theorem dX7_deaf_37 : decode cX7_deaf 37 = .ok (.iconst 0, 1) := by decide +kernel
theorem dX7_deaf_38 : decode cX7_deaf 38 = .ok (.ireturn, 1) := by decide +kernel
set_option maxRecDepth 20000 in
theorem ggX7_drain_X4_copyFrom : GoodIn wsX7_drain wsX4_copyFrom := goodIn_r _ [8, 9, 10, 11, 12, 13, 14, 15, 16, 17, 18, 19, 20, 21, 22, 23, 24, 25, 26, 27, 28, 29, 30, 31, 32, 33, 34, 35, 36, 37, 38, 39, 40, 41, 42, 43, 44, 45, 208, 209, 210, 211, 212, 213, 214, 215, 216, 217, 218, 219, 220, 221, 222, 223, 224, 225, 226, 227, 228] (by decide +kernel) (by decide +kernel)
set_option maxRecDepth 20000 in
theorem gX7_drain_X4_copyFrom : GoodIn wsX7_drain (wsV RX7 208 RX4 yX4_copyFrom wsX4_copyFrom) := goodIn_app (goodIn_of _ (by decide +kernel)) ggX7_drain_X4_copyFrom
set_option maxRecDepth 20000 in
theorem ggX7_drain_X5_drainedWithin : GoodIn wsX7_drain wsX5_drainedWithin := goodIn_r _ [50, 51, 52, 53, 54, 7, 55, 23, 56, 18, 57, 58, 59, 49, 60, 61, 62, 63, 64, 65, 66, 67, 68, 20, 69, 70, 71, 72, 73, 74, 75, 76, 77, 78, 28, 29, 30, 79, 80, 81, 82, 83, 84, 85, 86, 87, 88, 89, 90, 91, 92, 93, 94, 95, 96, 97, 98, 99, 100, 101, 102, 103, 104, 105, 38, 106, 41, 42, 107, 108, 109, 110, 111, 112, 113, 114, 45, 115, 116, 117, 118, 44, 119, 120, 121, 122, 123, 124, 125, 126, 127, 128, 129, 130, 131, 43, 132, 133, 134, 135, 22, 136, 137, 138, 139, 140, 141, 142, 143, 144, 145, 146, 147, 148, 149, 150, 151, 152, 153, 154, 155, 156, 157, 158, 159, 160, 161, 162, 163, 164, 165, 166, 167, 40, 168, 169, 170, 171, 172, 173, 174, 175, 176, 177, 178, 179, 180, 181, 182, 183, 184, 185, 186, 187, 188, 189, 190, 191, 192, 193, 194, 229, 230, 231, 208, 209, 210, 211, 212, 213, 214, 215, 216, 217, 218, 219, 220, 221, 222, 223, 224, 225, 226, 227, 228, 232, 233, 234, 235, 236, 237, 238, 239, 240, 241, 242] (by decide +kernel) (by decide +kernel)
set_option maxRecDepth 20000 in
theorem gX7_drain_X5_drainedWithin : GoodIn wsX7_drain (wsV RX7 210 RX5 yX5_drainedWithin wsX5_drainedWithin) := goodIn_app (goodIn_of _ (by decide +kernel)) ggX7_drain_X5_drainedWithin
theorem dX7_drain_0 : decode cX7_drain 0 = .ok (.aload_n 0, 1) := by decide +kernel
theorem dX7_drain_1 : decode cX7_drain 1 = .ok (.getfield 33, 3) := by decide +kernel
theorem dX7_drain_4 : decode cX7_drain 4 = .ok (.aload_n 0, 1) := by decide +kernel
theorem dX7_drain_5 : decode cX7_drain 5 = .ok (.getfield 29, 3) := by decide +kernel
theorem dX7_drain_8 : decode cX7_drain 8 = .ok (.invokevirtual 208, 3) := by decide +kernel
theorem dX7_drain_11 : decode cX7_drain 11 = .ok (.aload_n 0, 1) := by decide +kernel
theorem dX7_drain_12 : decode cX7_drain 12 = .ok (.getfield 45, 3) := by decide +kernel
theorem dX7_drain_15 : decode cX7_drain 15 = .ok (.bipush 100, 2) := by decide +kernel
theorem dX7_drain_17 : decode cX7_drain 17 = .ok (.invokevirtual 210, 3) := by decide +kernel
theorem dX7_drain_20 : decode cX7_drain 20 = .ok (.ireturn, 1) := by decide +kernel
set_option maxRecDepth 20000 in
theorem ggX7_enough_X7_isWithin : GoodIn wsX7_enough wsX7_isWithin := goodIn_r _ [8] (by decide +kernel) (by decide +kernel)
set_option maxRecDepth 20000 in
theorem gX7_enough_X7_isWithin : GoodIn wsX7_enough (va_wsS RX7 79 yX7_isWithin wsX7_isWithin) := goodIn_app (goodIn_of _ (by decide +kernel)) ggX7_enough_X7_isWithin
set_option maxRecDepth 20000 in
theorem ggX7_enough_X4_copyFrom : GoodIn wsX7_enough wsX4_copyFrom := goodIn_r _ [13, 14, 15, 16, 17, 18, 19, 20, 21, 22, 23, 24, 25, 26, 27, 28, 29, 7, 30, 31, 32, 33, 34, 35, 36, 37, 38, 39, 40, 41, 42, 43, 44, 45, 46, 47, 48, 49, 212, 213, 214, 215, 216, 217, 218, 219, 220, 221, 222, 223, 224, 225, 226, 227, 228, 229, 230, 231, 232] (by decide +kernel) (by decide +kernel)
set_option maxRecDepth 20000 in
theorem gX7_enough_X4_copyFrom : GoodIn wsX7_enough (wsV RX7 208 RX4 yX4_copyFrom wsX4_copyFrom) := goodIn_app (goodIn_of _ (by decide +kernel)) ggX7_enough_X4_copyFrom
set_option maxRecDepth 20000 in
theorem ggX7_enough_X5_drainedWithin : GoodIn wsX7_enough wsX5_drainedWithin := goodIn_r _ [54, 55, 56, 57, 58, 12, 59, 28, 60, 23, 61, 62, 63, 53, 64, 65, 66, 67, 68, 69, 70, 71, 72, 25, 73, 74, 75, 76, 77, 78, 79, 80, 81, 82, 32, 33, 34, 83, 84, 85, 86, 87, 88, 89, 90, 91, 92, 93, 94, 95, 96, 97, 98, 99, 100, 101, 102, 103, 104, 105, 106, 107, 108, 109, 42, 110, 45, 46, 111, 112, 113, 114, 115, 116, 117, 118, 49, 119, 120, 121, 122, 48, 123, 124, 125, 126, 127, 128, 129, 130, 131, 132, 133, 134, 135, 47, 136, 137, 138, 139, 27, 140, 141, 142, 143, 144, 145, 146, 147, 148, 149, 150, 151, 152, 153, 154, 155, 156, 157, 158, 159, 160, 161, 162, 163, 164, 165, 166, 167, 168, 169, 170, 171, 44, 172, 173, 174, 175, 176, 177, 178, 179, 180, 181, 182, 183, 184, 185, 186, 187, 188, 189, 190, 191, 192, 193, 194, 195, 196, 197, 198, 233, 234, 235, 212, 213, 214, 215, 216, 217, 218, 219, 220, 221, 222, 223, 224, 225, 226, 227, 228, 229, 230, 231, 232, 236, 237, 238, 239, 240, 241, 242, 243, 244, 245, 246] (by decide +kernel) (by decide +kernel)
set_option maxRecDepth 20000 in
theorem gX7_enough_X5_drainedWithin : GoodIn wsX7_enough (wsV RX7 210 RX5 yX5_drainedWithin wsX5_drainedWithin) := goodIn_app (goodIn_of _ (by decide +kernel)) ggX7_enough_X5_drainedWithin
theorem dX7_enough_0 : decode cX7_enough 0 = .ok (.iload_n 1, 1) := by decide +kernel
theorem dX7_enough_1 : decode cX7_enough 1 = .ok (.iconst 0, 1) := by decide +kernel
theorem dX7_enough_2 : decode cX7_enough 2 = .ok (.bipush 40, 2) := by decide +kernel
theorem dX7_enough_4 : decode cX7_enough 4 = .ok (.invokestatic 79, 3) := by decide +kernel
theorem dX7_enough_7 : decode cX7_enough 7 = .ok (.ifCond .ne 5, 3) := by decide +kernel
theorem dX7_enough_10 : decode cX7_enough 10 = .ok (.iconst (-1), 1) := by decide +kernel
theorem dX7_enough_11 : decode cX7_enough 11 = .ok (.ireturn, 1) := by decide +kernel
theorem dX7_enough_12 : decode cX7_enough 12 = .ok (.iconst 0, 1) := by decide +kernel
theorem dX7_enough_13 : decode cX7_enough 13 = .ok (.istore_n 2, 1) := by decide +kernel
theorem dX7_enough_14 : decode cX7_enough 14 = .ok (.iload_n 2, 1) := by decide +kernel
theorem dX7_enough_15 : decode cX7_enough 15 = .ok (.bipush 60, 2) := by decide +kernel
theorem dX7_enough_17 : decode cX7_enough 17 = .ok (.if_icmp .gt 43, 3) := by decide +kernel
theorem dX7_enough_20 : decode cX7_enough 20 = .ok (.aload_n 0, 1) := by decide +kernel
theorem dX7_enough_21 : decode cX7_enough 21 = .ok (.getfield 33, 3) := by decide +kernel
theorem dX7_enough_24 : decode cX7_enough 24 = .ok (.aload_n 0, 1) := by decide +kernel
theorem dX7_enough_25 : decode cX7_enough 25 = .ok (.getfield 29, 3) := by decide +kernel
theorem dX7_enough_28 : decode cX7_enough 28 = .ok (.invokevirtual 208, 3) := by decide +kernel
theorem dX7_enough_31 : decode cX7_enough 31 = .ok (.aload_n 0, 1) := by decide +kernel
theorem dX7_enough_32 : decode cX7_enough 32 = .ok (.getfield 33, 3) := by decide +kernel
theorem dX7_enough_35 : decode cX7_enough 35 = .ok (.iload_n 2, 1) := by decide +kernel
theorem dX7_enough_36 : decode cX7_enough 36 = .ok (.putfield 130, 3) := by decide +kernel
theorem dX7_enough_39 : decode cX7_enough 39 = .ok (.aload_n 0, 1) := by decide +kernel
theorem dX7_enough_40 : decode cX7_enough 40 = .ok (.getfield 45, 3) := by decide +kernel
theorem dX7_enough_43 : decode cX7_enough 43 = .ok (.iload_n 1, 1) := by decide +kernel
theorem dX7_enough_44 : decode cX7_enough 44 = .ok (.invokevirtual 210, 3) := by decide +kernel
theorem dX7_enough_47 : decode cX7_enough 47 = .ok (.bipush (-9), 2) := by decide +kernel
theorem dX7_enough_49 : decode cX7_enough 49 = .ok (.if_icmp .eq 5, 3) := by decide +kernel
theorem dX7_enough_52 : decode cX7_enough 52 = .ok (.iload_n 2, 1) := by decide +kernel
theorem dX7_enough_53 : decode cX7_enough 53 = .ok (.ireturn, 1) := by decide +kernel
theorem dX7_enough_54 : decode cX7_enough 54 = .ok (.iinc 2 1, 3) := by decide +kernel
theorem dX7_enough_57 : decode cX7_enough 57 = .ok (.goto (-43), 3) := by decide +kernel
theorem dX7_enough_60 : decode cX7_enough 60 = .ok (.bipush (-9), 2) := by decide +kernel
theorem dX7_enough_62 : decode cX7_enough 62 = .ok (.ireturn, 1) := by decide +kernel
set_option maxRecDepth 20000 in
theorem ggX7_ahead_X7_hasClass : GoodIn wsX7_ahead wsX7_hasClass := goodIn_r _ [9, 10, 11, 196, 197, 198, 199, 200, 201, 202, 203, 204, 205, 206, 207, 208, 224, 225, 226, 227, 228, 229, 230, 231, 232, 233, 234] (by decide +kernel) (by decide +kernel)
set_option maxRecDepth 20000 in
theorem gX7_ahead_X7_hasClass : GoodIn wsX7_ahead (wsV RX7 102 RX7 yX7_hasClass wsX7_hasClass) := goodIn_app (goodIn_of _ (by decide +kernel)) ggX7_ahead_X7_hasClass
set_option maxRecDepth 20000 in
theorem ggX7_ahead_X7_isWithin : GoodIn wsX7_ahead wsX7_isWithin := goodIn_r _ [14] (by decide +kernel) (by decide +kernel)
set_option maxRecDepth 20000 in
theorem gX7_ahead_X7_isWithin : GoodIn wsX7_ahead (va_wsS RX7 79 yX7_isWithin wsX7_isWithin) := goodIn_app (goodIn_of _ (by decide +kernel)) ggX7_ahead_X7_isWithin
set_option maxRecDepth 20000 in
theorem ggX7_ahead_X4_copyFrom : GoodIn wsX7_ahead wsX4_copyFrom := goodIn_r _ [19, 20, 21, 22, 23, 24, 25, 26, 27, 28, 29, 30, 31, 32, 33, 34, 35, 8, 36, 37, 38, 39, 40, 41, 42, 43, 44, 45, 46, 47, 48, 49, 50, 51, 52, 53, 54, 55, 209, 210, 211, 212, 213, 214, 215, 216, 217, 218, 219, 220, 221, 222, 223, 235, 236, 237, 238, 239, 240] (by decide +kernel) (by decide +kernel)
set_option maxRecDepth 20000 in
theorem gX7_ahead_X4_copyFrom : GoodIn wsX7_ahead (wsV RX7 208 RX4 yX4_copyFrom wsX4_copyFrom) := goodIn_app (goodIn_of _ (by decide +kernel)) ggX7_ahead_X4_copyFrom
set_option maxRecDepth 20000 in
theorem ggX7_ahead_X5_takeSteps : GoodIn wsX7_ahead wsX5_takeSteps := goodIn_r _ [60, 61, 62, 63, 64, 65, 66, 67, 68, 18, 69, 31, 70, 71, 72, 59, 73, 74, 75, 76, 77, 78, 79, 38, 39, 40, 80, 81, 82, 83, 84, 85, 86, 87, 88, 89, 90, 91, 92, 93, 94, 95, 96, 97, 98, 99, 100, 101, 102, 103, 104, 105, 106, 48, 107, 51, 52, 108, 109, 110, 111, 112, 113, 114, 115, 55, 116, 117, 118, 119, 54, 120, 121, 122, 123, 124, 125, 126, 127, 128, 129, 130, 131, 132, 53, 133, 134, 135, 136, 33, 137, 138, 139, 140, 141, 142, 143, 144, 145, 146, 147, 148, 149, 150, 151, 152, 153, 154, 155, 156, 157, 158, 159, 160, 161, 162, 163, 164, 165, 166, 167, 168, 50, 169, 170, 171, 172, 173, 174, 175, 176, 177, 178, 179, 180, 181, 182, 183, 184, 185, 186, 187, 188, 189, 190, 191, 192, 193, 194, 195, 241, 242, 243, 209, 210, 211, 212, 213, 214, 215, 216, 217, 218, 219, 220, 221, 222, 223, 224, 225, 226, 227, 228, 229, 230, 231, 232, 233, 234, 235, 236, 237, 238, 239, 240] (by decide +kernel) (by decide +kernel)
set_option maxRecDepth 20000 in
theorem gX7_ahead_X5_takeSteps : GoodIn wsX7_ahead (wsV RX7 119 RX5 yX5_takeSteps wsX5_takeSteps) := goodIn_app (goodIn_of _ (by decide +kernel)) ggX7_ahead_X5_takeSteps
theorem dX7_ahead_0 : decode cX7_ahead 0 = .ok (.aload_n 0, 1) := by decide +kernel
theorem dX7_ahead_1 : decode cX7_ahead 1 = .ok (.iload_n 1, 1) := by decide +kernel
theorem dX7_ahead_2 : decode cX7_ahead 2 = .ok (.invokevirtual 102, 3) := by decide +kernel
theorem dX7_ahead_5 : decode cX7_ahead 5 = .ok (.ifCond .eq 13, 3) := by decide +kernel
theorem dX7_ahead_8 : decode cX7_ahead 8 = .ok (.iload_n 2, 1) := by decide +kernel
theorem dX7_ahead_9 : decode cX7_ahead 9 = .ok (.iconst 1, 1) := by decide +kernel
theorem dX7_ahead_10 : decode cX7_ahead 10 = .ok (.bipush 40, 2) := by decide +kernel
theorem dX7_ahead_12 : decode cX7_ahead 12 = .ok (.invokestatic 79, 3) := by decide +kernel
theorem dX7_ahead_15 : decode cX7_ahead 15 = .ok (.ifCond .ne 5, 3) := by decide +kernel
theorem dX7_ahead_18 : decode cX7_ahead 18 = .ok (.iconst (-1), 1) := by decide +kernel
theorem dX7_ahead_19 : decode cX7_ahead 19 = .ok (.ireturn, 1) := by decide +kernel
theorem dX7_ahead_20 : decode cX7_ahead 20 = .ok (.aload_n 0, 1) := by decide +kernel
theorem dX7_ahead_21 : decode cX7_ahead 21 = .ok (.getfield 33, 3) := by decide +kernel
theorem dX7_ahead_24 : decode cX7_ahead 24 = .ok (.aload_n 0, 1) := by decide +kernel
theorem dX7_ahead_25 : decode cX7_ahead 25 = .ok (.getfield 29, 3) := by decide +kernel
theorem dX7_ahead_28 : decode cX7_ahead 28 = .ok (.invokevirtual 208, 3) := by decide +kernel
theorem dX7_ahead_31 : decode cX7_ahead 31 = .ok (.aload_n 0, 1) := by decide +kernel
theorem dX7_ahead_32 : decode cX7_ahead 32 = .ok (.getfield 45, 3) := by decide +kernel
theorem dX7_ahead_35 : decode cX7_ahead 35 = .ok (.iload_n 2, 1) := by decide +kernel
theorem dX7_ahead_36 : decode cX7_ahead 36 = .ok (.invokevirtual 119, 3) := by decide +kernel
theorem dX7_ahead_39 : decode cX7_ahead 39 = .ok (.pop, 1) := by decide +kernel
theorem dX7_ahead_40 : decode cX7_ahead 40 = .ok (.aload_n 0, 1) := by decide +kernel
theorem dX7_ahead_41 : decode cX7_ahead 41 = .ok (.getfield 33, 3) := by decide +kernel
theorem dX7_ahead_44 : decode cX7_ahead 44 = .ok (.getfield 155, 3) := by decide +kernel
theorem dX7_ahead_47 : decode cX7_ahead 47 = .ok (.iload_n 1, 1) := by decide +kernel
theorem dX7_ahead_48 : decode cX7_ahead 48 = .ok (.iaload, 1) := by decide +kernel
theorem dX7_ahead_49 : decode cX7_ahead 49 = .ok (.aload_n 0, 1) := by decide +kernel
theorem dX7_ahead_50 : decode cX7_ahead 50 = .ok (.getfield 29, 3) := by decide +kernel
theorem dX7_ahead_53 : decode cX7_ahead 53 = .ok (.getfield 155, 3) := by decide +kernel
theorem dX7_ahead_56 : decode cX7_ahead 56 = .ok (.iload_n 1, 1) := by decide +kernel
theorem dX7_ahead_57 : decode cX7_ahead 57 = .ok (.iaload, 1) := by decide +kernel
theorem dX7_ahead_58 : decode cX7_ahead 58 = .ok (.isub, 1) := by decide +kernel
theorem dX7_ahead_59 : decode cX7_ahead 59 = .ok (.ireturn, 1) := by decide +kernel
set_option maxRecDepth 20000 in
theorem ggX7_sees_X7_isWithin : GoodIn wsX7_sees wsX7_isWithin := goodIn_r _ [7] (by decide +kernel) (by decide +kernel)
set_option maxRecDepth 20000 in
theorem gX7_sees_X7_isWithin : GoodIn wsX7_sees (va_wsS RX7 79 yX7_isWithin wsX7_isWithin) := goodIn_app (goodIn_of _ (by decide +kernel)) ggX7_sees_X7_isWithin
theorem dX7_sees_0 : decode cX7_sees 0 = .ok (.iload_n 1, 1) := by decide +kernel
theorem dX7_sees_1 : decode cX7_sees 1 = .ok (.iconst 1, 1) := by decide +kernel
theorem dX7_sees_2 : decode cX7_sees 2 = .ok (.bipush 40, 2) := by decide +kernel
theorem dX7_sees_4 : decode cX7_sees 4 = .ok (.invokestatic 79, 3) := by decide +kernel
theorem dX7_sees_7 : decode cX7_sees 7 = .ok (.ifCond .eq 14, 3) := by decide +kernel
theorem dX7_sees_10 : decode cX7_sees 10 = .ok (.iload_n 2, 1) := by decide +kernel
theorem dX7_sees_11 : decode cX7_sees 11 = .ok (.iconst 0, 1) := by decide +kernel
theorem dX7_sees_12 : decode cX7_sees 12 = .ok (.sipush 9999, 3) := by decide +kernel
theorem dX7_sees_15 : decode cX7_sees 15 = .ok (.invokestatic 79, 3) := by decide +kernel
theorem dX7_sees_18 : decode cX7_sees 18 = .ok (.ifCond .ne 5, 3) := by decide +kernel
theorem dX7_sees_21 : decode cX7_sees 21 = .ok (.iconst (-1), 1) := by decide +kernel
theorem dX7_sees_22 : decode cX7_sees 22 = .ok (.ireturn, 1) := by decide +kernel
theorem dX7_sees_23 : decode cX7_sees 23 = .ok (.aload_n 0, 1) := by decide +kernel
theorem dX7_sees_24 : decode cX7_sees 24 = .ok (.getfield 72, 3) := by decide +kernel
theorem dX7_sees_27 : decode cX7_sees 27 = .ok (.iconst 4, 1) := by decide +kernel
theorem dX7_sees_28 : decode cX7_sees 28 = .ok (.if_icmp .lt 6, 3) := by decide +kernel
theorem dX7_sees_31 : decode cX7_sees 31 = .ok (.bipush (-3), 2) := by decide +kernel
theorem dX7_sees_33 : decode cX7_sees 33 = .ok (.ireturn, 1) := by decide +kernel
theorem dX7_sees_34 : decode cX7_sees 34 = .ok (.aload_n 0, 1) := by decide +kernel
theorem dX7_sees_35 : decode cX7_sees 35 = .ok (.getfield 65, 3) := by decide +kernel
theorem dX7_sees_38 : decode cX7_sees 38 = .ok (.aload_n 0, 1) := by decide +kernel
theorem dX7_sees_39 : decode cX7_sees 39 = .ok (.getfield 72, 3) := by decide +kernel
theorem dX7_sees_42 : decode cX7_sees 42 = .ok (.iload_n 1, 1) := by decide +kernel
theorem dX7_sees_43 : decode cX7_sees 43 = .ok (.iastore, 1) := by decide +kernel
theorem dX7_sees_44 : decode cX7_sees 44 = .ok (.aload_n 0, 1) := by decide +kernel
theorem dX7_sees_45 : decode cX7_sees 45 = .ok (.getfield 69, 3) := by decide +kernel
theorem dX7_sees_48 : decode cX7_sees 48 = .ok (.aload_n 0, 1) := by decide +kernel
theorem dX7_sees_49 : decode cX7_sees 49 = .ok (.getfield 72, 3) := by decide +kernel
theorem dX7_sees_52 : decode cX7_sees 52 = .ok (.iload_n 2, 1) := by decide +kernel
theorem dX7_sees_53 : decode cX7_sees 53 = .ok (.iastore, 1) := by decide +kernel
theorem dX7_sees_54 : decode cX7_sees 54 = .ok (.aload_n 0, 1) := by decide +kernel
theorem dX7_sees_55 : decode cX7_sees 55 = .ok (.dup, 1) := by decide +kernel
theorem dX7_sees_56 : decode cX7_sees 56 = .ok (.getfield 72, 3) := by decide +kernel
theorem dX7_sees_59 : decode cX7_sees 59 = .ok (.iconst 1, 1) := by decide +kernel
theorem dX7_sees_60 : decode cX7_sees 60 = .ok (.iadd, 1) := by decide +kernel
theorem dX7_sees_61 : decode cX7_sees 61 = .ok (.putfield 72, 3) := by decide +kernel
theorem dX7_sees_64 : decode cX7_sees 64 = .ok (.aload_n 0, 1) := by decide +kernel
theorem dX7_sees_65 : decode cX7_sees 65 = .ok (.getfield 72, 3) := by decide +kernel
theorem dX7_sees_68 : decode cX7_sees 68 = .ok (.ireturn, 1) := by decide +kernel
theorem dX7_forget_0 : decode cX7_forget 0 = .ok (.aload_n 0, 1) := by decide +kernel
theorem dX7_forget_1 : decode cX7_forget 1 = .ok (.getfield 72, 3) := by decide +kernel
theorem dX7_forget_4 : decode cX7_forget 4 = .ok (.istore_n 1, 1) := by decide +kernel
theorem dX7_forget_5 : decode cX7_forget 5 = .ok (.aload_n 0, 1) := by decide +kernel
theorem dX7_forget_6 : decode cX7_forget 6 = .ok (.iconst 0, 1) := by decide +kernel
theorem dX7_forget_7 : decode cX7_forget 7 = .ok (.putfield 72, 3) := by decide +kernel
theorem dX7_forget_10 : decode cX7_forget 10 = .ok (.iload_n 1, 1) := by decide +kernel
theorem dX7_forget_11 : decode cX7_forget 11 = .ok (.ireturn, 1) := by decide +kernel
set_option maxRecDepth 20000 in
theorem ggX7_unseen_X7_explainsAllSeen : GoodIn wsX7_unseen wsX7_explainsAllSeen := goodIn_r _ [7, 8, 9, 10, 11, 12, 13, 14, 15, 16, 17, 18, 19, 20, 21, 22, 23, 24, 25, 26, 27, 28, 29, 30, 31, 32, 33, 34, 35, 6, 36, 37, 38, 39, 40, 41, 42, 43, 44, 45, 46, 47, 48, 49, 50, 51, 52, 53, 54, 55, 56, 57, 58, 59, 60, 61, 62, 63, 64, 65, 66, 67, 68, 69, 70, 71, 72, 73, 74, 75, 76, 77, 78, 79, 80, 81, 82, 83, 84, 85, 86, 87, 88, 89, 90, 91, 92, 93, 94, 95, 96, 97, 98, 99, 100, 101, 102, 103, 104, 105, 106, 107, 108, 109, 110, 111, 112, 113, 114, 115, 116, 117, 118, 119, 120, 121, 122, 123, 124, 125, 126, 127, 128, 129, 130, 131, 132, 133, 134, 135, 136, 137, 138, 139, 140, 141, 142, 143, 144, 145, 146, 147, 148, 149, 150, 151, 152, 153, 154, 155, 156, 157, 158, 159, 160, 161, 162, 163, 164, 165, 166, 167, 168, 169, 170, 171, 172, 173, 174, 175, 176, 177, 178, 179, 180, 181, 182, 183, 184, 185, 186, 187, 188, 189, 190, 191, 192, 193, 194, 195, 196, 197, 198, 199, 200, 201, 202, 203, 204, 205, 206, 207, 208, 209, 210, 211, 212, 213, 214, 226, 227, 228, 229, 230, 231, 232, 233, 234, 235, 236, 237, 238, 239, 240, 241, 242, 243, 244, 245, 246, 247, 248, 249, 215, 216, 217, 218, 219, 220, 221, 222, 223, 224, 225] (by decide +kernel) (by decide +kernel)
set_option maxRecDepth 20000 in
theorem gX7_unseen_X7_explainsAllSeen : GoodIn wsX7_unseen (wsV RX7 216 RX7 yX7_explainsAllSeen wsX7_explainsAllSeen) := goodIn_app (goodIn_of _ (by decide +kernel)) ggX7_unseen_X7_explainsAllSeen
theorem dX7_unseen_0 : decode cX7_unseen 0 = .ok (.iconst 0, 1) := by decide +kernel
theorem dX7_unseen_1 : decode cX7_unseen 1 = .ok (.istore_n 1, 1) := by decide +kernel
theorem dX7_unseen_2 : decode cX7_unseen 2 = .ok (.iconst 0, 1) := by decide +kernel
theorem dX7_unseen_3 : decode cX7_unseen 3 = .ok (.istore_n 2, 1) := by decide +kernel
theorem dX7_unseen_4 : decode cX7_unseen 4 = .ok (.iload_n 2, 1) := by decide +kernel
theorem dX7_unseen_5 : decode cX7_unseen 5 = .ok (.aload_n 0, 1) := by decide +kernel
theorem dX7_unseen_6 : decode cX7_unseen 6 = .ok (.getfield 19, 3) := by decide +kernel
theorem dX7_unseen_9 : decode cX7_unseen 9 = .ok (.getfield 213, 3) := by decide +kernel
theorem dX7_unseen_12 : decode cX7_unseen 12 = .ok (.if_icmp .ge 23, 3) := by decide +kernel
theorem dX7_unseen_15 : decode cX7_unseen 15 = .ok (.aload_n 0, 1) := by decide +kernel
theorem dX7_unseen_16 : decode cX7_unseen 16 = .ok (.iload_n 2, 1) := by decide +kernel
theorem dX7_unseen_17 : decode cX7_unseen 17 = .ok (.invokevirtual 216, 3) := by decide +kernel
theorem dX7_unseen_20 : decode cX7_unseen 20 = .ok (.ifCond .eq 9, 3) := by decide +kernel
theorem dX7_unseen_23 : decode cX7_unseen 23 = .ok (.iload_n 1, 1) := by decide +kernel
theorem dX7_unseen_24 : decode cX7_unseen 24 = .ok (.iconst 1, 1) := by decide +kernel
theorem dX7_unseen_25 : decode cX7_unseen 25 = .ok (.iload_n 2, 1) := by decide +kernel
theorem dX7_unseen_26 : decode cX7_unseen 26 = .ok (.ishl, 1) := by decide +kernel
theorem dX7_unseen_27 : decode cX7_unseen 27 = .ok (.ior, 1) := by decide +kernel
theorem dX7_unseen_28 : decode cX7_unseen 28 = .ok (.istore_n 1, 1) := by decide +kernel
theorem dX7_unseen_29 : decode cX7_unseen 29 = .ok (.iinc 2 1, 3) := by decide +kernel
theorem dX7_unseen_32 : decode cX7_unseen 32 = .ok (.goto (-28), 3) := by decide +kernel
theorem dX7_unseen_35 : decode cX7_unseen 35 = .ok (.iload_n 1, 1) := by decide +kernel
theorem dX7_unseen_36 : decode cX7_unseen 36 = .ok (.ireturn, 1) := by decide +kernel
set_option maxRecDepth 20000 in
theorem ggX7_keep_X7_isWithin : GoodIn wsX7_keep wsX7_isWithin := goodIn_r _ [6] (by decide +kernel) (by decide +kernel)
set_option maxRecDepth 20000 in
theorem gX7_keep_X7_isWithin : GoodIn wsX7_keep (va_wsS RX7 79 yX7_isWithin wsX7_isWithin) := goodIn_app (goodIn_of _ (by decide +kernel)) ggX7_keep_X7_isWithin
set_option maxRecDepth 20000 in
theorem ggX7_keep_X7_imageAt : GoodIn wsX7_keep wsX7_imageAt := goodIn_r _ [10, 11, 12, 61, 62, 63, 64, 65, 66, 67, 68, 69, 70, 71, 72, 73] (by decide +kernel) (by decide +kernel)
set_option maxRecDepth 20000 in
theorem gX7_keep_X7_imageAt : GoodIn wsX7_keep (wsV RX7 219 RX7 yX7_imageAt wsX7_imageAt) := goodIn_app (goodIn_of _ (by decide +kernel)) ggX7_keep_X7_imageAt
set_option maxRecDepth 20000 in
theorem ggX7_keep_X2_take : GoodIn wsX7_keep wsX2_take := goodIn_r _ [17, 18, 19, 20, 21, 22, 23, 24, 25, 26, 27, 28, 29, 30, 31, 32, 33, 34, 35, 36, 37, 38, 39, 40, 5, 41, 42, 43, 44, 45, 46, 47, 48, 49, 50, 51, 52, 53, 54, 55, 56, 57, 58, 59, 60, 89, 90, 74, 75, 76, 77, 78, 79, 80, 81, 82, 83, 84, 85, 86, 87, 88, 91, 92, 93, 94, 95, 96] (by decide +kernel) (by decide +kernel)
set_option maxRecDepth 20000 in
theorem gX7_keep_X2_take : GoodIn wsX7_keep (wsV RX7 223 RX2 yX2_take wsX2_take) := goodIn_app (goodIn_of _ (by decide +kernel)) ggX7_keep_X2_take
theorem dX7_keep_0 : decode cX7_keep 0 = .ok (.iload_n 1, 1) := by decide +kernel
theorem dX7_keep_1 : decode cX7_keep 1 = .ok (.iconst 0, 1) := by decide +kernel
theorem dX7_keep_2 : decode cX7_keep 2 = .ok (.iconst 1, 1) := by decide +kernel
theorem dX7_keep_3 : decode cX7_keep 3 = .ok (.invokestatic 79, 3) := by decide +kernel
theorem dX7_keep_6 : decode cX7_keep 6 = .ok (.ifCond .ne 5, 3) := by decide +kernel
theorem dX7_keep_9 : decode cX7_keep 9 = .ok (.iconst (-1), 1) := by decide +kernel
theorem dX7_keep_10 : decode cX7_keep 10 = .ok (.ireturn, 1) := by decide +kernel
theorem dX7_keep_11 : decode cX7_keep 11 = .ok (.aload_n 0, 1) := by decide +kernel
theorem dX7_keep_12 : decode cX7_keep 12 = .ok (.iload_n 1, 1) := by decide +kernel
theorem dX7_keep_13 : decode cX7_keep 13 = .ok (.invokevirtual 219, 3) := by decide +kernel
theorem dX7_keep_16 : decode cX7_keep 16 = .ok (.aload_n 0, 1) := by decide +kernel
theorem dX7_keep_17 : decode cX7_keep 17 = .ok (.getfield 29, 3) := by decide +kernel
theorem dX7_keep_20 : decode cX7_keep 20 = .ok (.invokevirtual 223, 3) := by decide +kernel
theorem dX7_keep_23 : decode cX7_keep 23 = .ok (.aload_n 0, 1) := by decide +kernel
theorem dX7_keep_24 : decode cX7_keep 24 = .ok (.getfield 29, 3) := by decide +kernel
theorem dX7_keep_27 : decode cX7_keep 27 = .ok (.getfield 116, 3) := by decide +kernel
theorem dX7_keep_30 : decode cX7_keep 30 = .ok (.ireturn, 1) := by decide +kernel
set_option maxRecDepth 20000 in
theorem ggX7_back_X7_isWithin : GoodIn wsX7_back wsX7_isWithin := goodIn_r _ [10] (by decide +kernel) (by decide +kernel)
set_option maxRecDepth 20000 in
theorem gX7_back_X7_isWithin : GoodIn wsX7_back (va_wsS RX7 79 yX7_isWithin wsX7_isWithin) := goodIn_app (goodIn_of _ (by decide +kernel)) ggX7_back_X7_isWithin
set_option maxRecDepth 20000 in
theorem ggX7_back_X7_imageAt : GoodIn wsX7_back wsX7_imageAt := goodIn_r _ [14, 15, 16, 60, 61, 62, 63, 64, 65, 66, 67, 68, 69, 70, 71, 72] (by decide +kernel) (by decide +kernel)
set_option maxRecDepth 20000 in
theorem gX7_back_X7_imageAt : GoodIn wsX7_back (wsV RX7 219 RX7 yX7_imageAt wsX7_imageAt) := goodIn_app (goodIn_of _ (by decide +kernel)) ggX7_back_X7_imageAt
set_option maxRecDepth 20000 in
theorem ggX7_back_X4_copyFrom : GoodIn wsX7_back wsX4_copyFrom := goodIn_r _ [21, 22, 23, 24, 25, 26, 27, 28, 29, 30, 31, 32, 33, 34, 35, 36, 37, 9, 38, 39, 40, 41, 42, 43, 44, 45, 46, 47, 48, 49, 50, 51, 52, 53, 54, 55, 56, 57, 76, 77, 78, 79, 80, 81, 82, 83, 84, 85, 86, 87, 88, 89, 90, 91, 92, 93, 94, 95, 96] (by decide +kernel) (by decide +kernel)
set_option maxRecDepth 20000 in
theorem gX7_back_X4_copyFrom : GoodIn wsX7_back (wsV RX7 208 RX4 yX4_copyFrom wsX4_copyFrom) := goodIn_app (goodIn_of _ (by decide +kernel)) ggX7_back_X4_copyFrom
theorem dX7_back_0 : decode cX7_back 0 = .ok (.iload_n 1, 1) := by decide +kernel
theorem dX7_back_1 : decode cX7_back 1 = .ok (.iconst 0, 1) := by decide +kernel
theorem dX7_back_2 : decode cX7_back 2 = .ok (.iconst 1, 1) := by decide +kernel
theorem dX7_back_3 : decode cX7_back 3 = .ok (.invokestatic 79, 3) := by decide +kernel
theorem dX7_back_6 : decode cX7_back 6 = .ok (.ifCond .ne 5, 3) := by decide +kernel
theorem dX7_back_9 : decode cX7_back 9 = .ok (.iconst (-1), 1) := by decide +kernel
theorem dX7_back_10 : decode cX7_back 10 = .ok (.ireturn, 1) := by decide +kernel
theorem dX7_back_11 : decode cX7_back 11 = .ok (.aload_n 0, 1) := by decide +kernel
theorem dX7_back_12 : decode cX7_back 12 = .ok (.iload_n 1, 1) := by decide +kernel
theorem dX7_back_13 : decode cX7_back 13 = .ok (.invokevirtual 219, 3) := by decide +kernel
theorem dX7_back_16 : decode cX7_back 16 = .ok (.astore_n 2, 1) := by decide +kernel
theorem dX7_back_17 : decode cX7_back 17 = .ok (.aload_n 2, 1) := by decide +kernel
theorem dX7_back_18 : decode cX7_back 18 = .ok (.getfield 226, 3) := by decide +kernel
theorem dX7_back_21 : decode cX7_back 21 = .ok (.ifCond .ne 6, 3) := by decide +kernel
theorem dX7_back_24 : decode cX7_back 24 = .ok (.bipush (-2), 2) := by decide +kernel
theorem dX7_back_26 : decode cX7_back 26 = .ok (.ireturn, 1) := by decide +kernel
theorem dX7_back_27 : decode cX7_back 27 = .ok (.aload_n 0, 1) := by decide +kernel
theorem dX7_back_28 : decode cX7_back 28 = .ok (.getfield 29, 3) := by decide +kernel
theorem dX7_back_31 : decode cX7_back 31 = .ok (.aload_n 2, 1) := by decide +kernel
theorem dX7_back_32 : decode cX7_back 32 = .ok (.getfield 230, 3) := by decide +kernel
theorem dX7_back_35 : decode cX7_back 35 = .ok (.invokevirtual 208, 3) := by decide +kernel
theorem dX7_back_38 : decode cX7_back 38 = .ok (.aload_n 0, 1) := by decide +kernel
theorem dX7_back_39 : decode cX7_back 39 = .ok (.getfield 51, 3) := by decide +kernel
theorem dX7_back_42 : decode cX7_back 42 = .ok (.iconst 0, 1) := by decide +kernel
theorem dX7_back_43 : decode cX7_back 43 = .ok (.putfield 137, 3) := by decide +kernel
theorem dX7_back_46 : decode cX7_back 46 = .ok (.aload_n 0, 1) := by decide +kernel
theorem dX7_back_47 : decode cX7_back 47 = .ok (.getfield 29, 3) := by decide +kernel
theorem dX7_back_50 : decode cX7_back 50 = .ok (.getfield 116, 3) := by decide +kernel
theorem dX7_back_53 : decode cX7_back 53 = .ok (.ireturn, 1) := by decide +kernel
theorem dX7_count_0 : decode cX7_count 0 = .ok (.iload_n 1, 1) := by decide +kernel
theorem dX7_count_1 : decode cX7_count 1 = .ok (.tableswitch 159 0 11 #[63, 71, 79, 87, 95, 103, 111, 119, 130, 138, 143, 151], 63) := by decide +kernel
theorem dX7_count_64 : decode cX7_count 64 = .ok (.aload_n 0, 1) := by decide +kernel
theorem dX7_count_65 : decode cX7_count 65 = .ok (.getfield 19, 3) := by decide +kernel
theorem dX7_count_68 : decode cX7_count 68 = .ok (.getfield 213, 3) := by decide +kernel
theorem dX7_count_71 : decode cX7_count 71 = .ok (.ireturn, 1) := by decide +kernel
theorem dX7_count_72 : decode cX7_count 72 = .ok (.aload_n 0, 1) := by decide +kernel
theorem dX7_count_73 : decode cX7_count 73 = .ok (.getfield 19, 3) := by decide +kernel
theorem dX7_count_76 : decode cX7_count 76 = .ok (.getfield 231, 3) := by decide +kernel
theorem dX7_count_79 : decode cX7_count 79 = .ok (.ireturn, 1) := by decide +kernel
theorem dX7_count_80 : decode cX7_count 80 = .ok (.aload_n 0, 1) := by decide +kernel
theorem dX7_count_81 : decode cX7_count 81 = .ok (.getfield 29, 3) := by decide +kernel
theorem dX7_count_84 : decode cX7_count 84 = .ok (.getfield 130, 3) := by decide +kernel
theorem dX7_count_87 : decode cX7_count 87 = .ok (.ireturn, 1) := by decide +kernel
theorem dX7_count_88 : decode cX7_count 88 = .ok (.aload_n 0, 1) := by decide +kernel
theorem dX7_count_89 : decode cX7_count 89 = .ok (.getfield 19, 3) := by decide +kernel
theorem dX7_count_92 : decode cX7_count 92 = .ok (.getfield 234, 3) := by decide +kernel
theorem dX7_count_95 : decode cX7_count 95 = .ok (.ireturn, 1) := by decide +kernel
theorem dX7_count_96 : decode cX7_count 96 = .ok (.aload_n 0, 1) := by decide +kernel
theorem dX7_count_97 : decode cX7_count 97 = .ok (.getfield 19, 3) := by decide +kernel
theorem dX7_count_100 : decode cX7_count 100 = .ok (.getfield 237, 3) := by decide +kernel
theorem dX7_count_103 : decode cX7_count 103 = .ok (.ireturn, 1) := by decide +kernel
theorem dX7_count_104 : decode cX7_count 104 = .ok (.aload_n 0, 1) := by decide +kernel
theorem dX7_count_105 : decode cX7_count 105 = .ok (.getfield 19, 3) := by decide +kernel
theorem dX7_count_108 : decode cX7_count 108 = .ok (.getfield 240, 3) := by decide +kernel
theorem dX7_count_111 : decode cX7_count 111 = .ok (.ireturn, 1) := by decide +kernel
theorem dX7_count_112 : decode cX7_count 112 = .ok (.aload_n 0, 1) := by decide +kernel
theorem dX7_count_113 : decode cX7_count 113 = .ok (.getfield 29, 3) := by decide +kernel
theorem dX7_count_116 : decode cX7_count 116 = .ok (.getfield 116, 3) := by decide +kernel
theorem dX7_count_119 : decode cX7_count 119 = .ok (.ireturn, 1) := by decide +kernel
theorem dX7_count_120 : decode cX7_count 120 = .ok (.aload_n 0, 1) := by decide +kernel
theorem dX7_count_121 : decode cX7_count 121 = .ok (.getfield 29, 3) := by decide +kernel
theorem dX7_count_124 : decode cX7_count 124 = .ok (.getfield 161, 3) := by decide +kernel
theorem dX7_count_127 : decode cX7_count 127 = .ok (.getfield 243, 3) := by decide +kernel
theorem dX7_count_130 : decode cX7_count 130 = .ok (.ireturn, 1) := by decide +kernel
theorem dX7_count_131 : decode cX7_count 131 = .ok (.aload_n 0, 1) := by decide +kernel
theorem dX7_count_132 : decode cX7_count 132 = .ok (.getfield 29, 3) := by decide +kernel
theorem dX7_count_135 : decode cX7_count 135 = .ok (.getfield 246, 3) := by decide +kernel
theorem dX7_count_138 : decode cX7_count 138 = .ok (.ireturn, 1) := by decide +kernel
theorem dX7_count_139 : decode cX7_count 139 = .ok (.aload_n 0, 1) := by decide +kernel
theorem dX7_count_140 : decode cX7_count 140 = .ok (.getfield 72, 3) := by decide +kernel
theorem dX7_count_143 : decode cX7_count 143 = .ok (.ireturn, 1) := by decide +kernel
theorem dX7_count_144 : decode cX7_count 144 = .ok (.aload_n 0, 1) := by decide +kernel
theorem dX7_count_145 : decode cX7_count 145 = .ok (.getfield 10, 3) := by decide +kernel
theorem dX7_count_148 : decode cX7_count 148 = .ok (.getfield 87, 3) := by decide +kernel
theorem dX7_count_151 : decode cX7_count 151 = .ok (.ireturn, 1) := by decide +kernel
theorem dX7_count_152 : decode cX7_count 152 = .ok (.aload_n 0, 1) := by decide +kernel
theorem dX7_count_153 : decode cX7_count 153 = .ok (.getfield 51, 3) := by decide +kernel
theorem dX7_count_156 : decode cX7_count 156 = .ok (.getfield 137, 3) := by decide +kernel
theorem dX7_count_159 : decode cX7_count 159 = .ok (.ireturn, 1) := by decide +kernel
theorem dX7_count_160 : decode cX7_count 160 = .ok (.iconst (-1), 1) := by decide +kernel
theorem dX7_count_161 : decode cX7_count 161 = .ok (.ireturn, 1) := by decide +kernel
set_option maxRecDepth 20000 in
theorem ggX7_beginAnew_X4_begin : GoodIn wsX7_beginAnew wsX4_begin := goodIn_r _ [14, 15, 16, 17, 18, 19, 20, 21, 22, 23, 24, 25, 26, 27, 28, 29, 30, 31, 32, 33, 34, 64, 65, 66, 67, 68, 69, 70, 71, 72, 73, 74, 75, 76, 77, 78, 79, 80, 81, 82, 83, 84] (by decide +kernel) (by decide +kernel)
set_option maxRecDepth 20000 in
theorem gX7_beginAnew_X4_begin : GoodIn wsX7_beginAnew (wsV RX7 250 RX4 yX4_begin wsX4_begin) := goodIn_app (goodIn_of _ (by decide +kernel)) ggX7_beginAnew_X4_begin
theorem dX7_beginAnew_0 : decode cX7_beginAnew 0 = .ok (.aload_n 0, 1) := by decide +kernel
theorem dX7_beginAnew_1 : decode cX7_beginAnew 1 = .ok (.getfield 29, 3) := by decide +kernel
theorem dX7_beginAnew_4 : decode cX7_beginAnew 4 = .ok (.aload_n 0, 1) := by decide +kernel
theorem dX7_beginAnew_5 : decode cX7_beginAnew 5 = .ok (.getfield 19, 3) := by decide +kernel
theorem dX7_beginAnew_8 : decode cX7_beginAnew 8 = .ok (.getfield 249, 3) := by decide +kernel
theorem dX7_beginAnew_11 : decode cX7_beginAnew 11 = .ok (.invokevirtual 250, 3) := by decide +kernel
theorem dX7_beginAnew_14 : decode cX7_beginAnew 14 = .ok (.aload_n 0, 1) := by decide +kernel
theorem dX7_beginAnew_15 : decode cX7_beginAnew 15 = .ok (.getfield 51, 3) := by decide +kernel
theorem dX7_beginAnew_18 : decode cX7_beginAnew 18 = .ok (.iconst 0, 1) := by decide +kernel
theorem dX7_beginAnew_19 : decode cX7_beginAnew 19 = .ok (.putfield 137, 3) := by decide +kernel
theorem dX7_beginAnew_22 : decode cX7_beginAnew 22 = .ok (.aload_n 0, 1) := by decide +kernel
theorem dX7_beginAnew_23 : decode cX7_beginAnew 23 = .ok (.getfield 58, 3) := by decide +kernel
theorem dX7_beginAnew_26 : decode cX7_beginAnew 26 = .ok (.iconst 0, 1) := by decide +kernel
theorem dX7_beginAnew_27 : decode cX7_beginAnew 27 = .ok (.putfield 226, 3) := by decide +kernel
theorem dX7_beginAnew_30 : decode cX7_beginAnew 30 = .ok (.aload_n 0, 1) := by decide +kernel
theorem dX7_beginAnew_31 : decode cX7_beginAnew 31 = .ok (.getfield 62, 3) := by decide +kernel
theorem dX7_beginAnew_34 : decode cX7_beginAnew 34 = .ok (.iconst 0, 1) := by decide +kernel
theorem dX7_beginAnew_35 : decode cX7_beginAnew 35 = .ok (.putfield 226, 3) := by decide +kernel
theorem dX7_beginAnew_38 : decode cX7_beginAnew 38 = .ok (.aload_n 0, 1) := by decide +kernel
theorem dX7_beginAnew_39 : decode cX7_beginAnew 39 = .ok (.iconst 0, 1) := by decide +kernel
theorem dX7_beginAnew_40 : decode cX7_beginAnew 40 = .ok (.putfield 72, 3) := by decide +kernel
theorem dX7_beginAnew_43 : decode cX7_beginAnew 43 = .ok (.return_, 1) := by decide +kernel
theorem dX7_hasTerminal_0 : decode cX7_hasTerminal 0 = .ok (.iload_n 1, 1) := by decide +kernel
theorem dX7_hasTerminal_1 : decode cX7_hasTerminal 1 = .ok (.ifCond .lt 18, 3) := by decide +kernel
theorem dX7_hasTerminal_4 : decode cX7_hasTerminal 4 = .ok (.iload_n 1, 1) := by decide +kernel
theorem dX7_hasTerminal_5 : decode cX7_hasTerminal 5 = .ok (.aload_n 0, 1) := by decide +kernel
theorem dX7_hasTerminal_6 : decode cX7_hasTerminal 6 = .ok (.getfield 19, 3) := by decide +kernel
theorem dX7_hasTerminal_9 : decode cX7_hasTerminal 9 = .ok (.getfield 213, 3) := by decide +kernel
theorem dX7_hasTerminal_12 : decode cX7_hasTerminal 12 = .ok (.if_icmp .ge 7, 3) := by decide +kernel
theorem dX7_hasTerminal_15 : decode cX7_hasTerminal 15 = .ok (.iconst 1, 1) := by decide +kernel
theorem dX7_hasTerminal_16 : decode cX7_hasTerminal 16 = .ok (.goto 4, 3) := by decide +kernel
theorem dX7_hasTerminal_19 : decode cX7_hasTerminal 19 = .ok (.iconst 0, 1) := by decide +kernel
theorem dX7_hasTerminal_20 : decode cX7_hasTerminal 20 = .ok (.ireturn, 1) := by decide +kernel
theorem dX7_hasClass_0 : decode cX7_hasClass 0 = .ok (.iload_n 1, 1) := by decide +kernel
theorem dX7_hasClass_1 : decode cX7_hasClass 1 = .ok (.ifCond .lt 18, 3) := by decide +kernel
theorem dX7_hasClass_4 : decode cX7_hasClass 4 = .ok (.iload_n 1, 1) := by decide +kernel
theorem dX7_hasClass_5 : decode cX7_hasClass 5 = .ok (.aload_n 0, 1) := by decide +kernel
theorem dX7_hasClass_6 : decode cX7_hasClass 6 = .ok (.getfield 19, 3) := by decide +kernel
theorem dX7_hasClass_9 : decode cX7_hasClass 9 = .ok (.getfield 231, 3) := by decide +kernel
theorem dX7_hasClass_12 : decode cX7_hasClass 12 = .ok (.if_icmp .ge 7, 3) := by decide +kernel
theorem dX7_hasClass_15 : decode cX7_hasClass 15 = .ok (.iconst 1, 1) := by decide +kernel
theorem dX7_hasClass_16 : decode cX7_hasClass 16 = .ok (.goto 4, 3) := by decide +kernel
theorem dX7_hasClass_19 : decode cX7_hasClass 19 = .ok (.iconst 0, 1) := by decide +kernel
theorem dX7_hasClass_20 : decode cX7_hasClass 20 = .ok (.ireturn, 1) := by decide +kernel
theorem dX7_imageAt_0 : decode cX7_imageAt 0 = .ok (.iload_n 1, 1) := by decide +kernel
theorem dX7_imageAt_1 : decode cX7_imageAt 1 = .ok (.ifCond .ne 10, 3) := by decide +kernel
theorem dX7_imageAt_4 : decode cX7_imageAt 4 = .ok (.aload_n 0, 1) := by decide +kernel
theorem dX7_imageAt_5 : decode cX7_imageAt 5 = .ok (.getfield 58, 3) := by decide +kernel
theorem dX7_imageAt_8 : decode cX7_imageAt 8 = .ok (.goto 7, 3) := by decide +kernel
theorem dX7_imageAt_11 : decode cX7_imageAt 11 = .ok (.aload_n 0, 1) := by decide +kernel
theorem dX7_imageAt_12 : decode cX7_imageAt 12 = .ok (.getfield 62, 3) := by decide +kernel
theorem dX7_imageAt_15 : decode cX7_imageAt 15 = .ok (.areturn, 1) := by decide +kernel
set_option maxRecDepth 20000 in
theorem ggX7_explainsAllSeen_X4_copyFrom : GoodIn wsX7_explainsAllSeen wsX4_copyFrom := goodIn_r _ [12, 13, 14, 15, 16, 17, 18, 19, 20, 21, 22, 23, 24, 25, 26, 27, 28, 29, 30, 31, 32, 33, 34, 35, 36, 37, 38, 39, 40, 41, 42, 43, 44, 45, 46, 47, 48, 49, 209, 210, 211, 212, 213, 214, 215, 216, 217, 218, 219, 220, 221, 222, 223, 224, 225, 226, 227, 228, 229] (by decide +kernel) (by decide +kernel)
set_option maxRecDepth 20000 in
theorem gX7_explainsAllSeen_X4_copyFrom : GoodIn wsX7_explainsAllSeen (wsV RX7 208 RX4 yX4_copyFrom wsX4_copyFrom) := goodIn_app (goodIn_of _ (by decide +kernel)) ggX7_explainsAllSeen_X4_copyFrom
set_option maxRecDepth 20000 in
theorem ggX7_explainsAllSeen_X4_makeDeaf : GoodIn wsX7_explainsAllSeen wsX4_makeDeaf := goodIn_r _ [53, 54, 55, 33, 56, 26, 57, 58, 59, 11, 60, 209, 210, 211, 212, 213, 214, 215, 216, 217, 218, 219, 220, 221, 222, 223] (by decide +kernel) (by decide +kernel)
set_option maxRecDepth 20000 in
theorem gX7_explainsAllSeen_X4_makeDeaf : GoodIn wsX7_explainsAllSeen (wsV RX7 126 RX4 yX4_makeDeaf wsX4_makeDeaf) := goodIn_app (goodIn_of _ (by decide +kernel)) ggX7_explainsAllSeen_X4_makeDeaf
set_option maxRecDepth 20000 in
theorem ggX7_explainsAllSeen_X5_takeSteps : GoodIn wsX7_explainsAllSeen wsX5_takeSteps := goodIn_r _ [65, 66, 67, 68, 69, 70, 71, 72, 73, 11, 74, 24, 75, 76, 77, 64, 78, 79, 80, 81, 82, 83, 84, 32, 33, 34, 85, 86, 87, 88, 89, 90, 91, 92, 93, 94, 95, 96, 97, 98, 99, 100, 101, 102, 103, 104, 105, 106, 55, 56, 107, 108, 109, 42, 110, 45, 46, 111, 112, 113, 114, 115, 116, 117, 118, 49, 119, 120, 121, 122, 48, 123, 124, 125, 126, 127, 128, 129, 130, 131, 132, 133, 134, 135, 47, 136, 58, 59, 60, 26, 137, 138, 139, 140, 141, 142, 143, 144, 145, 146, 147, 148, 149, 150, 151, 152, 153, 154, 155, 156, 157, 158, 159, 160, 161, 162, 163, 164, 165, 166, 167, 168, 44, 169, 170, 171, 172, 173, 174, 175, 176, 177, 178, 179, 180, 181, 182, 183, 184, 185, 186, 187, 188, 189, 190, 191, 192, 193, 194, 195, 230, 231, 232, 209, 210, 211, 212, 213, 214, 215, 216, 217, 218, 219, 220, 221, 222, 223, 233, 234, 235, 236, 237, 238, 239, 240, 241, 242, 243, 224, 225, 226, 227, 228, 229] (by decide +kernel) (by decide +kernel)
set_option maxRecDepth 20000 in
theorem gX7_explainsAllSeen_X5_takeSteps : GoodIn wsX7_explainsAllSeen (wsV RX7 119 RX5 yX5_takeSteps wsX5_takeSteps) := goodIn_app (goodIn_of _ (by decide +kernel)) ggX7_explainsAllSeen_X5_takeSteps
theorem dX7_explainsAllSeen_0 : decode cX7_explainsAllSeen 0 = .ok (.iconst 0, 1) := by decide +kernel
theorem dX7_explainsAllSeen_1 : decode cX7_explainsAllSeen 1 = .ok (.istore_n 2, 1) := by decide +kernel
theorem dX7_explainsAllSeen_2 : decode cX7_explainsAllSeen 2 = .ok (.iload_n 2, 1) := by decide +kernel
theorem dX7_explainsAllSeen_3 : decode cX7_explainsAllSeen 3 = .ok (.aload_n 0, 1) := by decide +kernel
theorem dX7_explainsAllSeen_4 : decode cX7_explainsAllSeen 4 = .ok (.getfield 72, 3) := by decide +kernel
theorem dX7_explainsAllSeen_7 : decode cX7_explainsAllSeen 7 = .ok (.if_icmp .ge 81, 3) := by decide +kernel
theorem dX7_explainsAllSeen_10 : decode cX7_explainsAllSeen 10 = .ok (.iload_n 2, 1) := by decide +kernel
theorem dX7_explainsAllSeen_11 : decode cX7_explainsAllSeen 11 = .ok (.iconst 4, 1) := by decide +kernel
theorem dX7_explainsAllSeen_12 : decode cX7_explainsAllSeen 12 = .ok (.if_icmp .ge 76, 3) := by decide +kernel
theorem dX7_explainsAllSeen_15 : decode cX7_explainsAllSeen 15 = .ok (.aload_n 0, 1) := by decide +kernel
theorem dX7_explainsAllSeen_16 : decode cX7_explainsAllSeen 16 = .ok (.getfield 33, 3) := by decide +kernel
theorem dX7_explainsAllSeen_19 : decode cX7_explainsAllSeen 19 = .ok (.aload_n 0, 1) := by decide +kernel
theorem dX7_explainsAllSeen_20 : decode cX7_explainsAllSeen 20 = .ok (.getfield 29, 3) := by decide +kernel
theorem dX7_explainsAllSeen_23 : decode cX7_explainsAllSeen 23 = .ok (.invokevirtual 208, 3) := by decide +kernel
theorem dX7_explainsAllSeen_26 : decode cX7_explainsAllSeen 26 = .ok (.aload_n 0, 1) := by decide +kernel
theorem dX7_explainsAllSeen_27 : decode cX7_explainsAllSeen 27 = .ok (.getfield 33, 3) := by decide +kernel
theorem dX7_explainsAllSeen_30 : decode cX7_explainsAllSeen 30 = .ok (.iload_n 1, 1) := by decide +kernel
theorem dX7_explainsAllSeen_31 : decode cX7_explainsAllSeen 31 = .ok (.aload_n 0, 1) := by decide +kernel
theorem dX7_explainsAllSeen_32 : decode cX7_explainsAllSeen 32 = .ok (.getfield 29, 3) := by decide +kernel
theorem dX7_explainsAllSeen_35 : decode cX7_explainsAllSeen 35 = .ok (.getfield 116, 3) := by decide +kernel
theorem dX7_explainsAllSeen_38 : decode cX7_explainsAllSeen 38 = .ok (.aload_n 0, 1) := by decide +kernel
theorem dX7_explainsAllSeen_39 : decode cX7_explainsAllSeen 39 = .ok (.getfield 29, 3) := by decide +kernel
theorem dX7_explainsAllSeen_42 : decode cX7_explainsAllSeen 42 = .ok (.getfield 116, 3) := by decide +kernel
theorem dX7_explainsAllSeen_45 : decode cX7_explainsAllSeen 45 = .ok (.aload_n 0, 1) := by decide +kernel
theorem dX7_explainsAllSeen_46 : decode cX7_explainsAllSeen 46 = .ok (.getfield 65, 3) := by decide +kernel
theorem dX7_explainsAllSeen_49 : decode cX7_explainsAllSeen 49 = .ok (.iload_n 2, 1) := by decide +kernel
theorem dX7_explainsAllSeen_50 : decode cX7_explainsAllSeen 50 = .ok (.iaload, 1) := by decide +kernel
theorem dX7_explainsAllSeen_51 : decode cX7_explainsAllSeen 51 = .ok (.iadd, 1) := by decide +kernel
theorem dX7_explainsAllSeen_52 : decode cX7_explainsAllSeen 52 = .ok (.iconst 1, 1) := by decide +kernel
theorem dX7_explainsAllSeen_53 : decode cX7_explainsAllSeen 53 = .ok (.isub, 1) := by decide +kernel
theorem dX7_explainsAllSeen_54 : decode cX7_explainsAllSeen 54 = .ok (.invokevirtual 126, 3) := by decide +kernel
theorem dX7_explainsAllSeen_57 : decode cX7_explainsAllSeen 57 = .ok (.pop, 1) := by decide +kernel
theorem dX7_explainsAllSeen_58 : decode cX7_explainsAllSeen 58 = .ok (.aload_n 0, 1) := by decide +kernel
theorem dX7_explainsAllSeen_59 : decode cX7_explainsAllSeen 59 = .ok (.getfield 45, 3) := by decide +kernel
theorem dX7_explainsAllSeen_62 : decode cX7_explainsAllSeen 62 = .ok (.aload_n 0, 1) := by decide +kernel
theorem dX7_explainsAllSeen_63 : decode cX7_explainsAllSeen 63 = .ok (.getfield 65, 3) := by decide +kernel
theorem dX7_explainsAllSeen_66 : decode cX7_explainsAllSeen 66 = .ok (.iload_n 2, 1) := by decide +kernel
theorem dX7_explainsAllSeen_67 : decode cX7_explainsAllSeen 67 = .ok (.iaload, 1) := by decide +kernel
theorem dX7_explainsAllSeen_68 : decode cX7_explainsAllSeen 68 = .ok (.invokevirtual 119, 3) := by decide +kernel
theorem dX7_explainsAllSeen_71 : decode cX7_explainsAllSeen 71 = .ok (.aload_n 0, 1) := by decide +kernel
theorem dX7_explainsAllSeen_72 : decode cX7_explainsAllSeen 72 = .ok (.getfield 69, 3) := by decide +kernel
theorem dX7_explainsAllSeen_75 : decode cX7_explainsAllSeen 75 = .ok (.iload_n 2, 1) := by decide +kernel
theorem dX7_explainsAllSeen_76 : decode cX7_explainsAllSeen 76 = .ok (.iaload, 1) := by decide +kernel
theorem dX7_explainsAllSeen_77 : decode cX7_explainsAllSeen 77 = .ok (.if_icmp .eq 5, 3) := by decide +kernel
theorem dX7_explainsAllSeen_80 : decode cX7_explainsAllSeen 80 = .ok (.iconst 0, 1) := by decide +kernel
theorem dX7_explainsAllSeen_81 : decode cX7_explainsAllSeen 81 = .ok (.ireturn, 1) := by decide +kernel
theorem dX7_explainsAllSeen_82 : decode cX7_explainsAllSeen 82 = .ok (.iinc 2 1, 3) := by decide +kernel
theorem dX7_explainsAllSeen_85 : decode cX7_explainsAllSeen 85 = .ok (.goto (-83), 3) := by decide +kernel
theorem dX7_explainsAllSeen_88 : decode cX7_explainsAllSeen 88 = .ok (.iconst 1, 1) := by decide +kernel
theorem dX7_explainsAllSeen_89 : decode cX7_explainsAllSeen 89 = .ok (.ireturn, 1) := by decide +kernel
theorem dX7_isWithin_0 : decode cX7_isWithin 0 = .ok (.iload_n 0, 1) := by decide +kernel
theorem dX7_isWithin_1 : decode cX7_isWithin 1 = .ok (.iload_n 1, 1) := by decide +kernel
theorem dX7_isWithin_2 : decode cX7_isWithin 2 = .ok (.if_icmp .lt 12, 3) := by decide +kernel
theorem dX7_isWithin_5 : decode cX7_isWithin 5 = .ok (.iload_n 0, 1) := by decide +kernel
theorem dX7_isWithin_6 : decode cX7_isWithin 6 = .ok (.iload_n 2, 1) := by decide +kernel
theorem dX7_isWithin_7 : decode cX7_isWithin 7 = .ok (.if_icmp .gt 7, 3) := by decide +kernel
theorem dX7_isWithin_10 : decode cX7_isWithin 10 = .ok (.iconst 1, 1) := by decide +kernel
theorem dX7_isWithin_11 : decode cX7_isWithin 11 = .ok (.goto 4, 3) := by decide +kernel
theorem dX7_isWithin_14 : decode cX7_isWithin 14 = .ok (.iconst 0, 1) := by decide +kernel
theorem dX7_isWithin_15 : decode cX7_isWithin 15 = .ok (.ireturn, 1) := by decide +kernel
theorem dX7_copyRow_0 : decode cX7_copyRow 0 = .ok (.aload_n 0, 1) := by decide +kernel
theorem dX7_copyRow_1 : decode cX7_copyRow 1 = .ok (.iconst 0, 1) := by decide +kernel
theorem dX7_copyRow_2 : decode cX7_copyRow 2 = .ok (.aload_n 1, 1) := by decide +kernel
theorem dX7_copyRow_3 : decode cX7_copyRow 3 = .ok (.iconst 0, 1) := by decide +kernel
theorem dX7_copyRow_4 : decode cX7_copyRow 4 = .ok (.aload_n 0, 1) := by decide +kernel
theorem dX7_copyRow_5 : decode cX7_copyRow 5 = .ok (.arraylength, 1) := by decide +kernel
theorem dX7_copyRow_6 : decode cX7_copyRow 6 = .ok (.aload_n 1, 1) := by decide +kernel
theorem dX7_copyRow_7 : decode cX7_copyRow 7 = .ok (.arraylength, 1) := by decide +kernel
theorem dX7_copyRow_8 : decode cX7_copyRow 8 = .ok (.invokestatic 254, 3) := by decide +kernel
theorem dX7_copyRow_11 : decode cX7_copyRow 11 = .ok (.invokestatic 259, 3) := by decide +kernel
theorem dX7_copyRow_14 : decode cX7_copyRow 14 = .ok (.return_, 1) := by decide +kernel
