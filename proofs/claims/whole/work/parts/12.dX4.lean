set_option maxRecDepth 20000 in
theorem ggX4_init_X0_init : GoodIn wsX4_init wsX0_init := goodIn_r _ [21, 22, 2, 3, 23, 4, 24, 25, 26, 27, 28, 44, 45, 46, 47, 48, 49] (by decide +kernel) (by decide +kernel)
set_option maxRecDepth 20000 in
theorem gX4_init_X0_init_n47 : GoodIn wsX4_init (wsX0_init) := ggX4_init_X0_init
theorem dX4_init_0 : decode cX4_init 0 = .ok (.aload_n 0, 1) := by decide +kernel
theorem dX4_init_1 : decode cX4_init 1 = .ok (.invokespecial 3, 3) := by decide +kernel
theorem dX4_init_4 : decode cX4_init 4 = .ok (.aload_n 0, 1) := by decide +kernel
theorem dX4_init_5 : decode cX4_init 5 = .ok (.iconst 3, 1) := by decide +kernel
theorem dX4_init_6 : decode cX4_init 6 = .ok (.newarray .int, 2) := by decide +kernel
theorem dX4_init_8 : decode cX4_init 8 = .ok (.putfield 9, 3) := by decide +kernel
theorem dX4_init_11 : decode cX4_init 11 = .ok (.aload_n 0, 1) := by decide +kernel
theorem dX4_init_12 : decode cX4_init 12 = .ok (.iconst 3, 1) := by decide +kernel
theorem dX4_init_13 : decode cX4_init 13 = .ok (.newarray .int, 2) := by decide +kernel
theorem dX4_init_15 : decode cX4_init 15 = .ok (.putfield 15, 3) := by decide +kernel
theorem dX4_init_18 : decode cX4_init 18 = .ok (.aload_n 0, 1) := by decide +kernel
theorem dX4_init_19 : decode cX4_init 19 = .ok (.iconst 3, 1) := by decide +kernel
theorem dX4_init_20 : decode cX4_init 20 = .ok (.newarray .int, 2) := by decide +kernel
theorem dX4_init_22 : decode cX4_init 22 = .ok (.putfield 18, 3) := by decide +kernel
theorem dX4_init_25 : decode cX4_init 25 = .ok (.aload_n 0, 1) := by decide +kernel
theorem dX4_init_26 : decode cX4_init 26 = .ok (.iconst 3, 1) := by decide +kernel
theorem dX4_init_27 : decode cX4_init 27 = .ok (.newarray .int, 2) := by decide +kernel
theorem dX4_init_29 : decode cX4_init 29 = .ok (.putfield 21, 3) := by decide +kernel
theorem dX4_init_32 : decode cX4_init 32 = .ok (.aload_n 0, 1) := by decide +kernel
theorem dX4_init_33 : decode cX4_init 33 = .ok (.iconst 3, 1) := by decide +kernel
theorem dX4_init_34 : decode cX4_init 34 = .ok (.newarray .int, 2) := by decide +kernel
theorem dX4_init_36 : decode cX4_init 36 = .ok (.putfield 24, 3) := by decide +kernel
theorem dX4_init_39 : decode cX4_init 39 = .ok (.aload_n 0, 1) := by decide +kernel
theorem dX4_init_40 : decode cX4_init 40 = .ok (.iconst 3, 1) := by decide +kernel
theorem dX4_init_41 : decode cX4_init 41 = .ok (.newarray .int, 2) := by decide +kernel
theorem dX4_init_43 : decode cX4_init 43 = .ok (.putfield 27, 3) := by decide +kernel
theorem dX4_init_46 : decode cX4_init 46 = .ok (.aload_n 0, 1) := by decide +kernel
theorem dX4_init_47 : decode cX4_init 47 = .ok (.bipush 6, 2) := by decide +kernel
theorem dX4_init_49 : decode cX4_init 49 = .ok (.newarray .int, 2) := by decide +kernel
theorem dX4_init_51 : decode cX4_init 51 = .ok (.putfield 30, 3) := by decide +kernel
theorem dX4_init_54 : decode cX4_init 54 = .ok (.aload_n 0, 1) := by decide +kernel
theorem dX4_init_55 : decode cX4_init 55 = .ok (.bipush 6, 2) := by decide +kernel
theorem dX4_init_57 : decode cX4_init 57 = .ok (.newarray .int, 2) := by decide +kernel
theorem dX4_init_59 : decode cX4_init 59 = .ok (.putfield 33, 3) := by decide +kernel
theorem dX4_init_62 : decode cX4_init 62 = .ok (.aload_n 0, 1) := by decide +kernel
theorem dX4_init_63 : decode cX4_init 63 = .ok (.bipush 6, 2) := by decide +kernel
theorem dX4_init_65 : decode cX4_init 65 = .ok (.newarray .int, 2) := by decide +kernel
theorem dX4_init_67 : decode cX4_init 67 = .ok (.putfield 36, 3) := by decide +kernel
theorem dX4_init_70 : decode cX4_init 70 = .ok (.aload_n 0, 1) := by decide +kernel
theorem dX4_init_71 : decode cX4_init 71 = .ok (.bipush 6, 2) := by decide +kernel
theorem dX4_init_73 : decode cX4_init 73 = .ok (.newarray .int, 2) := by decide +kernel
theorem dX4_init_75 : decode cX4_init 75 = .ok (.putfield 39, 3) := by decide +kernel
theorem dX4_init_78 : decode cX4_init 78 = .ok (.aload_n 0, 1) := by decide +kernel
theorem dX4_init_79 : decode cX4_init 79 = .ok (.sipush 200, 3) := by decide +kernel
theorem dX4_init_82 : decode cX4_init 82 = .ok (.newarray .int, 2) := by decide +kernel
theorem dX4_init_84 : decode cX4_init 84 = .ok (.putfield 42, 3) := by decide +kernel
theorem dX4_init_87 : decode cX4_init 87 = .ok (.aload_n 0, 1) := by decide +kernel
theorem dX4_init_88 : decode cX4_init 88 = .ok (.new 45, 3) := by decide +kernel
theorem dX4_init_91 : decode cX4_init 91 = .ok (.dup, 1) := by decide +kernel
theorem dX4_init_92 : decode cX4_init 92 = .ok (.invokespecial 47, 3) := by decide +kernel
theorem dX4_init_95 : decode cX4_init 95 = .ok (.putfield 48, 3) := by decide +kernel
theorem dX4_init_98 : decode cX4_init 98 = .ok (.return_, 1) := by decide +kernel
set_option maxRecDepth 20000 in
theorem ggX4_begin_J7_fill_53178 : GoodIn wsX4_begin wsJ7_fill_53178 := goodIn_r _ [20] (by decide +kernel) (by decide +kernel)
set_option maxRecDepth 20000 in
theorem gX4_begin_J7_fill_53178 : GoodIn wsX4_begin (va_wsS RX4 62 yJ7_fill_53178 wsJ7_fill_53178) := goodIn_app (goodIn_of _ (by decide +kernel)) ggX4_begin_J7_fill_53178
theorem dX4_begin_0 : decode cX4_begin 0 = .ok (.aload_n 0, 1) := by decide +kernel
theorem dX4_begin_1 : decode cX4_begin 1 = .ok (.iconst 0, 1) := by decide +kernel
theorem dX4_begin_2 : decode cX4_begin 2 = .ok (.putfield 52, 3) := by decide +kernel
theorem dX4_begin_5 : decode cX4_begin 5 = .ok (.aload_n 0, 1) := by decide +kernel
theorem dX4_begin_6 : decode cX4_begin 6 = .ok (.iload_n 1, 1) := by decide +kernel
theorem dX4_begin_7 : decode cX4_begin 7 = .ok (.putfield 56, 3) := by decide +kernel
theorem dX4_begin_10 : decode cX4_begin 10 = .ok (.aload_n 0, 1) := by decide +kernel
theorem dX4_begin_11 : decode cX4_begin 11 = .ok (.bipush (-9), 2) := by decide +kernel
theorem dX4_begin_13 : decode cX4_begin 13 = .ok (.putfield 59, 3) := by decide +kernel
theorem dX4_begin_16 : decode cX4_begin 16 = .ok (.aload_n 0, 1) := by decide +kernel
theorem dX4_begin_17 : decode cX4_begin 17 = .ok (.getfield 9, 3) := by decide +kernel
theorem dX4_begin_20 : decode cX4_begin 20 = .ok (.iconst 0, 1) := by decide +kernel
theorem dX4_begin_21 : decode cX4_begin 21 = .ok (.invokestatic 62, 3) := by decide +kernel
theorem dX4_begin_24 : decode cX4_begin 24 = .ok (.aload_n 0, 1) := by decide +kernel
theorem dX4_begin_25 : decode cX4_begin 25 = .ok (.getfield 15, 3) := by decide +kernel
theorem dX4_begin_28 : decode cX4_begin 28 = .ok (.iconst 0, 1) := by decide +kernel
theorem dX4_begin_29 : decode cX4_begin 29 = .ok (.invokestatic 62, 3) := by decide +kernel
theorem dX4_begin_32 : decode cX4_begin 32 = .ok (.aload_n 0, 1) := by decide +kernel
theorem dX4_begin_33 : decode cX4_begin 33 = .ok (.getfield 18, 3) := by decide +kernel
theorem dX4_begin_36 : decode cX4_begin 36 = .ok (.iconst 0, 1) := by decide +kernel
theorem dX4_begin_37 : decode cX4_begin 37 = .ok (.invokestatic 62, 3) := by decide +kernel
theorem dX4_begin_40 : decode cX4_begin 40 = .ok (.aload_n 0, 1) := by decide +kernel
theorem dX4_begin_41 : decode cX4_begin 41 = .ok (.getfield 21, 3) := by decide +kernel
theorem dX4_begin_44 : decode cX4_begin 44 = .ok (.iconst 0, 1) := by decide +kernel
theorem dX4_begin_45 : decode cX4_begin 45 = .ok (.invokestatic 62, 3) := by decide +kernel
theorem dX4_begin_48 : decode cX4_begin 48 = .ok (.aload_n 0, 1) := by decide +kernel
theorem dX4_begin_49 : decode cX4_begin 49 = .ok (.getfield 24, 3) := by decide +kernel
theorem dX4_begin_52 : decode cX4_begin 52 = .ok (.iconst 0, 1) := by decide +kernel
theorem dX4_begin_53 : decode cX4_begin 53 = .ok (.invokestatic 62, 3) := by decide +kernel
theorem dX4_begin_56 : decode cX4_begin 56 = .ok (.aload_n 0, 1) := by decide +kernel
theorem dX4_begin_57 : decode cX4_begin 57 = .ok (.getfield 27, 3) := by decide +kernel
theorem dX4_begin_60 : decode cX4_begin 60 = .ok (.iconst 0, 1) := by decide +kernel
theorem dX4_begin_61 : decode cX4_begin 61 = .ok (.invokestatic 62, 3) := by decide +kernel
theorem dX4_begin_64 : decode cX4_begin 64 = .ok (.aload_n 0, 1) := by decide +kernel
theorem dX4_begin_65 : decode cX4_begin 65 = .ok (.getfield 30, 3) := by decide +kernel
theorem dX4_begin_68 : decode cX4_begin 68 = .ok (.iconst 0, 1) := by decide +kernel
theorem dX4_begin_69 : decode cX4_begin 69 = .ok (.invokestatic 62, 3) := by decide +kernel
theorem dX4_begin_72 : decode cX4_begin 72 = .ok (.aload_n 0, 1) := by decide +kernel
theorem dX4_begin_73 : decode cX4_begin 73 = .ok (.getfield 33, 3) := by decide +kernel
theorem dX4_begin_76 : decode cX4_begin 76 = .ok (.iconst 0, 1) := by decide +kernel
theorem dX4_begin_77 : decode cX4_begin 77 = .ok (.invokestatic 62, 3) := by decide +kernel
theorem dX4_begin_80 : decode cX4_begin 80 = .ok (.aload_n 0, 1) := by decide +kernel
theorem dX4_begin_81 : decode cX4_begin 81 = .ok (.getfield 36, 3) := by decide +kernel
theorem dX4_begin_84 : decode cX4_begin 84 = .ok (.iconst 0, 1) := by decide +kernel
theorem dX4_begin_85 : decode cX4_begin 85 = .ok (.invokestatic 62, 3) := by decide +kernel
theorem dX4_begin_88 : decode cX4_begin 88 = .ok (.aload_n 0, 1) := by decide +kernel
theorem dX4_begin_89 : decode cX4_begin 89 = .ok (.getfield 39, 3) := by decide +kernel
theorem dX4_begin_92 : decode cX4_begin 92 = .ok (.iconst 0, 1) := by decide +kernel
theorem dX4_begin_93 : decode cX4_begin 93 = .ok (.invokestatic 62, 3) := by decide +kernel
theorem dX4_begin_96 : decode cX4_begin 96 = .ok (.aload_n 0, 1) := by decide +kernel
theorem dX4_begin_97 : decode cX4_begin 97 = .ok (.getfield 42, 3) := by decide +kernel
theorem dX4_begin_100 : decode cX4_begin 100 = .ok (.iconst 0, 1) := by decide +kernel
theorem dX4_begin_101 : decode cX4_begin 101 = .ok (.invokestatic 62, 3) := by decide +kernel
theorem dX4_begin_104 : decode cX4_begin 104 = .ok (.aload_n 0, 1) := by decide +kernel
theorem dX4_begin_105 : decode cX4_begin 105 = .ok (.getfield 48, 3) := by decide +kernel
theorem dX4_begin_108 : decode cX4_begin 108 = .ok (.iconst 0, 1) := by decide +kernel
theorem dX4_begin_109 : decode cX4_begin 109 = .ok (.putfield 68, 3) := by decide +kernel
theorem dX4_begin_112 : decode cX4_begin 112 = .ok (.return_, 1) := by decide +kernel
set_option maxRecDepth 20000 in
theorem ggX4_copyFrom_X7_copyRow : GoodIn wsX4_copyFrom wsX7_copyRow := goodIn_r _ [18, 19, 20, 21, 22, 23, 24, 25, 26] (by decide +kernel) (by decide +kernel)
set_option maxRecDepth 20000 in
theorem gX4_copyFrom_X7_copyRow_n71 : GoodIn wsX4_copyFrom (wsX7_copyRow) := ggX4_copyFrom_X7_copyRow
set_option maxRecDepth 20000 in
theorem ggX4_copyFrom_X0_copyFrom : GoodIn wsX4_copyFrom wsX0_copyFrom := goodIn_r _ [31, 32, 33, 34, 35, 36, 37, 16, 17, 18, 19, 20, 21, 22, 23, 24, 25, 26, 53, 54, 55, 56, 57, 58] (by decide +kernel) (by decide +kernel)
set_option maxRecDepth 20000 in
theorem gX4_copyFrom_X0_copyFrom : GoodIn wsX4_copyFrom (wsV RX4 75 RX0 yX0_copyFrom wsX0_copyFrom) := goodIn_app (goodIn_of _ (by decide +kernel)) ggX4_copyFrom_X0_copyFrom
theorem dX4_copyFrom_0 : decode cX4_copyFrom 0 = .ok (.aload_n 0, 1) := by decide +kernel
theorem dX4_copyFrom_1 : decode cX4_copyFrom 1 = .ok (.aload_n 1, 1) := by decide +kernel
theorem dX4_copyFrom_2 : decode cX4_copyFrom 2 = .ok (.getfield 52, 3) := by decide +kernel
theorem dX4_copyFrom_5 : decode cX4_copyFrom 5 = .ok (.putfield 52, 3) := by decide +kernel
theorem dX4_copyFrom_8 : decode cX4_copyFrom 8 = .ok (.aload_n 0, 1) := by decide +kernel
theorem dX4_copyFrom_9 : decode cX4_copyFrom 9 = .ok (.aload_n 1, 1) := by decide +kernel
theorem dX4_copyFrom_10 : decode cX4_copyFrom 10 = .ok (.getfield 56, 3) := by decide +kernel
theorem dX4_copyFrom_13 : decode cX4_copyFrom 13 = .ok (.putfield 56, 3) := by decide +kernel
theorem dX4_copyFrom_16 : decode cX4_copyFrom 16 = .ok (.aload_n 0, 1) := by decide +kernel
theorem dX4_copyFrom_17 : decode cX4_copyFrom 17 = .ok (.aload_n 1, 1) := by decide +kernel
theorem dX4_copyFrom_18 : decode cX4_copyFrom 18 = .ok (.getfield 59, 3) := by decide +kernel
theorem dX4_copyFrom_21 : decode cX4_copyFrom 21 = .ok (.putfield 59, 3) := by decide +kernel
theorem dX4_copyFrom_24 : decode cX4_copyFrom 24 = .ok (.aload_n 1, 1) := by decide +kernel
theorem dX4_copyFrom_25 : decode cX4_copyFrom 25 = .ok (.getfield 9, 3) := by decide +kernel
theorem dX4_copyFrom_28 : decode cX4_copyFrom 28 = .ok (.aload_n 0, 1) := by decide +kernel
theorem dX4_copyFrom_29 : decode cX4_copyFrom 29 = .ok (.getfield 9, 3) := by decide +kernel
theorem dX4_copyFrom_32 : decode cX4_copyFrom 32 = .ok (.invokestatic 71, 3) := by decide +kernel
theorem dX4_copyFrom_35 : decode cX4_copyFrom 35 = .ok (.aload_n 1, 1) := by decide +kernel
theorem dX4_copyFrom_36 : decode cX4_copyFrom 36 = .ok (.getfield 15, 3) := by decide +kernel
theorem dX4_copyFrom_39 : decode cX4_copyFrom 39 = .ok (.aload_n 0, 1) := by decide +kernel
theorem dX4_copyFrom_40 : decode cX4_copyFrom 40 = .ok (.getfield 15, 3) := by decide +kernel
theorem dX4_copyFrom_43 : decode cX4_copyFrom 43 = .ok (.invokestatic 71, 3) := by decide +kernel
theorem dX4_copyFrom_46 : decode cX4_copyFrom 46 = .ok (.aload_n 1, 1) := by decide +kernel
theorem dX4_copyFrom_47 : decode cX4_copyFrom 47 = .ok (.getfield 18, 3) := by decide +kernel
theorem dX4_copyFrom_50 : decode cX4_copyFrom 50 = .ok (.aload_n 0, 1) := by decide +kernel
theorem dX4_copyFrom_51 : decode cX4_copyFrom 51 = .ok (.getfield 18, 3) := by decide +kernel
theorem dX4_copyFrom_54 : decode cX4_copyFrom 54 = .ok (.invokestatic 71, 3) := by decide +kernel
theorem dX4_copyFrom_57 : decode cX4_copyFrom 57 = .ok (.aload_n 1, 1) := by decide +kernel
theorem dX4_copyFrom_58 : decode cX4_copyFrom 58 = .ok (.getfield 21, 3) := by decide +kernel
theorem dX4_copyFrom_61 : decode cX4_copyFrom 61 = .ok (.aload_n 0, 1) := by decide +kernel
theorem dX4_copyFrom_62 : decode cX4_copyFrom 62 = .ok (.getfield 21, 3) := by decide +kernel
theorem dX4_copyFrom_65 : decode cX4_copyFrom 65 = .ok (.invokestatic 71, 3) := by decide +kernel
theorem dX4_copyFrom_68 : decode cX4_copyFrom 68 = .ok (.aload_n 1, 1) := by decide +kernel
theorem dX4_copyFrom_69 : decode cX4_copyFrom 69 = .ok (.getfield 24, 3) := by decide +kernel
theorem dX4_copyFrom_72 : decode cX4_copyFrom 72 = .ok (.aload_n 0, 1) := by decide +kernel
theorem dX4_copyFrom_73 : decode cX4_copyFrom 73 = .ok (.getfield 24, 3) := by decide +kernel
theorem dX4_copyFrom_76 : decode cX4_copyFrom 76 = .ok (.invokestatic 71, 3) := by decide +kernel
theorem dX4_copyFrom_79 : decode cX4_copyFrom 79 = .ok (.aload_n 1, 1) := by decide +kernel
theorem dX4_copyFrom_80 : decode cX4_copyFrom 80 = .ok (.getfield 27, 3) := by decide +kernel
theorem dX4_copyFrom_83 : decode cX4_copyFrom 83 = .ok (.aload_n 0, 1) := by decide +kernel
theorem dX4_copyFrom_84 : decode cX4_copyFrom 84 = .ok (.getfield 27, 3) := by decide +kernel
theorem dX4_copyFrom_87 : decode cX4_copyFrom 87 = .ok (.invokestatic 71, 3) := by decide +kernel
theorem dX4_copyFrom_90 : decode cX4_copyFrom 90 = .ok (.aload_n 1, 1) := by decide +kernel
theorem dX4_copyFrom_91 : decode cX4_copyFrom 91 = .ok (.getfield 30, 3) := by decide +kernel
theorem dX4_copyFrom_94 : decode cX4_copyFrom 94 = .ok (.aload_n 0, 1) := by decide +kernel
theorem dX4_copyFrom_95 : decode cX4_copyFrom 95 = .ok (.getfield 30, 3) := by decide +kernel
theorem dX4_copyFrom_98 : decode cX4_copyFrom 98 = .ok (.invokestatic 71, 3) := by decide +kernel
theorem dX4_copyFrom_101 : decode cX4_copyFrom 101 = .ok (.aload_n 1, 1) := by decide +kernel
theorem dX4_copyFrom_102 : decode cX4_copyFrom 102 = .ok (.getfield 33, 3) := by decide +kernel
theorem dX4_copyFrom_105 : decode cX4_copyFrom 105 = .ok (.aload_n 0, 1) := by decide +kernel
theorem dX4_copyFrom_106 : decode cX4_copyFrom 106 = .ok (.getfield 33, 3) := by decide +kernel
theorem dX4_copyFrom_109 : decode cX4_copyFrom 109 = .ok (.invokestatic 71, 3) := by decide +kernel
theorem dX4_copyFrom_112 : decode cX4_copyFrom 112 = .ok (.aload_n 1, 1) := by decide +kernel
theorem dX4_copyFrom_113 : decode cX4_copyFrom 113 = .ok (.getfield 36, 3) := by decide +kernel
theorem dX4_copyFrom_116 : decode cX4_copyFrom 116 = .ok (.aload_n 0, 1) := by decide +kernel
theorem dX4_copyFrom_117 : decode cX4_copyFrom 117 = .ok (.getfield 36, 3) := by decide +kernel
theorem dX4_copyFrom_120 : decode cX4_copyFrom 120 = .ok (.invokestatic 71, 3) := by decide +kernel
theorem dX4_copyFrom_123 : decode cX4_copyFrom 123 = .ok (.aload_n 1, 1) := by decide +kernel
theorem dX4_copyFrom_124 : decode cX4_copyFrom 124 = .ok (.getfield 39, 3) := by decide +kernel
theorem dX4_copyFrom_127 : decode cX4_copyFrom 127 = .ok (.aload_n 0, 1) := by decide +kernel
theorem dX4_copyFrom_128 : decode cX4_copyFrom 128 = .ok (.getfield 39, 3) := by decide +kernel
theorem dX4_copyFrom_131 : decode cX4_copyFrom 131 = .ok (.invokestatic 71, 3) := by decide +kernel
theorem dX4_copyFrom_134 : decode cX4_copyFrom 134 = .ok (.aload_n 1, 1) := by decide +kernel
theorem dX4_copyFrom_135 : decode cX4_copyFrom 135 = .ok (.getfield 42, 3) := by decide +kernel
theorem dX4_copyFrom_138 : decode cX4_copyFrom 138 = .ok (.aload_n 0, 1) := by decide +kernel
theorem dX4_copyFrom_139 : decode cX4_copyFrom 139 = .ok (.getfield 42, 3) := by decide +kernel
theorem dX4_copyFrom_142 : decode cX4_copyFrom 142 = .ok (.invokestatic 71, 3) := by decide +kernel
theorem dX4_copyFrom_145 : decode cX4_copyFrom 145 = .ok (.aload_n 0, 1) := by decide +kernel
theorem dX4_copyFrom_146 : decode cX4_copyFrom 146 = .ok (.getfield 48, 3) := by decide +kernel
theorem dX4_copyFrom_149 : decode cX4_copyFrom 149 = .ok (.aload_n 1, 1) := by decide +kernel
theorem dX4_copyFrom_150 : decode cX4_copyFrom 150 = .ok (.getfield 48, 3) := by decide +kernel
theorem dX4_copyFrom_153 : decode cX4_copyFrom 153 = .ok (.invokevirtual 75, 3) := by decide +kernel
theorem dX4_copyFrom_156 : decode cX4_copyFrom 156 = .ok (.return_, 1) := by decide +kernel
theorem dX4_isDeaf_0 : decode cX4_isDeaf 0 = .ok (.iload_n 2, 1) := by decide +kernel
theorem dX4_isDeaf_1 : decode cX4_isDeaf 1 = .ok (.ifCond .lt 27, 3) := by decide +kernel
theorem dX4_isDeaf_4 : decode cX4_isDeaf 4 = .ok (.iload_n 2, 1) := by decide +kernel
theorem dX4_isDeaf_5 : decode cX4_isDeaf 5 = .ok (.sipush 199, 3) := by decide +kernel
theorem dX4_isDeaf_8 : decode cX4_isDeaf 8 = .ok (.if_icmp .gt 20, 3) := by decide +kernel
theorem dX4_isDeaf_11 : decode cX4_isDeaf 11 = .ok (.aload_n 0, 1) := by decide +kernel
theorem dX4_isDeaf_12 : decode cX4_isDeaf 12 = .ok (.getfield 42, 3) := by decide +kernel
theorem dX4_isDeaf_15 : decode cX4_isDeaf 15 = .ok (.iload_n 2, 1) := by decide +kernel
theorem dX4_isDeaf_16 : decode cX4_isDeaf 16 = .ok (.iaload, 1) := by decide +kernel
theorem dX4_isDeaf_17 : decode cX4_isDeaf 17 = .ok (.iconst 1, 1) := by decide +kernel
theorem dX4_isDeaf_18 : decode cX4_isDeaf 18 = .ok (.iload_n 1, 1) := by decide +kernel
theorem dX4_isDeaf_19 : decode cX4_isDeaf 19 = .ok (.ishl, 1) := by decide +kernel
theorem dX4_isDeaf_20 : decode cX4_isDeaf 20 = .ok (.iand, 1) := by decide +kernel
theorem dX4_isDeaf_21 : decode cX4_isDeaf 21 = .ok (.ifCond .eq 7, 3) := by decide +kernel
theorem dX4_isDeaf_24 : decode cX4_isDeaf 24 = .ok (.iconst 1, 1) := by decide +kernel
theorem dX4_isDeaf_25 : decode cX4_isDeaf 25 = .ok (.goto 4, 3) := by decide +kernel
theorem dX4_isDeaf_28 : decode cX4_isDeaf 28 = .ok (.iconst 0, 1) := by decide +kernel
theorem dX4_isDeaf_29 : decode cX4_isDeaf 29 = .ok (.ireturn, 1) := by decide +kernel
set_option maxRecDepth 20000 in
theorem ggX4_makeDeaf_X4_isDeaf : GoodIn wsX4_makeDeaf wsX4_isDeaf := goodIn_r _ [10, 5, 11, 12, 13, 14, 15, 16, 17, 18, 19, 20, 21, 22, 23, 24, 25] (by decide +kernel) (by decide +kernel)
set_option maxRecDepth 20000 in
theorem gX4_makeDeaf_X4_isDeaf : GoodIn wsX4_makeDeaf (wsV RX4 85 RX4 yX4_isDeaf wsX4_isDeaf) := goodIn_app (goodIn_of _ (by decide +kernel)) ggX4_makeDeaf_X4_isDeaf
theorem dX4_makeDeaf_0 : decode cX4_makeDeaf 0 = .ok (.iconst 0, 1) := by decide +kernel
theorem dX4_makeDeaf_1 : decode cX4_makeDeaf 1 = .ok (.istore 4, 2) := by decide +kernel
theorem dX4_makeDeaf_3 : decode cX4_makeDeaf 3 = .ok (.iconst 0, 1) := by decide +kernel
theorem dX4_makeDeaf_4 : decode cX4_makeDeaf 4 = .ok (.iload_n 2, 1) := by decide +kernel
theorem dX4_makeDeaf_5 : decode cX4_makeDeaf 5 = .ok (.invokestatic 79, 3) := by decide +kernel
theorem dX4_makeDeaf_8 : decode cX4_makeDeaf 8 = .ok (.istore 5, 2) := by decide +kernel
theorem dX4_makeDeaf_10 : decode cX4_makeDeaf 10 = .ok (.iload 5, 2) := by decide +kernel
theorem dX4_makeDeaf_12 : decode cX4_makeDeaf 12 = .ok (.iload_n 3, 1) := by decide +kernel
theorem dX4_makeDeaf_13 : decode cX4_makeDeaf 13 = .ok (.if_icmp .gt 43, 3) := by decide +kernel
theorem dX4_makeDeaf_16 : decode cX4_makeDeaf 16 = .ok (.iload 5, 2) := by decide +kernel
theorem dX4_makeDeaf_18 : decode cX4_makeDeaf 18 = .ok (.sipush 199, 3) := by decide +kernel
theorem dX4_makeDeaf_21 : decode cX4_makeDeaf 21 = .ok (.if_icmp .gt 35, 3) := by decide +kernel
theorem dX4_makeDeaf_24 : decode cX4_makeDeaf 24 = .ok (.aload_n 0, 1) := by decide +kernel
theorem dX4_makeDeaf_25 : decode cX4_makeDeaf 25 = .ok (.iload_n 1, 1) := by decide +kernel
theorem dX4_makeDeaf_26 : decode cX4_makeDeaf 26 = .ok (.iload 5, 2) := by decide +kernel
theorem dX4_makeDeaf_28 : decode cX4_makeDeaf 28 = .ok (.invokevirtual 85, 3) := by decide +kernel
theorem dX4_makeDeaf_31 : decode cX4_makeDeaf 31 = .ok (.ifCond .ne 19, 3) := by decide +kernel
theorem dX4_makeDeaf_34 : decode cX4_makeDeaf 34 = .ok (.aload_n 0, 1) := by decide +kernel
theorem dX4_makeDeaf_35 : decode cX4_makeDeaf 35 = .ok (.getfield 42, 3) := by decide +kernel
theorem dX4_makeDeaf_38 : decode cX4_makeDeaf 38 = .ok (.iload 5, 2) := by decide +kernel
theorem dX4_makeDeaf_40 : decode cX4_makeDeaf 40 = .ok (.dup2, 1) := by decide +kernel
theorem dX4_makeDeaf_41 : decode cX4_makeDeaf 41 = .ok (.iaload, 1) := by decide +kernel
theorem dX4_makeDeaf_42 : decode cX4_makeDeaf 42 = .ok (.iconst 1, 1) := by decide +kernel
theorem dX4_makeDeaf_43 : decode cX4_makeDeaf 43 = .ok (.iload_n 1, 1) := by decide +kernel
theorem dX4_makeDeaf_44 : decode cX4_makeDeaf 44 = .ok (.ishl, 1) := by decide +kernel
theorem dX4_makeDeaf_45 : decode cX4_makeDeaf 45 = .ok (.ior, 1) := by decide +kernel
theorem dX4_makeDeaf_46 : decode cX4_makeDeaf 46 = .ok (.iastore, 1) := by decide +kernel
theorem dX4_makeDeaf_47 : decode cX4_makeDeaf 47 = .ok (.iinc 4 1, 3) := by decide +kernel
theorem dX4_makeDeaf_50 : decode cX4_makeDeaf 50 = .ok (.iinc 5 1, 3) := by decide +kernel
theorem dX4_makeDeaf_53 : decode cX4_makeDeaf 53 = .ok (.goto (-43), 3) := by decide +kernel
theorem dX4_makeDeaf_56 : decode cX4_makeDeaf 56 = .ok (.iload 4, 2) := by decide +kernel
theorem dX4_makeDeaf_58 : decode cX4_makeDeaf 58 = .ok (.ireturn, 1) := by decide +kernel
theorem dX4_allThrough_0 : decode cX4_allThrough 0 = .ok (.iconst 0, 1) := by decide +kernel
theorem dX4_allThrough_1 : decode cX4_allThrough 1 = .ok (.istore_n 1, 1) := by decide +kernel
theorem dX4_allThrough_2 : decode cX4_allThrough 2 = .ok (.iconst 0, 1) := by decide +kernel
theorem dX4_allThrough_3 : decode cX4_allThrough 3 = .ok (.istore_n 2, 1) := by decide +kernel
theorem dX4_allThrough_4 : decode cX4_allThrough 4 = .ok (.iload_n 2, 1) := by decide +kernel
theorem dX4_allThrough_5 : decode cX4_allThrough 5 = .ok (.bipush 6, 2) := by decide +kernel
theorem dX4_allThrough_7 : decode cX4_allThrough 7 = .ok (.if_icmp .ge 18, 3) := by decide +kernel
theorem dX4_allThrough_10 : decode cX4_allThrough 10 = .ok (.iload_n 1, 1) := by decide +kernel
theorem dX4_allThrough_11 : decode cX4_allThrough 11 = .ok (.aload_n 0, 1) := by decide +kernel
theorem dX4_allThrough_12 : decode cX4_allThrough 12 = .ok (.getfield 36, 3) := by decide +kernel
theorem dX4_allThrough_15 : decode cX4_allThrough 15 = .ok (.iload_n 2, 1) := by decide +kernel
theorem dX4_allThrough_16 : decode cX4_allThrough 16 = .ok (.iaload, 1) := by decide +kernel
theorem dX4_allThrough_17 : decode cX4_allThrough 17 = .ok (.iadd, 1) := by decide +kernel
theorem dX4_allThrough_18 : decode cX4_allThrough 18 = .ok (.istore_n 1, 1) := by decide +kernel
theorem dX4_allThrough_19 : decode cX4_allThrough 19 = .ok (.iinc 2 1, 3) := by decide +kernel
theorem dX4_allThrough_22 : decode cX4_allThrough 22 = .ok (.goto (-18), 3) := by decide +kernel
theorem dX4_allThrough_25 : decode cX4_allThrough 25 = .ok (.iload_n 1, 1) := by decide +kernel
theorem dX4_allThrough_26 : decode cX4_allThrough 26 = .ok (.ireturn, 1) := by decide +kernel
theorem dX4_isDrained_0 : decode cX4_isDrained 0 = .ok (.aload_n 0, 1) := by decide +kernel
theorem dX4_isDrained_1 : decode cX4_isDrained 1 = .ok (.getfield 48, 3) := by decide +kernel
theorem dX4_isDrained_4 : decode cX4_isDrained 4 = .ok (.getfield 68, 3) := by decide +kernel
theorem dX4_isDrained_7 : decode cX4_isDrained 7 = .ok (.istore_n 1, 1) := by decide +kernel
theorem dX4_isDrained_8 : decode cX4_isDrained 8 = .ok (.iconst 0, 1) := by decide +kernel
theorem dX4_isDrained_9 : decode cX4_isDrained 9 = .ok (.istore_n 2, 1) := by decide +kernel
theorem dX4_isDrained_10 : decode cX4_isDrained 10 = .ok (.iload_n 2, 1) := by decide +kernel
theorem dX4_isDrained_11 : decode cX4_isDrained 11 = .ok (.bipush 6, 2) := by decide +kernel
theorem dX4_isDrained_13 : decode cX4_isDrained 13 = .ok (.if_icmp .ge 18, 3) := by decide +kernel
theorem dX4_isDrained_16 : decode cX4_isDrained 16 = .ok (.iload_n 1, 1) := by decide +kernel
theorem dX4_isDrained_17 : decode cX4_isDrained 17 = .ok (.aload_n 0, 1) := by decide +kernel
theorem dX4_isDrained_18 : decode cX4_isDrained 18 = .ok (.getfield 30, 3) := by decide +kernel
theorem dX4_isDrained_21 : decode cX4_isDrained 21 = .ok (.iload_n 2, 1) := by decide +kernel
theorem dX4_isDrained_22 : decode cX4_isDrained 22 = .ok (.iaload, 1) := by decide +kernel
theorem dX4_isDrained_23 : decode cX4_isDrained 23 = .ok (.iadd, 1) := by decide +kernel
theorem dX4_isDrained_24 : decode cX4_isDrained 24 = .ok (.istore_n 1, 1) := by decide +kernel
theorem dX4_isDrained_25 : decode cX4_isDrained 25 = .ok (.iinc 2 1, 3) := by decide +kernel
theorem dX4_isDrained_28 : decode cX4_isDrained 28 = .ok (.goto (-18), 3) := by decide +kernel
theorem dX4_isDrained_31 : decode cX4_isDrained 31 = .ok (.iload_n 1, 1) := by decide +kernel
theorem dX4_isDrained_32 : decode cX4_isDrained 32 = .ok (.ifCond .ne 7, 3) := by decide +kernel
theorem dX4_isDrained_35 : decode cX4_isDrained 35 = .ok (.iconst 1, 1) := by decide +kernel
theorem dX4_isDrained_36 : decode cX4_isDrained 36 = .ok (.goto 4, 3) := by decide +kernel
theorem dX4_isDrained_39 : decode cX4_isDrained 39 = .ok (.iconst 0, 1) := by decide +kernel
theorem dX4_isDrained_40 : decode cX4_isDrained 40 = .ok (.ireturn, 1) := by decide +kernel
