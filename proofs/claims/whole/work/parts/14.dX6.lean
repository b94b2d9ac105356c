theorem dX6_init_0 : decode cX6_init 0 = .ok (.aload_n 0, 1) := by decide +kernel
theorem dX6_init_1 : decode cX6_init 1 = .ok (.invokespecial 3, 3) := by decide +kernel
theorem dX6_init_4 : decode cX6_init 4 = .ok (.aload_n 0, 1) := by decide +kernel
theorem dX6_init_5 : decode cX6_init 5 = .ok (.bipush 120, 2) := by decide +kernel
theorem dX6_init_7 : decode cX6_init 7 = .ok (.newarray .char, 2) := by decide +kernel
theorem dX6_init_9 : decode cX6_init 9 = .ok (.putfield 9, 3) := by decide +kernel
theorem dX6_init_12 : decode cX6_init 12 = .ok (.aload_n 0, 1) := by decide +kernel
theorem dX6_init_13 : decode cX6_init 13 = .ok (.iconst 0, 1) := by decide +kernel
theorem dX6_init_14 : decode cX6_init 14 = .ok (.putfield 15, 3) := by decide +kernel
theorem dX6_init_17 : decode cX6_init 17 = .ok (.return_, 1) := by decide +kernel
theorem dX6_add_0 : decode cX6_add 0 = .ok (.aload_n 0, 1) := by decide +kernel
theorem dX6_add_1 : decode cX6_add 1 = .ok (.getfield 15, 3) := by decide +kernel
theorem dX6_add_4 : decode cX6_add 4 = .ok (.bipush 120, 2) := by decide +kernel
theorem dX6_add_6 : decode cX6_add 6 = .ok (.if_icmp .lt 5, 3) := by decide +kernel
theorem dX6_add_9 : decode cX6_add 9 = .ok (.iconst 0, 1) := by decide +kernel
theorem dX6_add_10 : decode cX6_add 10 = .ok (.ireturn, 1) := by decide +kernel
theorem dX6_add_11 : decode cX6_add 11 = .ok (.aload_n 0, 1) := by decide +kernel
theorem dX6_add_12 : decode cX6_add 12 = .ok (.getfield 9, 3) := by decide +kernel
theorem dX6_add_15 : decode cX6_add 15 = .ok (.aload_n 0, 1) := by decide +kernel
theorem dX6_add_16 : decode cX6_add 16 = .ok (.getfield 15, 3) := by decide +kernel
theorem dX6_add_19 : decode cX6_add 19 = .ok (.iload_n 1, 1) := by decide +kernel
theorem dX6_add_20 : decode cX6_add 20 = .ok (.i2c, 1) := by decide +kernel
theorem dX6_add_21 : decode cX6_add 21 = .ok (.castore, 1) := by decide +kernel
theorem dX6_add_22 : decode cX6_add 22 = .ok (.aload_n 0, 1) := by decide +kernel
theorem dX6_add_23 : decode cX6_add 23 = .ok (.dup, 1) := by decide +kernel
theorem dX6_add_24 : decode cX6_add 24 = .ok (.getfield 15, 3) := by decide +kernel
theorem dX6_add_27 : decode cX6_add 27 = .ok (.iconst 1, 1) := by decide +kernel
theorem dX6_add_28 : decode cX6_add 28 = .ok (.iadd, 1) := by decide +kernel
theorem dX6_add_29 : decode cX6_add 29 = .ok (.putfield 15, 3) := by decide +kernel
theorem dX6_add_32 : decode cX6_add 32 = .ok (.iconst 1, 1) := by decide +kernel
theorem dX6_add_33 : decode cX6_add 33 = .ok (.ireturn, 1) := by decide +kernel
theorem dX6_empty_0 : decode cX6_empty 0 = .ok (.aload_n 0, 1) := by decide +kernel
theorem dX6_empty_1 : decode cX6_empty 1 = .ok (.getfield 15, 3) := by decide +kernel
theorem dX6_empty_4 : decode cX6_empty 4 = .ok (.istore_n 1, 1) := by decide +kernel
theorem dX6_empty_5 : decode cX6_empty 5 = .ok (.aload_n 0, 1) := by decide +kernel
theorem dX6_empty_6 : decode cX6_empty 6 = .ok (.iconst 0, 1) := by decide +kernel
theorem dX6_empty_7 : decode cX6_empty 7 = .ok (.putfield 15, 3) := by decide +kernel
theorem dX6_empty_10 : decode cX6_empty 10 = .ok (.iload_n 1, 1) := by decide +kernel
theorem dX6_empty_11 : decode cX6_empty 11 = .ok (.ireturn, 1) := by decide +kernel
set_option maxRecDepth 20000 in
theorem ggX6_readInto_X3_begin : GoodIn wsX6_readInto wsX3_begin := goodIn_r _ [8, 9, 10, 11, 12, 13, 14, 86, 87, 88, 89, 90, 91, 92, 93, 94, 95, 96] (by decide +kernel) (by decide +kernel)
set_option maxRecDepth 20000 in
theorem gX6_readInto_X3_begin : GoodIn wsX6_readInto (wsV RX6 19 RX3 yX3_begin wsX3_begin) := goodIn_app (goodIn_of _ (by decide +kernel)) ggX6_readInto_X3_begin
set_option maxRecDepth 20000 in
theorem ggX6_readInto_X6_nextToken : GoodIn wsX6_readInto wsX6_nextToken := goodIn_r _ [19, 1, 20, 3, 2, 21, 22, 23, 18, 24, 25, 26, 27, 28, 29, 30, 31, 32, 33, 34, 35, 36, 37, 38, 39, 40, 80, 81, 82, 83, 84, 85] (by decide +kernel) (by decide +kernel)
set_option maxRecDepth 20000 in
theorem gX6_readInto_X6_nextToken : GoodIn wsX6_readInto (wsV RX6 27 RX6 yX6_nextToken wsX6_nextToken) := goodIn_app (goodIn_of _ (by decide +kernel)) ggX6_readInto_X6_nextToken
set_option maxRecDepth 20000 in
theorem ggX6_readInto_X6_readTerminal : GoodIn wsX6_readInto wsX6_readTerminal := goodIn_r _ [44, 45, 46, 33, 47, 48, 49, 18, 50, 2, 15, 16, 17, 19, 1, 20, 3, 21, 22, 23, 24, 25, 26, 27, 28, 29, 30, 31, 32, 34, 35, 36, 37, 38, 39, 40, 86, 87, 88, 89, 90, 91, 92, 93, 94, 95, 96, 80, 81, 82, 83, 84, 85] (by decide +kernel) (by decide +kernel)
set_option maxRecDepth 20000 in
theorem gX6_readInto_X6_readTerminal : GoodIn wsX6_readInto (wsV RX6 33 RX6 yX6_readTerminal wsX6_readTerminal) := goodIn_app (goodIn_of _ (by decide +kernel)) ggX6_readInto_X6_readTerminal
set_option maxRecDepth 20000 in
theorem ggX6_readInto_X6_readClass : GoodIn wsX6_readInto wsX6_readClass := goodIn_r _ [54, 55, 45, 56, 33, 57, 58, 59, 47, 48, 49, 18, 50, 2, 15, 16, 17, 19, 1, 20, 3, 21, 22, 23, 24, 25, 26, 27, 28, 29, 30, 31, 32, 34, 35, 36, 37, 38, 39, 40, 86, 87, 88, 89, 90, 91, 92, 93, 94, 95, 96, 80, 81, 82, 83, 84, 85] (by decide +kernel) (by decide +kernel)
set_option maxRecDepth 20000 in
theorem gX6_readInto_X6_readClass : GoodIn wsX6_readInto (wsV RX6 37 RX6 yX6_readClass wsX6_readClass) := goodIn_app (goodIn_of _ (by decide +kernel)) ggX6_readInto_X6_readClass
set_option maxRecDepth 20000 in
theorem ggX6_readInto_X6_readRoom : GoodIn wsX6_readInto wsX6_readRoom := goodIn_r _ [63, 33, 64, 47, 48, 49, 18, 50, 2, 15, 16, 17, 19, 1, 20, 3, 21, 22, 23, 24, 25, 26, 27, 28, 29, 30, 31, 32, 34, 35, 36, 37, 38, 39, 40, 80, 81, 82, 83, 84, 85, 86, 87, 88, 89, 90, 91, 92, 93, 94, 95, 96] (by decide +kernel) (by decide +kernel)
set_option maxRecDepth 20000 in
theorem gX6_readInto_X6_readRoom : GoodIn wsX6_readInto (wsV RX6 40 RX6 yX6_readRoom wsX6_readRoom) := goodIn_app (goodIn_of _ (by decide +kernel)) ggX6_readInto_X6_readRoom
set_option maxRecDepth 20000 in
theorem ggX6_readInto_X6_readBan : GoodIn wsX6_readInto wsX6_readBan := goodIn_r _ [68, 33, 69, 47, 48, 49, 18, 50, 2, 15, 16, 17, 19, 1, 20, 3, 21, 22, 23, 24, 25, 26, 27, 28, 29, 30, 31, 32, 34, 35, 36, 37, 38, 39, 40, 80, 81, 82, 83, 84, 85, 86, 87, 88, 89, 90, 91, 92, 93, 94, 95, 96] (by decide +kernel) (by decide +kernel)
set_option maxRecDepth 20000 in
theorem gX6_readInto_X6_readBan : GoodIn wsX6_readInto (wsV RX6 43 RX6 yX6_readBan wsX6_readBan) := goodIn_app (goodIn_of _ (by decide +kernel)) ggX6_readInto_X6_readBan
set_option maxRecDepth 20000 in
theorem ggX6_readInto_X6_readBackAndTries : GoodIn wsX6_readInto wsX6_readBackAndTries := goodIn_r _ [73, 33, 74, 75, 47, 48, 49, 18, 50, 2, 15, 16, 17, 19, 1, 20, 3, 21, 22, 23, 24, 25, 26, 27, 28, 29, 30, 31, 32, 34, 35, 36, 37, 38, 39, 40, 80, 81, 82, 83, 84, 85, 86, 87, 88, 89, 90, 91, 92, 93, 94, 95, 96] (by decide +kernel) (by decide +kernel)
set_option maxRecDepth 20000 in
theorem gX6_readInto_X6_readBackAndTries : GoodIn wsX6_readInto (wsV RX6 46 RX6 yX6_readBackAndTries wsX6_readBackAndTries) := goodIn_app (goodIn_of _ (by decide +kernel)) ggX6_readInto_X6_readBackAndTries
set_option maxRecDepth 20000 in
theorem ggX6_readInto_X6_readEnd : GoodIn wsX6_readInto wsX6_readEnd := goodIn_r _ [79, 2, 15, 16, 17, 18, 19, 1, 20, 3, 21, 22, 23, 24, 25, 26, 27, 28, 29, 30, 31, 32, 33, 34, 35, 36, 37, 38, 39, 40, 80, 81, 82, 83, 84, 85] (by decide +kernel) (by decide +kernel)
set_option maxRecDepth 20000 in
theorem gX6_readInto_X6_readEnd : GoodIn wsX6_readInto (wsV RX6 49 RX6 yX6_readEnd wsX6_readEnd) := goodIn_app (goodIn_of _ (by decide +kernel)) ggX6_readInto_X6_readEnd
theorem dX6_readInto_0 : decode cX6_readInto 0 = .ok (.aload_n 1, 1) := by decide +kernel
theorem dX6_readInto_1 : decode cX6_readInto 1 = .ok (.invokevirtual 19, 3) := by decide +kernel
theorem dX6_readInto_4 : decode cX6_readInto 4 = .ok (.aload_n 0, 1) := by decide +kernel
theorem dX6_readInto_5 : decode cX6_readInto 5 = .ok (.iconst 0, 1) := by decide +kernel
theorem dX6_readInto_6 : decode cX6_readInto 6 = .ok (.putfield 24, 3) := by decide +kernel
theorem dX6_readInto_9 : decode cX6_readInto 9 = .ok (.iconst 0, 1) := by decide +kernel
theorem dX6_readInto_10 : decode cX6_readInto 10 = .ok (.istore_n 2, 1) := by decide +kernel
theorem dX6_readInto_11 : decode cX6_readInto 11 = .ok (.iload_n 2, 1) := by decide +kernel
theorem dX6_readInto_12 : decode cX6_readInto 12 = .ok (.bipush 120, 2) := by decide +kernel
theorem dX6_readInto_14 : decode cX6_readInto 14 = .ok (.if_icmp .gt 142, 3) := by decide +kernel
theorem dX6_readInto_17 : decode cX6_readInto 17 = .ok (.aload_n 0, 1) := by decide +kernel
theorem dX6_readInto_18 : decode cX6_readInto 18 = .ok (.invokevirtual 27, 3) := by decide +kernel
theorem dX6_readInto_21 : decode cX6_readInto 21 = .ok (.iconst 0, 1) := by decide +kernel
theorem dX6_readInto_22 : decode cX6_readInto 22 = .ok (.istore_n 3, 1) := by decide +kernel
theorem dX6_readInto_23 : decode cX6_readInto 23 = .ok (.aload_n 0, 1) := by decide +kernel
theorem dX6_readInto_24 : decode cX6_readInto 24 = .ok (.getfield 30, 3) := by decide +kernel
theorem dX6_readInto_27 : decode cX6_readInto 27 = .ok (.lookupswitch 104 #[(46, 57), (98, 86), (99, 68), (114, 95), (115, 77), (116, 59)], 57) := by decide +kernel
theorem dX6_readInto_84 : decode cX6_readInto 84 = .ok (.iload_n 2, 1) := by decide +kernel
theorem dX6_readInto_85 : decode cX6_readInto 85 = .ok (.ireturn, 1) := by decide +kernel
theorem dX6_readInto_86 : decode cX6_readInto 86 = .ok (.aload_n 0, 1) := by decide +kernel
theorem dX6_readInto_87 : decode cX6_readInto 87 = .ok (.aload_n 1, 1) := by decide +kernel
theorem dX6_readInto_88 : decode cX6_readInto 88 = .ok (.invokevirtual 33, 3) := by decide +kernel
theorem dX6_readInto_91 : decode cX6_readInto 91 = .ok (.istore_n 3, 1) := by decide +kernel
theorem dX6_readInto_92 : decode cX6_readInto 92 = .ok (.goto 39, 3) := by decide +kernel
theorem dX6_readInto_95 : decode cX6_readInto 95 = .ok (.aload_n 0, 1) := by decide +kernel
theorem dX6_readInto_96 : decode cX6_readInto 96 = .ok (.aload_n 1, 1) := by decide +kernel
theorem dX6_readInto_97 : decode cX6_readInto 97 = .ok (.invokevirtual 37, 3) := by decide +kernel
theorem dX6_readInto_100 : decode cX6_readInto 100 = .ok (.istore_n 3, 1) := by decide +kernel
theorem dX6_readInto_101 : decode cX6_readInto 101 = .ok (.goto 30, 3) := by decide +kernel
theorem dX6_readInto_104 : decode cX6_readInto 104 = .ok (.aload_n 0, 1) := by decide +kernel
theorem dX6_readInto_105 : decode cX6_readInto 105 = .ok (.aload_n 1, 1) := by decide +kernel
theorem dX6_readInto_106 : decode cX6_readInto 106 = .ok (.invokevirtual 40, 3) := by decide +kernel
theorem dX6_readInto_109 : decode cX6_readInto 109 = .ok (.istore_n 3, 1) := by decide +kernel
theorem dX6_readInto_110 : decode cX6_readInto 110 = .ok (.goto 21, 3) := by decide +kernel
theorem dX6_readInto_113 : decode cX6_readInto 113 = .ok (.aload_n 0, 1) := by decide +kernel
theorem dX6_readInto_114 : decode cX6_readInto 114 = .ok (.aload_n 1, 1) := by decide +kernel
theorem dX6_readInto_115 : decode cX6_readInto 115 = .ok (.invokevirtual 43, 3) := by decide +kernel
theorem dX6_readInto_118 : decode cX6_readInto 118 = .ok (.istore_n 3, 1) := by decide +kernel
theorem dX6_readInto_119 : decode cX6_readInto 119 = .ok (.goto 12, 3) := by decide +kernel
theorem dX6_readInto_122 : decode cX6_readInto 122 = .ok (.aload_n 0, 1) := by decide +kernel
theorem dX6_readInto_123 : decode cX6_readInto 123 = .ok (.aload_n 1, 1) := by decide +kernel
theorem dX6_readInto_124 : decode cX6_readInto 124 = .ok (.invokevirtual 46, 3) := by decide +kernel
theorem dX6_readInto_127 : decode cX6_readInto 127 = .ok (.istore_n 3, 1) := by decide +kernel
theorem dX6_readInto_128 : decode cX6_readInto 128 = .ok (.goto 3, 3) := by decide +kernel
theorem dX6_readInto_131 : decode cX6_readInto 131 = .ok (.iload_n 3, 1) := by decide +kernel
theorem dX6_readInto_132 : decode cX6_readInto 132 = .ok (.ifCond .eq 10, 3) := by decide +kernel
theorem dX6_readInto_135 : decode cX6_readInto 135 = .ok (.aload_n 0, 1) := by decide +kernel
theorem dX6_readInto_136 : decode cX6_readInto 136 = .ok (.invokevirtual 49, 3) := by decide +kernel
theorem dX6_readInto_139 : decode cX6_readInto 139 = .ok (.ifCond .ne 11, 3) := by decide +kernel
theorem dX6_readInto_142 : decode cX6_readInto 142 = .ok (.bipush (-10), 2) := by decide +kernel
theorem dX6_readInto_144 : decode cX6_readInto 144 = .ok (.aload_n 0, 1) := by decide +kernel
theorem dX6_readInto_145 : decode cX6_readInto 145 = .ok (.getfield 53, 3) := by decide +kernel
theorem dX6_readInto_148 : decode cX6_readInto 148 = .ok (.isub, 1) := by decide +kernel
theorem dX6_readInto_149 : decode cX6_readInto 149 = .ok (.ireturn, 1) := by decide +kernel
theorem dX6_readInto_150 : decode cX6_readInto 150 = .ok (.iinc 2 1, 3) := by decide +kernel
theorem dX6_readInto_153 : decode cX6_readInto 153 = .ok (.goto (-142), 3) := by decide +kernel
theorem dX6_readInto_156 : decode cX6_readInto 156 = .ok (.bipush (-10), 2) := by decide +kernel
theorem dX6_readInto_158 : decode cX6_readInto 158 = .ok (.aload_n 0, 1) := by decide +kernel
theorem dX6_readInto_159 : decode cX6_readInto 159 = .ok (.getfield 53, 3) := by decide +kernel
theorem dX6_readInto_162 : decode cX6_readInto 162 = .ok (.isub, 1) := by decide +kernel
theorem dX6_readInto_163 : decode cX6_readInto 163 = .ok (.ireturn, 1) := by decide +kernel
set_option maxRecDepth 20000 in
theorem ggX6_readTerminal_X6_readNumber : GoodIn wsX6_readTerminal wsX6_readNumber := goodIn_r _ [8, 9, 3, 10, 11, 12, 7, 13, 14, 15, 16, 17, 18, 19, 20, 21, 22, 23, 24, 25, 26, 27, 28, 29, 30, 31, 32, 33, 34, 35, 47, 48, 49, 50, 51, 52] (by decide +kernel) (by decide +kernel)
set_option maxRecDepth 20000 in
theorem gX6_readTerminal_X6_readNumber : GoodIn wsX6_readTerminal (wsV RX6 59 RX6 yX6_readNumber wsX6_readNumber) := goodIn_app (goodIn_of _ (by decide +kernel)) ggX6_readTerminal_X6_readNumber
theorem dX6_readTerminal_0 : decode cX6_readTerminal 0 = .ok (.aload_n 1, 1) := by decide +kernel
theorem dX6_readTerminal_1 : decode cX6_readTerminal 1 = .ok (.getfield 56, 3) := by decide +kernel
theorem dX6_readTerminal_4 : decode cX6_readTerminal 4 = .ok (.istore_n 2, 1) := by decide +kernel
theorem dX6_readTerminal_5 : decode cX6_readTerminal 5 = .ok (.iload_n 2, 1) := by decide +kernel
theorem dX6_readTerminal_6 : decode cX6_readTerminal 6 = .ok (.iconst 3, 1) := by decide +kernel
theorem dX6_readTerminal_7 : decode cX6_readTerminal 7 = .ok (.if_icmp .ge 13, 3) := by decide +kernel
theorem dX6_readTerminal_10 : decode cX6_readTerminal 10 = .ok (.aload_n 0, 1) := by decide +kernel
theorem dX6_readTerminal_11 : decode cX6_readTerminal 11 = .ok (.iconst 1, 1) := by decide +kernel
theorem dX6_readTerminal_12 : decode cX6_readTerminal 12 = .ok (.bipush 9, 2) := by decide +kernel
theorem dX6_readTerminal_14 : decode cX6_readTerminal 14 = .ok (.invokevirtual 59, 3) := by decide +kernel
theorem dX6_readTerminal_17 : decode cX6_readTerminal 17 = .ok (.ifCond .ne 5, 3) := by decide +kernel
theorem dX6_readTerminal_20 : decode cX6_readTerminal 20 = .ok (.iconst 0, 1) := by decide +kernel
theorem dX6_readTerminal_21 : decode cX6_readTerminal 21 = .ok (.ireturn, 1) := by decide +kernel
theorem dX6_readTerminal_22 : decode cX6_readTerminal 22 = .ok (.aload_n 1, 1) := by decide +kernel
theorem dX6_readTerminal_23 : decode cX6_readTerminal 23 = .ok (.getfield 63, 3) := by decide +kernel
theorem dX6_readTerminal_26 : decode cX6_readTerminal 26 = .ok (.iload_n 2, 1) := by decide +kernel
theorem dX6_readTerminal_27 : decode cX6_readTerminal 27 = .ok (.aload_n 0, 1) := by decide +kernel
theorem dX6_readTerminal_28 : decode cX6_readTerminal 28 = .ok (.getfield 67, 3) := by decide +kernel
theorem dX6_readTerminal_31 : decode cX6_readTerminal 31 = .ok (.iastore, 1) := by decide +kernel
theorem dX6_readTerminal_32 : decode cX6_readTerminal 32 = .ok (.aload_n 1, 1) := by decide +kernel
theorem dX6_readTerminal_33 : decode cX6_readTerminal 33 = .ok (.iload_n 2, 1) := by decide +kernel
theorem dX6_readTerminal_34 : decode cX6_readTerminal 34 = .ok (.iconst 1, 1) := by decide +kernel
theorem dX6_readTerminal_35 : decode cX6_readTerminal 35 = .ok (.iadd, 1) := by decide +kernel
theorem dX6_readTerminal_36 : decode cX6_readTerminal 36 = .ok (.putfield 56, 3) := by decide +kernel
theorem dX6_readTerminal_39 : decode cX6_readTerminal 39 = .ok (.iconst 1, 1) := by decide +kernel
theorem dX6_readTerminal_40 : decode cX6_readTerminal 40 = .ok (.ireturn, 1) := by decide +kernel
set_option maxRecDepth 20000 in
theorem ggX6_readClass_X6_readNumber : GoodIn wsX6_readClass wsX6_readNumber := goodIn_r _ [12, 13, 4, 14, 15, 16, 11, 17, 18, 19, 20, 21, 22, 23, 24, 25, 26, 27, 28, 29, 30, 31, 32, 33, 34, 35, 36, 37, 38, 39, 51, 52, 53, 54, 55, 56] (by decide +kernel) (by decide +kernel)
set_option maxRecDepth 20000 in
theorem gX6_readClass_X6_readNumber : GoodIn wsX6_readClass (wsV RX6 59 RX6 yX6_readNumber wsX6_readNumber) := goodIn_app (goodIn_of _ (by decide +kernel)) ggX6_readClass_X6_readNumber
theorem dX6_readClass_0 : decode cX6_readClass 0 = .ok (.aload_n 1, 1) := by decide +kernel
theorem dX6_readClass_1 : decode cX6_readClass 1 = .ok (.getfield 70, 3) := by decide +kernel
theorem dX6_readClass_4 : decode cX6_readClass 4 = .ok (.istore_n 2, 1) := by decide +kernel
theorem dX6_readClass_5 : decode cX6_readClass 5 = .ok (.iload_n 2, 1) := by decide +kernel
theorem dX6_readClass_6 : decode cX6_readClass 6 = .ok (.bipush 6, 2) := by decide +kernel
theorem dX6_readClass_8 : decode cX6_readClass 8 = .ok (.if_icmp .ge 17, 3) := by decide +kernel
theorem dX6_readClass_11 : decode cX6_readClass 11 = .ok (.aload_n 0, 1) := by decide +kernel
theorem dX6_readClass_12 : decode cX6_readClass 12 = .ok (.iconst 0, 1) := by decide +kernel
theorem dX6_readClass_13 : decode cX6_readClass 13 = .ok (.aload_n 1, 1) := by decide +kernel
theorem dX6_readClass_14 : decode cX6_readClass 14 = .ok (.getfield 56, 3) := by decide +kernel
theorem dX6_readClass_17 : decode cX6_readClass 17 = .ok (.iconst 1, 1) := by decide +kernel
theorem dX6_readClass_18 : decode cX6_readClass 18 = .ok (.isub, 1) := by decide +kernel
theorem dX6_readClass_19 : decode cX6_readClass 19 = .ok (.invokevirtual 59, 3) := by decide +kernel
theorem dX6_readClass_22 : decode cX6_readClass 22 = .ok (.ifCond .ne 5, 3) := by decide +kernel
theorem dX6_readClass_25 : decode cX6_readClass 25 = .ok (.iconst 0, 1) := by decide +kernel
theorem dX6_readClass_26 : decode cX6_readClass 26 = .ok (.ireturn, 1) := by decide +kernel
theorem dX6_readClass_27 : decode cX6_readClass 27 = .ok (.aload_n 1, 1) := by decide +kernel
theorem dX6_readClass_28 : decode cX6_readClass 28 = .ok (.getfield 73, 3) := by decide +kernel
theorem dX6_readClass_31 : decode cX6_readClass 31 = .ok (.iload_n 2, 1) := by decide +kernel
theorem dX6_readClass_32 : decode cX6_readClass 32 = .ok (.aload_n 0, 1) := by decide +kernel
theorem dX6_readClass_33 : decode cX6_readClass 33 = .ok (.getfield 67, 3) := by decide +kernel
theorem dX6_readClass_36 : decode cX6_readClass 36 = .ok (.iastore, 1) := by decide +kernel
theorem dX6_readClass_37 : decode cX6_readClass 37 = .ok (.aload_n 0, 1) := by decide +kernel
theorem dX6_readClass_38 : decode cX6_readClass 38 = .ok (.iconst 0, 1) := by decide +kernel
theorem dX6_readClass_39 : decode cX6_readClass 39 = .ok (.bipush 9, 2) := by decide +kernel
theorem dX6_readClass_41 : decode cX6_readClass 41 = .ok (.invokevirtual 59, 3) := by decide +kernel
theorem dX6_readClass_44 : decode cX6_readClass 44 = .ok (.ifCond .ne 5, 3) := by decide +kernel
theorem dX6_readClass_47 : decode cX6_readClass 47 = .ok (.iconst 0, 1) := by decide +kernel
theorem dX6_readClass_48 : decode cX6_readClass 48 = .ok (.ireturn, 1) := by decide +kernel
theorem dX6_readClass_49 : decode cX6_readClass 49 = .ok (.aload_n 1, 1) := by decide +kernel
theorem dX6_readClass_50 : decode cX6_readClass 50 = .ok (.getfield 76, 3) := by decide +kernel
theorem dX6_readClass_53 : decode cX6_readClass 53 = .ok (.iload_n 2, 1) := by decide +kernel
theorem dX6_readClass_54 : decode cX6_readClass 54 = .ok (.aload_n 0, 1) := by decide +kernel
theorem dX6_readClass_55 : decode cX6_readClass 55 = .ok (.getfield 67, 3) := by decide +kernel
theorem dX6_readClass_58 : decode cX6_readClass 58 = .ok (.iastore, 1) := by decide +kernel
theorem dX6_readClass_59 : decode cX6_readClass 59 = .ok (.aload_n 0, 1) := by decide +kernel
theorem dX6_readClass_60 : decode cX6_readClass 60 = .ok (.iconst 0, 1) := by decide +kernel
theorem dX6_readClass_61 : decode cX6_readClass 61 = .ok (.bipush 20, 2) := by decide +kernel
theorem dX6_readClass_63 : decode cX6_readClass 63 = .ok (.invokevirtual 59, 3) := by decide +kernel
theorem dX6_readClass_66 : decode cX6_readClass 66 = .ok (.ifCond .ne 5, 3) := by decide +kernel
theorem dX6_readClass_69 : decode cX6_readClass 69 = .ok (.iconst 0, 1) := by decide +kernel
theorem dX6_readClass_70 : decode cX6_readClass 70 = .ok (.ireturn, 1) := by decide +kernel
theorem dX6_readClass_71 : decode cX6_readClass 71 = .ok (.aload_n 1, 1) := by decide +kernel
theorem dX6_readClass_72 : decode cX6_readClass 72 = .ok (.getfield 79, 3) := by decide +kernel
theorem dX6_readClass_75 : decode cX6_readClass 75 = .ok (.iload_n 2, 1) := by decide +kernel
theorem dX6_readClass_76 : decode cX6_readClass 76 = .ok (.aload_n 0, 1) := by decide +kernel
theorem dX6_readClass_77 : decode cX6_readClass 77 = .ok (.getfield 67, 3) := by decide +kernel
theorem dX6_readClass_80 : decode cX6_readClass 80 = .ok (.iastore, 1) := by decide +kernel
theorem dX6_readClass_81 : decode cX6_readClass 81 = .ok (.aload_n 0, 1) := by decide +kernel
theorem dX6_readClass_82 : decode cX6_readClass 82 = .ok (.iconst 0, 1) := by decide +kernel
theorem dX6_readClass_83 : decode cX6_readClass 83 = .ok (.bipush 60, 2) := by decide +kernel
theorem dX6_readClass_85 : decode cX6_readClass 85 = .ok (.invokevirtual 59, 3) := by decide +kernel
theorem dX6_readClass_88 : decode cX6_readClass 88 = .ok (.ifCond .ne 5, 3) := by decide +kernel
theorem dX6_readClass_91 : decode cX6_readClass 91 = .ok (.iconst 0, 1) := by decide +kernel
theorem dX6_readClass_92 : decode cX6_readClass 92 = .ok (.ireturn, 1) := by decide +kernel
theorem dX6_readClass_93 : decode cX6_readClass 93 = .ok (.aload_n 1, 1) := by decide +kernel
theorem dX6_readClass_94 : decode cX6_readClass 94 = .ok (.getfield 82, 3) := by decide +kernel
theorem dX6_readClass_97 : decode cX6_readClass 97 = .ok (.iload_n 2, 1) := by decide +kernel
theorem dX6_readClass_98 : decode cX6_readClass 98 = .ok (.aload_n 0, 1) := by decide +kernel
theorem dX6_readClass_99 : decode cX6_readClass 99 = .ok (.getfield 67, 3) := by decide +kernel
theorem dX6_readClass_102 : decode cX6_readClass 102 = .ok (.iastore, 1) := by decide +kernel
theorem dX6_readClass_103 : decode cX6_readClass 103 = .ok (.aload_n 1, 1) := by decide +kernel
theorem dX6_readClass_104 : decode cX6_readClass 104 = .ok (.iload_n 2, 1) := by decide +kernel
theorem dX6_readClass_105 : decode cX6_readClass 105 = .ok (.iconst 1, 1) := by decide +kernel
theorem dX6_readClass_106 : decode cX6_readClass 106 = .ok (.iadd, 1) := by decide +kernel
theorem dX6_readClass_107 : decode cX6_readClass 107 = .ok (.putfield 70, 3) := by decide +kernel
theorem dX6_readClass_110 : decode cX6_readClass 110 = .ok (.iconst 1, 1) := by decide +kernel
theorem dX6_readClass_111 : decode cX6_readClass 111 = .ok (.ireturn, 1) := by decide +kernel
set_option maxRecDepth 20000 in
theorem ggX6_readRoom_X6_readNumber : GoodIn wsX6_readRoom wsX6_readNumber := goodIn_r _ [7, 8, 1, 9, 10, 11, 6, 12, 13, 14, 15, 16, 17, 18, 19, 20, 21, 22, 23, 24, 25, 26, 27, 28, 29, 30, 31, 32, 33, 34, 35, 36, 37, 38, 39, 40] (by decide +kernel) (by decide +kernel)
set_option maxRecDepth 20000 in
theorem gX6_readRoom_X6_readNumber : GoodIn wsX6_readRoom (wsV RX6 59 RX6 yX6_readNumber wsX6_readNumber) := goodIn_app (goodIn_of _ (by decide +kernel)) ggX6_readRoom_X6_readNumber
theorem dX6_readRoom_0 : decode cX6_readRoom 0 = .ok (.aload_n 0, 1) := by decide +kernel
theorem dX6_readRoom_1 : decode cX6_readRoom 1 = .ok (.iconst 0, 1) := by decide +kernel
theorem dX6_readRoom_2 : decode cX6_readRoom 2 = .ok (.bipush 60, 2) := by decide +kernel
theorem dX6_readRoom_4 : decode cX6_readRoom 4 = .ok (.invokevirtual 59, 3) := by decide +kernel
theorem dX6_readRoom_7 : decode cX6_readRoom 7 = .ok (.ifCond .ne 5, 3) := by decide +kernel
theorem dX6_readRoom_10 : decode cX6_readRoom 10 = .ok (.iconst 0, 1) := by decide +kernel
theorem dX6_readRoom_11 : decode cX6_readRoom 11 = .ok (.ireturn, 1) := by decide +kernel
theorem dX6_readRoom_12 : decode cX6_readRoom 12 = .ok (.aload_n 1, 1) := by decide +kernel
theorem dX6_readRoom_13 : decode cX6_readRoom 13 = .ok (.aload_n 0, 1) := by decide +kernel
theorem dX6_readRoom_14 : decode cX6_readRoom 14 = .ok (.getfield 67, 3) := by decide +kernel
theorem dX6_readRoom_17 : decode cX6_readRoom 17 = .ok (.putfield 85, 3) := by decide +kernel
theorem dX6_readRoom_20 : decode cX6_readRoom 20 = .ok (.iconst 1, 1) := by decide +kernel
theorem dX6_readRoom_21 : decode cX6_readRoom 21 = .ok (.ireturn, 1) := by decide +kernel
set_option maxRecDepth 20000 in
theorem ggX6_readBan_X6_readNumber : GoodIn wsX6_readBan wsX6_readNumber := goodIn_r _ [7, 8, 1, 9, 10, 11, 6, 12, 13, 14, 15, 16, 17, 18, 19, 20, 21, 22, 23, 24, 25, 26, 27, 28, 29, 30, 31, 32, 33, 34, 35, 36, 37, 38, 39, 40] (by decide +kernel) (by decide +kernel)
set_option maxRecDepth 20000 in
theorem gX6_readBan_X6_readNumber : GoodIn wsX6_readBan (wsV RX6 59 RX6 yX6_readNumber wsX6_readNumber) := goodIn_app (goodIn_of _ (by decide +kernel)) ggX6_readBan_X6_readNumber
theorem dX6_readBan_0 : decode cX6_readBan 0 = .ok (.aload_n 0, 1) := by decide +kernel
theorem dX6_readBan_1 : decode cX6_readBan 1 = .ok (.iconst 0, 1) := by decide +kernel
theorem dX6_readBan_2 : decode cX6_readBan 2 = .ok (.bipush 9, 2) := by decide +kernel
theorem dX6_readBan_4 : decode cX6_readBan 4 = .ok (.invokevirtual 59, 3) := by decide +kernel
theorem dX6_readBan_7 : decode cX6_readBan 7 = .ok (.ifCond .ne 5, 3) := by decide +kernel
theorem dX6_readBan_10 : decode cX6_readBan 10 = .ok (.iconst 0, 1) := by decide +kernel
theorem dX6_readBan_11 : decode cX6_readBan 11 = .ok (.ireturn, 1) := by decide +kernel
theorem dX6_readBan_12 : decode cX6_readBan 12 = .ok (.aload_n 1, 1) := by decide +kernel
theorem dX6_readBan_13 : decode cX6_readBan 13 = .ok (.aload_n 0, 1) := by decide +kernel
theorem dX6_readBan_14 : decode cX6_readBan 14 = .ok (.getfield 67, 3) := by decide +kernel
theorem dX6_readBan_17 : decode cX6_readBan 17 = .ok (.putfield 88, 3) := by decide +kernel
theorem dX6_readBan_20 : decode cX6_readBan 20 = .ok (.iconst 1, 1) := by decide +kernel
theorem dX6_readBan_21 : decode cX6_readBan 21 = .ok (.ireturn, 1) := by decide +kernel
set_option maxRecDepth 20000 in
theorem ggX6_readBackAndTries_X6_readNumber : GoodIn wsX6_readBackAndTries wsX6_readNumber := goodIn_r _ [8, 9, 1, 10, 11, 12, 7, 13, 14, 15, 16, 17, 18, 19, 20, 21, 22, 23, 24, 25, 26, 27, 28, 29, 30, 31, 32, 33, 34, 35, 36, 37, 38, 39, 40, 41] (by decide +kernel) (by decide +kernel)
set_option maxRecDepth 20000 in
theorem gX6_readBackAndTries_X6_readNumber : GoodIn wsX6_readBackAndTries (wsV RX6 59 RX6 yX6_readNumber wsX6_readNumber) := goodIn_app (goodIn_of _ (by decide +kernel)) ggX6_readBackAndTries_X6_readNumber
theorem dX6_readBackAndTries_0 : decode cX6_readBackAndTries 0 = .ok (.aload_n 0, 1) := by decide +kernel
theorem dX6_readBackAndTries_1 : decode cX6_readBackAndTries 1 = .ok (.iconst 1, 1) := by decide +kernel
theorem dX6_readBackAndTries_2 : decode cX6_readBackAndTries 2 = .ok (.bipush 6, 2) := by decide +kernel
theorem dX6_readBackAndTries_4 : decode cX6_readBackAndTries 4 = .ok (.invokevirtual 59, 3) := by decide +kernel
theorem dX6_readBackAndTries_7 : decode cX6_readBackAndTries 7 = .ok (.ifCond .ne 5, 3) := by decide +kernel
theorem dX6_readBackAndTries_10 : decode cX6_readBackAndTries 10 = .ok (.iconst 0, 1) := by decide +kernel
theorem dX6_readBackAndTries_11 : decode cX6_readBackAndTries 11 = .ok (.ireturn, 1) := by decide +kernel
theorem dX6_readBackAndTries_12 : decode cX6_readBackAndTries 12 = .ok (.aload_n 1, 1) := by decide +kernel
theorem dX6_readBackAndTries_13 : decode cX6_readBackAndTries 13 = .ok (.aload_n 0, 1) := by decide +kernel
theorem dX6_readBackAndTries_14 : decode cX6_readBackAndTries 14 = .ok (.getfield 67, 3) := by decide +kernel
theorem dX6_readBackAndTries_17 : decode cX6_readBackAndTries 17 = .ok (.putfield 91, 3) := by decide +kernel
theorem dX6_readBackAndTries_20 : decode cX6_readBackAndTries 20 = .ok (.aload_n 0, 1) := by decide +kernel
theorem dX6_readBackAndTries_21 : decode cX6_readBackAndTries 21 = .ok (.iconst 1, 1) := by decide +kernel
theorem dX6_readBackAndTries_22 : decode cX6_readBackAndTries 22 = .ok (.iconst 4, 1) := by decide +kernel
theorem dX6_readBackAndTries_23 : decode cX6_readBackAndTries 23 = .ok (.invokevirtual 59, 3) := by decide +kernel
theorem dX6_readBackAndTries_26 : decode cX6_readBackAndTries 26 = .ok (.ifCond .ne 5, 3) := by decide +kernel
theorem dX6_readBackAndTries_29 : decode cX6_readBackAndTries 29 = .ok (.iconst 0, 1) := by decide +kernel
theorem dX6_readBackAndTries_30 : decode cX6_readBackAndTries 30 = .ok (.ireturn, 1) := by decide +kernel
theorem dX6_readBackAndTries_31 : decode cX6_readBackAndTries 31 = .ok (.aload_n 1, 1) := by decide +kernel
theorem dX6_readBackAndTries_32 : decode cX6_readBackAndTries 32 = .ok (.aload_n 0, 1) := by decide +kernel
theorem dX6_readBackAndTries_33 : decode cX6_readBackAndTries 33 = .ok (.getfield 67, 3) := by decide +kernel
theorem dX6_readBackAndTries_36 : decode cX6_readBackAndTries 36 = .ok (.putfield 94, 3) := by decide +kernel
theorem dX6_readBackAndTries_39 : decode cX6_readBackAndTries 39 = .ok (.iconst 1, 1) := by decide +kernel
theorem dX6_readBackAndTries_40 : decode cX6_readBackAndTries 40 = .ok (.ireturn, 1) := by decide +kernel
set_option maxRecDepth 20000 in
theorem ggX6_readEnd_X6_nextToken : GoodIn wsX6_readEnd wsX6_nextToken := goodIn_r _ [6, 7, 8, 9, 1, 10, 11, 12, 5, 13, 14, 15, 16, 17, 18, 19, 20, 21, 22, 23, 24, 25, 26, 27, 28, 29, 30, 31, 32, 33, 34, 35] (by decide +kernel) (by decide +kernel)
set_option maxRecDepth 20000 in
theorem gX6_readEnd_X6_nextToken : GoodIn wsX6_readEnd (wsV RX6 27 RX6 yX6_nextToken wsX6_nextToken) := goodIn_app (goodIn_of _ (by decide +kernel)) ggX6_readEnd_X6_nextToken
theorem dX6_readEnd_0 : decode cX6_readEnd 0 = .ok (.aload_n 0, 1) := by decide +kernel
theorem dX6_readEnd_1 : decode cX6_readEnd 1 = .ok (.invokevirtual 27, 3) := by decide +kernel
theorem dX6_readEnd_4 : decode cX6_readEnd 4 = .ok (.aload_n 0, 1) := by decide +kernel
theorem dX6_readEnd_5 : decode cX6_readEnd 5 = .ok (.getfield 30, 3) := by decide +kernel
theorem dX6_readEnd_8 : decode cX6_readEnd 8 = .ok (.bipush 59, 2) := by decide +kernel
theorem dX6_readEnd_10 : decode cX6_readEnd 10 = .ok (.if_icmp .ne 7, 3) := by decide +kernel
theorem dX6_readEnd_13 : decode cX6_readEnd 13 = .ok (.iconst 1, 1) := by decide +kernel
theorem dX6_readEnd_14 : decode cX6_readEnd 14 = .ok (.goto 4, 3) := by decide +kernel
theorem dX6_readEnd_17 : decode cX6_readEnd 17 = .ok (.iconst 0, 1) := by decide +kernel
theorem dX6_readEnd_18 : decode cX6_readEnd 18 = .ok (.ireturn, 1) := by decide +kernel
set_option maxRecDepth 20000 in
theorem ggX6_readNumber_X6_nextToken : GoodIn wsX6_readNumber wsX6_nextToken := goodIn_r _ [7, 8, 9, 10, 1, 11, 12, 13, 6, 14, 15, 16, 17, 18, 19, 20, 21, 22, 2, 23, 24, 25, 26, 27, 28, 29, 30, 31, 32, 33, 34, 35] (by decide +kernel) (by decide +kernel)
set_option maxRecDepth 20000 in
theorem gX6_readNumber_X6_nextToken : GoodIn wsX6_readNumber (wsV RX6 27 RX6 yX6_nextToken wsX6_nextToken) := goodIn_app (goodIn_of _ (by decide +kernel)) ggX6_readNumber_X6_nextToken
theorem dX6_readNumber_0 : decode cX6_readNumber 0 = .ok (.aload_n 0, 1) := by decide +kernel
theorem dX6_readNumber_1 : decode cX6_readNumber 1 = .ok (.invokevirtual 27, 3) := by decide +kernel
theorem dX6_readNumber_4 : decode cX6_readNumber 4 = .ok (.aload_n 0, 1) := by decide +kernel
theorem dX6_readNumber_5 : decode cX6_readNumber 5 = .ok (.getfield 30, 3) := by decide +kernel
theorem dX6_readNumber_8 : decode cX6_readNumber 8 = .ok (.bipush 48, 2) := by decide +kernel
theorem dX6_readNumber_10 : decode cX6_readNumber 10 = .ok (.if_icmp .ne 23, 3) := by decide +kernel
theorem dX6_readNumber_13 : decode cX6_readNumber 13 = .ok (.aload_n 0, 1) := by decide +kernel
theorem dX6_readNumber_14 : decode cX6_readNumber 14 = .ok (.getfield 67, 3) := by decide +kernel
theorem dX6_readNumber_17 : decode cX6_readNumber 17 = .ok (.iload_n 1, 1) := by decide +kernel
theorem dX6_readNumber_18 : decode cX6_readNumber 18 = .ok (.if_icmp .lt 15, 3) := by decide +kernel
theorem dX6_readNumber_21 : decode cX6_readNumber 21 = .ok (.aload_n 0, 1) := by decide +kernel
theorem dX6_readNumber_22 : decode cX6_readNumber 22 = .ok (.getfield 67, 3) := by decide +kernel
theorem dX6_readNumber_25 : decode cX6_readNumber 25 = .ok (.iload_n 2, 1) := by decide +kernel
theorem dX6_readNumber_26 : decode cX6_readNumber 26 = .ok (.if_icmp .gt 7, 3) := by decide +kernel
theorem dX6_readNumber_29 : decode cX6_readNumber 29 = .ok (.iconst 1, 1) := by decide +kernel
theorem dX6_readNumber_30 : decode cX6_readNumber 30 = .ok (.goto 4, 3) := by decide +kernel
theorem dX6_readNumber_33 : decode cX6_readNumber 33 = .ok (.iconst 0, 1) := by decide +kernel
theorem dX6_readNumber_34 : decode cX6_readNumber 34 = .ok (.ireturn, 1) := by decide +kernel
set_option maxRecDepth 20000 in
theorem ggX6_nextToken_X6_letterAt : GoodIn wsX6_nextToken wsX6_letterAt := goodIn_r _ [9, 2, 10, 26, 27, 28, 29, 30, 31] (by decide +kernel) (by decide +kernel)
set_option maxRecDepth 20000 in
theorem gX6_nextToken_X6_letterAt : GoodIn wsX6_nextToken (wsV RX6 97 RX6 yX6_letterAt wsX6_letterAt) := goodIn_app (goodIn_of _ (by decide +kernel)) ggX6_nextToken_X6_letterAt
set_option maxRecDepth 20000 in
theorem ggX6_nextToken_X6_isDigit : GoodIn wsX6_nextToken wsX6_isDigit := goodIn_r _ [13] (by decide +kernel) (by decide +kernel)
set_option maxRecDepth 20000 in
theorem gX6_nextToken_X6_isDigit : GoodIn wsX6_nextToken (va_wsS RX6 101 yX6_isDigit wsX6_isDigit) := goodIn_app (goodIn_of _ (by decide +kernel)) ggX6_nextToken_X6_isDigit
set_option maxRecDepth 20000 in
theorem ggX6_nextToken_X6_nextNumber : GoodIn wsX6_nextToken wsX6_nextNumber := goodIn_r _ [17, 18, 1, 2, 3, 19, 20, 21, 22, 4, 5, 6, 7, 8, 9, 10, 11, 12, 13, 26, 27, 28, 29, 30, 31] (by decide +kernel) (by decide +kernel)
set_option maxRecDepth 20000 in
theorem gX6_nextToken_X6_nextNumber : GoodIn wsX6_nextToken (wsV RX6 105 RX6 yX6_nextNumber wsX6_nextNumber) := goodIn_app (goodIn_of _ (by decide +kernel)) ggX6_nextToken_X6_nextNumber
set_option maxRecDepth 20000 in
theorem ggX6_nextToken_X6_isSign : GoodIn wsX6_nextToken wsX6_isSign := goodIn_r _ [25] (by decide +kernel) (by decide +kernel)
set_option maxRecDepth 20000 in
theorem gX6_nextToken_X6_isSign : GoodIn wsX6_nextToken (va_wsS RX6 108 yX6_isSign wsX6_isSign) := goodIn_app (goodIn_of _ (by decide +kernel)) ggX6_nextToken_X6_isSign
theorem dX6_nextToken_0 : decode cX6_nextToken 0 = .ok (.aload_n 0, 1) := by decide +kernel
theorem dX6_nextToken_1 : decode cX6_nextToken 1 = .ok (.getfield 24, 3) := by decide +kernel
theorem dX6_nextToken_4 : decode cX6_nextToken 4 = .ok (.aload_n 0, 1) := by decide +kernel
theorem dX6_nextToken_5 : decode cX6_nextToken 5 = .ok (.getfield 15, 3) := by decide +kernel
theorem dX6_nextToken_8 : decode cX6_nextToken 8 = .ok (.if_icmp .ge 29, 3) := by decide +kernel
theorem dX6_nextToken_11 : decode cX6_nextToken 11 = .ok (.aload_n 0, 1) := by decide +kernel
theorem dX6_nextToken_12 : decode cX6_nextToken 12 = .ok (.aload_n 0, 1) := by decide +kernel
theorem dX6_nextToken_13 : decode cX6_nextToken 13 = .ok (.getfield 24, 3) := by decide +kernel
theorem dX6_nextToken_16 : decode cX6_nextToken 16 = .ok (.invokevirtual 97, 3) := by decide +kernel
theorem dX6_nextToken_19 : decode cX6_nextToken 19 = .ok (.bipush 32, 2) := by decide +kernel
theorem dX6_nextToken_21 : decode cX6_nextToken 21 = .ok (.if_icmp .ne 16, 3) := by decide +kernel
theorem dX6_nextToken_24 : decode cX6_nextToken 24 = .ok (.aload_n 0, 1) := by decide +kernel
theorem dX6_nextToken_25 : decode cX6_nextToken 25 = .ok (.dup, 1) := by decide +kernel
theorem dX6_nextToken_26 : decode cX6_nextToken 26 = .ok (.getfield 24, 3) := by decide +kernel
theorem dX6_nextToken_29 : decode cX6_nextToken 29 = .ok (.iconst 1, 1) := by decide +kernel
theorem dX6_nextToken_30 : decode cX6_nextToken 30 = .ok (.iadd, 1) := by decide +kernel
theorem dX6_nextToken_31 : decode cX6_nextToken 31 = .ok (.putfield 24, 3) := by decide +kernel
theorem dX6_nextToken_34 : decode cX6_nextToken 34 = .ok (.goto (-34), 3) := by decide +kernel
theorem dX6_nextToken_37 : decode cX6_nextToken 37 = .ok (.aload_n 0, 1) := by decide +kernel
theorem dX6_nextToken_38 : decode cX6_nextToken 38 = .ok (.aload_n 0, 1) := by decide +kernel
theorem dX6_nextToken_39 : decode cX6_nextToken 39 = .ok (.getfield 24, 3) := by decide +kernel
theorem dX6_nextToken_42 : decode cX6_nextToken 42 = .ok (.putfield 53, 3) := by decide +kernel
theorem dX6_nextToken_45 : decode cX6_nextToken 45 = .ok (.aload_n 0, 1) := by decide +kernel
theorem dX6_nextToken_46 : decode cX6_nextToken 46 = .ok (.aload_n 0, 1) := by decide +kernel
theorem dX6_nextToken_47 : decode cX6_nextToken 47 = .ok (.getfield 24, 3) := by decide +kernel
theorem dX6_nextToken_50 : decode cX6_nextToken 50 = .ok (.invokevirtual 97, 3) := by decide +kernel
theorem dX6_nextToken_53 : decode cX6_nextToken 53 = .ok (.istore_n 1, 1) := by decide +kernel
theorem dX6_nextToken_54 : decode cX6_nextToken 54 = .ok (.iload_n 1, 1) := by decide +kernel
theorem dX6_nextToken_55 : decode cX6_nextToken 55 = .ok (.invokestatic 101, 3) := by decide +kernel
theorem dX6_nextToken_58 : decode cX6_nextToken 58 = .ok (.ifCond .eq 8, 3) := by decide +kernel
theorem dX6_nextToken_61 : decode cX6_nextToken 61 = .ok (.aload_n 0, 1) := by decide +kernel
theorem dX6_nextToken_62 : decode cX6_nextToken 62 = .ok (.invokevirtual 105, 3) := by decide +kernel
theorem dX6_nextToken_65 : decode cX6_nextToken 65 = .ok (.return_, 1) := by decide +kernel
theorem dX6_nextToken_66 : decode cX6_nextToken 66 = .ok (.aload_n 0, 1) := by decide +kernel
theorem dX6_nextToken_67 : decode cX6_nextToken 67 = .ok (.getfield 24, 3) := by decide +kernel
theorem dX6_nextToken_70 : decode cX6_nextToken 70 = .ok (.aload_n 0, 1) := by decide +kernel
theorem dX6_nextToken_71 : decode cX6_nextToken 71 = .ok (.getfield 15, 3) := by decide +kernel
theorem dX6_nextToken_74 : decode cX6_nextToken 74 = .ok (.if_icmp .lt 10, 3) := by decide +kernel
theorem dX6_nextToken_77 : decode cX6_nextToken 77 = .ok (.aload_n 0, 1) := by decide +kernel
theorem dX6_nextToken_78 : decode cX6_nextToken 78 = .ok (.bipush 46, 2) := by decide +kernel
theorem dX6_nextToken_80 : decode cX6_nextToken 80 = .ok (.putfield 30, 3) := by decide +kernel
theorem dX6_nextToken_83 : decode cX6_nextToken 83 = .ok (.return_, 1) := by decide +kernel
theorem dX6_nextToken_84 : decode cX6_nextToken 84 = .ok (.aload_n 0, 1) := by decide +kernel
theorem dX6_nextToken_85 : decode cX6_nextToken 85 = .ok (.iload_n 1, 1) := by decide +kernel
theorem dX6_nextToken_86 : decode cX6_nextToken 86 = .ok (.invokestatic 108, 3) := by decide +kernel
theorem dX6_nextToken_89 : decode cX6_nextToken 89 = .ok (.ifCond .eq 7, 3) := by decide +kernel
theorem dX6_nextToken_92 : decode cX6_nextToken 92 = .ok (.iload_n 1, 1) := by decide +kernel
theorem dX6_nextToken_93 : decode cX6_nextToken 93 = .ok (.goto 5, 3) := by decide +kernel
theorem dX6_nextToken_96 : decode cX6_nextToken 96 = .ok (.bipush 63, 2) := by decide +kernel
theorem dX6_nextToken_98 : decode cX6_nextToken 98 = .ok (.putfield 30, 3) := by decide +kernel
theorem dX6_nextToken_101 : decode cX6_nextToken 101 = .ok (.aload_n 0, 1) := by decide +kernel
theorem dX6_nextToken_102 : decode cX6_nextToken 102 = .ok (.dup, 1) := by decide +kernel
theorem dX6_nextToken_103 : decode cX6_nextToken 103 = .ok (.getfield 24, 3) := by decide +kernel
theorem dX6_nextToken_106 : decode cX6_nextToken 106 = .ok (.iconst 1, 1) := by decide +kernel
theorem dX6_nextToken_107 : decode cX6_nextToken 107 = .ok (.iadd, 1) := by decide +kernel
theorem dX6_nextToken_108 : decode cX6_nextToken 108 = .ok (.putfield 24, 3) := by decide +kernel
theorem dX6_nextToken_111 : decode cX6_nextToken 111 = .ok (.return_, 1) := by decide +kernel
set_option maxRecDepth 20000 in
theorem ggX6_nextNumber_X6_letterAt : GoodIn wsX6_nextNumber wsX6_letterAt := goodIn_r _ [14, 3, 15, 19, 20, 21, 22, 23, 24] (by decide +kernel) (by decide +kernel)
set_option maxRecDepth 20000 in
theorem gX6_nextNumber_X6_letterAt : GoodIn wsX6_nextNumber (wsV RX6 97 RX6 yX6_letterAt wsX6_letterAt) := goodIn_app (goodIn_of _ (by decide +kernel)) ggX6_nextNumber_X6_letterAt
set_option maxRecDepth 20000 in
theorem ggX6_nextNumber_X6_isDigit : GoodIn wsX6_nextNumber wsX6_isDigit := goodIn_r _ [18] (by decide +kernel) (by decide +kernel)
set_option maxRecDepth 20000 in
theorem gX6_nextNumber_X6_isDigit : GoodIn wsX6_nextNumber (va_wsS RX6 101 yX6_isDigit wsX6_isDigit) := goodIn_app (goodIn_of _ (by decide +kernel)) ggX6_nextNumber_X6_isDigit
theorem dX6_nextNumber_0 : decode cX6_nextNumber 0 = .ok (.iconst 1, 1) := by decide +kernel
theorem dX6_nextNumber_1 : decode cX6_nextNumber 1 = .ok (.istore_n 1, 1) := by decide +kernel
theorem dX6_nextNumber_2 : decode cX6_nextNumber 2 = .ok (.aload_n 0, 1) := by decide +kernel
theorem dX6_nextNumber_3 : decode cX6_nextNumber 3 = .ok (.iconst 0, 1) := by decide +kernel
theorem dX6_nextNumber_4 : decode cX6_nextNumber 4 = .ok (.putfield 67, 3) := by decide +kernel
theorem dX6_nextNumber_7 : decode cX6_nextNumber 7 = .ok (.aload_n 0, 1) := by decide +kernel
theorem dX6_nextNumber_8 : decode cX6_nextNumber 8 = .ok (.getfield 24, 3) := by decide +kernel
theorem dX6_nextNumber_11 : decode cX6_nextNumber 11 = .ok (.aload_n 0, 1) := by decide +kernel
theorem dX6_nextNumber_12 : decode cX6_nextNumber 12 = .ok (.getfield 15, 3) := by decide +kernel
theorem dX6_nextNumber_15 : decode cX6_nextNumber 15 = .ok (.if_icmp .ge 86, 3) := by decide +kernel
theorem dX6_nextNumber_18 : decode cX6_nextNumber 18 = .ok (.aload_n 0, 1) := by decide +kernel
theorem dX6_nextNumber_19 : decode cX6_nextNumber 19 = .ok (.aload_n 0, 1) := by decide +kernel
theorem dX6_nextNumber_20 : decode cX6_nextNumber 20 = .ok (.getfield 24, 3) := by decide +kernel
theorem dX6_nextNumber_23 : decode cX6_nextNumber 23 = .ok (.invokevirtual 97, 3) := by decide +kernel
theorem dX6_nextNumber_26 : decode cX6_nextNumber 26 = .ok (.invokestatic 101, 3) := by decide +kernel
theorem dX6_nextNumber_29 : decode cX6_nextNumber 29 = .ok (.ifCond .eq 72, 3) := by decide +kernel
theorem dX6_nextNumber_32 : decode cX6_nextNumber 32 = .ok (.iload_n 1, 1) := by decide +kernel
theorem dX6_nextNumber_33 : decode cX6_nextNumber 33 = .ok (.ifCond .eq 25, 3) := by decide +kernel
theorem dX6_nextNumber_36 : decode cX6_nextNumber 36 = .ok (.aload_n 0, 1) := by decide +kernel
theorem dX6_nextNumber_37 : decode cX6_nextNumber 37 = .ok (.getfield 24, 3) := by decide +kernel
theorem dX6_nextNumber_40 : decode cX6_nextNumber 40 = .ok (.aload_n 0, 1) := by decide +kernel
theorem dX6_nextNumber_41 : decode cX6_nextNumber 41 = .ok (.getfield 53, 3) := by decide +kernel
theorem dX6_nextNumber_44 : decode cX6_nextNumber 44 = .ok (.if_icmp .eq 10, 3) := by decide +kernel
theorem dX6_nextNumber_47 : decode cX6_nextNumber 47 = .ok (.aload_n 0, 1) := by decide +kernel
theorem dX6_nextNumber_48 : decode cX6_nextNumber 48 = .ok (.getfield 67, 3) := by decide +kernel
theorem dX6_nextNumber_51 : decode cX6_nextNumber 51 = .ok (.ifCond .le 7, 3) := by decide +kernel
theorem dX6_nextNumber_54 : decode cX6_nextNumber 54 = .ok (.iconst 1, 1) := by decide +kernel
theorem dX6_nextNumber_55 : decode cX6_nextNumber 55 = .ok (.goto 4, 3) := by decide +kernel
theorem dX6_nextNumber_58 : decode cX6_nextNumber 58 = .ok (.iconst 0, 1) := by decide +kernel
theorem dX6_nextNumber_59 : decode cX6_nextNumber 59 = .ok (.istore_n 1, 1) := by decide +kernel
theorem dX6_nextNumber_60 : decode cX6_nextNumber 60 = .ok (.aload_n 0, 1) := by decide +kernel
theorem dX6_nextNumber_61 : decode cX6_nextNumber 61 = .ok (.bipush 100, 2) := by decide +kernel
theorem dX6_nextNumber_63 : decode cX6_nextNumber 63 = .ok (.aload_n 0, 1) := by decide +kernel
theorem dX6_nextNumber_64 : decode cX6_nextNumber 64 = .ok (.getfield 67, 3) := by decide +kernel
theorem dX6_nextNumber_67 : decode cX6_nextNumber 67 = .ok (.bipush 10, 2) := by decide +kernel
theorem dX6_nextNumber_69 : decode cX6_nextNumber 69 = .ok (.imul, 1) := by decide +kernel
theorem dX6_nextNumber_70 : decode cX6_nextNumber 70 = .ok (.aload_n 0, 1) := by decide +kernel
theorem dX6_nextNumber_71 : decode cX6_nextNumber 71 = .ok (.aload_n 0, 1) := by decide +kernel
theorem dX6_nextNumber_72 : decode cX6_nextNumber 72 = .ok (.getfield 24, 3) := by decide +kernel
theorem dX6_nextNumber_75 : decode cX6_nextNumber 75 = .ok (.invokevirtual 97, 3) := by decide +kernel
theorem dX6_nextNumber_78 : decode cX6_nextNumber 78 = .ok (.iadd, 1) := by decide +kernel
theorem dX6_nextNumber_79 : decode cX6_nextNumber 79 = .ok (.bipush 48, 2) := by decide +kernel
theorem dX6_nextNumber_81 : decode cX6_nextNumber 81 = .ok (.isub, 1) := by decide +kernel
theorem dX6_nextNumber_82 : decode cX6_nextNumber 82 = .ok (.invokestatic 111, 3) := by decide +kernel
theorem dX6_nextNumber_85 : decode cX6_nextNumber 85 = .ok (.putfield 67, 3) := by decide +kernel
theorem dX6_nextNumber_88 : decode cX6_nextNumber 88 = .ok (.aload_n 0, 1) := by decide +kernel
theorem dX6_nextNumber_89 : decode cX6_nextNumber 89 = .ok (.dup, 1) := by decide +kernel
theorem dX6_nextNumber_90 : decode cX6_nextNumber 90 = .ok (.getfield 24, 3) := by decide +kernel
theorem dX6_nextNumber_93 : decode cX6_nextNumber 93 = .ok (.iconst 1, 1) := by decide +kernel
theorem dX6_nextNumber_94 : decode cX6_nextNumber 94 = .ok (.iadd, 1) := by decide +kernel
theorem dX6_nextNumber_95 : decode cX6_nextNumber 95 = .ok (.putfield 24, 3) := by decide +kernel
theorem dX6_nextNumber_98 : decode cX6_nextNumber 98 = .ok (.goto (-91), 3) := by decide +kernel
theorem dX6_nextNumber_101 : decode cX6_nextNumber 101 = .ok (.aload_n 0, 1) := by decide +kernel
theorem dX6_nextNumber_102 : decode cX6_nextNumber 102 = .ok (.iload_n 1, 1) := by decide +kernel
theorem dX6_nextNumber_103 : decode cX6_nextNumber 103 = .ok (.ifCond .eq 17, 3) := by decide +kernel
theorem dX6_nextNumber_106 : decode cX6_nextNumber 106 = .ok (.aload_n 0, 1) := by decide +kernel
theorem dX6_nextNumber_107 : decode cX6_nextNumber 107 = .ok (.getfield 67, 3) := by decide +kernel
theorem dX6_nextNumber_110 : decode cX6_nextNumber 110 = .ok (.bipush 99, 2) := by decide +kernel
theorem dX6_nextNumber_112 : decode cX6_nextNumber 112 = .ok (.if_icmp .gt 8, 3) := by decide +kernel
theorem dX6_nextNumber_115 : decode cX6_nextNumber 115 = .ok (.bipush 48, 2) := by decide +kernel
theorem dX6_nextNumber_117 : decode cX6_nextNumber 117 = .ok (.goto 5, 3) := by decide +kernel
theorem dX6_nextNumber_120 : decode cX6_nextNumber 120 = .ok (.bipush 63, 2) := by decide +kernel
theorem dX6_nextNumber_122 : decode cX6_nextNumber 122 = .ok (.putfield 30, 3) := by decide +kernel
theorem dX6_nextNumber_125 : decode cX6_nextNumber 125 = .ok (.return_, 1) := by decide +kernel
theorem dX6_letterAt_0 : decode cX6_letterAt 0 = .ok (.iload_n 1, 1) := by decide +kernel
theorem dX6_letterAt_1 : decode cX6_letterAt 1 = .ok (.ifCond .lt 26, 3) := by decide +kernel
theorem dX6_letterAt_4 : decode cX6_letterAt 4 = .ok (.iload_n 1, 1) := by decide +kernel
theorem dX6_letterAt_5 : decode cX6_letterAt 5 = .ok (.aload_n 0, 1) := by decide +kernel
theorem dX6_letterAt_6 : decode cX6_letterAt 6 = .ok (.getfield 15, 3) := by decide +kernel
theorem dX6_letterAt_9 : decode cX6_letterAt 9 = .ok (.if_icmp .ge 18, 3) := by decide +kernel
theorem dX6_letterAt_12 : decode cX6_letterAt 12 = .ok (.iload_n 1, 1) := by decide +kernel
theorem dX6_letterAt_13 : decode cX6_letterAt 13 = .ok (.bipush 120, 2) := by decide +kernel
theorem dX6_letterAt_15 : decode cX6_letterAt 15 = .ok (.if_icmp .ge 12, 3) := by decide +kernel
theorem dX6_letterAt_18 : decode cX6_letterAt 18 = .ok (.aload_n 0, 1) := by decide +kernel
theorem dX6_letterAt_19 : decode cX6_letterAt 19 = .ok (.getfield 9, 3) := by decide +kernel
theorem dX6_letterAt_22 : decode cX6_letterAt 22 = .ok (.iload_n 1, 1) := by decide +kernel
theorem dX6_letterAt_23 : decode cX6_letterAt 23 = .ok (.caload, 1) := by decide +kernel
theorem dX6_letterAt_24 : decode cX6_letterAt 24 = .ok (.goto 4, 3) := by decide +kernel
theorem dX6_letterAt_27 : decode cX6_letterAt 27 = .ok (.iconst 0, 1) := by decide +kernel
theorem dX6_letterAt_28 : decode cX6_letterAt 28 = .ok (.ireturn, 1) := by decide +kernel
theorem dX6_isDigit_0 : decode cX6_isDigit 0 = .ok (.iload_n 0, 1) := by decide +kernel
theorem dX6_isDigit_1 : decode cX6_isDigit 1 = .ok (.bipush 48, 2) := by decide +kernel
theorem dX6_isDigit_3 : decode cX6_isDigit 3 = .ok (.if_icmp .lt 13, 3) := by decide +kernel
theorem dX6_isDigit_6 : decode cX6_isDigit 6 = .ok (.iload_n 0, 1) := by decide +kernel
theorem dX6_isDigit_7 : decode cX6_isDigit 7 = .ok (.bipush 57, 2) := by decide +kernel
theorem dX6_isDigit_9 : decode cX6_isDigit 9 = .ok (.if_icmp .gt 7, 3) := by decide +kernel
theorem dX6_isDigit_12 : decode cX6_isDigit 12 = .ok (.iconst 1, 1) := by decide +kernel
theorem dX6_isDigit_13 : decode cX6_isDigit 13 = .ok (.goto 4, 3) := by decide +kernel
theorem dX6_isDigit_16 : decode cX6_isDigit 16 = .ok (.iconst 0, 1) := by decide +kernel
theorem dX6_isDigit_17 : decode cX6_isDigit 17 = .ok (.ireturn, 1) := by decide +kernel
theorem dX6_isSign_0 : decode cX6_isSign 0 = .ok (.iload_n 0, 1) := by decide +kernel
theorem dX6_isSign_1 : decode cX6_isSign 1 = .ok (.bipush 116, 2) := by decide +kernel
theorem dX6_isSign_3 : decode cX6_isSign 3 = .ok (.if_icmp .eq 33, 3) := by decide +kernel
theorem dX6_isSign_6 : decode cX6_isSign 6 = .ok (.iload_n 0, 1) := by decide +kernel
theorem dX6_isSign_7 : decode cX6_isSign 7 = .ok (.bipush 99, 2) := by decide +kernel
theorem dX6_isSign_9 : decode cX6_isSign 9 = .ok (.if_icmp .eq 27, 3) := by decide +kernel
theorem dX6_isSign_12 : decode cX6_isSign 12 = .ok (.iload_n 0, 1) := by decide +kernel
theorem dX6_isSign_13 : decode cX6_isSign 13 = .ok (.bipush 115, 2) := by decide +kernel
theorem dX6_isSign_15 : decode cX6_isSign 15 = .ok (.if_icmp .eq 21, 3) := by decide +kernel
theorem dX6_isSign_18 : decode cX6_isSign 18 = .ok (.iload_n 0, 1) := by decide +kernel
theorem dX6_isSign_19 : decode cX6_isSign 19 = .ok (.bipush 98, 2) := by decide +kernel
theorem dX6_isSign_21 : decode cX6_isSign 21 = .ok (.if_icmp .eq 15, 3) := by decide +kernel
theorem dX6_isSign_24 : decode cX6_isSign 24 = .ok (.iload_n 0, 1) := by decide +kernel
theorem dX6_isSign_25 : decode cX6_isSign 25 = .ok (.bipush 114, 2) := by decide +kernel
theorem dX6_isSign_27 : decode cX6_isSign 27 = .ok (.if_icmp .eq 9, 3) := by decide +kernel
theorem dX6_isSign_30 : decode cX6_isSign 30 = .ok (.iload_n 0, 1) := by decide +kernel
theorem dX6_isSign_31 : decode cX6_isSign 31 = .ok (.bipush 59, 2) := by decide +kernel
theorem dX6_isSign_33 : decode cX6_isSign 33 = .ok (.if_icmp .ne 7, 3) := by decide +kernel
theorem dX6_isSign_36 : decode cX6_isSign 36 = .ok (.iconst 1, 1) := by decide +kernel
theorem dX6_isSign_37 : decode cX6_isSign 37 = .ok (.goto 4, 3) := by decide +kernel
theorem dX6_isSign_40 : decode cX6_isSign 40 = .ok (.iconst 0, 1) := by decide +kernel
theorem dX6_isSign_41 : decode cX6_isSign 41 = .ok (.ireturn, 1) := by decide +kernel
