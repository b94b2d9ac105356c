theorem dX8_isAhead_0 : decode cX8_isAhead 0 = .ok (.aload_n 0, 1) := by decide +kernel
theorem dX8_isAhead_1 : decode cX8_isAhead 1 = .ok (.getfield 13, 3) := by decide +kernel
theorem dX8_isAhead_4 : decode cX8_isAhead 4 = .ok (.iconst 4, 1) := by decide +kernel
theorem dX8_isAhead_5 : decode cX8_isAhead 5 = .ok (.iload_n 1, 1) := by decide +kernel
theorem dX8_isAhead_6 : decode cX8_isAhead 6 = .ok (.imul, 1) := by decide +kernel
theorem dX8_isAhead_7 : decode cX8_isAhead 7 = .ok (.iconst 1, 1) := by decide +kernel
theorem dX8_isAhead_8 : decode cX8_isAhead 8 = .ok (.iadd, 1) := by decide +kernel
theorem dX8_isAhead_9 : decode cX8_isAhead 9 = .ok (.iaload, 1) := by decide +kernel
theorem dX8_isAhead_10 : decode cX8_isAhead 10 = .ok (.aload_n 0, 1) := by decide +kernel
theorem dX8_isAhead_11 : decode cX8_isAhead 11 = .ok (.getfield 13, 3) := by decide +kernel
theorem dX8_isAhead_14 : decode cX8_isAhead 14 = .ok (.iconst 4, 1) := by decide +kernel
theorem dX8_isAhead_15 : decode cX8_isAhead 15 = .ok (.iload_n 2, 1) := by decide +kernel
theorem dX8_isAhead_16 : decode cX8_isAhead 16 = .ok (.imul, 1) := by decide +kernel
theorem dX8_isAhead_17 : decode cX8_isAhead 17 = .ok (.iconst 1, 1) := by decide +kernel
theorem dX8_isAhead_18 : decode cX8_isAhead 18 = .ok (.iadd, 1) := by decide +kernel
theorem dX8_isAhead_19 : decode cX8_isAhead 19 = .ok (.iaload, 1) := by decide +kernel
theorem dX8_isAhead_20 : decode cX8_isAhead 20 = .ok (.if_icmp .eq 34, 3) := by decide +kernel
theorem dX8_isAhead_23 : decode cX8_isAhead 23 = .ok (.aload_n 0, 1) := by decide +kernel
theorem dX8_isAhead_24 : decode cX8_isAhead 24 = .ok (.getfield 13, 3) := by decide +kernel
theorem dX8_isAhead_27 : decode cX8_isAhead 27 = .ok (.iconst 4, 1) := by decide +kernel
theorem dX8_isAhead_28 : decode cX8_isAhead 28 = .ok (.iload_n 1, 1) := by decide +kernel
theorem dX8_isAhead_29 : decode cX8_isAhead 29 = .ok (.imul, 1) := by decide +kernel
theorem dX8_isAhead_30 : decode cX8_isAhead 30 = .ok (.iconst 1, 1) := by decide +kernel
theorem dX8_isAhead_31 : decode cX8_isAhead 31 = .ok (.iadd, 1) := by decide +kernel
theorem dX8_isAhead_32 : decode cX8_isAhead 32 = .ok (.iaload, 1) := by decide +kernel
theorem dX8_isAhead_33 : decode cX8_isAhead 33 = .ok (.aload_n 0, 1) := by decide +kernel
theorem dX8_isAhead_34 : decode cX8_isAhead 34 = .ok (.getfield 13, 3) := by decide +kernel
theorem dX8_isAhead_37 : decode cX8_isAhead 37 = .ok (.iconst 4, 1) := by decide +kernel
theorem dX8_isAhead_38 : decode cX8_isAhead 38 = .ok (.iload_n 2, 1) := by decide +kernel
theorem dX8_isAhead_39 : decode cX8_isAhead 39 = .ok (.imul, 1) := by decide +kernel
theorem dX8_isAhead_40 : decode cX8_isAhead 40 = .ok (.iconst 1, 1) := by decide +kernel
theorem dX8_isAhead_41 : decode cX8_isAhead 41 = .ok (.iadd, 1) := by decide +kernel
theorem dX8_isAhead_42 : decode cX8_isAhead 42 = .ok (.iaload, 1) := by decide +kernel
theorem dX8_isAhead_43 : decode cX8_isAhead 43 = .ok (.if_icmp .ge 7, 3) := by decide +kernel
theorem dX8_isAhead_46 : decode cX8_isAhead 46 = .ok (.iconst 1, 1) := by decide +kernel
theorem dX8_isAhead_47 : decode cX8_isAhead 47 = .ok (.goto 17, 3) := by decide +kernel
theorem dX8_isAhead_50 : decode cX8_isAhead 50 = .ok (.iconst 0, 1) := by decide +kernel
theorem dX8_isAhead_51 : decode cX8_isAhead 51 = .ok (.goto 13, 3) := by decide +kernel
theorem dX8_isAhead_54 : decode cX8_isAhead 54 = .ok (.iload_n 1, 1) := by decide +kernel
theorem dX8_isAhead_55 : decode cX8_isAhead 55 = .ok (.iload_n 2, 1) := by decide +kernel
theorem dX8_isAhead_56 : decode cX8_isAhead 56 = .ok (.if_icmp .ge 7, 3) := by decide +kernel
theorem dX8_isAhead_59 : decode cX8_isAhead 59 = .ok (.iconst 1, 1) := by decide +kernel
theorem dX8_isAhead_60 : decode cX8_isAhead 60 = .ok (.goto 4, 3) := by decide +kernel
theorem dX8_isAhead_63 : decode cX8_isAhead 63 = .ok (.iconst 0, 1) := by decide +kernel
theorem dX8_isAhead_64 : decode cX8_isAhead 64 = .ok (.ireturn, 1) := by decide +kernel
set_option maxRecDepth 20000 in
theorem ggX8_classAt_X8_isAhead : GoodIn wsX8_classAt wsX8_isAhead := goodIn_r _ [7, 2, 8, 9, 10, 11, 12, 13, 14, 15, 16, 17, 18, 19, 20, 21, 22, 23, 24, 25, 26, 27, 28, 29, 30, 31, 32, 33, 34, 35, 36, 37, 38, 39] (by decide +kernel) (by decide +kernel)
set_option maxRecDepth 20000 in
theorem gX8_classAt_X8_isAhead : GoodIn wsX8_classAt (wsV RX8 159 RX8 yX8_isAhead wsX8_isAhead) := goodIn_app (goodIn_of _ (by decide +kernel)) ggX8_classAt_X8_isAhead
theorem dX8_classAt_0 : decode cX8_classAt 0 = .ok (.iconst 0, 1) := by decide +kernel
theorem dX8_classAt_1 : decode cX8_classAt 1 = .ok (.istore_n 3, 1) := by decide +kernel
theorem dX8_classAt_2 : decode cX8_classAt 2 = .ok (.iload_n 3, 1) := by decide +kernel
theorem dX8_classAt_3 : decode cX8_classAt 3 = .ok (.aload_n 0, 1) := by decide +kernel
theorem dX8_classAt_4 : decode cX8_classAt 4 = .ok (.getfield 64, 3) := by decide +kernel
theorem dX8_classAt_7 : decode cX8_classAt 7 = .ok (.if_icmp .ge 83, 3) := by decide +kernel
theorem dX8_classAt_10 : decode cX8_classAt 10 = .ok (.iconst 0, 1) := by decide +kernel
theorem dX8_classAt_11 : decode cX8_classAt 11 = .ok (.istore 4, 2) := by decide +kernel
theorem dX8_classAt_13 : decode cX8_classAt 13 = .ok (.iconst 0, 1) := by decide +kernel
theorem dX8_classAt_14 : decode cX8_classAt 14 = .ok (.istore 5, 2) := by decide +kernel
theorem dX8_classAt_16 : decode cX8_classAt 16 = .ok (.iload 5, 2) := by decide +kernel
theorem dX8_classAt_18 : decode cX8_classAt 18 = .ok (.aload_n 0, 1) := by decide +kernel
theorem dX8_classAt_19 : decode cX8_classAt 19 = .ok (.getfield 64, 3) := by decide +kernel
theorem dX8_classAt_22 : decode cX8_classAt 22 = .ok (.if_icmp .ge 42, 3) := by decide +kernel
theorem dX8_classAt_25 : decode cX8_classAt 25 = .ok (.iload 4, 2) := by decide +kernel
theorem dX8_classAt_27 : decode cX8_classAt 27 = .ok (.aload_n 0, 1) := by decide +kernel
theorem dX8_classAt_28 : decode cX8_classAt 28 = .ok (.getfield 13, 3) := by decide +kernel
theorem dX8_classAt_31 : decode cX8_classAt 31 = .ok (.iconst 4, 1) := by decide +kernel
theorem dX8_classAt_32 : decode cX8_classAt 32 = .ok (.iload 5, 2) := by decide +kernel
theorem dX8_classAt_34 : decode cX8_classAt 34 = .ok (.imul, 1) := by decide +kernel
theorem dX8_classAt_35 : decode cX8_classAt 35 = .ok (.iaload, 1) := by decide +kernel
theorem dX8_classAt_36 : decode cX8_classAt 36 = .ok (.iload_n 1, 1) := by decide +kernel
theorem dX8_classAt_37 : decode cX8_classAt 37 = .ok (.if_icmp .ne 17, 3) := by decide +kernel
theorem dX8_classAt_40 : decode cX8_classAt 40 = .ok (.aload_n 0, 1) := by decide +kernel
theorem dX8_classAt_41 : decode cX8_classAt 41 = .ok (.iload 5, 2) := by decide +kernel
theorem dX8_classAt_43 : decode cX8_classAt 43 = .ok (.iload_n 3, 1) := by decide +kernel
theorem dX8_classAt_44 : decode cX8_classAt 44 = .ok (.invokevirtual 159, 3) := by decide +kernel
theorem dX8_classAt_47 : decode cX8_classAt 47 = .ok (.ifCond .eq 7, 3) := by decide +kernel
theorem dX8_classAt_50 : decode cX8_classAt 50 = .ok (.iconst 1, 1) := by decide +kernel
theorem dX8_classAt_51 : decode cX8_classAt 51 = .ok (.goto 4, 3) := by decide +kernel
theorem dX8_classAt_54 : decode cX8_classAt 54 = .ok (.iconst 0, 1) := by decide +kernel
theorem dX8_classAt_55 : decode cX8_classAt 55 = .ok (.iadd, 1) := by decide +kernel
theorem dX8_classAt_56 : decode cX8_classAt 56 = .ok (.istore 4, 2) := by decide +kernel
theorem dX8_classAt_58 : decode cX8_classAt 58 = .ok (.iinc 5 1, 3) := by decide +kernel
theorem dX8_classAt_61 : decode cX8_classAt 61 = .ok (.goto (-45), 3) := by decide +kernel
theorem dX8_classAt_64 : decode cX8_classAt 64 = .ok (.aload_n 0, 1) := by decide +kernel
theorem dX8_classAt_65 : decode cX8_classAt 65 = .ok (.getfield 13, 3) := by decide +kernel
theorem dX8_classAt_68 : decode cX8_classAt 68 = .ok (.iconst 4, 1) := by decide +kernel
theorem dX8_classAt_69 : decode cX8_classAt 69 = .ok (.iload_n 3, 1) := by decide +kernel
theorem dX8_classAt_70 : decode cX8_classAt 70 = .ok (.imul, 1) := by decide +kernel
theorem dX8_classAt_71 : decode cX8_classAt 71 = .ok (.iaload, 1) := by decide +kernel
theorem dX8_classAt_72 : decode cX8_classAt 72 = .ok (.iload_n 1, 1) := by decide +kernel
theorem dX8_classAt_73 : decode cX8_classAt 73 = .ok (.if_icmp .ne 11, 3) := by decide +kernel
theorem dX8_classAt_76 : decode cX8_classAt 76 = .ok (.iload 4, 2) := by decide +kernel
theorem dX8_classAt_78 : decode cX8_classAt 78 = .ok (.iload_n 2, 1) := by decide +kernel
theorem dX8_classAt_79 : decode cX8_classAt 79 = .ok (.if_icmp .ne 5, 3) := by decide +kernel
theorem dX8_classAt_82 : decode cX8_classAt 82 = .ok (.iload_n 3, 1) := by decide +kernel
theorem dX8_classAt_83 : decode cX8_classAt 83 = .ok (.ireturn, 1) := by decide +kernel
theorem dX8_classAt_84 : decode cX8_classAt 84 = .ok (.iinc 3 1, 3) := by decide +kernel
theorem dX8_classAt_87 : decode cX8_classAt 87 = .ok (.goto (-85), 3) := by decide +kernel
theorem dX8_classAt_90 : decode cX8_classAt 90 = .ok (.bipush (-9), 2) := by decide +kernel
theorem dX8_classAt_92 : decode cX8_classAt 92 = .ok (.ireturn, 1) := by decide +kernel
set_option maxRecDepth 20000 in
theorem ggX8_fills_X8_classAt : GoodIn wsX8_fills wsX8_classAt := goodIn_r _ [7, 1, 8, 9, 10, 11, 6, 12, 22, 23, 24, 25, 26, 27, 28, 29, 30, 31, 32, 33, 34, 35, 36, 37, 38, 39, 40, 41, 42, 43, 44, 45, 46, 47, 48, 49, 50, 51, 52, 53] (by decide +kernel) (by decide +kernel)
set_option maxRecDepth 20000 in
theorem gX8_fills_X8_classAt : GoodIn wsX8_fills (wsV RX8 162 RX8 yX8_classAt wsX8_classAt) := goodIn_app (goodIn_of _ (by decide +kernel)) ggX8_fills_X8_classAt
set_option maxRecDepth 20000 in
theorem ggX8_fills_X8_ofClass : GoodIn wsX8_fills wsX8_ofClass := goodIn_r _ [15] (by decide +kernel) (by decide +kernel)
set_option maxRecDepth 20000 in
theorem gX8_fills_X8_ofClass : GoodIn wsX8_fills (va_wsS RX8 143 yX8_ofClass wsX8_ofClass) := goodIn_app (goodIn_of _ (by decide +kernel)) ggX8_fills_X8_ofClass
set_option maxRecDepth 20000 in
theorem ggX8_fills_X8_less : GoodIn wsX8_fills wsX8_less := goodIn_r _ [18] (by decide +kernel) (by decide +kernel)
set_option maxRecDepth 20000 in
theorem gX8_fills_X8_less : GoodIn wsX8_fills (va_wsS RX8 165 yX8_less wsX8_less) := goodIn_app (goodIn_of _ (by decide +kernel)) ggX8_fills_X8_less
set_option maxRecDepth 20000 in
theorem ggX8_fills_X8_ofBlock : GoodIn wsX8_fills wsX8_ofBlock := goodIn_r _ [21] (by decide +kernel) (by decide +kernel)
set_option maxRecDepth 20000 in
theorem gX8_fills_X8_ofBlock : GoodIn wsX8_fills (va_wsS RX8 146 yX8_ofBlock wsX8_ofBlock) := goodIn_app (goodIn_of _ (by decide +kernel)) ggX8_fills_X8_ofBlock
theorem dX8_fills_0 : decode cX8_fills 0 = .ok (.iload_n 3, 1) := by decide +kernel
theorem dX8_fills_1 : decode cX8_fills 1 = .ok (.istore 5, 2) := by decide +kernel
theorem dX8_fills_3 : decode cX8_fills 3 = .ok (.iconst 0, 1) := by decide +kernel
theorem dX8_fills_4 : decode cX8_fills 4 = .ok (.istore 6, 2) := by decide +kernel
theorem dX8_fills_6 : decode cX8_fills 6 = .ok (.iload 6, 2) := by decide +kernel
theorem dX8_fills_8 : decode cX8_fills 8 = .ok (.aload_n 0, 1) := by decide +kernel
theorem dX8_fills_9 : decode cX8_fills 9 = .ok (.getfield 64, 3) := by decide +kernel
theorem dX8_fills_12 : decode cX8_fills 12 = .ok (.if_icmp .ge 137, 3) := by decide +kernel
theorem dX8_fills_15 : decode cX8_fills 15 = .ok (.aload_n 0, 1) := by decide +kernel
theorem dX8_fills_16 : decode cX8_fills 16 = .ok (.iload_n 2, 1) := by decide +kernel
theorem dX8_fills_17 : decode cX8_fills 17 = .ok (.iload 6, 2) := by decide +kernel
theorem dX8_fills_19 : decode cX8_fills 19 = .ok (.invokevirtual 162, 3) := by decide +kernel
theorem dX8_fills_22 : decode cX8_fills 22 = .ok (.istore 7, 2) := by decide +kernel
theorem dX8_fills_24 : decode cX8_fills 24 = .ok (.iload 7, 2) := by decide +kernel
theorem dX8_fills_26 : decode cX8_fills 26 = .ok (.bipush (-9), 2) := by decide +kernel
theorem dX8_fills_28 : decode cX8_fills 28 = .ok (.if_icmp .eq 115, 3) := by decide +kernel
theorem dX8_fills_31 : decode cX8_fills 31 = .ok (.aload_n 0, 1) := by decide +kernel
theorem dX8_fills_32 : decode cX8_fills 32 = .ok (.getfield 22, 3) := by decide +kernel
theorem dX8_fills_35 : decode cX8_fills 35 = .ok (.iload 7, 2) := by decide +kernel
theorem dX8_fills_37 : decode cX8_fills 37 = .ok (.iconst 0, 1) := by decide +kernel
theorem dX8_fills_38 : decode cX8_fills 38 = .ok (.invokestatic 143, 3) := by decide +kernel
theorem dX8_fills_41 : decode cX8_fills 41 = .ok (.iaload, 1) := by decide +kernel
theorem dX8_fills_42 : decode cX8_fills 42 = .ok (.iload 5, 2) := by decide +kernel
theorem dX8_fills_44 : decode cX8_fills 44 = .ok (.invokestatic 165, 3) := by decide +kernel
theorem dX8_fills_47 : decode cX8_fills 47 = .ok (.istore 8, 2) := by decide +kernel
theorem dX8_fills_49 : decode cX8_fills 49 = .ok (.iload 4, 2) := by decide +kernel
theorem dX8_fills_51 : decode cX8_fills 51 = .ok (.ifCond .eq 22, 3) := by decide +kernel
theorem dX8_fills_54 : decode cX8_fills 54 = .ok (.iload 8, 2) := by decide +kernel
theorem dX8_fills_56 : decode cX8_fills 56 = .ok (.aload_n 0, 1) := by decide +kernel
theorem dX8_fills_57 : decode cX8_fills 57 = .ok (.getfield 22, 3) := by decide +kernel
theorem dX8_fills_60 : decode cX8_fills 60 = .ok (.iload 7, 2) := by decide +kernel
theorem dX8_fills_62 : decode cX8_fills 62 = .ok (.iconst 1, 1) := by decide +kernel
theorem dX8_fills_63 : decode cX8_fills 63 = .ok (.invokestatic 143, 3) := by decide +kernel
theorem dX8_fills_66 : decode cX8_fills 66 = .ok (.iaload, 1) := by decide +kernel
theorem dX8_fills_67 : decode cX8_fills 67 = .ok (.invokestatic 165, 3) := by decide +kernel
theorem dX8_fills_70 : decode cX8_fills 70 = .ok (.goto 5, 3) := by decide +kernel
theorem dX8_fills_73 : decode cX8_fills 73 = .ok (.iload 8, 2) := by decide +kernel
theorem dX8_fills_75 : decode cX8_fills 75 = .ok (.istore 8, 2) := by decide +kernel
theorem dX8_fills_77 : decode cX8_fills 77 = .ok (.aload_n 0, 1) := by decide +kernel
theorem dX8_fills_78 : decode cX8_fills 78 = .ok (.getfield 22, 3) := by decide +kernel
theorem dX8_fills_81 : decode cX8_fills 81 = .ok (.iload 7, 2) := by decide +kernel
theorem dX8_fills_83 : decode cX8_fills 83 = .ok (.iconst 0, 1) := by decide +kernel
theorem dX8_fills_84 : decode cX8_fills 84 = .ok (.invokestatic 143, 3) := by decide +kernel
theorem dX8_fills_87 : decode cX8_fills 87 = .ok (.dup2, 1) := by decide +kernel
theorem dX8_fills_88 : decode cX8_fills 88 = .ok (.iaload, 1) := by decide +kernel
theorem dX8_fills_89 : decode cX8_fills 89 = .ok (.iload 8, 2) := by decide +kernel
theorem dX8_fills_91 : decode cX8_fills 91 = .ok (.isub, 1) := by decide +kernel
theorem dX8_fills_92 : decode cX8_fills 92 = .ok (.iastore, 1) := by decide +kernel
theorem dX8_fills_93 : decode cX8_fills 93 = .ok (.aload_n 0, 1) := by decide +kernel
theorem dX8_fills_94 : decode cX8_fills 94 = .ok (.getfield 22, 3) := by decide +kernel
theorem dX8_fills_97 : decode cX8_fills 97 = .ok (.iload 7, 2) := by decide +kernel
theorem dX8_fills_99 : decode cX8_fills 99 = .ok (.iconst 1, 1) := by decide +kernel
theorem dX8_fills_100 : decode cX8_fills 100 = .ok (.invokestatic 143, 3) := by decide +kernel
theorem dX8_fills_103 : decode cX8_fills 103 = .ok (.dup2, 1) := by decide +kernel
theorem dX8_fills_104 : decode cX8_fills 104 = .ok (.iaload, 1) := by decide +kernel
theorem dX8_fills_105 : decode cX8_fills 105 = .ok (.iload 4, 2) := by decide +kernel
theorem dX8_fills_107 : decode cX8_fills 107 = .ok (.ifCond .eq 8, 3) := by decide +kernel
theorem dX8_fills_110 : decode cX8_fills 110 = .ok (.iload 8, 2) := by decide +kernel
theorem dX8_fills_112 : decode cX8_fills 112 = .ok (.goto 4, 3) := by decide +kernel
theorem dX8_fills_115 : decode cX8_fills 115 = .ok (.iconst 0, 1) := by decide +kernel
theorem dX8_fills_116 : decode cX8_fills 116 = .ok (.isub, 1) := by decide +kernel
theorem dX8_fills_117 : decode cX8_fills 117 = .ok (.iastore, 1) := by decide +kernel
theorem dX8_fills_118 : decode cX8_fills 118 = .ok (.aload_n 0, 1) := by decide +kernel
theorem dX8_fills_119 : decode cX8_fills 119 = .ok (.getfield 22, 3) := by decide +kernel
theorem dX8_fills_122 : decode cX8_fills 122 = .ok (.iload_n 1, 1) := by decide +kernel
theorem dX8_fills_123 : decode cX8_fills 123 = .ok (.iconst 4, 1) := by decide +kernel
theorem dX8_fills_124 : decode cX8_fills 124 = .ok (.iload 7, 2) := by decide +kernel
theorem dX8_fills_126 : decode cX8_fills 126 = .ok (.iadd, 1) := by decide +kernel
theorem dX8_fills_127 : decode cX8_fills 127 = .ok (.invokestatic 146, 3) := by decide +kernel
theorem dX8_fills_130 : decode cX8_fills 130 = .ok (.dup2, 1) := by decide +kernel
theorem dX8_fills_131 : decode cX8_fills 131 = .ok (.iaload, 1) := by decide +kernel
theorem dX8_fills_132 : decode cX8_fills 132 = .ok (.iload 8, 2) := by decide +kernel
theorem dX8_fills_134 : decode cX8_fills 134 = .ok (.iadd, 1) := by decide +kernel
theorem dX8_fills_135 : decode cX8_fills 135 = .ok (.iastore, 1) := by decide +kernel
theorem dX8_fills_136 : decode cX8_fills 136 = .ok (.iload 5, 2) := by decide +kernel
theorem dX8_fills_138 : decode cX8_fills 138 = .ok (.iload 8, 2) := by decide +kernel
theorem dX8_fills_140 : decode cX8_fills 140 = .ok (.isub, 1) := by decide +kernel
theorem dX8_fills_141 : decode cX8_fills 141 = .ok (.istore 5, 2) := by decide +kernel
theorem dX8_fills_143 : decode cX8_fills 143 = .ok (.iinc 6 1, 3) := by decide +kernel
theorem dX8_fills_146 : decode cX8_fills 146 = .ok (.goto (-140), 3) := by decide +kernel
theorem dX8_fills_149 : decode cX8_fills 149 = .ok (.iload_n 3, 1) := by decide +kernel
theorem dX8_fills_150 : decode cX8_fills 150 = .ok (.iload 5, 2) := by decide +kernel
theorem dX8_fills_152 : decode cX8_fills 152 = .ok (.isub, 1) := by decide +kernel
theorem dX8_fills_153 : decode cX8_fills 153 = .ok (.ireturn, 1) := by decide +kernel
set_option maxRecDepth 20000 in
theorem ggX8_packs_X8_ofBlock : GoodIn wsX8_packs wsX8_ofBlock := goodIn_r _ [5] (by decide +kernel) (by decide +kernel)
set_option maxRecDepth 20000 in
theorem gX8_packs_X8_ofBlock : GoodIn wsX8_packs (va_wsS RX8 146 yX8_ofBlock wsX8_ofBlock) := goodIn_app (goodIn_of _ (by decide +kernel)) ggX8_packs_X8_ofBlock
set_option maxRecDepth 20000 in
theorem ggX8_packs_X8_ofTerminal : GoodIn wsX8_packs wsX8_ofTerminal := goodIn_r _ [8] (by decide +kernel) (by decide +kernel)
set_option maxRecDepth 20000 in
theorem gX8_packs_X8_ofTerminal : GoodIn wsX8_packs (va_wsS RX8 139 yX8_ofTerminal wsX8_ofTerminal) := goodIn_app (goodIn_of _ (by decide +kernel)) ggX8_packs_X8_ofTerminal
set_option maxRecDepth 20000 in
theorem ggX8_packs_X8_fills : GoodIn wsX8_packs wsX8_fills := goodIn_r _ [12, 13, 1, 14, 15, 16, 4, 17, 18, 19, 20, 21, 22, 23, 24, 25, 26, 27, 28, 2, 3, 5, 56, 57, 58, 59, 60, 61, 62, 63, 64, 65, 66, 67, 68, 69, 70, 71, 72, 73, 74, 75, 76, 77, 78, 79, 80, 81, 82, 83, 84, 85, 86, 87] (by decide +kernel) (by decide +kernel)
set_option maxRecDepth 20000 in
theorem gX8_packs_X8_fills : GoodIn wsX8_packs (wsV RX8 168 RX8 yX8_fills wsX8_fills) := goodIn_app (goodIn_of _ (by decide +kernel)) ggX8_packs_X8_fills
set_option maxRecDepth 20000 in
theorem ggX8_packs_X8_waitsOf : GoodIn wsX8_packs wsX8_waitsOf := goodIn_r _ [32, 13, 18, 1, 23, 24, 4, 25, 56, 57, 58, 59, 60, 61, 62, 63, 64, 65, 66, 67, 68, 69, 70, 71, 72, 73, 74, 75, 76, 77, 78, 79, 80, 81, 82, 83, 84, 85, 86, 87] (by decide +kernel) (by decide +kernel)
set_option maxRecDepth 20000 in
theorem gX8_packs_X8_waitsOf : GoodIn wsX8_packs (wsV RX8 172 RX8 yX8_waitsOf wsX8_waitsOf) := goodIn_app (goodIn_of _ (by decide +kernel)) ggX8_packs_X8_waitsOf
set_option maxRecDepth 20000 in
theorem ggX8_packs_X8_inBlock : GoodIn wsX8_packs wsX8_inBlock := goodIn_r _ [36, 1, 37, 38, 39, 4, 40, 13, 2, 3, 5, 56, 57, 58, 59, 60, 61, 62, 63, 64, 65, 66, 67, 68, 69, 70, 71, 72, 73, 74, 75, 76, 77, 78, 79, 80, 81, 82, 83, 84, 85, 86, 87] (by decide +kernel) (by decide +kernel)
set_option maxRecDepth 20000 in
theorem gX8_packs_X8_inBlock : GoodIn wsX8_packs (wsV RX8 175 RX8 yX8_inBlock wsX8_inBlock) := goodIn_app (goodIn_of _ (by decide +kernel)) ggX8_packs_X8_inBlock
set_option maxRecDepth 20000 in
theorem ggX8_packs_X8_sends : GoodIn wsX8_packs wsX8_sends := goodIn_r _ [44, 1, 45, 46, 13, 47, 2, 3, 4, 5, 48, 49, 50, 51, 6, 7, 8, 23, 24, 25, 37, 38, 39, 40, 56, 57, 58, 59, 60, 61, 62, 63, 64, 65, 66, 67, 68, 69, 70, 71, 72, 73, 74, 75, 76, 77, 78, 79, 80, 81, 82, 83, 84, 85, 86, 87] (by decide +kernel) (by decide +kernel)
set_option maxRecDepth 20000 in
theorem gX8_packs_X8_sends : GoodIn wsX8_packs (wsV RX8 178 RX8 yX8_sends wsX8_sends) := goodIn_app (goodIn_of _ (by decide +kernel)) ggX8_packs_X8_sends
set_option maxRecDepth 20000 in
theorem ggX8_packs_X8_clearsGone : GoodIn wsX8_packs wsX8_clearsGone := goodIn_r _ [55, 1, 2, 3, 4, 5, 56, 57, 58, 59, 60, 61, 62, 63, 64, 65, 66, 67, 68, 69, 70, 71, 72, 73, 74, 75, 76, 77, 78, 79, 80, 81, 82, 83, 84, 85, 86, 87] (by decide +kernel) (by decide +kernel)
set_option maxRecDepth 20000 in
theorem gX8_packs_X8_clearsGone : GoodIn wsX8_packs (wsV RX8 182 RX8 yX8_clearsGone wsX8_clearsGone) := goodIn_app (goodIn_of _ (by decide +kernel)) ggX8_packs_X8_clearsGone
theorem dX8_packs_0 : decode cX8_packs 0 = .ok (.aload_n 0, 1) := by decide +kernel
theorem dX8_packs_1 : decode cX8_packs 1 = .ok (.getfield 22, 3) := by decide +kernel
theorem dX8_packs_4 : decode cX8_packs 4 = .ok (.iconst 3, 1) := by decide +kernel
theorem dX8_packs_5 : decode cX8_packs 5 = .ok (.iaload, 1) := by decide +kernel
theorem dX8_packs_6 : decode cX8_packs 6 = .ok (.istore_n 3, 1) := by decide +kernel
theorem dX8_packs_7 : decode cX8_packs 7 = .ok (.iconst 0, 1) := by decide +kernel
theorem dX8_packs_8 : decode cX8_packs 8 = .ok (.istore 4, 2) := by decide +kernel
theorem dX8_packs_10 : decode cX8_packs 10 = .ok (.iload 4, 2) := by decide +kernel
theorem dX8_packs_12 : decode cX8_packs 12 = .ok (.bipush 10, 2) := by decide +kernel
theorem dX8_packs_14 : decode cX8_packs 14 = .ok (.if_icmp .ge 21, 3) := by decide +kernel
theorem dX8_packs_17 : decode cX8_packs 17 = .ok (.aload_n 0, 1) := by decide +kernel
theorem dX8_packs_18 : decode cX8_packs 18 = .ok (.getfield 22, 3) := by decide +kernel
theorem dX8_packs_21 : decode cX8_packs 21 = .ok (.iload_n 3, 1) := by decide +kernel
theorem dX8_packs_22 : decode cX8_packs 22 = .ok (.iload 4, 2) := by decide +kernel
theorem dX8_packs_24 : decode cX8_packs 24 = .ok (.invokestatic 146, 3) := by decide +kernel
theorem dX8_packs_27 : decode cX8_packs 27 = .ok (.iconst 0, 1) := by decide +kernel
theorem dX8_packs_28 : decode cX8_packs 28 = .ok (.iastore, 1) := by decide +kernel
theorem dX8_packs_29 : decode cX8_packs 29 = .ok (.iinc 4 1, 3) := by decide +kernel
theorem dX8_packs_32 : decode cX8_packs 32 = .ok (.goto (-22), 3) := by decide +kernel
theorem dX8_packs_35 : decode cX8_packs 35 = .ok (.aload_n 0, 1) := by decide +kernel
theorem dX8_packs_36 : decode cX8_packs 36 = .ok (.getfield 22, 3) := by decide +kernel
theorem dX8_packs_39 : decode cX8_packs 39 = .ok (.iload_n 3, 1) := by decide +kernel
theorem dX8_packs_40 : decode cX8_packs 40 = .ok (.iconst 0, 1) := by decide +kernel
theorem dX8_packs_41 : decode cX8_packs 41 = .ok (.invokestatic 146, 3) := by decide +kernel
theorem dX8_packs_44 : decode cX8_packs 44 = .ok (.iload_n 1, 1) := by decide +kernel
theorem dX8_packs_45 : decode cX8_packs 45 = .ok (.iastore, 1) := by decide +kernel
theorem dX8_packs_46 : decode cX8_packs 46 = .ok (.aload_n 0, 1) := by decide +kernel
theorem dX8_packs_47 : decode cX8_packs 47 = .ok (.getfield 22, 3) := by decide +kernel
theorem dX8_packs_50 : decode cX8_packs 50 = .ok (.iload_n 1, 1) := by decide +kernel
theorem dX8_packs_51 : decode cX8_packs 51 = .ok (.iconst 0, 1) := by decide +kernel
theorem dX8_packs_52 : decode cX8_packs 52 = .ok (.invokestatic 139, 3) := by decide +kernel
theorem dX8_packs_55 : decode cX8_packs 55 = .ok (.iaload, 1) := by decide +kernel
theorem dX8_packs_56 : decode cX8_packs 56 = .ok (.iconst 1, 1) := by decide +kernel
theorem dX8_packs_57 : decode cX8_packs 57 = .ok (.if_icmp .ne 12, 3) := by decide +kernel
theorem dX8_packs_60 : decode cX8_packs 60 = .ok (.iload_n 2, 1) := by decide +kernel
theorem dX8_packs_61 : decode cX8_packs 61 = .ok (.iconst 1, 1) := by decide +kernel
theorem dX8_packs_62 : decode cX8_packs 62 = .ok (.if_icmp .le 7, 3) := by decide +kernel
theorem dX8_packs_65 : decode cX8_packs 65 = .ok (.iconst 1, 1) := by decide +kernel
theorem dX8_packs_66 : decode cX8_packs 66 = .ok (.goto 4, 3) := by decide +kernel
theorem dX8_packs_69 : decode cX8_packs 69 = .ok (.iconst 0, 1) := by decide +kernel
theorem dX8_packs_70 : decode cX8_packs 70 = .ok (.istore 4, 2) := by decide +kernel
theorem dX8_packs_72 : decode cX8_packs 72 = .ok (.iload 4, 2) := by decide +kernel
theorem dX8_packs_74 : decode cX8_packs 74 = .ok (.ifCond .eq 9, 3) := by decide +kernel
theorem dX8_packs_77 : decode cX8_packs 77 = .ok (.iload_n 2, 1) := by decide +kernel
theorem dX8_packs_78 : decode cX8_packs 78 = .ok (.iconst 2, 1) := by decide +kernel
theorem dX8_packs_79 : decode cX8_packs 79 = .ok (.isub, 1) := by decide +kernel
theorem dX8_packs_80 : decode cX8_packs 80 = .ok (.goto 4, 3) := by decide +kernel
theorem dX8_packs_83 : decode cX8_packs 83 = .ok (.iload_n 2, 1) := by decide +kernel
theorem dX8_packs_84 : decode cX8_packs 84 = .ok (.istore 5, 2) := by decide +kernel
theorem dX8_packs_86 : decode cX8_packs 86 = .ok (.iload 5, 2) := by decide +kernel
theorem dX8_packs_88 : decode cX8_packs 88 = .ok (.aload_n 0, 1) := by decide +kernel
theorem dX8_packs_89 : decode cX8_packs 89 = .ok (.iload_n 3, 1) := by decide +kernel
theorem dX8_packs_90 : decode cX8_packs 90 = .ok (.iload_n 1, 1) := by decide +kernel
theorem dX8_packs_91 : decode cX8_packs 91 = .ok (.iload 5, 2) := by decide +kernel
theorem dX8_packs_93 : decode cX8_packs 93 = .ok (.iconst 1, 1) := by decide +kernel
theorem dX8_packs_94 : decode cX8_packs 94 = .ok (.invokevirtual 168, 3) := by decide +kernel
theorem dX8_packs_97 : decode cX8_packs 97 = .ok (.isub, 1) := by decide +kernel
theorem dX8_packs_98 : decode cX8_packs 98 = .ok (.istore 5, 2) := by decide +kernel
theorem dX8_packs_100 : decode cX8_packs 100 = .ok (.iload 5, 2) := by decide +kernel
theorem dX8_packs_102 : decode cX8_packs 102 = .ok (.aload_n 0, 1) := by decide +kernel
theorem dX8_packs_103 : decode cX8_packs 103 = .ok (.iload_n 3, 1) := by decide +kernel
theorem dX8_packs_104 : decode cX8_packs 104 = .ok (.iload_n 1, 1) := by decide +kernel
theorem dX8_packs_105 : decode cX8_packs 105 = .ok (.iload 5, 2) := by decide +kernel
theorem dX8_packs_107 : decode cX8_packs 107 = .ok (.iconst 0, 1) := by decide +kernel
theorem dX8_packs_108 : decode cX8_packs 108 = .ok (.invokevirtual 168, 3) := by decide +kernel
theorem dX8_packs_111 : decode cX8_packs 111 = .ok (.isub, 1) := by decide +kernel
theorem dX8_packs_112 : decode cX8_packs 112 = .ok (.istore 5, 2) := by decide +kernel
theorem dX8_packs_114 : decode cX8_packs 114 = .ok (.iload 4, 2) := by decide +kernel
theorem dX8_packs_116 : decode cX8_packs 116 = .ok (.ifCond .ne 9, 3) := by decide +kernel
theorem dX8_packs_119 : decode cX8_packs 119 = .ok (.iload 5, 2) := by decide +kernel
theorem dX8_packs_121 : decode cX8_packs 121 = .ok (.iconst 1, 1) := by decide +kernel
theorem dX8_packs_122 : decode cX8_packs 122 = .ok (.if_icmp .le 7, 3) := by decide +kernel
theorem dX8_packs_125 : decode cX8_packs 125 = .ok (.iconst 1, 1) := by decide +kernel
theorem dX8_packs_126 : decode cX8_packs 126 = .ok (.goto 4, 3) := by decide +kernel
theorem dX8_packs_129 : decode cX8_packs 129 = .ok (.iconst 0, 1) := by decide +kernel
theorem dX8_packs_130 : decode cX8_packs 130 = .ok (.istore 4, 2) := by decide +kernel
theorem dX8_packs_132 : decode cX8_packs 132 = .ok (.aload_n 0, 1) := by decide +kernel
theorem dX8_packs_133 : decode cX8_packs 133 = .ok (.getfield 22, 3) := by decide +kernel
theorem dX8_packs_136 : decode cX8_packs 136 = .ok (.iload_n 3, 1) := by decide +kernel
theorem dX8_packs_137 : decode cX8_packs 137 = .ok (.iconst 3, 1) := by decide +kernel
theorem dX8_packs_138 : decode cX8_packs 138 = .ok (.invokestatic 146, 3) := by decide +kernel
theorem dX8_packs_141 : decode cX8_packs 141 = .ok (.iload 4, 2) := by decide +kernel
theorem dX8_packs_143 : decode cX8_packs 143 = .ok (.ifCond .eq 11, 3) := by decide +kernel
theorem dX8_packs_146 : decode cX8_packs 146 = .ok (.aload_n 0, 1) := by decide +kernel
theorem dX8_packs_147 : decode cX8_packs 147 = .ok (.iload_n 1, 1) := by decide +kernel
theorem dX8_packs_148 : decode cX8_packs 148 = .ok (.invokevirtual 172, 3) := by decide +kernel
theorem dX8_packs_151 : decode cX8_packs 151 = .ok (.goto 5, 3) := by decide +kernel
theorem dX8_packs_154 : decode cX8_packs 154 = .ok (.bipush (-9), 2) := by decide +kernel
theorem dX8_packs_156 : decode cX8_packs 156 = .ok (.iastore, 1) := by decide +kernel
theorem dX8_packs_157 : decode cX8_packs 157 = .ok (.aload_n 0, 1) := by decide +kernel
theorem dX8_packs_158 : decode cX8_packs 158 = .ok (.getfield 22, 3) := by decide +kernel
theorem dX8_packs_161 : decode cX8_packs 161 = .ok (.iload_n 1, 1) := by decide +kernel
theorem dX8_packs_162 : decode cX8_packs 162 = .ok (.iconst 0, 1) := by decide +kernel
theorem dX8_packs_163 : decode cX8_packs 163 = .ok (.invokestatic 139, 3) := by decide +kernel
theorem dX8_packs_166 : decode cX8_packs 166 = .ok (.iload 4, 2) := by decide +kernel
theorem dX8_packs_168 : decode cX8_packs 168 = .ok (.ifCond .eq 7, 3) := by decide +kernel
theorem dX8_packs_171 : decode cX8_packs 171 = .ok (.iconst 0, 1) := by decide +kernel
theorem dX8_packs_172 : decode cX8_packs 172 = .ok (.goto 13, 3) := by decide +kernel
theorem dX8_packs_175 : decode cX8_packs 175 = .ok (.aload_n 0, 1) := by decide +kernel
theorem dX8_packs_176 : decode cX8_packs 176 = .ok (.getfield 22, 3) := by decide +kernel
theorem dX8_packs_179 : decode cX8_packs 179 = .ok (.iload_n 1, 1) := by decide +kernel
theorem dX8_packs_180 : decode cX8_packs 180 = .ok (.iconst 0, 1) := by decide +kernel
theorem dX8_packs_181 : decode cX8_packs 181 = .ok (.invokestatic 139, 3) := by decide +kernel
theorem dX8_packs_184 : decode cX8_packs 184 = .ok (.iaload, 1) := by decide +kernel
theorem dX8_packs_185 : decode cX8_packs 185 = .ok (.iastore, 1) := by decide +kernel
theorem dX8_packs_186 : decode cX8_packs 186 = .ok (.aload_n 0, 1) := by decide +kernel
theorem dX8_packs_187 : decode cX8_packs 187 = .ok (.iload_n 3, 1) := by decide +kernel
theorem dX8_packs_188 : decode cX8_packs 188 = .ok (.invokevirtual 175, 3) := by decide +kernel
theorem dX8_packs_191 : decode cX8_packs 191 = .ok (.ifCond .le 25, 3) := by decide +kernel
theorem dX8_packs_194 : decode cX8_packs 194 = .ok (.aload_n 0, 1) := by decide +kernel
theorem dX8_packs_195 : decode cX8_packs 195 = .ok (.getfield 22, 3) := by decide +kernel
theorem dX8_packs_198 : decode cX8_packs 198 = .ok (.iconst 3, 1) := by decide +kernel
theorem dX8_packs_199 : decode cX8_packs 199 = .ok (.dup2, 1) := by decide +kernel
theorem dX8_packs_200 : decode cX8_packs 200 = .ok (.iaload, 1) := by decide +kernel
theorem dX8_packs_201 : decode cX8_packs 201 = .ok (.iconst 1, 1) := by decide +kernel
theorem dX8_packs_202 : decode cX8_packs 202 = .ok (.iadd, 1) := by decide +kernel
theorem dX8_packs_203 : decode cX8_packs 203 = .ok (.iastore, 1) := by decide +kernel
theorem dX8_packs_204 : decode cX8_packs 204 = .ok (.aload_n 0, 1) := by decide +kernel
theorem dX8_packs_205 : decode cX8_packs 205 = .ok (.iload_n 3, 1) := by decide +kernel
theorem dX8_packs_206 : decode cX8_packs 206 = .ok (.invokevirtual 178, 3) := by decide +kernel
theorem dX8_packs_209 : decode cX8_packs 209 = .ok (.aload_n 0, 1) := by decide +kernel
theorem dX8_packs_210 : decode cX8_packs 210 = .ok (.invokevirtual 182, 3) := by decide +kernel
theorem dX8_packs_213 : decode cX8_packs 213 = .ok (.goto 25, 3) := by decide +kernel
theorem dX8_packs_216 : decode cX8_packs 216 = .ok (.aload_n 0, 1) := by decide +kernel
theorem dX8_packs_217 : decode cX8_packs 217 = .ok (.getfield 22, 3) := by decide +kernel
theorem dX8_packs_220 : decode cX8_packs 220 = .ok (.iload_n 3, 1) := by decide +kernel
theorem dX8_packs_221 : decode cX8_packs 221 = .ok (.iconst 0, 1) := by decide +kernel
theorem dX8_packs_222 : decode cX8_packs 222 = .ok (.invokestatic 146, 3) := by decide +kernel
theorem dX8_packs_225 : decode cX8_packs 225 = .ok (.iconst 0, 1) := by decide +kernel
theorem dX8_packs_226 : decode cX8_packs 226 = .ok (.iastore, 1) := by decide +kernel
theorem dX8_packs_227 : decode cX8_packs 227 = .ok (.aload_n 0, 1) := by decide +kernel
theorem dX8_packs_228 : decode cX8_packs 228 = .ok (.getfield 22, 3) := by decide +kernel
theorem dX8_packs_231 : decode cX8_packs 231 = .ok (.iload_n 3, 1) := by decide +kernel
theorem dX8_packs_232 : decode cX8_packs 232 = .ok (.iconst 3, 1) := by decide +kernel
theorem dX8_packs_233 : decode cX8_packs 233 = .ok (.invokestatic 146, 3) := by decide +kernel
theorem dX8_packs_236 : decode cX8_packs 236 = .ok (.iconst 0, 1) := by decide +kernel
theorem dX8_packs_237 : decode cX8_packs 237 = .ok (.iastore, 1) := by decide +kernel
theorem dX8_packs_238 : decode cX8_packs 238 = .ok (.return_, 1) := by decide +kernel
set_option maxRecDepth 20000 in
theorem ggX8_asks_X8_ofTerminal : GoodIn wsX8_asks wsX8_ofTerminal := goodIn_r _ [7] (by decide +kernel) (by decide +kernel)
set_option maxRecDepth 20000 in
theorem gX8_asks_X8_ofTerminal : GoodIn wsX8_asks (va_wsS RX8 139 yX8_ofTerminal wsX8_ofTerminal) := goodIn_app (goodIn_of _ (by decide +kernel)) ggX8_asks_X8_ofTerminal
theorem dX8_asks_0 : decode cX8_asks 0 = .ok (.aload_n 0, 1) := by decide +kernel
theorem dX8_asks_1 : decode cX8_asks 1 = .ok (.getfield 22, 3) := by decide +kernel
theorem dX8_asks_4 : decode cX8_asks 4 = .ok (.iconst 0, 1) := by decide +kernel
theorem dX8_asks_5 : decode cX8_asks 5 = .ok (.iaload, 1) := by decide +kernel
theorem dX8_asks_6 : decode cX8_asks 6 = .ok (.istore_n 2, 1) := by decide +kernel
theorem dX8_asks_7 : decode cX8_asks 7 = .ok (.aload_n 0, 1) := by decide +kernel
theorem dX8_asks_8 : decode cX8_asks 8 = .ok (.getfield 22, 3) := by decide +kernel
theorem dX8_asks_11 : decode cX8_asks 11 = .ok (.iload_n 1, 1) := by decide +kernel
theorem dX8_asks_12 : decode cX8_asks 12 = .ok (.iconst 0, 1) := by decide +kernel
theorem dX8_asks_13 : decode cX8_asks 13 = .ok (.invokestatic 139, 3) := by decide +kernel
theorem dX8_asks_16 : decode cX8_asks 16 = .ok (.iaload, 1) := by decide +kernel
theorem dX8_asks_17 : decode cX8_asks 17 = .ok (.iconst 1, 1) := by decide +kernel
theorem dX8_asks_18 : decode cX8_asks 18 = .ok (.if_icmp .ne 79, 3) := by decide +kernel
theorem dX8_asks_21 : decode cX8_asks 21 = .ok (.iload_n 2, 1) := by decide +kernel
theorem dX8_asks_22 : decode cX8_asks 22 = .ok (.aload_n 0, 1) := by decide +kernel
theorem dX8_asks_23 : decode cX8_asks 23 = .ok (.getfield 7, 3) := by decide +kernel
theorem dX8_asks_26 : decode cX8_asks 26 = .ok (.iload_n 1, 1) := by decide +kernel
theorem dX8_asks_27 : decode cX8_asks 27 = .ok (.iaload, 1) := by decide +kernel
theorem dX8_asks_28 : decode cX8_asks 28 = .ok (.irem, 1) := by decide +kernel
theorem dX8_asks_29 : decode cX8_asks 29 = .ok (.iload_n 1, 1) := by decide +kernel
theorem dX8_asks_30 : decode cX8_asks 30 = .ok (.aload_n 0, 1) := by decide +kernel
theorem dX8_asks_31 : decode cX8_asks 31 = .ok (.getfield 7, 3) := by decide +kernel
theorem dX8_asks_34 : decode cX8_asks 34 = .ok (.iload_n 1, 1) := by decide +kernel
theorem dX8_asks_35 : decode cX8_asks 35 = .ok (.iaload, 1) := by decide +kernel
theorem dX8_asks_36 : decode cX8_asks 36 = .ok (.irem, 1) := by decide +kernel
theorem dX8_asks_37 : decode cX8_asks 37 = .ok (.if_icmp .ne 60, 3) := by decide +kernel
theorem dX8_asks_40 : decode cX8_asks 40 = .ok (.iload_n 2, 1) := by decide +kernel
theorem dX8_asks_41 : decode cX8_asks 41 = .ok (.aload_n 0, 1) := by decide +kernel
theorem dX8_asks_42 : decode cX8_asks 42 = .ok (.getfield 22, 3) := by decide +kernel
theorem dX8_asks_45 : decode cX8_asks 45 = .ok (.iload_n 1, 1) := by decide +kernel
theorem dX8_asks_46 : decode cX8_asks 46 = .ok (.iconst 1, 1) := by decide +kernel
theorem dX8_asks_47 : decode cX8_asks 47 = .ok (.invokestatic 139, 3) := by decide +kernel
theorem dX8_asks_50 : decode cX8_asks 50 = .ok (.iaload, 1) := by decide +kernel
theorem dX8_asks_51 : decode cX8_asks 51 = .ok (.if_icmp .lt 46, 3) := by decide +kernel
theorem dX8_asks_54 : decode cX8_asks 54 = .ok (.aload_n 0, 1) := by decide +kernel
theorem dX8_asks_55 : decode cX8_asks 55 = .ok (.getfield 22, 3) := by decide +kernel
theorem dX8_asks_58 : decode cX8_asks 58 = .ok (.iload_n 1, 1) := by decide +kernel
theorem dX8_asks_59 : decode cX8_asks 59 = .ok (.iconst 2, 1) := by decide +kernel
theorem dX8_asks_60 : decode cX8_asks 60 = .ok (.invokestatic 139, 3) := by decide +kernel
theorem dX8_asks_63 : decode cX8_asks 63 = .ok (.iconst 1, 1) := by decide +kernel
theorem dX8_asks_64 : decode cX8_asks 64 = .ok (.iastore, 1) := by decide +kernel
theorem dX8_asks_65 : decode cX8_asks 65 = .ok (.aload_n 0, 1) := by decide +kernel
theorem dX8_asks_66 : decode cX8_asks 66 = .ok (.getfield 22, 3) := by decide +kernel
theorem dX8_asks_69 : decode cX8_asks 69 = .ok (.iload_n 1, 1) := by decide +kernel
theorem dX8_asks_70 : decode cX8_asks 70 = .ok (.iconst 4, 1) := by decide +kernel
theorem dX8_asks_71 : decode cX8_asks 71 = .ok (.invokestatic 139, 3) := by decide +kernel
theorem dX8_asks_74 : decode cX8_asks 74 = .ok (.dup2, 1) := by decide +kernel
theorem dX8_asks_75 : decode cX8_asks 75 = .ok (.iaload, 1) := by decide +kernel
theorem dX8_asks_76 : decode cX8_asks 76 = .ok (.iconst 1, 1) := by decide +kernel
theorem dX8_asks_77 : decode cX8_asks 77 = .ok (.iadd, 1) := by decide +kernel
theorem dX8_asks_78 : decode cX8_asks 78 = .ok (.iastore, 1) := by decide +kernel
theorem dX8_asks_79 : decode cX8_asks 79 = .ok (.aload_n 0, 1) := by decide +kernel
theorem dX8_asks_80 : decode cX8_asks 80 = .ok (.getfield 22, 3) := by decide +kernel
theorem dX8_asks_83 : decode cX8_asks 83 = .ok (.iload_n 1, 1) := by decide +kernel
theorem dX8_asks_84 : decode cX8_asks 84 = .ok (.iconst 1, 1) := by decide +kernel
theorem dX8_asks_85 : decode cX8_asks 85 = .ok (.invokestatic 139, 3) := by decide +kernel
theorem dX8_asks_88 : decode cX8_asks 88 = .ok (.iload_n 2, 1) := by decide +kernel
theorem dX8_asks_89 : decode cX8_asks 89 = .ok (.aload_n 0, 1) := by decide +kernel
theorem dX8_asks_90 : decode cX8_asks 90 = .ok (.getfield 121, 3) := by decide +kernel
theorem dX8_asks_93 : decode cX8_asks 93 = .ok (.iadd, 1) := by decide +kernel
theorem dX8_asks_94 : decode cX8_asks 94 = .ok (.iconst 1, 1) := by decide +kernel
theorem dX8_asks_95 : decode cX8_asks 95 = .ok (.iadd, 1) := by decide +kernel
theorem dX8_asks_96 : decode cX8_asks 96 = .ok (.iastore, 1) := by decide +kernel
theorem dX8_asks_97 : decode cX8_asks 97 = .ok (.return_, 1) := by decide +kernel
set_option maxRecDepth 20000 in
theorem ggX8_sendsAgain_X8_ofBlock : GoodIn wsX8_sendsAgain wsX8_ofBlock := goodIn_r _ [6] (by decide +kernel) (by decide +kernel)
set_option maxRecDepth 20000 in
theorem gX8_sendsAgain_X8_ofBlock : GoodIn wsX8_sendsAgain (va_wsS RX8 146 yX8_ofBlock wsX8_ofBlock) := goodIn_app (goodIn_of _ (by decide +kernel)) ggX8_sendsAgain_X8_ofBlock
set_option maxRecDepth 20000 in
theorem ggX8_sendsAgain_X8_inBlock : GoodIn wsX8_sendsAgain wsX8_inBlock := goodIn_r _ [10, 1, 11, 12, 13, 5, 14, 15, 3, 4, 6, 40, 41, 42, 43, 44, 45, 46, 47, 48, 49, 50, 51, 52, 53, 54, 55, 56, 57, 58, 59, 60, 61, 62, 63, 64, 65, 66, 67, 68, 69, 70, 71] (by decide +kernel) (by decide +kernel)
set_option maxRecDepth 20000 in
theorem gX8_sendsAgain_X8_inBlock : GoodIn wsX8_sendsAgain (wsV RX8 175 RX8 yX8_inBlock wsX8_inBlock) := goodIn_app (goodIn_of _ (by decide +kernel)) ggX8_sendsAgain_X8_inBlock
set_option maxRecDepth 20000 in
theorem ggX8_sendsAgain_X8_less : GoodIn wsX8_sendsAgain wsX8_less := goodIn_r _ [18] (by decide +kernel) (by decide +kernel)
set_option maxRecDepth 20000 in
theorem gX8_sendsAgain_X8_less : GoodIn wsX8_sendsAgain (va_wsS RX8 165 yX8_less wsX8_less) := goodIn_app (goodIn_of _ (by decide +kernel)) ggX8_sendsAgain_X8_less
set_option maxRecDepth 20000 in
theorem ggX8_sendsAgain_X8_sends : GoodIn wsX8_sendsAgain wsX8_sends := goodIn_r _ [22, 1, 23, 24, 15, 25, 3, 4, 5, 6, 26, 27, 28, 29, 30, 31, 32, 33, 34, 35, 11, 12, 13, 14, 40, 41, 42, 43, 44, 45, 46, 47, 48, 49, 50, 51, 52, 53, 54, 55, 56, 57, 58, 59, 60, 61, 62, 63, 64, 65, 66, 67, 68, 69, 70, 71] (by decide +kernel) (by decide +kernel)
set_option maxRecDepth 20000 in
theorem gX8_sendsAgain_X8_sends : GoodIn wsX8_sendsAgain (wsV RX8 178 RX8 yX8_sends wsX8_sends) := goodIn_app (goodIn_of _ (by decide +kernel)) ggX8_sendsAgain_X8_sends
set_option maxRecDepth 20000 in
theorem ggX8_sendsAgain_X8_clearsGone : GoodIn wsX8_sendsAgain wsX8_clearsGone := goodIn_r _ [39, 1, 3, 4, 5, 6, 40, 41, 42, 43, 44, 45, 46, 47, 48, 49, 50, 51, 52, 53, 54, 55, 56, 57, 58, 59, 60, 61, 62, 63, 64, 65, 66, 67, 68, 69, 70, 71] (by decide +kernel) (by decide +kernel)
set_option maxRecDepth 20000 in
theorem gX8_sendsAgain_X8_clearsGone : GoodIn wsX8_sendsAgain (wsV RX8 182 RX8 yX8_clearsGone wsX8_clearsGone) := goodIn_app (goodIn_of _ (by decide +kernel)) ggX8_sendsAgain_X8_clearsGone
theorem dX8_sendsAgain_0 : decode cX8_sendsAgain 0 = .ok (.aload_n 0, 1) := by decide +kernel
theorem dX8_sendsAgain_1 : decode cX8_sendsAgain 1 = .ok (.getfield 22, 3) := by decide +kernel
theorem dX8_sendsAgain_4 : decode cX8_sendsAgain 4 = .ok (.iconst 1, 1) := by decide +kernel
theorem dX8_sendsAgain_5 : decode cX8_sendsAgain 5 = .ok (.iaload, 1) := by decide +kernel
theorem dX8_sendsAgain_6 : decode cX8_sendsAgain 6 = .ok (.istore_n 1, 1) := by decide +kernel
theorem dX8_sendsAgain_7 : decode cX8_sendsAgain 7 = .ok (.iconst 0, 1) := by decide +kernel
theorem dX8_sendsAgain_8 : decode cX8_sendsAgain 8 = .ok (.istore_n 2, 1) := by decide +kernel
theorem dX8_sendsAgain_9 : decode cX8_sendsAgain 9 = .ok (.iload_n 2, 1) := by decide +kernel
theorem dX8_sendsAgain_10 : decode cX8_sendsAgain 10 = .ok (.aload_n 0, 1) := by decide +kernel
theorem dX8_sendsAgain_11 : decode cX8_sendsAgain 11 = .ok (.getfield 57, 3) := by decide +kernel
theorem dX8_sendsAgain_14 : decode cX8_sendsAgain 14 = .ok (.if_icmp .ge 77, 3) := by decide +kernel
theorem dX8_sendsAgain_17 : decode cX8_sendsAgain 17 = .ok (.iconst 0, 1) := by decide +kernel
theorem dX8_sendsAgain_18 : decode cX8_sendsAgain 18 = .ok (.istore_n 3, 1) := by decide +kernel
theorem dX8_sendsAgain_19 : decode cX8_sendsAgain 19 = .ok (.iload_n 3, 1) := by decide +kernel
theorem dX8_sendsAgain_20 : decode cX8_sendsAgain 20 = .ok (.aload_n 0, 1) := by decide +kernel
theorem dX8_sendsAgain_21 : decode cX8_sendsAgain 21 = .ok (.getfield 22, 3) := by decide +kernel
theorem dX8_sendsAgain_24 : decode cX8_sendsAgain 24 = .ok (.iconst 3, 1) := by decide +kernel
theorem dX8_sendsAgain_25 : decode cX8_sendsAgain 25 = .ok (.iaload, 1) := by decide +kernel
theorem dX8_sendsAgain_26 : decode cX8_sendsAgain 26 = .ok (.if_icmp .ge 59, 3) := by decide +kernel
theorem dX8_sendsAgain_29 : decode cX8_sendsAgain 29 = .ok (.aload_n 0, 1) := by decide +kernel
theorem dX8_sendsAgain_30 : decode cX8_sendsAgain 30 = .ok (.getfield 22, 3) := by decide +kernel
theorem dX8_sendsAgain_33 : decode cX8_sendsAgain 33 = .ok (.iload_n 3, 1) := by decide +kernel
theorem dX8_sendsAgain_34 : decode cX8_sendsAgain 34 = .ok (.iconst 0, 1) := by decide +kernel
theorem dX8_sendsAgain_35 : decode cX8_sendsAgain 35 = .ok (.invokestatic 146, 3) := by decide +kernel
theorem dX8_sendsAgain_38 : decode cX8_sendsAgain 38 = .ok (.iaload, 1) := by decide +kernel
theorem dX8_sendsAgain_39 : decode cX8_sendsAgain 39 = .ok (.iload_n 2, 1) := by decide +kernel
theorem dX8_sendsAgain_40 : decode cX8_sendsAgain 40 = .ok (.if_icmp .ne 39, 3) := by decide +kernel
theorem dX8_sendsAgain_43 : decode cX8_sendsAgain 43 = .ok (.aload_n 0, 1) := by decide +kernel
theorem dX8_sendsAgain_44 : decode cX8_sendsAgain 44 = .ok (.getfield 22, 3) := by decide +kernel
theorem dX8_sendsAgain_47 : decode cX8_sendsAgain 47 = .ok (.iload_n 3, 1) := by decide +kernel
theorem dX8_sendsAgain_48 : decode cX8_sendsAgain 48 = .ok (.iconst 1, 1) := by decide +kernel
theorem dX8_sendsAgain_49 : decode cX8_sendsAgain 49 = .ok (.invokestatic 146, 3) := by decide +kernel
theorem dX8_sendsAgain_52 : decode cX8_sendsAgain 52 = .ok (.iaload, 1) := by decide +kernel
theorem dX8_sendsAgain_53 : decode cX8_sendsAgain 53 = .ok (.aload_n 0, 1) := by decide +kernel
theorem dX8_sendsAgain_54 : decode cX8_sendsAgain 54 = .ok (.getfield 22, 3) := by decide +kernel
theorem dX8_sendsAgain_57 : decode cX8_sendsAgain 57 = .ok (.iconst 0, 1) := by decide +kernel
theorem dX8_sendsAgain_58 : decode cX8_sendsAgain 58 = .ok (.iaload, 1) := by decide +kernel
theorem dX8_sendsAgain_59 : decode cX8_sendsAgain 59 = .ok (.if_icmp .ne 20, 3) := by decide +kernel
theorem dX8_sendsAgain_62 : decode cX8_sendsAgain 62 = .ok (.iload_n 1, 1) := by decide +kernel
theorem dX8_sendsAgain_63 : decode cX8_sendsAgain 63 = .ok (.iload_n 1, 1) := by decide +kernel
theorem dX8_sendsAgain_64 : decode cX8_sendsAgain 64 = .ok (.aload_n 0, 1) := by decide +kernel
theorem dX8_sendsAgain_65 : decode cX8_sendsAgain 65 = .ok (.iload_n 3, 1) := by decide +kernel
theorem dX8_sendsAgain_66 : decode cX8_sendsAgain 66 = .ok (.invokevirtual 175, 3) := by decide +kernel
theorem dX8_sendsAgain_69 : decode cX8_sendsAgain 69 = .ok (.invokestatic 165, 3) := by decide +kernel
theorem dX8_sendsAgain_72 : decode cX8_sendsAgain 72 = .ok (.isub, 1) := by decide +kernel
theorem dX8_sendsAgain_73 : decode cX8_sendsAgain 73 = .ok (.istore_n 1, 1) := by decide +kernel
theorem dX8_sendsAgain_74 : decode cX8_sendsAgain 74 = .ok (.aload_n 0, 1) := by decide +kernel
theorem dX8_sendsAgain_75 : decode cX8_sendsAgain 75 = .ok (.iload_n 3, 1) := by decide +kernel
theorem dX8_sendsAgain_76 : decode cX8_sendsAgain 76 = .ok (.invokevirtual 178, 3) := by decide +kernel
theorem dX8_sendsAgain_79 : decode cX8_sendsAgain 79 = .ok (.iinc 3 1, 3) := by decide +kernel
theorem dX8_sendsAgain_82 : decode cX8_sendsAgain 82 = .ok (.goto (-63), 3) := by decide +kernel
theorem dX8_sendsAgain_85 : decode cX8_sendsAgain 85 = .ok (.iinc 2 1, 3) := by decide +kernel
theorem dX8_sendsAgain_88 : decode cX8_sendsAgain 88 = .ok (.goto (-79), 3) := by decide +kernel
theorem dX8_sendsAgain_91 : decode cX8_sendsAgain 91 = .ok (.aload_n 0, 1) := by decide +kernel
theorem dX8_sendsAgain_92 : decode cX8_sendsAgain 92 = .ok (.invokevirtual 182, 3) := by decide +kernel
theorem dX8_sendsAgain_95 : decode cX8_sendsAgain 95 = .ok (.iload_n 1, 1) := by decide +kernel
theorem dX8_sendsAgain_96 : decode cX8_sendsAgain 96 = .ok (.ireturn, 1) := by decide +kernel
set_option maxRecDepth 20000 in
theorem ggX8_grants_X8_ofTerminal : GoodIn wsX8_grants wsX8_ofTerminal := goodIn_r _ [6] (by decide +kernel) (by decide +kernel)
set_option maxRecDepth 20000 in
theorem gX8_grants_X8_ofTerminal : GoodIn wsX8_grants (va_wsS RX8 139 yX8_ofTerminal wsX8_ofTerminal) := goodIn_app (goodIn_of _ (by decide +kernel)) ggX8_grants_X8_ofTerminal
set_option maxRecDepth 20000 in
theorem ggX8_grants_X8_less : GoodIn wsX8_grants wsX8_less := goodIn_r _ [9] (by decide +kernel) (by decide +kernel)
set_option maxRecDepth 20000 in
theorem gX8_grants_X8_less : GoodIn wsX8_grants (va_wsS RX8 165 yX8_less wsX8_less) := goodIn_app (goodIn_of _ (by decide +kernel)) ggX8_grants_X8_less
set_option maxRecDepth 20000 in
theorem ggX8_grants_X8_packs : GoodIn wsX8_grants wsX8_packs := goodIn_r _ [13, 1, 14, 15, 5, 16, 3, 4, 6, 17, 18, 19, 20, 21, 22, 23, 24, 25, 26, 27, 28, 29, 30, 31, 32, 33, 7, 8, 9, 34, 35, 36, 37, 38, 39, 40, 41, 42, 43, 44, 45, 46, 47, 48, 49, 50, 51, 52, 53, 54, 55, 56, 57, 58, 59, 60, 61, 62, 63, 64, 65, 66, 67, 68, 69, 70, 71, 72, 73, 74, 75, 76, 77, 78, 79, 80, 81, 82, 83, 84, 85, 86, 87, 88, 89, 90, 91, 92] (by decide +kernel) (by decide +kernel)
set_option maxRecDepth 20000 in
theorem gX8_grants_X8_packs : GoodIn wsX8_grants (wsV RX8 185 RX8 yX8_packs wsX8_packs) := goodIn_app (goodIn_of _ (by decide +kernel)) ggX8_grants_X8_packs
theorem dX8_grants_0 : decode cX8_grants 0 = .ok (.iload_n 1, 1) := by decide +kernel
theorem dX8_grants_1 : decode cX8_grants 1 = .ok (.istore_n 2, 1) := by decide +kernel
theorem dX8_grants_2 : decode cX8_grants 2 = .ok (.aload_n 0, 1) := by decide +kernel
theorem dX8_grants_3 : decode cX8_grants 3 = .ok (.getfield 22, 3) := by decide +kernel
theorem dX8_grants_6 : decode cX8_grants 6 = .ok (.iconst 2, 1) := by decide +kernel
theorem dX8_grants_7 : decode cX8_grants 7 = .ok (.iaload, 1) := by decide +kernel
theorem dX8_grants_8 : decode cX8_grants 8 = .ok (.iconst 1, 1) := by decide +kernel
theorem dX8_grants_9 : decode cX8_grants 9 = .ok (.iadd, 1) := by decide +kernel
theorem dX8_grants_10 : decode cX8_grants 10 = .ok (.istore_n 3, 1) := by decide +kernel
theorem dX8_grants_11 : decode cX8_grants 11 = .ok (.aload_n 0, 1) := by decide +kernel
theorem dX8_grants_12 : decode cX8_grants 12 = .ok (.getfield 22, 3) := by decide +kernel
theorem dX8_grants_15 : decode cX8_grants 15 = .ok (.iconst 2, 1) := by decide +kernel
theorem dX8_grants_16 : decode cX8_grants 16 = .ok (.iaload, 1) := by decide +kernel
theorem dX8_grants_17 : decode cX8_grants 17 = .ok (.bipush (-9), 2) := by decide +kernel
theorem dX8_grants_19 : decode cX8_grants 19 = .ok (.if_icmp .ne 7, 3) := by decide +kernel
theorem dX8_grants_22 : decode cX8_grants 22 = .ok (.iconst 0, 1) := by decide +kernel
theorem dX8_grants_23 : decode cX8_grants 23 = .ok (.goto 4, 3) := by decide +kernel
theorem dX8_grants_26 : decode cX8_grants 26 = .ok (.iload_n 3, 1) := by decide +kernel
theorem dX8_grants_27 : decode cX8_grants 27 = .ok (.istore_n 3, 1) := by decide +kernel
theorem dX8_grants_28 : decode cX8_grants 28 = .ok (.iconst 0, 1) := by decide +kernel
theorem dX8_grants_29 : decode cX8_grants 29 = .ok (.istore 4, 2) := by decide +kernel
theorem dX8_grants_31 : decode cX8_grants 31 = .ok (.iload 4, 2) := by decide +kernel
theorem dX8_grants_33 : decode cX8_grants 33 = .ok (.aload_n 0, 1) := by decide +kernel
theorem dX8_grants_34 : decode cX8_grants 34 = .ok (.getfield 57, 3) := by decide +kernel
theorem dX8_grants_37 : decode cX8_grants 37 = .ok (.if_icmp .ge 125, 3) := by decide +kernel
theorem dX8_grants_40 : decode cX8_grants 40 = .ok (.iload_n 2, 1) := by decide +kernel
theorem dX8_grants_41 : decode cX8_grants 41 = .ok (.ifCond .le 121, 3) := by decide +kernel
theorem dX8_grants_44 : decode cX8_grants 44 = .ok (.iload_n 3, 1) := by decide +kernel
theorem dX8_grants_45 : decode cX8_grants 45 = .ok (.iload 4, 2) := by decide +kernel
theorem dX8_grants_47 : decode cX8_grants 47 = .ok (.iadd, 1) := by decide +kernel
theorem dX8_grants_48 : decode cX8_grants 48 = .ok (.aload_n 0, 1) := by decide +kernel
theorem dX8_grants_49 : decode cX8_grants 49 = .ok (.getfield 57, 3) := by decide +kernel
theorem dX8_grants_52 : decode cX8_grants 52 = .ok (.irem, 1) := by decide +kernel
theorem dX8_grants_53 : decode cX8_grants 53 = .ok (.istore 5, 2) := by decide +kernel
theorem dX8_grants_55 : decode cX8_grants 55 = .ok (.aload_n 0, 1) := by decide +kernel
theorem dX8_grants_56 : decode cX8_grants 56 = .ok (.getfield 22, 3) := by decide +kernel
theorem dX8_grants_59 : decode cX8_grants 59 = .ok (.iload 5, 2) := by decide +kernel
theorem dX8_grants_61 : decode cX8_grants 61 = .ok (.iconst 3, 1) := by decide +kernel
theorem dX8_grants_62 : decode cX8_grants 62 = .ok (.invokestatic 139, 3) := by decide +kernel
theorem dX8_grants_65 : decode cX8_grants 65 = .ok (.iaload, 1) := by decide +kernel
theorem dX8_grants_66 : decode cX8_grants 66 = .ok (.istore 6, 2) := by decide +kernel
theorem dX8_grants_68 : decode cX8_grants 68 = .ok (.aload_n 0, 1) := by decide +kernel
theorem dX8_grants_69 : decode cX8_grants 69 = .ok (.getfield 22, 3) := by decide +kernel
theorem dX8_grants_72 : decode cX8_grants 72 = .ok (.iload 5, 2) := by decide +kernel
theorem dX8_grants_74 : decode cX8_grants 74 = .ok (.iconst 2, 1) := by decide +kernel
theorem dX8_grants_75 : decode cX8_grants 75 = .ok (.invokestatic 139, 3) := by decide +kernel
theorem dX8_grants_78 : decode cX8_grants 78 = .ok (.iaload, 1) := by decide +kernel
theorem dX8_grants_79 : decode cX8_grants 79 = .ok (.iconst 1, 1) := by decide +kernel
theorem dX8_grants_80 : decode cX8_grants 80 = .ok (.if_icmp .eq 8, 3) := by decide +kernel
theorem dX8_grants_83 : decode cX8_grants 83 = .ok (.iload 6, 2) := by decide +kernel
theorem dX8_grants_85 : decode cX8_grants 85 = .ok (.ifCond .le 71, 3) := by decide +kernel
theorem dX8_grants_88 : decode cX8_grants 88 = .ok (.iload 6, 2) := by decide +kernel
theorem dX8_grants_90 : decode cX8_grants 90 = .ok (.ifCond .le 10, 3) := by decide +kernel
theorem dX8_grants_93 : decode cX8_grants 93 = .ok (.iload 6, 2) := by decide +kernel
theorem dX8_grants_95 : decode cX8_grants 95 = .ok (.iconst 2, 1) := by decide +kernel
theorem dX8_grants_96 : decode cX8_grants 96 = .ok (.iadd, 1) := by decide +kernel
theorem dX8_grants_97 : decode cX8_grants 97 = .ok (.goto 4, 3) := by decide +kernel
theorem dX8_grants_100 : decode cX8_grants 100 = .ok (.iconst 4, 1) := by decide +kernel
theorem dX8_grants_101 : decode cX8_grants 101 = .ok (.iload_n 2, 1) := by decide +kernel
theorem dX8_grants_102 : decode cX8_grants 102 = .ok (.invokestatic 165, 3) := by decide +kernel
theorem dX8_grants_105 : decode cX8_grants 105 = .ok (.istore 7, 2) := by decide +kernel
theorem dX8_grants_107 : decode cX8_grants 107 = .ok (.iload_n 2, 1) := by decide +kernel
theorem dX8_grants_108 : decode cX8_grants 108 = .ok (.iload 7, 2) := by decide +kernel
theorem dX8_grants_110 : decode cX8_grants 110 = .ok (.isub, 1) := by decide +kernel
theorem dX8_grants_111 : decode cX8_grants 111 = .ok (.istore_n 2, 1) := by decide +kernel
theorem dX8_grants_112 : decode cX8_grants 112 = .ok (.aload_n 0, 1) := by decide +kernel
theorem dX8_grants_113 : decode cX8_grants 113 = .ok (.getfield 22, 3) := by decide +kernel
theorem dX8_grants_116 : decode cX8_grants 116 = .ok (.iconst 2, 1) := by decide +kernel
theorem dX8_grants_117 : decode cX8_grants 117 = .ok (.iload 5, 2) := by decide +kernel
theorem dX8_grants_119 : decode cX8_grants 119 = .ok (.iastore, 1) := by decide +kernel
theorem dX8_grants_120 : decode cX8_grants 120 = .ok (.aload_n 0, 1) := by decide +kernel
theorem dX8_grants_121 : decode cX8_grants 121 = .ok (.getfield 22, 3) := by decide +kernel
theorem dX8_grants_124 : decode cX8_grants 124 = .ok (.iload 5, 2) := by decide +kernel
theorem dX8_grants_126 : decode cX8_grants 126 = .ok (.iconst 2, 1) := by decide +kernel
theorem dX8_grants_127 : decode cX8_grants 127 = .ok (.invokestatic 139, 3) := by decide +kernel
theorem dX8_grants_130 : decode cX8_grants 130 = .ok (.iconst 0, 1) := by decide +kernel
theorem dX8_grants_131 : decode cX8_grants 131 = .ok (.iastore, 1) := by decide +kernel
theorem dX8_grants_132 : decode cX8_grants 132 = .ok (.aload_n 0, 1) := by decide +kernel
theorem dX8_grants_133 : decode cX8_grants 133 = .ok (.getfield 22, 3) := by decide +kernel
theorem dX8_grants_136 : decode cX8_grants 136 = .ok (.iload 5, 2) := by decide +kernel
theorem dX8_grants_138 : decode cX8_grants 138 = .ok (.iconst 5, 1) := by decide +kernel
theorem dX8_grants_139 : decode cX8_grants 139 = .ok (.invokestatic 139, 3) := by decide +kernel
theorem dX8_grants_142 : decode cX8_grants 142 = .ok (.dup2, 1) := by decide +kernel
theorem dX8_grants_143 : decode cX8_grants 143 = .ok (.iaload, 1) := by decide +kernel
theorem dX8_grants_144 : decode cX8_grants 144 = .ok (.iload 7, 2) := by decide +kernel
theorem dX8_grants_146 : decode cX8_grants 146 = .ok (.iadd, 1) := by decide +kernel
theorem dX8_grants_147 : decode cX8_grants 147 = .ok (.iastore, 1) := by decide +kernel
theorem dX8_grants_148 : decode cX8_grants 148 = .ok (.aload_n 0, 1) := by decide +kernel
theorem dX8_grants_149 : decode cX8_grants 149 = .ok (.iload 5, 2) := by decide +kernel
theorem dX8_grants_151 : decode cX8_grants 151 = .ok (.iload 7, 2) := by decide +kernel
theorem dX8_grants_153 : decode cX8_grants 153 = .ok (.invokevirtual 185, 3) := by decide +kernel
theorem dX8_grants_156 : decode cX8_grants 156 = .ok (.iinc 4 1, 3) := by decide +kernel
theorem dX8_grants_159 : decode cX8_grants 159 = .ok (.goto (-128), 3) := by decide +kernel
theorem dX8_grants_162 : decode cX8_grants 162 = .ok (.return_, 1) := by decide +kernel
set_option maxRecDepth 20000 in
theorem ggX8_step_X8_ofClass : GoodIn wsX8_step wsX8_ofClass := goodIn_r _ [8] (by decide +kernel) (by decide +kernel)
set_option maxRecDepth 20000 in
theorem gX8_step_X8_ofClass : GoodIn wsX8_step (va_wsS RX8 143 yX8_ofClass wsX8_ofClass) := goodIn_app (goodIn_of _ (by decide +kernel)) ggX8_step_X8_ofClass
set_option maxRecDepth 20000 in
theorem ggX8_step_X8_less : GoodIn wsX8_step wsX8_less := goodIn_r _ [11] (by decide +kernel) (by decide +kernel)
set_option maxRecDepth 20000 in
theorem gX8_step_X8_less : GoodIn wsX8_step (va_wsS RX8 165 yX8_less wsX8_less) := goodIn_app (goodIn_of _ (by decide +kernel)) ggX8_step_X8_less
set_option maxRecDepth 20000 in
theorem ggX8_step_X8_asks : GoodIn wsX8_step wsX8_asks := goodIn_r _ [15, 2, 16, 17, 18, 19, 7, 20, 75, 76, 77, 78, 79, 80, 81, 82, 83, 84, 85, 86, 87, 88, 89, 90, 91, 92, 93, 94, 95, 96, 97, 98, 99, 100, 101, 102, 103, 104, 105, 106] (by decide +kernel) (by decide +kernel)
set_option maxRecDepth 20000 in
theorem gX8_step_X8_asks : GoodIn wsX8_step (wsV RX8 189 RX8 yX8_asks wsX8_asks) := goodIn_app (goodIn_of _ (by decide +kernel)) ggX8_step_X8_asks
set_option maxRecDepth 20000 in
theorem ggX8_step_X8_sendsAgain : GoodIn wsX8_step wsX8_sendsAgain := goodIn_r _ [24, 2, 4, 25, 26, 7, 27, 28, 29, 30, 31, 32, 33, 34, 35, 1, 9, 10, 11, 36, 37, 38, 39, 40, 41, 42, 43, 44, 45, 46, 18, 19, 20, 5, 6, 8, 47, 48, 49, 50, 75, 76, 77, 78, 79, 80, 81, 82, 83, 84, 85, 86, 87, 88, 89, 90, 91, 92, 93, 94, 95, 96, 97, 98, 99, 100, 101, 102, 103, 104, 105, 106] (by decide +kernel) (by decide +kernel)
set_option maxRecDepth 20000 in
theorem gX8_step_X8_sendsAgain : GoodIn wsX8_step (wsV RX8 192 RX8 yX8_sendsAgain wsX8_sendsAgain) := goodIn_app (goodIn_of _ (by decide +kernel)) ggX8_step_X8_sendsAgain
set_option maxRecDepth 20000 in
theorem ggX8_step_X8_grants : GoodIn wsX8_step wsX8_grants := goodIn_r _ [54, 2, 4, 18, 19, 7, 20, 9, 10, 11, 55, 56, 57, 58, 25, 26, 27, 59, 60, 61, 62, 1, 63, 64, 65, 66, 3, 67, 68, 69, 70, 5, 6, 8, 71, 72, 73, 74, 28, 29, 30, 31, 32, 33, 34, 35, 36, 37, 38, 39, 40, 41, 42, 43, 44, 45, 46, 47, 48, 49, 50, 75, 76, 77, 78, 79, 80, 81, 82, 83, 84, 85, 86, 87, 88, 89, 90, 91, 92, 93, 94, 95, 96, 97, 98, 99, 100, 101, 102, 103, 104, 105, 106] (by decide +kernel) (by decide +kernel)
set_option maxRecDepth 20000 in
theorem gX8_step_X8_grants : GoodIn wsX8_step (wsV RX8 196 RX8 yX8_grants wsX8_grants) := goodIn_app (goodIn_of _ (by decide +kernel)) ggX8_step_X8_grants
theorem dX8_step_0 : decode cX8_step 0 = .ok (.iconst 0, 1) := by decide +kernel
theorem dX8_step_1 : decode cX8_step 1 = .ok (.istore_n 1, 1) := by decide +kernel
theorem dX8_step_2 : decode cX8_step 2 = .ok (.iload_n 1, 1) := by decide +kernel
theorem dX8_step_3 : decode cX8_step 3 = .ok (.aload_n 0, 1) := by decide +kernel
theorem dX8_step_4 : decode cX8_step 4 = .ok (.getfield 64, 3) := by decide +kernel
theorem dX8_step_7 : decode cX8_step 7 = .ok (.if_icmp .ge 53, 3) := by decide +kernel
theorem dX8_step_10 : decode cX8_step 10 = .ok (.aload_n 0, 1) := by decide +kernel
theorem dX8_step_11 : decode cX8_step 11 = .ok (.getfield 22, 3) := by decide +kernel
theorem dX8_step_14 : decode cX8_step 14 = .ok (.iload_n 1, 1) := by decide +kernel
theorem dX8_step_15 : decode cX8_step 15 = .ok (.iconst 1, 1) := by decide +kernel
theorem dX8_step_16 : decode cX8_step 16 = .ok (.invokestatic 143, 3) := by decide +kernel
theorem dX8_step_19 : decode cX8_step 19 = .ok (.aload_n 0, 1) := by decide +kernel
theorem dX8_step_20 : decode cX8_step 20 = .ok (.getfield 13, 3) := by decide +kernel
theorem dX8_step_23 : decode cX8_step 23 = .ok (.iconst 4, 1) := by decide +kernel
theorem dX8_step_24 : decode cX8_step 24 = .ok (.iload_n 1, 1) := by decide +kernel
theorem dX8_step_25 : decode cX8_step 25 = .ok (.imul, 1) := by decide +kernel
theorem dX8_step_26 : decode cX8_step 26 = .ok (.iconst 3, 1) := by decide +kernel
theorem dX8_step_27 : decode cX8_step 27 = .ok (.iadd, 1) := by decide +kernel
theorem dX8_step_28 : decode cX8_step 28 = .ok (.iaload, 1) := by decide +kernel
theorem dX8_step_29 : decode cX8_step 29 = .ok (.aload_n 0, 1) := by decide +kernel
theorem dX8_step_30 : decode cX8_step 30 = .ok (.getfield 22, 3) := by decide +kernel
theorem dX8_step_33 : decode cX8_step 33 = .ok (.iload_n 1, 1) := by decide +kernel
theorem dX8_step_34 : decode cX8_step 34 = .ok (.iconst 1, 1) := by decide +kernel
theorem dX8_step_35 : decode cX8_step 35 = .ok (.invokestatic 143, 3) := by decide +kernel
theorem dX8_step_38 : decode cX8_step 38 = .ok (.iaload, 1) := by decide +kernel
theorem dX8_step_39 : decode cX8_step 39 = .ok (.aload_n 0, 1) := by decide +kernel
theorem dX8_step_40 : decode cX8_step 40 = .ok (.getfield 13, 3) := by decide +kernel
theorem dX8_step_43 : decode cX8_step 43 = .ok (.iconst 4, 1) := by decide +kernel
theorem dX8_step_44 : decode cX8_step 44 = .ok (.iload_n 1, 1) := by decide +kernel
theorem dX8_step_45 : decode cX8_step 45 = .ok (.imul, 1) := by decide +kernel
theorem dX8_step_46 : decode cX8_step 46 = .ok (.iconst 2, 1) := by decide +kernel
theorem dX8_step_47 : decode cX8_step 47 = .ok (.iadd, 1) := by decide +kernel
theorem dX8_step_48 : decode cX8_step 48 = .ok (.iaload, 1) := by decide +kernel
theorem dX8_step_49 : decode cX8_step 49 = .ok (.iadd, 1) := by decide +kernel
theorem dX8_step_50 : decode cX8_step 50 = .ok (.invokestatic 165, 3) := by decide +kernel
theorem dX8_step_53 : decode cX8_step 53 = .ok (.iastore, 1) := by decide +kernel
theorem dX8_step_54 : decode cX8_step 54 = .ok (.iinc 1 1, 3) := by decide +kernel
theorem dX8_step_57 : decode cX8_step 57 = .ok (.goto (-55), 3) := by decide +kernel
theorem dX8_step_60 : decode cX8_step 60 = .ok (.iconst 0, 1) := by decide +kernel
theorem dX8_step_61 : decode cX8_step 61 = .ok (.istore_n 1, 1) := by decide +kernel
theorem dX8_step_62 : decode cX8_step 62 = .ok (.iload_n 1, 1) := by decide +kernel
theorem dX8_step_63 : decode cX8_step 63 = .ok (.aload_n 0, 1) := by decide +kernel
theorem dX8_step_64 : decode cX8_step 64 = .ok (.getfield 57, 3) := by decide +kernel
theorem dX8_step_67 : decode cX8_step 67 = .ok (.if_icmp .ge 14, 3) := by decide +kernel
theorem dX8_step_70 : decode cX8_step 70 = .ok (.aload_n 0, 1) := by decide +kernel
theorem dX8_step_71 : decode cX8_step 71 = .ok (.iload_n 1, 1) := by decide +kernel
theorem dX8_step_72 : decode cX8_step 72 = .ok (.invokevirtual 189, 3) := by decide +kernel
theorem dX8_step_75 : decode cX8_step 75 = .ok (.iinc 1 1, 3) := by decide +kernel
theorem dX8_step_78 : decode cX8_step 78 = .ok (.goto (-16), 3) := by decide +kernel
theorem dX8_step_81 : decode cX8_step 81 = .ok (.aload_n 0, 1) := by decide +kernel
theorem dX8_step_82 : decode cX8_step 82 = .ok (.aload_n 0, 1) := by decide +kernel
theorem dX8_step_83 : decode cX8_step 83 = .ok (.invokevirtual 192, 3) := by decide +kernel
theorem dX8_step_86 : decode cX8_step 86 = .ok (.invokevirtual 196, 3) := by decide +kernel
theorem dX8_step_89 : decode cX8_step 89 = .ok (.aload_n 0, 1) := by decide +kernel
theorem dX8_step_90 : decode cX8_step 90 = .ok (.getfield 22, 3) := by decide +kernel
theorem dX8_step_93 : decode cX8_step 93 = .ok (.iconst 0, 1) := by decide +kernel
theorem dX8_step_94 : decode cX8_step 94 = .ok (.dup2, 1) := by decide +kernel
theorem dX8_step_95 : decode cX8_step 95 = .ok (.iaload, 1) := by decide +kernel
theorem dX8_step_96 : decode cX8_step 96 = .ok (.iconst 1, 1) := by decide +kernel
theorem dX8_step_97 : decode cX8_step 97 = .ok (.iadd, 1) := by decide +kernel
theorem dX8_step_98 : decode cX8_step 98 = .ok (.iastore, 1) := by decide +kernel
theorem dX8_step_99 : decode cX8_step 99 = .ok (.return_, 1) := by decide +kernel
theorem dX8_copies_0 : decode cX8_copies 0 = .ok (.iconst 0, 1) := by decide +kernel
theorem dX8_copies_1 : decode cX8_copies 1 = .ok (.istore 5, 2) := by decide +kernel
theorem dX8_copies_3 : decode cX8_copies 3 = .ok (.iload 5, 2) := by decide +kernel
theorem dX8_copies_5 : decode cX8_copies 5 = .ok (.sipush 667, 3) := by decide +kernel
theorem dX8_copies_8 : decode cX8_copies 8 = .ok (.if_icmp .ge 22, 3) := by decide +kernel
theorem dX8_copies_11 : decode cX8_copies 11 = .ok (.aload_n 2, 1) := by decide +kernel
theorem dX8_copies_12 : decode cX8_copies 12 = .ok (.iload 4, 2) := by decide +kernel
theorem dX8_copies_14 : decode cX8_copies 14 = .ok (.iload 5, 2) := by decide +kernel
theorem dX8_copies_16 : decode cX8_copies 16 = .ok (.iadd, 1) := by decide +kernel
theorem dX8_copies_17 : decode cX8_copies 17 = .ok (.aload_n 1, 1) := by decide +kernel
theorem dX8_copies_18 : decode cX8_copies 18 = .ok (.iload_n 3, 1) := by decide +kernel
theorem dX8_copies_19 : decode cX8_copies 19 = .ok (.iload 5, 2) := by decide +kernel
theorem dX8_copies_21 : decode cX8_copies 21 = .ok (.iadd, 1) := by decide +kernel
theorem dX8_copies_22 : decode cX8_copies 22 = .ok (.iaload, 1) := by decide +kernel
theorem dX8_copies_23 : decode cX8_copies 23 = .ok (.iastore, 1) := by decide +kernel
theorem dX8_copies_24 : decode cX8_copies 24 = .ok (.iinc 5 1, 3) := by decide +kernel
theorem dX8_copies_27 : decode cX8_copies 27 = .ok (.goto (-24), 3) := by decide +kernel
theorem dX8_copies_30 : decode cX8_copies 30 = .ok (.return_, 1) := by decide +kernel
set_option maxRecDepth 20000 in
theorem ggX8_notes_X8_copies : GoodIn wsX8_notes wsX8_copies := goodIn_r _ [8] (by decide +kernel) (by decide +kernel)
set_option maxRecDepth 20000 in
theorem gX8_notes_X8_copies : GoodIn wsX8_notes (wsV RX8 199 RX8 yX8_copies wsX8_copies) := goodIn_app (goodIn_of _ (by decide +kernel)) ggX8_notes_X8_copies
theorem dX8_notes_0 : decode cX8_notes 0 = .ok (.aload_n 0, 1) := by decide +kernel
theorem dX8_notes_1 : decode cX8_notes 1 = .ok (.getfield 130, 3) := by decide +kernel
theorem dX8_notes_4 : decode cX8_notes 4 = .ok (.bipush 8, 2) := by decide +kernel
theorem dX8_notes_6 : decode cX8_notes 6 = .ok (.if_icmp .ne 44, 3) := by decide +kernel
theorem dX8_notes_9 : decode cX8_notes 9 = .ok (.iconst 0, 1) := by decide +kernel
theorem dX8_notes_10 : decode cX8_notes 10 = .ok (.istore_n 1, 1) := by decide +kernel
theorem dX8_notes_11 : decode cX8_notes 11 = .ok (.iload_n 1, 1) := by decide +kernel
theorem dX8_notes_12 : decode cX8_notes 12 = .ok (.sipush 4669, 3) := by decide +kernel
theorem dX8_notes_15 : decode cX8_notes 15 = .ok (.if_icmp .ge 25, 3) := by decide +kernel
theorem dX8_notes_18 : decode cX8_notes 18 = .ok (.aload_n 0, 1) := by decide +kernel
theorem dX8_notes_19 : decode cX8_notes 19 = .ok (.getfield 25, 3) := by decide +kernel
theorem dX8_notes_22 : decode cX8_notes 22 = .ok (.iload_n 1, 1) := by decide +kernel
theorem dX8_notes_23 : decode cX8_notes 23 = .ok (.aload_n 0, 1) := by decide +kernel
theorem dX8_notes_24 : decode cX8_notes 24 = .ok (.getfield 25, 3) := by decide +kernel
theorem dX8_notes_27 : decode cX8_notes 27 = .ok (.iload_n 1, 1) := by decide +kernel
theorem dX8_notes_28 : decode cX8_notes 28 = .ok (.sipush 667, 3) := by decide +kernel
theorem dX8_notes_31 : decode cX8_notes 31 = .ok (.iadd, 1) := by decide +kernel
theorem dX8_notes_32 : decode cX8_notes 32 = .ok (.iaload, 1) := by decide +kernel
theorem dX8_notes_33 : decode cX8_notes 33 = .ok (.iastore, 1) := by decide +kernel
theorem dX8_notes_34 : decode cX8_notes 34 = .ok (.iinc 1 1, 3) := by decide +kernel
theorem dX8_notes_37 : decode cX8_notes 37 = .ok (.goto (-26), 3) := by decide +kernel
theorem dX8_notes_40 : decode cX8_notes 40 = .ok (.aload_n 0, 1) := by decide +kernel
theorem dX8_notes_41 : decode cX8_notes 41 = .ok (.dup, 1) := by decide +kernel
theorem dX8_notes_42 : decode cX8_notes 42 = .ok (.getfield 130, 3) := by decide +kernel
theorem dX8_notes_45 : decode cX8_notes 45 = .ok (.iconst 1, 1) := by decide +kernel
theorem dX8_notes_46 : decode cX8_notes 46 = .ok (.isub, 1) := by decide +kernel
theorem dX8_notes_47 : decode cX8_notes 47 = .ok (.putfield 130, 3) := by decide +kernel
theorem dX8_notes_50 : decode cX8_notes 50 = .ok (.aload_n 0, 1) := by decide +kernel
theorem dX8_notes_51 : decode cX8_notes 51 = .ok (.aload_n 0, 1) := by decide +kernel
theorem dX8_notes_52 : decode cX8_notes 52 = .ok (.getfield 22, 3) := by decide +kernel
theorem dX8_notes_55 : decode cX8_notes 55 = .ok (.aload_n 0, 1) := by decide +kernel
theorem dX8_notes_56 : decode cX8_notes 56 = .ok (.getfield 25, 3) := by decide +kernel
theorem dX8_notes_59 : decode cX8_notes 59 = .ok (.iconst 0, 1) := by decide +kernel
theorem dX8_notes_60 : decode cX8_notes 60 = .ok (.sipush 667, 3) := by decide +kernel
theorem dX8_notes_63 : decode cX8_notes 63 = .ok (.aload_n 0, 1) := by decide +kernel
theorem dX8_notes_64 : decode cX8_notes 64 = .ok (.getfield 130, 3) := by decide +kernel
theorem dX8_notes_67 : decode cX8_notes 67 = .ok (.imul, 1) := by decide +kernel
theorem dX8_notes_68 : decode cX8_notes 68 = .ok (.invokevirtual 199, 3) := by decide +kernel
theorem dX8_notes_71 : decode cX8_notes 71 = .ok (.aload_n 0, 1) := by decide +kernel
theorem dX8_notes_72 : decode cX8_notes 72 = .ok (.dup, 1) := by decide +kernel
theorem dX8_notes_73 : decode cX8_notes 73 = .ok (.getfield 130, 3) := by decide +kernel
theorem dX8_notes_76 : decode cX8_notes 76 = .ok (.iconst 1, 1) := by decide +kernel
theorem dX8_notes_77 : decode cX8_notes 77 = .ok (.iadd, 1) := by decide +kernel
theorem dX8_notes_78 : decode cX8_notes 78 = .ok (.putfield 130, 3) := by decide +kernel
theorem dX8_notes_81 : decode cX8_notes 81 = .ok (.return_, 1) := by decide +kernel
set_option maxRecDepth 20000 in
theorem ggX8_comes_X8_isClass : GoodIn wsX8_comes wsX8_isClass := goodIn_r _ [9, 4, 10, 11, 8, 12, 33, 34, 35, 36, 37, 38, 39, 40, 41, 42, 43, 44, 45, 46, 47, 48, 49, 50, 51, 52, 53, 54, 55, 56, 57, 58, 59, 60, 61, 62, 63, 64] (by decide +kernel) (by decide +kernel)
set_option maxRecDepth 20000 in
theorem gX8_comes_X8_isClass : GoodIn wsX8_comes (wsV RX8 203 RX8 yX8_isClass wsX8_isClass) := goodIn_app (goodIn_of _ (by decide +kernel)) ggX8_comes_X8_isClass
set_option maxRecDepth 20000 in
theorem ggX8_comes_X8_in : GoodIn wsX8_comes wsX8_in := goodIn_r _ [12] (by decide +kernel) (by decide +kernel)
set_option maxRecDepth 20000 in
theorem gX8_comes_X8_in : GoodIn wsX8_comes (va_wsS RX8 60 yX8_in wsX8_in) := goodIn_app (goodIn_of _ (by decide +kernel)) ggX8_comes_X8_in
set_option maxRecDepth 20000 in
theorem ggX8_comes_X8_ofClass : GoodIn wsX8_comes wsX8_ofClass := goodIn_r _ [15] (by decide +kernel) (by decide +kernel)
set_option maxRecDepth 20000 in
theorem gX8_comes_X8_ofClass : GoodIn wsX8_comes (va_wsS RX8 143 yX8_ofClass wsX8_ofClass) := goodIn_app (goodIn_of _ (by decide +kernel)) ggX8_comes_X8_ofClass
set_option maxRecDepth 20000 in
theorem ggX8_comes_X8_notes : GoodIn wsX8_comes wsX8_notes := goodIn_r _ [19, 20, 21, 2, 22, 23, 24, 8, 25, 33, 34, 35, 36, 37, 38, 39, 40, 41, 42, 43, 44, 45, 46, 47, 48, 49, 50, 51, 52, 53, 54, 55, 56, 57, 58, 59, 60, 61, 62, 63, 64] (by decide +kernel) (by decide +kernel)
set_option maxRecDepth 20000 in
theorem gX8_comes_X8_notes : GoodIn wsX8_comes (wsV RX8 206 RX8 yX8_notes wsX8_notes) := goodIn_app (goodIn_of _ (by decide +kernel)) ggX8_comes_X8_notes
set_option maxRecDepth 20000 in
theorem ggX8_comes_X8_isAhead : GoodIn wsX8_comes wsX8_isAhead := goodIn_r _ [29, 3, 33, 34, 35, 36, 37, 38, 39, 40, 41, 42, 43, 44, 45, 46, 47, 48, 49, 50, 51, 52, 53, 54, 55, 56, 57, 58, 59, 60, 61, 62, 63, 64] (by decide +kernel) (by decide +kernel)
set_option maxRecDepth 20000 in
theorem gX8_comes_X8_isAhead : GoodIn wsX8_comes (wsV RX8 159 RX8 yX8_isAhead wsX8_isAhead) := goodIn_app (goodIn_of _ (by decide +kernel)) ggX8_comes_X8_isAhead
set_option maxRecDepth 20000 in
theorem ggX8_comes_X8_ofTerminal : GoodIn wsX8_comes wsX8_ofTerminal := goodIn_r _ [32] (by decide +kernel) (by decide +kernel)
set_option maxRecDepth 20000 in
theorem gX8_comes_X8_ofTerminal : GoodIn wsX8_comes (va_wsS RX8 139 yX8_ofTerminal wsX8_ofTerminal) := goodIn_app (goodIn_of _ (by decide +kernel)) ggX8_comes_X8_ofTerminal
theorem dX8_comes_0 : decode cX8_comes 0 = .ok (.aload_n 0, 1) := by decide +kernel
theorem dX8_comes_1 : decode cX8_comes 1 = .ok (.iconst 0, 1) := by decide +kernel
theorem dX8_comes_2 : decode cX8_comes 2 = .ok (.putfield 53, 3) := by decide +kernel
theorem dX8_comes_5 : decode cX8_comes 5 = .ok (.aload_n 0, 1) := by decide +kernel
theorem dX8_comes_6 : decode cX8_comes 6 = .ok (.iload_n 1, 1) := by decide +kernel
theorem dX8_comes_7 : decode cX8_comes 7 = .ok (.invokevirtual 203, 3) := by decide +kernel
theorem dX8_comes_10 : decode cX8_comes 10 = .ok (.ifCond .eq 13, 3) := by decide +kernel
theorem dX8_comes_13 : decode cX8_comes 13 = .ok (.iload_n 2, 1) := by decide +kernel
theorem dX8_comes_14 : decode cX8_comes 14 = .ok (.iconst 1, 1) := by decide +kernel
theorem dX8_comes_15 : decode cX8_comes 15 = .ok (.bipush 99, 2) := by decide +kernel
theorem dX8_comes_17 : decode cX8_comes 17 = .ok (.invokestatic 60, 3) := by decide +kernel
theorem dX8_comes_20 : decode cX8_comes 20 = .ok (.ifCond .ne 5, 3) := by decide +kernel
theorem dX8_comes_23 : decode cX8_comes 23 = .ok (.iconst (-1), 1) := by decide +kernel
theorem dX8_comes_24 : decode cX8_comes 24 = .ok (.ireturn, 1) := by decide +kernel
theorem dX8_comes_25 : decode cX8_comes 25 = .ok (.aload_n 0, 1) := by decide +kernel
theorem dX8_comes_26 : decode cX8_comes 26 = .ok (.getfield 22, 3) := by decide +kernel
theorem dX8_comes_29 : decode cX8_comes 29 = .ok (.iload_n 1, 1) := by decide +kernel
theorem dX8_comes_30 : decode cX8_comes 30 = .ok (.iconst 0, 1) := by decide +kernel
theorem dX8_comes_31 : decode cX8_comes 31 = .ok (.invokestatic 143, 3) := by decide +kernel
theorem dX8_comes_34 : decode cX8_comes 34 = .ok (.iaload, 1) := by decide +kernel
theorem dX8_comes_35 : decode cX8_comes 35 = .ok (.iload_n 2, 1) := by decide +kernel
theorem dX8_comes_36 : decode cX8_comes 36 = .ok (.iadd, 1) := by decide +kernel
theorem dX8_comes_37 : decode cX8_comes 37 = .ok (.sipush 999, 3) := by decide +kernel
theorem dX8_comes_40 : decode cX8_comes 40 = .ok (.if_icmp .le 6, 3) := by decide +kernel
theorem dX8_comes_43 : decode cX8_comes 43 = .ok (.bipush (-3), 2) := by decide +kernel
theorem dX8_comes_45 : decode cX8_comes 45 = .ok (.ireturn, 1) := by decide +kernel
theorem dX8_comes_46 : decode cX8_comes 46 = .ok (.aload_n 0, 1) := by decide +kernel
theorem dX8_comes_47 : decode cX8_comes 47 = .ok (.invokevirtual 206, 3) := by decide +kernel
theorem dX8_comes_50 : decode cX8_comes 50 = .ok (.aload_n 0, 1) := by decide +kernel
theorem dX8_comes_51 : decode cX8_comes 51 = .ok (.getfield 13, 3) := by decide +kernel
theorem dX8_comes_54 : decode cX8_comes 54 = .ok (.iconst 4, 1) := by decide +kernel
theorem dX8_comes_55 : decode cX8_comes 55 = .ok (.iload_n 1, 1) := by decide +kernel
theorem dX8_comes_56 : decode cX8_comes 56 = .ok (.imul, 1) := by decide +kernel
theorem dX8_comes_57 : decode cX8_comes 57 = .ok (.iaload, 1) := by decide +kernel
theorem dX8_comes_58 : decode cX8_comes 58 = .ok (.istore_n 3, 1) := by decide +kernel
theorem dX8_comes_59 : decode cX8_comes 59 = .ok (.iconst 0, 1) := by decide +kernel
theorem dX8_comes_60 : decode cX8_comes 60 = .ok (.istore 4, 2) := by decide +kernel
theorem dX8_comes_62 : decode cX8_comes 62 = .ok (.iconst 0, 1) := by decide +kernel
theorem dX8_comes_63 : decode cX8_comes 63 = .ok (.istore 5, 2) := by decide +kernel
theorem dX8_comes_65 : decode cX8_comes 65 = .ok (.iload 5, 2) := by decide +kernel
theorem dX8_comes_67 : decode cX8_comes 67 = .ok (.aload_n 0, 1) := by decide +kernel
theorem dX8_comes_68 : decode cX8_comes 68 = .ok (.getfield 64, 3) := by decide +kernel
theorem dX8_comes_71 : decode cX8_comes 71 = .ok (.if_icmp .ge 52, 3) := by decide +kernel
theorem dX8_comes_74 : decode cX8_comes 74 = .ok (.iload 4, 2) := by decide +kernel
theorem dX8_comes_76 : decode cX8_comes 76 = .ok (.aload_n 0, 1) := by decide +kernel
theorem dX8_comes_77 : decode cX8_comes 77 = .ok (.getfield 13, 3) := by decide +kernel
theorem dX8_comes_80 : decode cX8_comes 80 = .ok (.iconst 4, 1) := by decide +kernel
theorem dX8_comes_81 : decode cX8_comes 81 = .ok (.iload 5, 2) := by decide +kernel
theorem dX8_comes_83 : decode cX8_comes 83 = .ok (.imul, 1) := by decide +kernel
theorem dX8_comes_84 : decode cX8_comes 84 = .ok (.iaload, 1) := by decide +kernel
theorem dX8_comes_85 : decode cX8_comes 85 = .ok (.iload_n 3, 1) := by decide +kernel
theorem dX8_comes_86 : decode cX8_comes 86 = .ok (.if_icmp .ne 27, 3) := by decide +kernel
theorem dX8_comes_89 : decode cX8_comes 89 = .ok (.aload_n 0, 1) := by decide +kernel
theorem dX8_comes_90 : decode cX8_comes 90 = .ok (.iload_n 1, 1) := by decide +kernel
theorem dX8_comes_91 : decode cX8_comes 91 = .ok (.iload 5, 2) := by decide +kernel
theorem dX8_comes_93 : decode cX8_comes 93 = .ok (.invokevirtual 159, 3) := by decide +kernel
theorem dX8_comes_96 : decode cX8_comes 96 = .ok (.ifCond .ne 17, 3) := by decide +kernel
theorem dX8_comes_99 : decode cX8_comes 99 = .ok (.aload_n 0, 1) := by decide +kernel
theorem dX8_comes_100 : decode cX8_comes 100 = .ok (.getfield 22, 3) := by decide +kernel
theorem dX8_comes_103 : decode cX8_comes 103 = .ok (.iload 5, 2) := by decide +kernel
theorem dX8_comes_105 : decode cX8_comes 105 = .ok (.iconst 0, 1) := by decide +kernel
theorem dX8_comes_106 : decode cX8_comes 106 = .ok (.invokestatic 143, 3) := by decide +kernel
theorem dX8_comes_109 : decode cX8_comes 109 = .ok (.iaload, 1) := by decide +kernel
theorem dX8_comes_110 : decode cX8_comes 110 = .ok (.goto 4, 3) := by decide +kernel
theorem dX8_comes_113 : decode cX8_comes 113 = .ok (.iconst 0, 1) := by decide +kernel
theorem dX8_comes_114 : decode cX8_comes 114 = .ok (.iadd, 1) := by decide +kernel
theorem dX8_comes_115 : decode cX8_comes 115 = .ok (.istore 4, 2) := by decide +kernel
theorem dX8_comes_117 : decode cX8_comes 117 = .ok (.iinc 5 1, 3) := by decide +kernel
theorem dX8_comes_120 : decode cX8_comes 120 = .ok (.goto (-55), 3) := by decide +kernel
theorem dX8_comes_123 : decode cX8_comes 123 = .ok (.aload_n 0, 1) := by decide +kernel
theorem dX8_comes_124 : decode cX8_comes 124 = .ok (.getfield 22, 3) := by decide +kernel
theorem dX8_comes_127 : decode cX8_comes 127 = .ok (.iload_n 3, 1) := by decide +kernel
theorem dX8_comes_128 : decode cX8_comes 128 = .ok (.iconst 0, 1) := by decide +kernel
theorem dX8_comes_129 : decode cX8_comes 129 = .ok (.invokestatic 139, 3) := by decide +kernel
theorem dX8_comes_132 : decode cX8_comes 132 = .ok (.iload 4, 2) := by decide +kernel
theorem dX8_comes_134 : decode cX8_comes 134 = .ok (.ifCond .ne 7, 3) := by decide +kernel
theorem dX8_comes_137 : decode cX8_comes 137 = .ok (.iconst 1, 1) := by decide +kernel
theorem dX8_comes_138 : decode cX8_comes 138 = .ok (.goto 13, 3) := by decide +kernel
theorem dX8_comes_141 : decode cX8_comes 141 = .ok (.aload_n 0, 1) := by decide +kernel
theorem dX8_comes_142 : decode cX8_comes 142 = .ok (.getfield 22, 3) := by decide +kernel
theorem dX8_comes_145 : decode cX8_comes 145 = .ok (.iload_n 3, 1) := by decide +kernel
theorem dX8_comes_146 : decode cX8_comes 146 = .ok (.iconst 0, 1) := by decide +kernel
theorem dX8_comes_147 : decode cX8_comes 147 = .ok (.invokestatic 139, 3) := by decide +kernel
theorem dX8_comes_150 : decode cX8_comes 150 = .ok (.iaload, 1) := by decide +kernel
theorem dX8_comes_151 : decode cX8_comes 151 = .ok (.iastore, 1) := by decide +kernel
theorem dX8_comes_152 : decode cX8_comes 152 = .ok (.aload_n 0, 1) := by decide +kernel
theorem dX8_comes_153 : decode cX8_comes 153 = .ok (.getfield 22, 3) := by decide +kernel
theorem dX8_comes_156 : decode cX8_comes 156 = .ok (.iload_n 1, 1) := by decide +kernel
theorem dX8_comes_157 : decode cX8_comes 157 = .ok (.iconst 0, 1) := by decide +kernel
theorem dX8_comes_158 : decode cX8_comes 158 = .ok (.invokestatic 143, 3) := by decide +kernel
theorem dX8_comes_161 : decode cX8_comes 161 = .ok (.dup2, 1) := by decide +kernel
theorem dX8_comes_162 : decode cX8_comes 162 = .ok (.iaload, 1) := by decide +kernel
theorem dX8_comes_163 : decode cX8_comes 163 = .ok (.iload_n 2, 1) := by decide +kernel
theorem dX8_comes_164 : decode cX8_comes 164 = .ok (.iadd, 1) := by decide +kernel
theorem dX8_comes_165 : decode cX8_comes 165 = .ok (.iastore, 1) := by decide +kernel
theorem dX8_comes_166 : decode cX8_comes 166 = .ok (.aload_n 0, 1) := by decide +kernel
theorem dX8_comes_167 : decode cX8_comes 167 = .ok (.getfield 22, 3) := by decide +kernel
theorem dX8_comes_170 : decode cX8_comes 170 = .ok (.iload_n 1, 1) := by decide +kernel
theorem dX8_comes_171 : decode cX8_comes 171 = .ok (.iconst 0, 1) := by decide +kernel
theorem dX8_comes_172 : decode cX8_comes 172 = .ok (.invokestatic 143, 3) := by decide +kernel
theorem dX8_comes_175 : decode cX8_comes 175 = .ok (.iaload, 1) := by decide +kernel
theorem dX8_comes_176 : decode cX8_comes 176 = .ok (.ireturn, 1) := by decide +kernel
set_option maxRecDepth 20000 in
theorem ggX8_steps_X8_in : GoodIn wsX8_steps wsX8_in := goodIn_r _ [7] (by decide +kernel) (by decide +kernel)
set_option maxRecDepth 20000 in
theorem gX8_steps_X8_in : GoodIn wsX8_steps (va_wsS RX8 60 yX8_in wsX8_in) := goodIn_app (goodIn_of _ (by decide +kernel)) ggX8_steps_X8_in
set_option maxRecDepth 20000 in
theorem ggX8_steps_X8_notes : GoodIn wsX8_steps wsX8_notes := goodIn_r _ [11, 12, 13, 2, 14, 15, 16, 6, 17, 93, 94, 95, 96, 97, 98, 99, 100, 101, 102, 103, 104, 105, 106, 107, 108, 109, 110, 111, 112, 113, 114, 115, 116, 117, 118, 119, 120, 121, 122, 123, 124] (by decide +kernel) (by decide +kernel)
set_option maxRecDepth 20000 in
theorem gX8_steps_X8_notes : GoodIn wsX8_steps (wsV RX8 206 RX8 yX8_notes wsX8_notes) := goodIn_app (goodIn_of _ (by decide +kernel)) ggX8_steps_X8_notes
set_option maxRecDepth 20000 in
theorem ggX8_steps_X8_step : GoodIn wsX8_steps wsX8_step := goodIn_r _ [21, 22, 2, 23, 24, 25, 26, 6, 27, 28, 29, 30, 31, 32, 33, 34, 35, 36, 37, 38, 39, 40, 41, 42, 43, 44, 45, 46, 47, 48, 49, 50, 51, 52, 53, 54, 55, 56, 57, 58, 59, 60, 3, 61, 62, 63, 64, 65, 66, 67, 68, 69, 70, 71, 72, 73, 74, 75, 76, 77, 78, 79, 80, 81, 82, 83, 84, 85, 86, 87, 88, 89, 90, 91, 92, 93, 94, 95, 96, 97, 98, 99, 100, 101, 102, 103, 104, 105, 106, 107, 108, 109, 110, 111, 112, 113, 114, 115, 116, 117, 118, 119, 120, 121, 122, 123, 124] (by decide +kernel) (by decide +kernel)
set_option maxRecDepth 20000 in
theorem gX8_steps_X8_step : GoodIn wsX8_steps (wsV RX8 209 RX8 yX8_step wsX8_step) := goodIn_app (goodIn_of _ (by decide +kernel)) ggX8_steps_X8_step
theorem dX8_steps_0 : decode cX8_steps 0 = .ok (.aload_n 0, 1) := by decide +kernel
theorem dX8_steps_1 : decode cX8_steps 1 = .ok (.iconst 0, 1) := by decide +kernel
theorem dX8_steps_2 : decode cX8_steps 2 = .ok (.putfield 53, 3) := by decide +kernel
theorem dX8_steps_5 : decode cX8_steps 5 = .ok (.iload_n 1, 1) := by decide +kernel
theorem dX8_steps_6 : decode cX8_steps 6 = .ok (.iconst 1, 1) := by decide +kernel
theorem dX8_steps_7 : decode cX8_steps 7 = .ok (.bipush 40, 2) := by decide +kernel
theorem dX8_steps_9 : decode cX8_steps 9 = .ok (.invokestatic 60, 3) := by decide +kernel
theorem dX8_steps_12 : decode cX8_steps 12 = .ok (.ifCond .ne 5, 3) := by decide +kernel
theorem dX8_steps_15 : decode cX8_steps 15 = .ok (.iconst (-1), 1) := by decide +kernel
theorem dX8_steps_16 : decode cX8_steps 16 = .ok (.ireturn, 1) := by decide +kernel
theorem dX8_steps_17 : decode cX8_steps 17 = .ok (.aload_n 0, 1) := by decide +kernel
theorem dX8_steps_18 : decode cX8_steps 18 = .ok (.getfield 22, 3) := by decide +kernel
theorem dX8_steps_21 : decode cX8_steps 21 = .ok (.iconst 0, 1) := by decide +kernel
theorem dX8_steps_22 : decode cX8_steps 22 = .ok (.iaload, 1) := by decide +kernel
theorem dX8_steps_23 : decode cX8_steps 23 = .ok (.iload_n 1, 1) := by decide +kernel
theorem dX8_steps_24 : decode cX8_steps 24 = .ok (.iadd, 1) := by decide +kernel
theorem dX8_steps_25 : decode cX8_steps 25 = .ok (.sipush 199, 3) := by decide +kernel
theorem dX8_steps_28 : decode cX8_steps 28 = .ok (.if_icmp .le 6, 3) := by decide +kernel
theorem dX8_steps_31 : decode cX8_steps 31 = .ok (.bipush (-2), 2) := by decide +kernel
theorem dX8_steps_33 : decode cX8_steps 33 = .ok (.ireturn, 1) := by decide +kernel
theorem dX8_steps_34 : decode cX8_steps 34 = .ok (.aload_n 0, 1) := by decide +kernel
theorem dX8_steps_35 : decode cX8_steps 35 = .ok (.invokevirtual 206, 3) := by decide +kernel
theorem dX8_steps_38 : decode cX8_steps 38 = .ok (.aload_n 0, 1) := by decide +kernel
theorem dX8_steps_39 : decode cX8_steps 39 = .ok (.iconst 0, 1) := by decide +kernel
theorem dX8_steps_40 : decode cX8_steps 40 = .ok (.putfield 156, 3) := by decide +kernel
theorem dX8_steps_43 : decode cX8_steps 43 = .ok (.iconst 0, 1) := by decide +kernel
theorem dX8_steps_44 : decode cX8_steps 44 = .ok (.istore_n 2, 1) := by decide +kernel
theorem dX8_steps_45 : decode cX8_steps 45 = .ok (.iload_n 2, 1) := by decide +kernel
theorem dX8_steps_46 : decode cX8_steps 46 = .ok (.iload_n 1, 1) := by decide +kernel
theorem dX8_steps_47 : decode cX8_steps 47 = .ok (.if_icmp .ge 13, 3) := by decide +kernel
theorem dX8_steps_50 : decode cX8_steps 50 = .ok (.aload_n 0, 1) := by decide +kernel
theorem dX8_steps_51 : decode cX8_steps 51 = .ok (.invokevirtual 209, 3) := by decide +kernel
theorem dX8_steps_54 : decode cX8_steps 54 = .ok (.iinc 2 1, 3) := by decide +kernel
theorem dX8_steps_57 : decode cX8_steps 57 = .ok (.goto (-12), 3) := by decide +kernel
theorem dX8_steps_60 : decode cX8_steps 60 = .ok (.aload_n 0, 1) := by decide +kernel
theorem dX8_steps_61 : decode cX8_steps 61 = .ok (.getfield 156, 3) := by decide +kernel
theorem dX8_steps_64 : decode cX8_steps 64 = .ok (.ireturn, 1) := by decide +kernel
set_option maxRecDepth 20000 in
theorem ggX8_deafen_X8_isDeaf : GoodIn wsX8_deafen wsX8_isDeaf := goodIn_r _ [6, 1, 7, 8, 5, 9, 10, 11, 12, 13, 14, 15, 16, 17, 18, 19, 20, 21, 22, 23, 24, 25, 26, 27, 28, 29, 30, 31, 32, 33, 34, 35, 36, 37, 38, 39, 40, 41] (by decide +kernel) (by decide +kernel)
set_option maxRecDepth 20000 in
theorem gX8_deafen_X8_isDeaf : GoodIn wsX8_deafen (wsV RX8 153 RX8 yX8_isDeaf wsX8_isDeaf) := goodIn_app (goodIn_of _ (by decide +kernel)) ggX8_deafen_X8_isDeaf
set_option maxRecDepth 20000 in
theorem ggX8_deafen_X8_ofTerminal : GoodIn wsX8_deafen wsX8_ofTerminal := goodIn_r _ [9] (by decide +kernel) (by decide +kernel)
set_option maxRecDepth 20000 in
theorem gX8_deafen_X8_ofTerminal : GoodIn wsX8_deafen (va_wsS RX8 139 yX8_ofTerminal wsX8_ofTerminal) := goodIn_app (goodIn_of _ (by decide +kernel)) ggX8_deafen_X8_ofTerminal
theorem dX8_deafen_0 : decode cX8_deafen 0 = .ok (.iconst 0, 1) := by decide +kernel
theorem dX8_deafen_1 : decode cX8_deafen 1 = .ok (.istore 4, 2) := by decide +kernel
theorem dX8_deafen_3 : decode cX8_deafen 3 = .ok (.iload_n 2, 1) := by decide +kernel
theorem dX8_deafen_4 : decode cX8_deafen 4 = .ok (.istore 5, 2) := by decide +kernel
theorem dX8_deafen_6 : decode cX8_deafen 6 = .ok (.iload 5, 2) := by decide +kernel
theorem dX8_deafen_8 : decode cX8_deafen 8 = .ok (.iload_n 3, 1) := by decide +kernel
theorem dX8_deafen_9 : decode cX8_deafen 9 = .ok (.if_icmp .gt 64, 3) := by decide +kernel
theorem dX8_deafen_12 : decode cX8_deafen 12 = .ok (.iload 5, 2) := by decide +kernel
theorem dX8_deafen_14 : decode cX8_deafen 14 = .ok (.sipush 199, 3) := by decide +kernel
theorem dX8_deafen_17 : decode cX8_deafen 17 = .ok (.if_icmp .gt 56, 3) := by decide +kernel
theorem dX8_deafen_20 : decode cX8_deafen 20 = .ok (.iload 4, 2) := by decide +kernel
theorem dX8_deafen_22 : decode cX8_deafen 22 = .ok (.aload_n 0, 1) := by decide +kernel
theorem dX8_deafen_23 : decode cX8_deafen 23 = .ok (.iload_n 1, 1) := by decide +kernel
theorem dX8_deafen_24 : decode cX8_deafen 24 = .ok (.iload 5, 2) := by decide +kernel
theorem dX8_deafen_26 : decode cX8_deafen 26 = .ok (.invokevirtual 153, 3) := by decide +kernel
theorem dX8_deafen_29 : decode cX8_deafen 29 = .ok (.ifCond .eq 7, 3) := by decide +kernel
theorem dX8_deafen_32 : decode cX8_deafen 32 = .ok (.iconst 0, 1) := by decide +kernel
theorem dX8_deafen_33 : decode cX8_deafen 33 = .ok (.goto 4, 3) := by decide +kernel
theorem dX8_deafen_36 : decode cX8_deafen 36 = .ok (.iconst 1, 1) := by decide +kernel
theorem dX8_deafen_37 : decode cX8_deafen 37 = .ok (.iadd, 1) := by decide +kernel
theorem dX8_deafen_38 : decode cX8_deafen 38 = .ok (.istore 4, 2) := by decide +kernel
theorem dX8_deafen_40 : decode cX8_deafen 40 = .ok (.aload_n 0, 1) := by decide +kernel
theorem dX8_deafen_41 : decode cX8_deafen 41 = .ok (.getfield 22, 3) := by decide +kernel
theorem dX8_deafen_44 : decode cX8_deafen 44 = .ok (.iload_n 1, 1) := by decide +kernel
theorem dX8_deafen_45 : decode cX8_deafen 45 = .ok (.bipush 6, 2) := by decide +kernel
theorem dX8_deafen_47 : decode cX8_deafen 47 = .ok (.iload 5, 2) := by decide +kernel
theorem dX8_deafen_49 : decode cX8_deafen 49 = .ok (.bipush 30, 2) := by decide +kernel
theorem dX8_deafen_51 : decode cX8_deafen 51 = .ok (.idiv, 1) := by decide +kernel
theorem dX8_deafen_52 : decode cX8_deafen 52 = .ok (.iadd, 1) := by decide +kernel
theorem dX8_deafen_53 : decode cX8_deafen 53 = .ok (.invokestatic 139, 3) := by decide +kernel
theorem dX8_deafen_56 : decode cX8_deafen 56 = .ok (.dup2, 1) := by decide +kernel
theorem dX8_deafen_57 : decode cX8_deafen 57 = .ok (.iaload, 1) := by decide +kernel
theorem dX8_deafen_58 : decode cX8_deafen 58 = .ok (.iconst 1, 1) := by decide +kernel
theorem dX8_deafen_59 : decode cX8_deafen 59 = .ok (.iload 5, 2) := by decide +kernel
theorem dX8_deafen_61 : decode cX8_deafen 61 = .ok (.bipush 30, 2) := by decide +kernel
theorem dX8_deafen_63 : decode cX8_deafen 63 = .ok (.irem, 1) := by decide +kernel
theorem dX8_deafen_64 : decode cX8_deafen 64 = .ok (.ishl, 1) := by decide +kernel
theorem dX8_deafen_65 : decode cX8_deafen 65 = .ok (.ior, 1) := by decide +kernel
theorem dX8_deafen_66 : decode cX8_deafen 66 = .ok (.iastore, 1) := by decide +kernel
theorem dX8_deafen_67 : decode cX8_deafen 67 = .ok (.iinc 5 1, 3) := by decide +kernel
theorem dX8_deafen_70 : decode cX8_deafen 70 = .ok (.goto (-64), 3) := by decide +kernel
theorem dX8_deafen_73 : decode cX8_deafen 73 = .ok (.iload 4, 2) := by decide +kernel
theorem dX8_deafen_75 : decode cX8_deafen 75 = .ok (.ireturn, 1) := by decide +kernel
set_option maxRecDepth 20000 in
theorem ggX8_deafens_X8_isTerminal : GoodIn wsX8_deafens wsX8_isTerminal := goodIn_r _ [7, 8, 9, 10, 6, 11, 33, 34, 35, 36, 37, 38, 39, 40, 41, 42, 43, 44, 45, 46, 47, 48, 49, 50, 51, 52, 53, 54, 55, 56, 57, 58, 59, 60, 61, 62, 63, 64] (by decide +kernel) (by decide +kernel)
set_option maxRecDepth 20000 in
theorem gX8_deafens_X8_isTerminal : GoodIn wsX8_deafens (wsV RX8 212 RX8 yX8_isTerminal wsX8_isTerminal) := goodIn_app (goodIn_of _ (by decide +kernel)) ggX8_deafens_X8_isTerminal
set_option maxRecDepth 20000 in
theorem ggX8_deafens_X8_in : GoodIn wsX8_deafens wsX8_in := goodIn_r _ [11] (by decide +kernel) (by decide +kernel)
set_option maxRecDepth 20000 in
theorem gX8_deafens_X8_in : GoodIn wsX8_deafens (va_wsS RX8 60 yX8_in wsX8_in) := goodIn_app (goodIn_of _ (by decide +kernel)) ggX8_deafens_X8_in
