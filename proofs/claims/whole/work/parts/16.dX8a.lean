set_option maxRecDepth 20000 in
theorem ggX8_init_X8_begins : GoodIn wsX8_init wsX8_begins := goodIn_r _ [22, 23, 24, 25, 26, 27, 28, 40, 41, 42, 43, 44, 45, 46, 47, 48, 49, 50, 51, 52, 53, 54, 55, 56, 57, 58, 59, 60, 61, 62, 63, 64, 65, 66, 67, 68, 69, 70, 71] (by decide +kernel) (by decide +kernel)
set_option maxRecDepth 20000 in
theorem gX8_init_X8_begins : GoodIn wsX8_init (wsV RX8 47 RX8 yX8_begins wsX8_begins) := goodIn_app (goodIn_of _ (by decide +kernel)) ggX8_init_X8_begins
set_option maxRecDepth 20000 in
theorem ggX8_init_X8_becomes : GoodIn wsX8_init wsX8_becomes := goodIn_r _ [32, 23, 33, 24, 34, 26, 35, 27, 36, 28, 37, 5, 7, 6, 8, 9, 25, 38, 39, 13, 40, 41, 42, 43, 44, 45, 46, 47, 48, 49, 50, 51, 52, 53, 54, 55, 56, 57, 58, 59, 60, 61, 62, 63, 64, 65, 66, 67, 68, 69, 70, 71] (by decide +kernel) (by decide +kernel)
set_option maxRecDepth 20000 in
theorem gX8_init_X8_becomes : GoodIn wsX8_init (wsV RX8 50 RX8 yX8_becomes wsX8_becomes) := goodIn_app (goodIn_of _ (by decide +kernel)) ggX8_init_X8_becomes
theorem dX8_init_0 : decode cX8_init 0 = .ok (.aload_n 0, 1) := by decide +kernel
theorem dX8_init_1 : decode cX8_init 1 = .ok (.invokespecial 1, 3) := by decide +kernel
theorem dX8_init_4 : decode cX8_init 4 = .ok (.aload_n 0, 1) := by decide +kernel
theorem dX8_init_5 : decode cX8_init 5 = .ok (.iconst 3, 1) := by decide +kernel
theorem dX8_init_6 : decode cX8_init 6 = .ok (.newarray .int, 2) := by decide +kernel
theorem dX8_init_8 : decode cX8_init 8 = .ok (.putfield 7, 3) := by decide +kernel
theorem dX8_init_11 : decode cX8_init 11 = .ok (.aload_n 0, 1) := by decide +kernel
theorem dX8_init_12 : decode cX8_init 12 = .ok (.bipush 24, 2) := by decide +kernel
theorem dX8_init_14 : decode cX8_init 14 = .ok (.newarray .int, 2) := by decide +kernel
theorem dX8_init_16 : decode cX8_init 16 = .ok (.putfield 13, 3) := by decide +kernel
theorem dX8_init_19 : decode cX8_init 19 = .ok (.aload_n 0, 1) := by decide +kernel
theorem dX8_init_20 : decode cX8_init 20 = .ok (.iconst 3, 1) := by decide +kernel
theorem dX8_init_21 : decode cX8_init 21 = .ok (.newarray .int, 2) := by decide +kernel
theorem dX8_init_23 : decode cX8_init 23 = .ok (.putfield 16, 3) := by decide +kernel
theorem dX8_init_26 : decode cX8_init 26 = .ok (.aload_n 0, 1) := by decide +kernel
theorem dX8_init_27 : decode cX8_init 27 = .ok (.bipush 24, 2) := by decide +kernel
theorem dX8_init_29 : decode cX8_init 29 = .ok (.newarray .int, 2) := by decide +kernel
theorem dX8_init_31 : decode cX8_init 31 = .ok (.putfield 19, 3) := by decide +kernel
theorem dX8_init_34 : decode cX8_init 34 = .ok (.aload_n 0, 1) := by decide +kernel
theorem dX8_init_35 : decode cX8_init 35 = .ok (.sipush 667, 3) := by decide +kernel
theorem dX8_init_38 : decode cX8_init 38 = .ok (.newarray .int, 2) := by decide +kernel
theorem dX8_init_40 : decode cX8_init 40 = .ok (.putfield 22, 3) := by decide +kernel
theorem dX8_init_43 : decode cX8_init 43 = .ok (.aload_n 0, 1) := by decide +kernel
theorem dX8_init_44 : decode cX8_init 44 = .ok (.sipush 5336, 3) := by decide +kernel
theorem dX8_init_47 : decode cX8_init 47 = .ok (.newarray .int, 2) := by decide +kernel
theorem dX8_init_49 : decode cX8_init 49 = .ok (.putfield 25, 3) := by decide +kernel
theorem dX8_init_52 : decode cX8_init 52 = .ok (.aload_n 0, 1) := by decide +kernel
theorem dX8_init_53 : decode cX8_init 53 = .ok (.sipush 1334, 3) := by decide +kernel
theorem dX8_init_56 : decode cX8_init 56 = .ok (.newarray .int, 2) := by decide +kernel
theorem dX8_init_58 : decode cX8_init 58 = .ok (.putfield 28, 3) := by decide +kernel
theorem dX8_init_61 : decode cX8_init 61 = .ok (.aload_n 0, 1) := by decide +kernel
theorem dX8_init_62 : decode cX8_init 62 = .ok (.iconst 2, 1) := by decide +kernel
theorem dX8_init_63 : decode cX8_init 63 = .ok (.newarray .boolean, 2) := by decide +kernel
theorem dX8_init_65 : decode cX8_init 65 = .ok (.putfield 31, 3) := by decide +kernel
theorem dX8_init_68 : decode cX8_init 68 = .ok (.aload_n 0, 1) := by decide +kernel
theorem dX8_init_69 : decode cX8_init 69 = .ok (.sipush 667, 3) := by decide +kernel
theorem dX8_init_72 : decode cX8_init 72 = .ok (.newarray .int, 2) := by decide +kernel
theorem dX8_init_74 : decode cX8_init 74 = .ok (.putfield 35, 3) := by decide +kernel
theorem dX8_init_77 : decode cX8_init 77 = .ok (.aload_n 0, 1) := by decide +kernel
theorem dX8_init_78 : decode cX8_init 78 = .ok (.iconst 4, 1) := by decide +kernel
theorem dX8_init_79 : decode cX8_init 79 = .ok (.newarray .int, 2) := by decide +kernel
theorem dX8_init_81 : decode cX8_init 81 = .ok (.putfield 38, 3) := by decide +kernel
theorem dX8_init_84 : decode cX8_init 84 = .ok (.aload_n 0, 1) := by decide +kernel
theorem dX8_init_85 : decode cX8_init 85 = .ok (.iconst 4, 1) := by decide +kernel
theorem dX8_init_86 : decode cX8_init 86 = .ok (.newarray .int, 2) := by decide +kernel
theorem dX8_init_88 : decode cX8_init 88 = .ok (.putfield 41, 3) := by decide +kernel
theorem dX8_init_91 : decode cX8_init 91 = .ok (.aload_n 0, 1) := by decide +kernel
theorem dX8_init_92 : decode cX8_init 92 = .ok (.bipush 120, 2) := by decide +kernel
theorem dX8_init_94 : decode cX8_init 94 = .ok (.newarray .int, 2) := by decide +kernel
theorem dX8_init_96 : decode cX8_init 96 = .ok (.putfield 44, 3) := by decide +kernel
theorem dX8_init_99 : decode cX8_init 99 = .ok (.aload_n 0, 1) := by decide +kernel
theorem dX8_init_100 : decode cX8_init 100 = .ok (.invokevirtual 47, 3) := by decide +kernel
theorem dX8_init_103 : decode cX8_init 103 = .ok (.aload_n 0, 1) := by decide +kernel
theorem dX8_init_104 : decode cX8_init 104 = .ok (.invokevirtual 50, 3) := by decide +kernel
theorem dX8_init_107 : decode cX8_init 107 = .ok (.return_, 1) := by decide +kernel
theorem dX8_in_0 : decode cX8_in 0 = .ok (.iload_n 0, 1) := by decide +kernel
theorem dX8_in_1 : decode cX8_in 1 = .ok (.iload_n 1, 1) := by decide +kernel
theorem dX8_in_2 : decode cX8_in 2 = .ok (.if_icmp .lt 12, 3) := by decide +kernel
theorem dX8_in_5 : decode cX8_in 5 = .ok (.iload_n 0, 1) := by decide +kernel
theorem dX8_in_6 : decode cX8_in 6 = .ok (.iload_n 2, 1) := by decide +kernel
theorem dX8_in_7 : decode cX8_in 7 = .ok (.if_icmp .gt 7, 3) := by decide +kernel
theorem dX8_in_10 : decode cX8_in 10 = .ok (.iconst 1, 1) := by decide +kernel
theorem dX8_in_11 : decode cX8_in 11 = .ok (.goto 4, 3) := by decide +kernel
theorem dX8_in_14 : decode cX8_in 14 = .ok (.iconst 0, 1) := by decide +kernel
theorem dX8_in_15 : decode cX8_in 15 = .ok (.ireturn, 1) := by decide +kernel
theorem dX8_less_0 : decode cX8_less 0 = .ok (.iload_n 0, 1) := by decide +kernel
theorem dX8_less_1 : decode cX8_less 1 = .ok (.iload_n 1, 1) := by decide +kernel
theorem dX8_less_2 : decode cX8_less 2 = .ok (.if_icmp .ge 7, 3) := by decide +kernel
theorem dX8_less_5 : decode cX8_less 5 = .ok (.iload_n 0, 1) := by decide +kernel
theorem dX8_less_6 : decode cX8_less 6 = .ok (.goto 4, 3) := by decide +kernel
theorem dX8_less_9 : decode cX8_less 9 = .ok (.iload_n 1, 1) := by decide +kernel
theorem dX8_less_10 : decode cX8_less 10 = .ok (.ireturn, 1) := by decide +kernel
set_option maxRecDepth 20000 in
theorem ggX8_isTerminal_X8_in : GoodIn wsX8_isTerminal wsX8_in := goodIn_r _ [5] (by decide +kernel) (by decide +kernel)
set_option maxRecDepth 20000 in
theorem gX8_isTerminal_X8_in : GoodIn wsX8_isTerminal (va_wsS RX8 60 yX8_in wsX8_in) := goodIn_app (goodIn_of _ (by decide +kernel)) ggX8_isTerminal_X8_in
theorem dX8_isTerminal_0 : decode cX8_isTerminal 0 = .ok (.iload_n 1, 1) := by decide +kernel
theorem dX8_isTerminal_1 : decode cX8_isTerminal 1 = .ok (.iconst 0, 1) := by decide +kernel
theorem dX8_isTerminal_2 : decode cX8_isTerminal 2 = .ok (.aload_n 0, 1) := by decide +kernel
theorem dX8_isTerminal_3 : decode cX8_isTerminal 3 = .ok (.getfield 57, 3) := by decide +kernel
theorem dX8_isTerminal_6 : decode cX8_isTerminal 6 = .ok (.iconst 1, 1) := by decide +kernel
theorem dX8_isTerminal_7 : decode cX8_isTerminal 7 = .ok (.isub, 1) := by decide +kernel
theorem dX8_isTerminal_8 : decode cX8_isTerminal 8 = .ok (.invokestatic 60, 3) := by decide +kernel
theorem dX8_isTerminal_11 : decode cX8_isTerminal 11 = .ok (.ireturn, 1) := by decide +kernel
set_option maxRecDepth 20000 in
theorem ggX8_isClass_X8_in : GoodIn wsX8_isClass wsX8_in := goodIn_r _ [5] (by decide +kernel) (by decide +kernel)
set_option maxRecDepth 20000 in
theorem gX8_isClass_X8_in : GoodIn wsX8_isClass (va_wsS RX8 60 yX8_in wsX8_in) := goodIn_app (goodIn_of _ (by decide +kernel)) ggX8_isClass_X8_in
theorem dX8_isClass_0 : decode cX8_isClass 0 = .ok (.iload_n 1, 1) := by decide +kernel
theorem dX8_isClass_1 : decode cX8_isClass 1 = .ok (.iconst 0, 1) := by decide +kernel
theorem dX8_isClass_2 : decode cX8_isClass 2 = .ok (.aload_n 0, 1) := by decide +kernel
theorem dX8_isClass_3 : decode cX8_isClass 3 = .ok (.getfield 64, 3) := by decide +kernel
theorem dX8_isClass_6 : decode cX8_isClass 6 = .ok (.iconst 1, 1) := by decide +kernel
theorem dX8_isClass_7 : decode cX8_isClass 7 = .ok (.isub, 1) := by decide +kernel
theorem dX8_isClass_8 : decode cX8_isClass 8 = .ok (.invokestatic 60, 3) := by decide +kernel
theorem dX8_isClass_11 : decode cX8_isClass 11 = .ok (.ireturn, 1) := by decide +kernel
theorem dX8_ofTerminal_0 : decode cX8_ofTerminal 0 = .ok (.iconst 4, 1) := by decide +kernel
theorem dX8_ofTerminal_1 : decode cX8_ofTerminal 1 = .ok (.bipush 13, 2) := by decide +kernel
theorem dX8_ofTerminal_3 : decode cX8_ofTerminal 3 = .ok (.iload_n 0, 1) := by decide +kernel
theorem dX8_ofTerminal_4 : decode cX8_ofTerminal 4 = .ok (.imul, 1) := by decide +kernel
theorem dX8_ofTerminal_5 : decode cX8_ofTerminal 5 = .ok (.iadd, 1) := by decide +kernel
theorem dX8_ofTerminal_6 : decode cX8_ofTerminal 6 = .ok (.iload_n 1, 1) := by decide +kernel
theorem dX8_ofTerminal_7 : decode cX8_ofTerminal 7 = .ok (.iadd, 1) := by decide +kernel
theorem dX8_ofTerminal_8 : decode cX8_ofTerminal 8 = .ok (.ireturn, 1) := by decide +kernel
theorem dX8_ofClass_0 : decode cX8_ofClass 0 = .ok (.bipush 43, 2) := by decide +kernel
theorem dX8_ofClass_2 : decode cX8_ofClass 2 = .ok (.iconst 4, 1) := by decide +kernel
theorem dX8_ofClass_3 : decode cX8_ofClass 3 = .ok (.iload_n 0, 1) := by decide +kernel
theorem dX8_ofClass_4 : decode cX8_ofClass 4 = .ok (.imul, 1) := by decide +kernel
theorem dX8_ofClass_5 : decode cX8_ofClass 5 = .ok (.iadd, 1) := by decide +kernel
theorem dX8_ofClass_6 : decode cX8_ofClass 6 = .ok (.iload_n 1, 1) := by decide +kernel
theorem dX8_ofClass_7 : decode cX8_ofClass 7 = .ok (.iadd, 1) := by decide +kernel
theorem dX8_ofClass_8 : decode cX8_ofClass 8 = .ok (.ireturn, 1) := by decide +kernel
theorem dX8_ofBlock_0 : decode cX8_ofBlock 0 = .ok (.bipush 67, 2) := by decide +kernel
theorem dX8_ofBlock_2 : decode cX8_ofBlock 2 = .ok (.bipush 10, 2) := by decide +kernel
theorem dX8_ofBlock_4 : decode cX8_ofBlock 4 = .ok (.iload_n 0, 1) := by decide +kernel
theorem dX8_ofBlock_5 : decode cX8_ofBlock 5 = .ok (.imul, 1) := by decide +kernel
theorem dX8_ofBlock_6 : decode cX8_ofBlock 6 = .ok (.iadd, 1) := by decide +kernel
theorem dX8_ofBlock_7 : decode cX8_ofBlock 7 = .ok (.iload_n 1, 1) := by decide +kernel
theorem dX8_ofBlock_8 : decode cX8_ofBlock 8 = .ok (.iadd, 1) := by decide +kernel
theorem dX8_ofBlock_9 : decode cX8_ofBlock 9 = .ok (.ireturn, 1) := by decide +kernel
set_option maxRecDepth 20000 in
theorem ggX8_type_X8_in : GoodIn wsX8_type wsX8_in := goodIn_r _ [7] (by decide +kernel) (by decide +kernel)
set_option maxRecDepth 20000 in
theorem gX8_type_X8_in : GoodIn wsX8_type (va_wsS RX8 60 yX8_in wsX8_in) := goodIn_app (goodIn_of _ (by decide +kernel)) ggX8_type_X8_in
theorem dX8_type_0 : decode cX8_type 0 = .ok (.aload_n 0, 1) := by decide +kernel
theorem dX8_type_1 : decode cX8_type 1 = .ok (.iconst 0, 1) := by decide +kernel
theorem dX8_type_2 : decode cX8_type 2 = .ok (.putfield 53, 3) := by decide +kernel
theorem dX8_type_5 : decode cX8_type 5 = .ok (.iload_n 1, 1) := by decide +kernel
theorem dX8_type_6 : decode cX8_type 6 = .ok (.iconst 0, 1) := by decide +kernel
theorem dX8_type_7 : decode cX8_type 7 = .ok (.sipush 255, 3) := by decide +kernel
theorem dX8_type_10 : decode cX8_type 10 = .ok (.invokestatic 60, 3) := by decide +kernel
theorem dX8_type_13 : decode cX8_type 13 = .ok (.ifCond .ne 5, 3) := by decide +kernel
theorem dX8_type_16 : decode cX8_type 16 = .ok (.iconst (-1), 1) := by decide +kernel
theorem dX8_type_17 : decode cX8_type 17 = .ok (.ireturn, 1) := by decide +kernel
theorem dX8_type_18 : decode cX8_type 18 = .ok (.aload_n 0, 1) := by decide +kernel
theorem dX8_type_19 : decode cX8_type 19 = .ok (.getfield 67, 3) := by decide +kernel
theorem dX8_type_22 : decode cX8_type 22 = .ok (.bipush 120, 2) := by decide +kernel
theorem dX8_type_24 : decode cX8_type 24 = .ok (.if_icmp .ne 6, 3) := by decide +kernel
theorem dX8_type_27 : decode cX8_type 27 = .ok (.bipush (-3), 2) := by decide +kernel
theorem dX8_type_29 : decode cX8_type 29 = .ok (.ireturn, 1) := by decide +kernel
theorem dX8_type_30 : decode cX8_type 30 = .ok (.aload_n 0, 1) := by decide +kernel
theorem dX8_type_31 : decode cX8_type 31 = .ok (.getfield 44, 3) := by decide +kernel
theorem dX8_type_34 : decode cX8_type 34 = .ok (.aload_n 0, 1) := by decide +kernel
theorem dX8_type_35 : decode cX8_type 35 = .ok (.getfield 67, 3) := by decide +kernel
theorem dX8_type_38 : decode cX8_type 38 = .ok (.iload_n 1, 1) := by decide +kernel
theorem dX8_type_39 : decode cX8_type 39 = .ok (.iastore, 1) := by decide +kernel
theorem dX8_type_40 : decode cX8_type 40 = .ok (.aload_n 0, 1) := by decide +kernel
theorem dX8_type_41 : decode cX8_type 41 = .ok (.dup, 1) := by decide +kernel
theorem dX8_type_42 : decode cX8_type 42 = .ok (.getfield 67, 3) := by decide +kernel
theorem dX8_type_45 : decode cX8_type 45 = .ok (.iconst 1, 1) := by decide +kernel
theorem dX8_type_46 : decode cX8_type 46 = .ok (.iadd, 1) := by decide +kernel
theorem dX8_type_47 : decode cX8_type 47 = .ok (.putfield 67, 3) := by decide +kernel
theorem dX8_type_50 : decode cX8_type 50 = .ok (.aload_n 0, 1) := by decide +kernel
theorem dX8_type_51 : decode cX8_type 51 = .ok (.getfield 67, 3) := by decide +kernel
theorem dX8_type_54 : decode cX8_type 54 = .ok (.ireturn, 1) := by decide +kernel
theorem dX8_clear_0 : decode cX8_clear 0 = .ok (.aload_n 0, 1) := by decide +kernel
theorem dX8_clear_1 : decode cX8_clear 1 = .ok (.iconst 0, 1) := by decide +kernel
theorem dX8_clear_2 : decode cX8_clear 2 = .ok (.putfield 53, 3) := by decide +kernel
theorem dX8_clear_5 : decode cX8_clear 5 = .ok (.aload_n 0, 1) := by decide +kernel
theorem dX8_clear_6 : decode cX8_clear 6 = .ok (.getfield 67, 3) := by decide +kernel
theorem dX8_clear_9 : decode cX8_clear 9 = .ok (.istore_n 1, 1) := by decide +kernel
theorem dX8_clear_10 : decode cX8_clear 10 = .ok (.aload_n 0, 1) := by decide +kernel
theorem dX8_clear_11 : decode cX8_clear 11 = .ok (.iconst 0, 1) := by decide +kernel
theorem dX8_clear_12 : decode cX8_clear 12 = .ok (.putfield 67, 3) := by decide +kernel
theorem dX8_clear_15 : decode cX8_clear 15 = .ok (.iload_n 1, 1) := by decide +kernel
theorem dX8_clear_16 : decode cX8_clear 16 = .ok (.ireturn, 1) := by decide +kernel
set_option maxRecDepth 20000 in
theorem ggX8_isFigure_X8_in : GoodIn wsX8_isFigure wsX8_in := goodIn_r _ [6] (by decide +kernel) (by decide +kernel)
set_option maxRecDepth 20000 in
theorem gX8_isFigure_X8_in : GoodIn wsX8_isFigure (va_wsS RX8 60 yX8_in wsX8_in) := goodIn_app (goodIn_of _ (by decide +kernel)) ggX8_isFigure_X8_in
theorem dX8_isFigure_0 : decode cX8_isFigure 0 = .ok (.iload_n 1, 1) := by decide +kernel
theorem dX8_isFigure_1 : decode cX8_isFigure 1 = .ok (.aload_n 0, 1) := by decide +kernel
theorem dX8_isFigure_2 : decode cX8_isFigure 2 = .ok (.getfield 67, 3) := by decide +kernel
theorem dX8_isFigure_5 : decode cX8_isFigure 5 = .ok (.if_icmp .ge 23, 3) := by decide +kernel
theorem dX8_isFigure_8 : decode cX8_isFigure 8 = .ok (.aload_n 0, 1) := by decide +kernel
theorem dX8_isFigure_9 : decode cX8_isFigure 9 = .ok (.getfield 44, 3) := by decide +kernel
theorem dX8_isFigure_12 : decode cX8_isFigure 12 = .ok (.iload_n 1, 1) := by decide +kernel
theorem dX8_isFigure_13 : decode cX8_isFigure 13 = .ok (.iaload, 1) := by decide +kernel
theorem dX8_isFigure_14 : decode cX8_isFigure 14 = .ok (.bipush 48, 2) := by decide +kernel
theorem dX8_isFigure_16 : decode cX8_isFigure 16 = .ok (.bipush 57, 2) := by decide +kernel
theorem dX8_isFigure_18 : decode cX8_isFigure 18 = .ok (.invokestatic 60, 3) := by decide +kernel
theorem dX8_isFigure_21 : decode cX8_isFigure 21 = .ok (.ifCond .eq 7, 3) := by decide +kernel
theorem dX8_isFigure_24 : decode cX8_isFigure 24 = .ok (.iconst 1, 1) := by decide +kernel
theorem dX8_isFigure_25 : decode cX8_isFigure 25 = .ok (.goto 4, 3) := by decide +kernel
theorem dX8_isFigure_28 : decode cX8_isFigure 28 = .ok (.iconst 0, 1) := by decide +kernel
theorem dX8_isFigure_29 : decode cX8_isFigure 29 = .ok (.ireturn, 1) := by decide +kernel
set_option maxRecDepth 20000 in
theorem ggX8_takes_X8_isFigure : GoodIn wsX8_takes wsX8_isFigure := goodIn_r _ [10, 2, 3, 11, 12, 9, 13, 14, 15, 16, 17, 18, 19, 20, 21, 22, 23, 24, 25, 26, 27, 28, 29, 30, 31, 32, 33, 34, 35, 36, 37, 38, 39, 40, 41, 42, 43, 44, 45] (by decide +kernel) (by decide +kernel)
set_option maxRecDepth 20000 in
theorem gX8_takes_X8_isFigure : GoodIn wsX8_takes (wsV RX8 79 RX8 yX8_isFigure wsX8_isFigure) := goodIn_app (goodIn_of _ (by decide +kernel)) ggX8_takes_X8_isFigure
theorem dX8_takes_0 : decode cX8_takes 0 = .ok (.aload_n 0, 1) := by decide +kernel
theorem dX8_takes_1 : decode cX8_takes 1 = .ok (.getfield 70, 3) := by decide +kernel
theorem dX8_takes_4 : decode cX8_takes 4 = .ok (.aload_n 0, 1) := by decide +kernel
theorem dX8_takes_5 : decode cX8_takes 5 = .ok (.getfield 67, 3) := by decide +kernel
theorem dX8_takes_8 : decode cX8_takes 8 = .ok (.if_icmp .ge 30, 3) := by decide +kernel
theorem dX8_takes_11 : decode cX8_takes 11 = .ok (.aload_n 0, 1) := by decide +kernel
theorem dX8_takes_12 : decode cX8_takes 12 = .ok (.getfield 44, 3) := by decide +kernel
theorem dX8_takes_15 : decode cX8_takes 15 = .ok (.aload_n 0, 1) := by decide +kernel
theorem dX8_takes_16 : decode cX8_takes 16 = .ok (.getfield 70, 3) := by decide +kernel
theorem dX8_takes_19 : decode cX8_takes 19 = .ok (.iaload, 1) := by decide +kernel
theorem dX8_takes_20 : decode cX8_takes 20 = .ok (.bipush 32, 2) := by decide +kernel
theorem dX8_takes_22 : decode cX8_takes 22 = .ok (.if_icmp .ne 16, 3) := by decide +kernel
theorem dX8_takes_25 : decode cX8_takes 25 = .ok (.aload_n 0, 1) := by decide +kernel
theorem dX8_takes_26 : decode cX8_takes 26 = .ok (.dup, 1) := by decide +kernel
theorem dX8_takes_27 : decode cX8_takes 27 = .ok (.getfield 70, 3) := by decide +kernel
theorem dX8_takes_30 : decode cX8_takes 30 = .ok (.iconst 1, 1) := by decide +kernel
theorem dX8_takes_31 : decode cX8_takes 31 = .ok (.iadd, 1) := by decide +kernel
theorem dX8_takes_32 : decode cX8_takes 32 = .ok (.putfield 70, 3) := by decide +kernel
theorem dX8_takes_35 : decode cX8_takes 35 = .ok (.goto (-35), 3) := by decide +kernel
theorem dX8_takes_38 : decode cX8_takes 38 = .ok (.aload_n 0, 1) := by decide +kernel
theorem dX8_takes_39 : decode cX8_takes 39 = .ok (.aload_n 0, 1) := by decide +kernel
theorem dX8_takes_40 : decode cX8_takes 40 = .ok (.getfield 70, 3) := by decide +kernel
theorem dX8_takes_43 : decode cX8_takes 43 = .ok (.putfield 73, 3) := by decide +kernel
theorem dX8_takes_46 : decode cX8_takes 46 = .ok (.aload_n 0, 1) := by decide +kernel
theorem dX8_takes_47 : decode cX8_takes 47 = .ok (.aload_n 0, 1) := by decide +kernel
theorem dX8_takes_48 : decode cX8_takes 48 = .ok (.getfield 70, 3) := by decide +kernel
theorem dX8_takes_51 : decode cX8_takes 51 = .ok (.aload_n 0, 1) := by decide +kernel
theorem dX8_takes_52 : decode cX8_takes 52 = .ok (.getfield 67, 3) := by decide +kernel
theorem dX8_takes_55 : decode cX8_takes 55 = .ok (.if_icmp .ge 15, 3) := by decide +kernel
theorem dX8_takes_58 : decode cX8_takes 58 = .ok (.aload_n 0, 1) := by decide +kernel
theorem dX8_takes_59 : decode cX8_takes 59 = .ok (.getfield 44, 3) := by decide +kernel
theorem dX8_takes_62 : decode cX8_takes 62 = .ok (.aload_n 0, 1) := by decide +kernel
theorem dX8_takes_63 : decode cX8_takes 63 = .ok (.getfield 70, 3) := by decide +kernel
theorem dX8_takes_66 : decode cX8_takes 66 = .ok (.iaload, 1) := by decide +kernel
theorem dX8_takes_67 : decode cX8_takes 67 = .ok (.goto 4, 3) := by decide +kernel
theorem dX8_takes_70 : decode cX8_takes 70 = .ok (.iconst (-1), 1) := by decide +kernel
theorem dX8_takes_71 : decode cX8_takes 71 = .ok (.putfield 76, 3) := by decide +kernel
theorem dX8_takes_74 : decode cX8_takes 74 = .ok (.aload_n 0, 1) := by decide +kernel
theorem dX8_takes_75 : decode cX8_takes 75 = .ok (.aload_n 0, 1) := by decide +kernel
theorem dX8_takes_76 : decode cX8_takes 76 = .ok (.getfield 70, 3) := by decide +kernel
theorem dX8_takes_79 : decode cX8_takes 79 = .ok (.invokevirtual 79, 3) := by decide +kernel
theorem dX8_takes_82 : decode cX8_takes 82 = .ok (.ifCond .ne 29, 3) := by decide +kernel
theorem dX8_takes_85 : decode cX8_takes 85 = .ok (.aload_n 0, 1) := by decide +kernel
theorem dX8_takes_86 : decode cX8_takes 86 = .ok (.dup, 1) := by decide +kernel
theorem dX8_takes_87 : decode cX8_takes 87 = .ok (.getfield 70, 3) := by decide +kernel
theorem dX8_takes_90 : decode cX8_takes 90 = .ok (.aload_n 0, 1) := by decide +kernel
theorem dX8_takes_91 : decode cX8_takes 91 = .ok (.getfield 70, 3) := by decide +kernel
theorem dX8_takes_94 : decode cX8_takes 94 = .ok (.aload_n 0, 1) := by decide +kernel
theorem dX8_takes_95 : decode cX8_takes 95 = .ok (.getfield 67, 3) := by decide +kernel
theorem dX8_takes_98 : decode cX8_takes 98 = .ok (.if_icmp .ge 7, 3) := by decide +kernel
theorem dX8_takes_101 : decode cX8_takes 101 = .ok (.iconst 1, 1) := by decide +kernel
theorem dX8_takes_102 : decode cX8_takes 102 = .ok (.goto 4, 3) := by decide +kernel
theorem dX8_takes_105 : decode cX8_takes 105 = .ok (.iconst 0, 1) := by decide +kernel
theorem dX8_takes_106 : decode cX8_takes 106 = .ok (.iadd, 1) := by decide +kernel
theorem dX8_takes_107 : decode cX8_takes 107 = .ok (.putfield 70, 3) := by decide +kernel
theorem dX8_takes_110 : decode cX8_takes 110 = .ok (.return_, 1) := by decide +kernel
theorem dX8_takes_111 : decode cX8_takes 111 = .ok (.iconst 0, 1) := by decide +kernel
theorem dX8_takes_112 : decode cX8_takes 112 = .ok (.istore_n 1, 1) := by decide +kernel
theorem dX8_takes_113 : decode cX8_takes 113 = .ok (.aload_n 0, 1) := by decide +kernel
theorem dX8_takes_114 : decode cX8_takes 114 = .ok (.aload_n 0, 1) := by decide +kernel
theorem dX8_takes_115 : decode cX8_takes 115 = .ok (.getfield 70, 3) := by decide +kernel
theorem dX8_takes_118 : decode cX8_takes 118 = .ok (.invokevirtual 79, 3) := by decide +kernel
theorem dX8_takes_121 : decode cX8_takes 121 = .ok (.ifCond .eq 44, 3) := by decide +kernel
theorem dX8_takes_124 : decode cX8_takes 124 = .ok (.iload_n 1, 1) := by decide +kernel
theorem dX8_takes_125 : decode cX8_takes 125 = .ok (.bipush 99, 2) := by decide +kernel
theorem dX8_takes_127 : decode cX8_takes 127 = .ok (.if_icmp .le 7, 3) := by decide +kernel
theorem dX8_takes_130 : decode cX8_takes 130 = .ok (.iload_n 1, 1) := by decide +kernel
theorem dX8_takes_131 : decode cX8_takes 131 = .ok (.goto 20, 3) := by decide +kernel
theorem dX8_takes_134 : decode cX8_takes 134 = .ok (.bipush 10, 2) := by decide +kernel
theorem dX8_takes_136 : decode cX8_takes 136 = .ok (.iload_n 1, 1) := by decide +kernel
theorem dX8_takes_137 : decode cX8_takes 137 = .ok (.imul, 1) := by decide +kernel
theorem dX8_takes_138 : decode cX8_takes 138 = .ok (.aload_n 0, 1) := by decide +kernel
theorem dX8_takes_139 : decode cX8_takes 139 = .ok (.getfield 44, 3) := by decide +kernel
theorem dX8_takes_142 : decode cX8_takes 142 = .ok (.aload_n 0, 1) := by decide +kernel
theorem dX8_takes_143 : decode cX8_takes 143 = .ok (.getfield 70, 3) := by decide +kernel
theorem dX8_takes_146 : decode cX8_takes 146 = .ok (.iaload, 1) := by decide +kernel
theorem dX8_takes_147 : decode cX8_takes 147 = .ok (.iadd, 1) := by decide +kernel
theorem dX8_takes_148 : decode cX8_takes 148 = .ok (.bipush 48, 2) := by decide +kernel
theorem dX8_takes_150 : decode cX8_takes 150 = .ok (.isub, 1) := by decide +kernel
theorem dX8_takes_151 : decode cX8_takes 151 = .ok (.istore_n 1, 1) := by decide +kernel
theorem dX8_takes_152 : decode cX8_takes 152 = .ok (.aload_n 0, 1) := by decide +kernel
theorem dX8_takes_153 : decode cX8_takes 153 = .ok (.dup, 1) := by decide +kernel
theorem dX8_takes_154 : decode cX8_takes 154 = .ok (.getfield 70, 3) := by decide +kernel
theorem dX8_takes_157 : decode cX8_takes 157 = .ok (.iconst 1, 1) := by decide +kernel
theorem dX8_takes_158 : decode cX8_takes 158 = .ok (.iadd, 1) := by decide +kernel
theorem dX8_takes_159 : decode cX8_takes 159 = .ok (.putfield 70, 3) := by decide +kernel
theorem dX8_takes_162 : decode cX8_takes 162 = .ok (.goto (-49), 3) := by decide +kernel
theorem dX8_takes_165 : decode cX8_takes 165 = .ok (.aload_n 0, 1) := by decide +kernel
theorem dX8_takes_166 : decode cX8_takes 166 = .ok (.iload_n 1, 1) := by decide +kernel
theorem dX8_takes_167 : decode cX8_takes 167 = .ok (.bipush 99, 2) := by decide +kernel
theorem dX8_takes_169 : decode cX8_takes 169 = .ok (.if_icmp .gt 30, 3) := by decide +kernel
theorem dX8_takes_172 : decode cX8_takes 172 = .ok (.aload_n 0, 1) := by decide +kernel
theorem dX8_takes_173 : decode cX8_takes 173 = .ok (.getfield 44, 3) := by decide +kernel
theorem dX8_takes_176 : decode cX8_takes 176 = .ok (.aload_n 0, 1) := by decide +kernel
theorem dX8_takes_177 : decode cX8_takes 177 = .ok (.getfield 73, 3) := by decide +kernel
theorem dX8_takes_180 : decode cX8_takes 180 = .ok (.iaload, 1) := by decide +kernel
theorem dX8_takes_181 : decode cX8_takes 181 = .ok (.bipush 48, 2) := by decide +kernel
theorem dX8_takes_183 : decode cX8_takes 183 = .ok (.if_icmp .ne 22, 3) := by decide +kernel
theorem dX8_takes_186 : decode cX8_takes 186 = .ok (.aload_n 0, 1) := by decide +kernel
theorem dX8_takes_187 : decode cX8_takes 187 = .ok (.getfield 70, 3) := by decide +kernel
theorem dX8_takes_190 : decode cX8_takes 190 = .ok (.aload_n 0, 1) := by decide +kernel
theorem dX8_takes_191 : decode cX8_takes 191 = .ok (.getfield 73, 3) := by decide +kernel
theorem dX8_takes_194 : decode cX8_takes 194 = .ok (.iconst 1, 1) := by decide +kernel
theorem dX8_takes_195 : decode cX8_takes 195 = .ok (.iadd, 1) := by decide +kernel
theorem dX8_takes_196 : decode cX8_takes 196 = .ok (.if_icmp .le 9, 3) := by decide +kernel
theorem dX8_takes_199 : decode cX8_takes 199 = .ok (.sipush 2000, 3) := by decide +kernel
theorem dX8_takes_202 : decode cX8_takes 202 = .ok (.goto 8, 3) := by decide +kernel
theorem dX8_takes_205 : decode cX8_takes 205 = .ok (.sipush 1000, 3) := by decide +kernel
theorem dX8_takes_208 : decode cX8_takes 208 = .ok (.iload_n 1, 1) := by decide +kernel
theorem dX8_takes_209 : decode cX8_takes 209 = .ok (.iadd, 1) := by decide +kernel
theorem dX8_takes_210 : decode cX8_takes 210 = .ok (.putfield 76, 3) := by decide +kernel
theorem dX8_takes_213 : decode cX8_takes 213 = .ok (.return_, 1) := by decide +kernel
set_option maxRecDepth 20000 in
theorem ggX8_reads_X8_takes : GoodIn wsX8_reads wsX8_takes := goodIn_r _ [7, 8, 9, 10, 11, 1, 12, 13, 14, 6, 15, 16, 17, 18, 19, 20, 21, 22, 23, 24, 25, 26, 27, 28, 29, 30, 31, 32, 33, 34, 35, 36, 37, 38, 39, 40, 41, 42, 43, 44, 45, 46, 47, 48, 49, 50] (by decide +kernel) (by decide +kernel)
set_option maxRecDepth 20000 in
theorem gX8_reads_X8_takes : GoodIn wsX8_reads (wsV RX8 83 RX8 yX8_takes wsX8_takes) := goodIn_app (goodIn_of _ (by decide +kernel)) ggX8_reads_X8_takes
set_option maxRecDepth 20000 in
theorem ggX8_reads_X8_in : GoodIn wsX8_reads wsX8_in := goodIn_r _ [18] (by decide +kernel) (by decide +kernel)
set_option maxRecDepth 20000 in
theorem gX8_reads_X8_in : GoodIn wsX8_reads (va_wsS RX8 60 yX8_in wsX8_in) := goodIn_app (goodIn_of _ (by decide +kernel)) ggX8_reads_X8_in
theorem dX8_reads_0 : decode cX8_reads 0 = .ok (.aload_n 0, 1) := by decide +kernel
theorem dX8_reads_1 : decode cX8_reads 1 = .ok (.invokevirtual 83, 3) := by decide +kernel
theorem dX8_reads_4 : decode cX8_reads 4 = .ok (.aload_n 0, 1) := by decide +kernel
theorem dX8_reads_5 : decode cX8_reads 5 = .ok (.aload_n 0, 1) := by decide +kernel
theorem dX8_reads_6 : decode cX8_reads 6 = .ok (.getfield 76, 3) := by decide +kernel
theorem dX8_reads_9 : decode cX8_reads 9 = .ok (.sipush 1000, 3) := by decide +kernel
theorem dX8_reads_12 : decode cX8_reads 12 = .ok (.isub, 1) := by decide +kernel
theorem dX8_reads_13 : decode cX8_reads 13 = .ok (.putfield 86, 3) := by decide +kernel
theorem dX8_reads_16 : decode cX8_reads 16 = .ok (.aload_n 0, 1) := by decide +kernel
theorem dX8_reads_17 : decode cX8_reads 17 = .ok (.getfield 86, 3) := by decide +kernel
theorem dX8_reads_20 : decode cX8_reads 20 = .ok (.iload_n 1, 1) := by decide +kernel
theorem dX8_reads_21 : decode cX8_reads 21 = .ok (.iload_n 2, 1) := by decide +kernel
theorem dX8_reads_22 : decode cX8_reads 22 = .ok (.invokestatic 60, 3) := by decide +kernel
theorem dX8_reads_25 : decode cX8_reads 25 = .ok (.ireturn, 1) := by decide +kernel
set_option maxRecDepth 20000 in
theorem ggX8_readsTerminal_X8_reads : GoodIn wsX8_readsTerminal wsX8_reads := goodIn_r _ [8, 9, 3, 10, 11, 12, 7, 13, 14, 15, 16, 17, 18, 19, 20, 21, 22, 23, 24, 25, 26, 27, 28, 29, 30, 31, 32, 33, 34, 35, 36, 37, 38, 39, 40, 41, 42, 43, 44, 45, 46, 47, 48, 49, 50, 51, 52, 53, 54, 55, 56] (by decide +kernel) (by decide +kernel)
set_option maxRecDepth 20000 in
theorem gX8_readsTerminal_X8_reads : GoodIn wsX8_readsTerminal (wsV RX8 92 RX8 yX8_reads wsX8_reads) := goodIn_app (goodIn_of _ (by decide +kernel)) ggX8_readsTerminal_X8_reads
theorem dX8_readsTerminal_0 : decode cX8_readsTerminal 0 = .ok (.aload_n 0, 1) := by decide +kernel
theorem dX8_readsTerminal_1 : decode cX8_readsTerminal 1 = .ok (.getfield 89, 3) := by decide +kernel
theorem dX8_readsTerminal_4 : decode cX8_readsTerminal 4 = .ok (.iconst 3, 1) := by decide +kernel
theorem dX8_readsTerminal_5 : decode cX8_readsTerminal 5 = .ok (.if_icmp .eq 13, 3) := by decide +kernel
theorem dX8_readsTerminal_8 : decode cX8_readsTerminal 8 = .ok (.aload_n 0, 1) := by decide +kernel
theorem dX8_readsTerminal_9 : decode cX8_readsTerminal 9 = .ok (.iconst 1, 1) := by decide +kernel
theorem dX8_readsTerminal_10 : decode cX8_readsTerminal 10 = .ok (.bipush 9, 2) := by decide +kernel
theorem dX8_readsTerminal_12 : decode cX8_readsTerminal 12 = .ok (.invokevirtual 92, 3) := by decide +kernel
theorem dX8_readsTerminal_15 : decode cX8_readsTerminal 15 = .ok (.ifCond .ne 5, 3) := by decide +kernel
theorem dX8_readsTerminal_18 : decode cX8_readsTerminal 18 = .ok (.iconst 0, 1) := by decide +kernel
theorem dX8_readsTerminal_19 : decode cX8_readsTerminal 19 = .ok (.ireturn, 1) := by decide +kernel
theorem dX8_readsTerminal_20 : decode cX8_readsTerminal 20 = .ok (.aload_n 0, 1) := by decide +kernel
theorem dX8_readsTerminal_21 : decode cX8_readsTerminal 21 = .ok (.getfield 16, 3) := by decide +kernel
theorem dX8_readsTerminal_24 : decode cX8_readsTerminal 24 = .ok (.aload_n 0, 1) := by decide +kernel
theorem dX8_readsTerminal_25 : decode cX8_readsTerminal 25 = .ok (.getfield 89, 3) := by decide +kernel
theorem dX8_readsTerminal_28 : decode cX8_readsTerminal 28 = .ok (.aload_n 0, 1) := by decide +kernel
theorem dX8_readsTerminal_29 : decode cX8_readsTerminal 29 = .ok (.getfield 86, 3) := by decide +kernel
theorem dX8_readsTerminal_32 : decode cX8_readsTerminal 32 = .ok (.iastore, 1) := by decide +kernel
theorem dX8_readsTerminal_33 : decode cX8_readsTerminal 33 = .ok (.aload_n 0, 1) := by decide +kernel
theorem dX8_readsTerminal_34 : decode cX8_readsTerminal 34 = .ok (.dup, 1) := by decide +kernel
theorem dX8_readsTerminal_35 : decode cX8_readsTerminal 35 = .ok (.getfield 89, 3) := by decide +kernel
theorem dX8_readsTerminal_38 : decode cX8_readsTerminal 38 = .ok (.iconst 1, 1) := by decide +kernel
theorem dX8_readsTerminal_39 : decode cX8_readsTerminal 39 = .ok (.iadd, 1) := by decide +kernel
theorem dX8_readsTerminal_40 : decode cX8_readsTerminal 40 = .ok (.putfield 89, 3) := by decide +kernel
theorem dX8_readsTerminal_43 : decode cX8_readsTerminal 43 = .ok (.iconst 1, 1) := by decide +kernel
theorem dX8_readsTerminal_44 : decode cX8_readsTerminal 44 = .ok (.ireturn, 1) := by decide +kernel
set_option maxRecDepth 20000 in
theorem ggX8_readsOne_X8_reads : GoodIn wsX8_readsOne wsX8_reads := goodIn_r _ [8, 9, 3, 10, 11, 12, 7, 13, 14, 15, 16, 17, 18, 19, 20, 21, 22, 23, 24, 25, 26, 27, 28, 29, 30, 31, 32, 33, 34, 35, 36, 37, 38, 39, 40, 41, 42, 43, 44, 45, 46, 47, 48, 49, 50, 51, 52, 53, 54, 55, 56] (by decide +kernel) (by decide +kernel)
set_option maxRecDepth 20000 in
theorem gX8_readsOne_X8_reads : GoodIn wsX8_readsOne (wsV RX8 92 RX8 yX8_reads wsX8_reads) := goodIn_app (goodIn_of _ (by decide +kernel)) ggX8_readsOne_X8_reads
theorem dX8_readsOne_0 : decode cX8_readsOne 0 = .ok (.aload_n 0, 1) := by decide +kernel
theorem dX8_readsOne_1 : decode cX8_readsOne 1 = .ok (.iconst 0, 1) := by decide +kernel
theorem dX8_readsOne_2 : decode cX8_readsOne 2 = .ok (.iload_n 2, 1) := by decide +kernel
theorem dX8_readsOne_3 : decode cX8_readsOne 3 = .ok (.invokevirtual 92, 3) := by decide +kernel
theorem dX8_readsOne_6 : decode cX8_readsOne 6 = .ok (.istore_n 3, 1) := by decide +kernel
theorem dX8_readsOne_7 : decode cX8_readsOne 7 = .ok (.aload_n 0, 1) := by decide +kernel
theorem dX8_readsOne_8 : decode cX8_readsOne 8 = .ok (.getfield 19, 3) := by decide +kernel
theorem dX8_readsOne_11 : decode cX8_readsOne 11 = .ok (.iconst 4, 1) := by decide +kernel
theorem dX8_readsOne_12 : decode cX8_readsOne 12 = .ok (.aload_n 0, 1) := by decide +kernel
theorem dX8_readsOne_13 : decode cX8_readsOne 13 = .ok (.getfield 96, 3) := by decide +kernel
theorem dX8_readsOne_16 : decode cX8_readsOne 16 = .ok (.imul, 1) := by decide +kernel
theorem dX8_readsOne_17 : decode cX8_readsOne 17 = .ok (.iload_n 1, 1) := by decide +kernel
theorem dX8_readsOne_18 : decode cX8_readsOne 18 = .ok (.iadd, 1) := by decide +kernel
theorem dX8_readsOne_19 : decode cX8_readsOne 19 = .ok (.aload_n 0, 1) := by decide +kernel
theorem dX8_readsOne_20 : decode cX8_readsOne 20 = .ok (.getfield 86, 3) := by decide +kernel
theorem dX8_readsOne_23 : decode cX8_readsOne 23 = .ok (.iastore, 1) := by decide +kernel
theorem dX8_readsOne_24 : decode cX8_readsOne 24 = .ok (.iload_n 3, 1) := by decide +kernel
theorem dX8_readsOne_25 : decode cX8_readsOne 25 = .ok (.ireturn, 1) := by decide +kernel
set_option maxRecDepth 20000 in
theorem ggX8_readsClass_X8_readsOne : GoodIn wsX8_readsClass wsX8_readsOne := goodIn_r _ [7, 8, 1, 9, 10, 11, 12, 6, 13, 14, 15, 16, 17, 18, 19, 20, 21, 22, 23, 24, 25, 26, 27, 28, 29, 30, 31, 32, 33, 34, 35, 36, 37, 38, 39, 40, 41, 42, 43, 44, 45, 46, 47, 48, 49, 50, 51, 52, 53, 54, 55, 56, 57, 58, 59, 60, 61] (by decide +kernel) (by decide +kernel)
set_option maxRecDepth 20000 in
theorem gX8_readsClass_X8_readsOne : GoodIn wsX8_readsClass (wsV RX8 99 RX8 yX8_readsOne wsX8_readsOne) := goodIn_app (goodIn_of _ (by decide +kernel)) ggX8_readsClass_X8_readsOne
theorem dX8_readsClass_0 : decode cX8_readsClass 0 = .ok (.aload_n 0, 1) := by decide +kernel
theorem dX8_readsClass_1 : decode cX8_readsClass 1 = .ok (.getfield 96, 3) := by decide +kernel
theorem dX8_readsClass_4 : decode cX8_readsClass 4 = .ok (.bipush 6, 2) := by decide +kernel
theorem dX8_readsClass_6 : decode cX8_readsClass 6 = .ok (.if_icmp .eq 47, 3) := by decide +kernel
theorem dX8_readsClass_9 : decode cX8_readsClass 9 = .ok (.aload_n 0, 1) := by decide +kernel
theorem dX8_readsClass_10 : decode cX8_readsClass 10 = .ok (.iconst 0, 1) := by decide +kernel
theorem dX8_readsClass_11 : decode cX8_readsClass 11 = .ok (.aload_n 0, 1) := by decide +kernel
theorem dX8_readsClass_12 : decode cX8_readsClass 12 = .ok (.getfield 89, 3) := by decide +kernel
theorem dX8_readsClass_15 : decode cX8_readsClass 15 = .ok (.iconst 1, 1) := by decide +kernel
theorem dX8_readsClass_16 : decode cX8_readsClass 16 = .ok (.isub, 1) := by decide +kernel
theorem dX8_readsClass_17 : decode cX8_readsClass 17 = .ok (.invokevirtual 99, 3) := by decide +kernel
theorem dX8_readsClass_20 : decode cX8_readsClass 20 = .ok (.ifCond .eq 33, 3) := by decide +kernel
theorem dX8_readsClass_23 : decode cX8_readsClass 23 = .ok (.aload_n 0, 1) := by decide +kernel
theorem dX8_readsClass_24 : decode cX8_readsClass 24 = .ok (.iconst 1, 1) := by decide +kernel
theorem dX8_readsClass_25 : decode cX8_readsClass 25 = .ok (.bipush 9, 2) := by decide +kernel
theorem dX8_readsClass_27 : decode cX8_readsClass 27 = .ok (.invokevirtual 99, 3) := by decide +kernel
theorem dX8_readsClass_30 : decode cX8_readsClass 30 = .ok (.ifCond .eq 23, 3) := by decide +kernel
theorem dX8_readsClass_33 : decode cX8_readsClass 33 = .ok (.aload_n 0, 1) := by decide +kernel
theorem dX8_readsClass_34 : decode cX8_readsClass 34 = .ok (.iconst 2, 1) := by decide +kernel
theorem dX8_readsClass_35 : decode cX8_readsClass 35 = .ok (.bipush 20, 2) := by decide +kernel
theorem dX8_readsClass_37 : decode cX8_readsClass 37 = .ok (.invokevirtual 99, 3) := by decide +kernel
theorem dX8_readsClass_40 : decode cX8_readsClass 40 = .ok (.ifCond .eq 13, 3) := by decide +kernel
theorem dX8_readsClass_43 : decode cX8_readsClass 43 = .ok (.aload_n 0, 1) := by decide +kernel
theorem dX8_readsClass_44 : decode cX8_readsClass 44 = .ok (.iconst 3, 1) := by decide +kernel
theorem dX8_readsClass_45 : decode cX8_readsClass 45 = .ok (.bipush 60, 2) := by decide +kernel
theorem dX8_readsClass_47 : decode cX8_readsClass 47 = .ok (.invokevirtual 99, 3) := by decide +kernel
theorem dX8_readsClass_50 : decode cX8_readsClass 50 = .ok (.ifCond .ne 5, 3) := by decide +kernel
theorem dX8_readsClass_53 : decode cX8_readsClass 53 = .ok (.iconst 0, 1) := by decide +kernel
theorem dX8_readsClass_54 : decode cX8_readsClass 54 = .ok (.ireturn, 1) := by decide +kernel
theorem dX8_readsClass_55 : decode cX8_readsClass 55 = .ok (.aload_n 0, 1) := by decide +kernel
theorem dX8_readsClass_56 : decode cX8_readsClass 56 = .ok (.dup, 1) := by decide +kernel
theorem dX8_readsClass_57 : decode cX8_readsClass 57 = .ok (.getfield 96, 3) := by decide +kernel
theorem dX8_readsClass_60 : decode cX8_readsClass 60 = .ok (.iconst 1, 1) := by decide +kernel
theorem dX8_readsClass_61 : decode cX8_readsClass 61 = .ok (.iadd, 1) := by decide +kernel
theorem dX8_readsClass_62 : decode cX8_readsClass 62 = .ok (.putfield 96, 3) := by decide +kernel
theorem dX8_readsClass_65 : decode cX8_readsClass 65 = .ok (.iconst 1, 1) := by decide +kernel
theorem dX8_readsClass_66 : decode cX8_readsClass 66 = .ok (.ireturn, 1) := by decide +kernel
set_option maxRecDepth 20000 in
theorem ggX8_item_X8_readsTerminal : GoodIn wsX8_item wsX8_readsTerminal := goodIn_r _ [11, 12, 13, 2, 14, 15, 16, 10, 17, 1, 18, 19, 20, 21, 22, 23, 24, 25, 26, 27, 28, 29, 30, 31, 32, 43, 44, 45, 46, 47, 48, 49, 50, 51, 52, 53, 54, 55, 56, 57, 58, 59, 60, 61, 62, 63, 64, 65, 66, 67, 68, 69, 70, 71, 72, 73, 74] (by decide +kernel) (by decide +kernel)
set_option maxRecDepth 20000 in
theorem gX8_item_X8_readsTerminal : GoodIn wsX8_item (wsV RX8 102 RX8 yX8_readsTerminal wsX8_readsTerminal) := goodIn_app (goodIn_of _ (by decide +kernel)) ggX8_item_X8_readsTerminal
set_option maxRecDepth 20000 in
theorem ggX8_item_X8_readsClass : GoodIn wsX8_item wsX8_readsClass := goodIn_r _ [36, 37, 12, 38, 39, 40, 10, 41, 42, 2, 14, 15, 16, 17, 1, 18, 19, 20, 21, 22, 23, 24, 25, 26, 27, 28, 29, 30, 31, 32, 43, 44, 45, 46, 47, 48, 49, 50, 51, 52, 53, 54, 55, 56, 57, 58, 59, 60, 61, 62, 63, 64, 65, 66, 67, 68, 69, 70, 71, 72, 73, 74] (by decide +kernel) (by decide +kernel)
set_option maxRecDepth 20000 in
theorem gX8_item_X8_readsClass : GoodIn wsX8_item (wsV RX8 106 RX8 yX8_readsClass wsX8_readsClass) := goodIn_app (goodIn_of _ (by decide +kernel)) ggX8_item_X8_readsClass
set_option maxRecDepth 20000 in
theorem ggX8_item_X8_reads : GoodIn wsX8_item wsX8_reads := goodIn_r _ [17, 1, 2, 18, 19, 20, 10, 21, 22, 23, 24, 25, 26, 27, 28, 29, 30, 31, 32, 43, 44, 45, 46, 47, 48, 49, 50, 51, 52, 53, 54, 55, 56, 57, 58, 59, 60, 61, 62, 63, 64, 65, 66, 67, 68, 69, 70, 71, 72, 73, 74] (by decide +kernel) (by decide +kernel)
set_option maxRecDepth 20000 in
theorem gX8_item_X8_reads : GoodIn wsX8_item (wsV RX8 92 RX8 yX8_reads wsX8_reads) := goodIn_app (goodIn_of _ (by decide +kernel)) ggX8_item_X8_reads
theorem dX8_item_0 : decode cX8_item 0 = .ok (.aload_n 0, 1) := by decide +kernel
theorem dX8_item_1 : decode cX8_item 1 = .ok (.getfield 76, 3) := by decide +kernel
theorem dX8_item_4 : decode cX8_item 4 = .ok (.lookupswitch 137 #[(98, 80), (99, 57), (114, 98), (115, 62), (116, 52)], 52) := by decide +kernel
theorem dX8_item_56 : decode cX8_item 56 = .ok (.aload_n 0, 1) := by decide +kernel
theorem dX8_item_57 : decode cX8_item 57 = .ok (.invokevirtual 102, 3) := by decide +kernel
theorem dX8_item_60 : decode cX8_item 60 = .ok (.ireturn, 1) := by decide +kernel
theorem dX8_item_61 : decode cX8_item 61 = .ok (.aload_n 0, 1) := by decide +kernel
theorem dX8_item_62 : decode cX8_item 62 = .ok (.invokevirtual 106, 3) := by decide +kernel
theorem dX8_item_65 : decode cX8_item 65 = .ok (.ireturn, 1) := by decide +kernel
theorem dX8_item_66 : decode cX8_item 66 = .ok (.aload_n 0, 1) := by decide +kernel
theorem dX8_item_67 : decode cX8_item 67 = .ok (.iconst 0, 1) := by decide +kernel
theorem dX8_item_68 : decode cX8_item 68 = .ok (.bipush 60, 2) := by decide +kernel
theorem dX8_item_70 : decode cX8_item 70 = .ok (.invokevirtual 92, 3) := by decide +kernel
theorem dX8_item_73 : decode cX8_item 73 = .ok (.istore_n 1, 1) := by decide +kernel
theorem dX8_item_74 : decode cX8_item 74 = .ok (.aload_n 0, 1) := by decide +kernel
theorem dX8_item_75 : decode cX8_item 75 = .ok (.aload_n 0, 1) := by decide +kernel
theorem dX8_item_76 : decode cX8_item 76 = .ok (.getfield 86, 3) := by decide +kernel
theorem dX8_item_79 : decode cX8_item 79 = .ok (.putfield 109, 3) := by decide +kernel
theorem dX8_item_82 : decode cX8_item 82 = .ok (.iload_n 1, 1) := by decide +kernel
theorem dX8_item_83 : decode cX8_item 83 = .ok (.ireturn, 1) := by decide +kernel
theorem dX8_item_84 : decode cX8_item 84 = .ok (.aload_n 0, 1) := by decide +kernel
theorem dX8_item_85 : decode cX8_item 85 = .ok (.iconst 0, 1) := by decide +kernel
theorem dX8_item_86 : decode cX8_item 86 = .ok (.bipush 9, 2) := by decide +kernel
theorem dX8_item_88 : decode cX8_item 88 = .ok (.invokevirtual 92, 3) := by decide +kernel
theorem dX8_item_91 : decode cX8_item 91 = .ok (.istore_n 1, 1) := by decide +kernel
theorem dX8_item_92 : decode cX8_item 92 = .ok (.aload_n 0, 1) := by decide +kernel
theorem dX8_item_93 : decode cX8_item 93 = .ok (.aload_n 0, 1) := by decide +kernel
theorem dX8_item_94 : decode cX8_item 94 = .ok (.getfield 86, 3) := by decide +kernel
theorem dX8_item_97 : decode cX8_item 97 = .ok (.putfield 112, 3) := by decide +kernel
theorem dX8_item_100 : decode cX8_item 100 = .ok (.iload_n 1, 1) := by decide +kernel
theorem dX8_item_101 : decode cX8_item 101 = .ok (.ireturn, 1) := by decide +kernel
theorem dX8_item_102 : decode cX8_item 102 = .ok (.aload_n 0, 1) := by decide +kernel
theorem dX8_item_103 : decode cX8_item 103 = .ok (.iconst 1, 1) := by decide +kernel
theorem dX8_item_104 : decode cX8_item 104 = .ok (.bipush 6, 2) := by decide +kernel
theorem dX8_item_106 : decode cX8_item 106 = .ok (.invokevirtual 92, 3) := by decide +kernel
theorem dX8_item_109 : decode cX8_item 109 = .ok (.istore_n 1, 1) := by decide +kernel
theorem dX8_item_110 : decode cX8_item 110 = .ok (.aload_n 0, 1) := by decide +kernel
theorem dX8_item_111 : decode cX8_item 111 = .ok (.aload_n 0, 1) := by decide +kernel
theorem dX8_item_112 : decode cX8_item 112 = .ok (.getfield 86, 3) := by decide +kernel
theorem dX8_item_115 : decode cX8_item 115 = .ok (.putfield 115, 3) := by decide +kernel
theorem dX8_item_118 : decode cX8_item 118 = .ok (.iload_n 1, 1) := by decide +kernel
theorem dX8_item_119 : decode cX8_item 119 = .ok (.ifCond .ne 5, 3) := by decide +kernel
theorem dX8_item_122 : decode cX8_item 122 = .ok (.iconst 0, 1) := by decide +kernel
theorem dX8_item_123 : decode cX8_item 123 = .ok (.ireturn, 1) := by decide +kernel
theorem dX8_item_124 : decode cX8_item 124 = .ok (.aload_n 0, 1) := by decide +kernel
theorem dX8_item_125 : decode cX8_item 125 = .ok (.iconst 1, 1) := by decide +kernel
theorem dX8_item_126 : decode cX8_item 126 = .ok (.iconst 4, 1) := by decide +kernel
theorem dX8_item_127 : decode cX8_item 127 = .ok (.invokevirtual 92, 3) := by decide +kernel
theorem dX8_item_130 : decode cX8_item 130 = .ok (.istore_n 1, 1) := by decide +kernel
theorem dX8_item_131 : decode cX8_item 131 = .ok (.aload_n 0, 1) := by decide +kernel
theorem dX8_item_132 : decode cX8_item 132 = .ok (.aload_n 0, 1) := by decide +kernel
theorem dX8_item_133 : decode cX8_item 133 = .ok (.getfield 86, 3) := by decide +kernel
theorem dX8_item_136 : decode cX8_item 136 = .ok (.putfield 118, 3) := by decide +kernel
theorem dX8_item_139 : decode cX8_item 139 = .ok (.iload_n 1, 1) := by decide +kernel
theorem dX8_item_140 : decode cX8_item 140 = .ok (.ireturn, 1) := by decide +kernel
theorem dX8_item_141 : decode cX8_item 141 = .ok (.iconst 0, 1) := by decide +kernel
theorem dX8_item_142 : decode cX8_item 142 = .ok (.ireturn, 1) := by decide +kernel
theorem dX8_begins_0 : decode cX8_begins 0 = .ok (.aload_n 0, 1) := by decide +kernel
theorem dX8_begins_1 : decode cX8_begins 1 = .ok (.iconst 0, 1) := by decide +kernel
theorem dX8_begins_2 : decode cX8_begins 2 = .ok (.putfield 89, 3) := by decide +kernel
theorem dX8_begins_5 : decode cX8_begins 5 = .ok (.aload_n 0, 1) := by decide +kernel
theorem dX8_begins_6 : decode cX8_begins 6 = .ok (.iconst 0, 1) := by decide +kernel
theorem dX8_begins_7 : decode cX8_begins 7 = .ok (.putfield 96, 3) := by decide +kernel
theorem dX8_begins_10 : decode cX8_begins 10 = .ok (.aload_n 0, 1) := by decide +kernel
theorem dX8_begins_11 : decode cX8_begins 11 = .ok (.bipush 20, 2) := by decide +kernel
theorem dX8_begins_13 : decode cX8_begins 13 = .ok (.putfield 109, 3) := by decide +kernel
theorem dX8_begins_16 : decode cX8_begins 16 = .ok (.aload_n 0, 1) := by decide +kernel
theorem dX8_begins_17 : decode cX8_begins 17 = .ok (.iconst 2, 1) := by decide +kernel
theorem dX8_begins_18 : decode cX8_begins 18 = .ok (.putfield 112, 3) := by decide +kernel
theorem dX8_begins_21 : decode cX8_begins 21 = .ok (.aload_n 0, 1) := by decide +kernel
theorem dX8_begins_22 : decode cX8_begins 22 = .ok (.iconst 4, 1) := by decide +kernel
theorem dX8_begins_23 : decode cX8_begins 23 = .ok (.putfield 115, 3) := by decide +kernel
theorem dX8_begins_26 : decode cX8_begins 26 = .ok (.aload_n 0, 1) := by decide +kernel
theorem dX8_begins_27 : decode cX8_begins 27 = .ok (.iconst 3, 1) := by decide +kernel
theorem dX8_begins_28 : decode cX8_begins 28 = .ok (.putfield 118, 3) := by decide +kernel
theorem dX8_begins_31 : decode cX8_begins 31 = .ok (.return_, 1) := by decide +kernel
theorem dX8_becomes_0 : decode cX8_becomes 0 = .ok (.aload_n 0, 1) := by decide +kernel
theorem dX8_becomes_1 : decode cX8_becomes 1 = .ok (.aload_n 0, 1) := by decide +kernel
theorem dX8_becomes_2 : decode cX8_becomes 2 = .ok (.getfield 89, 3) := by decide +kernel
theorem dX8_becomes_5 : decode cX8_becomes 5 = .ok (.putfield 57, 3) := by decide +kernel
theorem dX8_becomes_8 : decode cX8_becomes 8 = .ok (.aload_n 0, 1) := by decide +kernel
theorem dX8_becomes_9 : decode cX8_becomes 9 = .ok (.aload_n 0, 1) := by decide +kernel
theorem dX8_becomes_10 : decode cX8_becomes 10 = .ok (.getfield 96, 3) := by decide +kernel
theorem dX8_becomes_13 : decode cX8_becomes 13 = .ok (.putfield 64, 3) := by decide +kernel
theorem dX8_becomes_16 : decode cX8_becomes 16 = .ok (.aload_n 0, 1) := by decide +kernel
theorem dX8_becomes_17 : decode cX8_becomes 17 = .ok (.aload_n 0, 1) := by decide +kernel
theorem dX8_becomes_18 : decode cX8_becomes 18 = .ok (.getfield 112, 3) := by decide +kernel
theorem dX8_becomes_21 : decode cX8_becomes 21 = .ok (.putfield 121, 3) := by decide +kernel
theorem dX8_becomes_24 : decode cX8_becomes 24 = .ok (.aload_n 0, 1) := by decide +kernel
theorem dX8_becomes_25 : decode cX8_becomes 25 = .ok (.aload_n 0, 1) := by decide +kernel
theorem dX8_becomes_26 : decode cX8_becomes 26 = .ok (.getfield 115, 3) := by decide +kernel
theorem dX8_becomes_29 : decode cX8_becomes 29 = .ok (.putfield 124, 3) := by decide +kernel
theorem dX8_becomes_32 : decode cX8_becomes 32 = .ok (.aload_n 0, 1) := by decide +kernel
theorem dX8_becomes_33 : decode cX8_becomes 33 = .ok (.aload_n 0, 1) := by decide +kernel
theorem dX8_becomes_34 : decode cX8_becomes 34 = .ok (.getfield 118, 3) := by decide +kernel
theorem dX8_becomes_37 : decode cX8_becomes 37 = .ok (.putfield 127, 3) := by decide +kernel
theorem dX8_becomes_40 : decode cX8_becomes 40 = .ok (.iconst 0, 1) := by decide +kernel
theorem dX8_becomes_41 : decode cX8_becomes 41 = .ok (.istore_n 1, 1) := by decide +kernel
theorem dX8_becomes_42 : decode cX8_becomes 42 = .ok (.iload_n 1, 1) := by decide +kernel
theorem dX8_becomes_43 : decode cX8_becomes 43 = .ok (.iconst 3, 1) := by decide +kernel
theorem dX8_becomes_44 : decode cX8_becomes 44 = .ok (.if_icmp .ge 21, 3) := by decide +kernel
theorem dX8_becomes_47 : decode cX8_becomes 47 = .ok (.aload_n 0, 1) := by decide +kernel
theorem dX8_becomes_48 : decode cX8_becomes 48 = .ok (.getfield 7, 3) := by decide +kernel
theorem dX8_becomes_51 : decode cX8_becomes 51 = .ok (.iload_n 1, 1) := by decide +kernel
theorem dX8_becomes_52 : decode cX8_becomes 52 = .ok (.aload_n 0, 1) := by decide +kernel
theorem dX8_becomes_53 : decode cX8_becomes 53 = .ok (.getfield 16, 3) := by decide +kernel
theorem dX8_becomes_56 : decode cX8_becomes 56 = .ok (.iload_n 1, 1) := by decide +kernel
theorem dX8_becomes_57 : decode cX8_becomes 57 = .ok (.iaload, 1) := by decide +kernel
theorem dX8_becomes_58 : decode cX8_becomes 58 = .ok (.iastore, 1) := by decide +kernel
theorem dX8_becomes_59 : decode cX8_becomes 59 = .ok (.iinc 1 1, 3) := by decide +kernel
theorem dX8_becomes_62 : decode cX8_becomes 62 = .ok (.goto (-20), 3) := by decide +kernel
theorem dX8_becomes_65 : decode cX8_becomes 65 = .ok (.iconst 0, 1) := by decide +kernel
theorem dX8_becomes_66 : decode cX8_becomes 66 = .ok (.istore_n 1, 1) := by decide +kernel
theorem dX8_becomes_67 : decode cX8_becomes 67 = .ok (.iload_n 1, 1) := by decide +kernel
theorem dX8_becomes_68 : decode cX8_becomes 68 = .ok (.bipush 24, 2) := by decide +kernel
theorem dX8_becomes_70 : decode cX8_becomes 70 = .ok (.if_icmp .ge 21, 3) := by decide +kernel
theorem dX8_becomes_73 : decode cX8_becomes 73 = .ok (.aload_n 0, 1) := by decide +kernel
theorem dX8_becomes_74 : decode cX8_becomes 74 = .ok (.getfield 13, 3) := by decide +kernel
theorem dX8_becomes_77 : decode cX8_becomes 77 = .ok (.iload_n 1, 1) := by decide +kernel
theorem dX8_becomes_78 : decode cX8_becomes 78 = .ok (.aload_n 0, 1) := by decide +kernel
theorem dX8_becomes_79 : decode cX8_becomes 79 = .ok (.getfield 19, 3) := by decide +kernel
theorem dX8_becomes_82 : decode cX8_becomes 82 = .ok (.iload_n 1, 1) := by decide +kernel
theorem dX8_becomes_83 : decode cX8_becomes 83 = .ok (.iaload, 1) := by decide +kernel
theorem dX8_becomes_84 : decode cX8_becomes 84 = .ok (.iastore, 1) := by decide +kernel
theorem dX8_becomes_85 : decode cX8_becomes 85 = .ok (.iinc 1 1, 3) := by decide +kernel
theorem dX8_becomes_88 : decode cX8_becomes 88 = .ok (.goto (-21), 3) := by decide +kernel
theorem dX8_becomes_91 : decode cX8_becomes 91 = .ok (.iconst 0, 1) := by decide +kernel
theorem dX8_becomes_92 : decode cX8_becomes 92 = .ok (.istore_n 1, 1) := by decide +kernel
theorem dX8_becomes_93 : decode cX8_becomes 93 = .ok (.iload_n 1, 1) := by decide +kernel
theorem dX8_becomes_94 : decode cX8_becomes 94 = .ok (.sipush 667, 3) := by decide +kernel
theorem dX8_becomes_97 : decode cX8_becomes 97 = .ok (.if_icmp .ge 16, 3) := by decide +kernel
theorem dX8_becomes_100 : decode cX8_becomes 100 = .ok (.aload_n 0, 1) := by decide +kernel
theorem dX8_becomes_101 : decode cX8_becomes 101 = .ok (.getfield 22, 3) := by decide +kernel
theorem dX8_becomes_104 : decode cX8_becomes 104 = .ok (.iload_n 1, 1) := by decide +kernel
theorem dX8_becomes_105 : decode cX8_becomes 105 = .ok (.iconst 0, 1) := by decide +kernel
theorem dX8_becomes_106 : decode cX8_becomes 106 = .ok (.iastore, 1) := by decide +kernel
theorem dX8_becomes_107 : decode cX8_becomes 107 = .ok (.iinc 1 1, 3) := by decide +kernel
theorem dX8_becomes_110 : decode cX8_becomes 110 = .ok (.goto (-17), 3) := by decide +kernel
theorem dX8_becomes_113 : decode cX8_becomes 113 = .ok (.aload_n 0, 1) := by decide +kernel
theorem dX8_becomes_114 : decode cX8_becomes 114 = .ok (.getfield 22, 3) := by decide +kernel
theorem dX8_becomes_117 : decode cX8_becomes 117 = .ok (.iconst 1, 1) := by decide +kernel
theorem dX8_becomes_118 : decode cX8_becomes 118 = .ok (.aload_n 0, 1) := by decide +kernel
theorem dX8_becomes_119 : decode cX8_becomes 119 = .ok (.getfield 109, 3) := by decide +kernel
theorem dX8_becomes_122 : decode cX8_becomes 122 = .ok (.iastore, 1) := by decide +kernel
theorem dX8_becomes_123 : decode cX8_becomes 123 = .ok (.aload_n 0, 1) := by decide +kernel
theorem dX8_becomes_124 : decode cX8_becomes 124 = .ok (.getfield 22, 3) := by decide +kernel
theorem dX8_becomes_127 : decode cX8_becomes 127 = .ok (.iconst 2, 1) := by decide +kernel
theorem dX8_becomes_128 : decode cX8_becomes 128 = .ok (.bipush (-9), 2) := by decide +kernel
theorem dX8_becomes_130 : decode cX8_becomes 130 = .ok (.iastore, 1) := by decide +kernel
theorem dX8_becomes_131 : decode cX8_becomes 131 = .ok (.aload_n 0, 1) := by decide +kernel
theorem dX8_becomes_132 : decode cX8_becomes 132 = .ok (.iconst 0, 1) := by decide +kernel
theorem dX8_becomes_133 : decode cX8_becomes 133 = .ok (.putfield 130, 3) := by decide +kernel
theorem dX8_becomes_136 : decode cX8_becomes 136 = .ok (.aload_n 0, 1) := by decide +kernel
theorem dX8_becomes_137 : decode cX8_becomes 137 = .ok (.iconst 0, 1) := by decide +kernel
theorem dX8_becomes_138 : decode cX8_becomes 138 = .ok (.putfield 133, 3) := by decide +kernel
theorem dX8_becomes_141 : decode cX8_becomes 141 = .ok (.aload_n 0, 1) := by decide +kernel
theorem dX8_becomes_142 : decode cX8_becomes 142 = .ok (.getfield 31, 3) := by decide +kernel
theorem dX8_becomes_145 : decode cX8_becomes 145 = .ok (.iconst 0, 1) := by decide +kernel
theorem dX8_becomes_146 : decode cX8_becomes 146 = .ok (.iconst 0, 1) := by decide +kernel
theorem dX8_becomes_147 : decode cX8_becomes 147 = .ok (.bastore, 1) := by decide +kernel
theorem dX8_becomes_148 : decode cX8_becomes 148 = .ok (.aload_n 0, 1) := by decide +kernel
theorem dX8_becomes_149 : decode cX8_becomes 149 = .ok (.getfield 31, 3) := by decide +kernel
theorem dX8_becomes_152 : decode cX8_becomes 152 = .ok (.iconst 1, 1) := by decide +kernel
theorem dX8_becomes_153 : decode cX8_becomes 153 = .ok (.iconst 0, 1) := by decide +kernel
theorem dX8_becomes_154 : decode cX8_becomes 154 = .ok (.bastore, 1) := by decide +kernel
theorem dX8_becomes_155 : decode cX8_becomes 155 = .ok (.return_, 1) := by decide +kernel
set_option maxRecDepth 20000 in
theorem ggX8_cell_X8_begins : GoodIn wsX8_cell wsX8_begins := goodIn_r _ [10, 11, 12, 13, 14, 15, 16, 67, 68, 69, 70, 71, 72, 73, 74, 75, 76, 77, 78, 79, 80, 81, 82, 83, 84, 85, 86, 87, 88, 89, 90, 91, 92, 93, 94, 95, 96, 97, 98] (by decide +kernel) (by decide +kernel)
set_option maxRecDepth 20000 in
theorem gX8_cell_X8_begins : GoodIn wsX8_cell (wsV RX8 47 RX8 yX8_begins wsX8_begins) := goodIn_app (goodIn_of _ (by decide +kernel)) ggX8_cell_X8_begins
set_option maxRecDepth 20000 in
theorem ggX8_cell_X8_takes : GoodIn wsX8_cell wsX8_takes := goodIn_r _ [20, 2, 5, 21, 4, 3, 22, 23, 24, 9, 25, 26, 27, 28, 67, 68, 69, 70, 71, 72, 73, 74, 75, 76, 77, 78, 79, 80, 81, 82, 83, 84, 85, 86, 87, 88, 89, 90, 91, 92, 93, 94, 95, 96, 97, 98] (by decide +kernel) (by decide +kernel)
set_option maxRecDepth 20000 in
theorem gX8_cell_X8_takes : GoodIn wsX8_cell (wsV RX8 83 RX8 yX8_takes wsX8_takes) := goodIn_app (goodIn_of _ (by decide +kernel)) ggX8_cell_X8_takes
set_option maxRecDepth 20000 in
theorem ggX8_cell_X8_item : GoodIn wsX8_cell wsX8_item := goodIn_r _ [32, 3, 33, 13, 14, 15, 16, 34, 35, 36, 9, 37, 11, 38, 39, 40, 41, 42, 17, 18, 19, 20, 2, 5, 21, 4, 22, 23, 24, 25, 26, 27, 28, 43, 44, 45, 46, 12, 47, 48, 49, 50, 51, 67, 68, 69, 70, 71, 72, 73, 74, 75, 76, 77, 78, 79, 80, 81, 82, 83, 84, 85, 86, 87, 88, 89, 90, 91, 92, 93, 94, 95, 96, 97, 98] (by decide +kernel) (by decide +kernel)
set_option maxRecDepth 20000 in
theorem gX8_cell_X8_item : GoodIn wsX8_cell (wsV RX8 136 RX8 yX8_item wsX8_item) := goodIn_app (goodIn_of _ (by decide +kernel)) ggX8_cell_X8_item
set_option maxRecDepth 20000 in
theorem ggX8_cell_X8_becomes : GoodIn wsX8_cell wsX8_becomes := goodIn_r _ [55, 11, 56, 12, 57, 14, 58, 15, 59, 16, 60, 61, 38, 62, 51, 63, 13, 64, 65, 66, 67, 68, 69, 70, 71, 72, 73, 74, 75, 76, 77, 78, 79, 80, 81, 82, 83, 84, 85, 86, 87, 88, 89, 90, 91, 92, 93, 94, 95, 96, 97, 98] (by decide +kernel) (by decide +kernel)
set_option maxRecDepth 20000 in
theorem gX8_cell_X8_becomes : GoodIn wsX8_cell (wsV RX8 50 RX8 yX8_becomes wsX8_becomes) := goodIn_app (goodIn_of _ (by decide +kernel)) ggX8_cell_X8_becomes
theorem dX8_cell_0 : decode cX8_cell 0 = .ok (.aload_n 0, 1) := by decide +kernel
theorem dX8_cell_1 : decode cX8_cell 1 = .ok (.iconst 0, 1) := by decide +kernel
theorem dX8_cell_2 : decode cX8_cell 2 = .ok (.putfield 53, 3) := by decide +kernel
theorem dX8_cell_5 : decode cX8_cell 5 = .ok (.aload_n 0, 1) := by decide +kernel
theorem dX8_cell_6 : decode cX8_cell 6 = .ok (.invokevirtual 47, 3) := by decide +kernel
theorem dX8_cell_9 : decode cX8_cell 9 = .ok (.aload_n 0, 1) := by decide +kernel
theorem dX8_cell_10 : decode cX8_cell 10 = .ok (.iconst 0, 1) := by decide +kernel
theorem dX8_cell_11 : decode cX8_cell 11 = .ok (.putfield 70, 3) := by decide +kernel
theorem dX8_cell_14 : decode cX8_cell 14 = .ok (.iconst 0, 1) := by decide +kernel
theorem dX8_cell_15 : decode cX8_cell 15 = .ok (.istore_n 1, 1) := by decide +kernel
theorem dX8_cell_16 : decode cX8_cell 16 = .ok (.aload_n 0, 1) := by decide +kernel
theorem dX8_cell_17 : decode cX8_cell 17 = .ok (.invokevirtual 83, 3) := by decide +kernel
theorem dX8_cell_20 : decode cX8_cell 20 = .ok (.aload_n 0, 1) := by decide +kernel
theorem dX8_cell_21 : decode cX8_cell 21 = .ok (.getfield 76, 3) := by decide +kernel
theorem dX8_cell_24 : decode cX8_cell 24 = .ok (.iconst (-1), 1) := by decide +kernel
theorem dX8_cell_25 : decode cX8_cell 25 = .ok (.if_icmp .eq 47, 3) := by decide +kernel
theorem dX8_cell_28 : decode cX8_cell 28 = .ok (.aload_n 0, 1) := by decide +kernel
theorem dX8_cell_29 : decode cX8_cell 29 = .ok (.invokevirtual 136, 3) := by decide +kernel
theorem dX8_cell_32 : decode cX8_cell 32 = .ok (.istore_n 2, 1) := by decide +kernel
theorem dX8_cell_33 : decode cX8_cell 33 = .ok (.iload_n 2, 1) := by decide +kernel
theorem dX8_cell_34 : decode cX8_cell 34 = .ok (.ifCond .eq 7, 3) := by decide +kernel
theorem dX8_cell_37 : decode cX8_cell 37 = .ok (.aload_n 0, 1) := by decide +kernel
theorem dX8_cell_38 : decode cX8_cell 38 = .ok (.invokevirtual 83, 3) := by decide +kernel
theorem dX8_cell_41 : decode cX8_cell 41 = .ok (.iload_n 2, 1) := by decide +kernel
theorem dX8_cell_42 : decode cX8_cell 42 = .ok (.ifCond .eq 12, 3) := by decide +kernel
theorem dX8_cell_45 : decode cX8_cell 45 = .ok (.aload_n 0, 1) := by decide +kernel
theorem dX8_cell_46 : decode cX8_cell 46 = .ok (.getfield 76, 3) := by decide +kernel
theorem dX8_cell_49 : decode cX8_cell 49 = .ok (.bipush 59, 2) := by decide +kernel
theorem dX8_cell_51 : decode cX8_cell 51 = .ok (.if_icmp .eq 11, 3) := by decide +kernel
theorem dX8_cell_54 : decode cX8_cell 54 = .ok (.bipush (-10), 2) := by decide +kernel
theorem dX8_cell_56 : decode cX8_cell 56 = .ok (.aload_n 0, 1) := by decide +kernel
theorem dX8_cell_57 : decode cX8_cell 57 = .ok (.getfield 73, 3) := by decide +kernel
theorem dX8_cell_60 : decode cX8_cell 60 = .ok (.isub, 1) := by decide +kernel
theorem dX8_cell_61 : decode cX8_cell 61 = .ok (.ireturn, 1) := by decide +kernel
theorem dX8_cell_62 : decode cX8_cell 62 = .ok (.iinc 1 1, 3) := by decide +kernel
theorem dX8_cell_65 : decode cX8_cell 65 = .ok (.aload_n 0, 1) := by decide +kernel
theorem dX8_cell_66 : decode cX8_cell 66 = .ok (.invokevirtual 83, 3) := by decide +kernel
theorem dX8_cell_69 : decode cX8_cell 69 = .ok (.goto (-49), 3) := by decide +kernel
theorem dX8_cell_72 : decode cX8_cell 72 = .ok (.aload_n 0, 1) := by decide +kernel
theorem dX8_cell_73 : decode cX8_cell 73 = .ok (.invokevirtual 50, 3) := by decide +kernel
theorem dX8_cell_76 : decode cX8_cell 76 = .ok (.aload_n 0, 1) := by decide +kernel
theorem dX8_cell_77 : decode cX8_cell 77 = .ok (.iconst 0, 1) := by decide +kernel
theorem dX8_cell_78 : decode cX8_cell 78 = .ok (.putfield 67, 3) := by decide +kernel
theorem dX8_cell_81 : decode cX8_cell 81 = .ok (.iload_n 1, 1) := by decide +kernel
theorem dX8_cell_82 : decode cX8_cell 82 = .ok (.ireturn, 1) := by decide +kernel
set_option maxRecDepth 20000 in
theorem ggX8_isDeaf_X8_ofTerminal : GoodIn wsX8_isDeaf wsX8_ofTerminal := goodIn_r _ [5] (by decide +kernel) (by decide +kernel)
set_option maxRecDepth 20000 in
theorem gX8_isDeaf_X8_ofTerminal : GoodIn wsX8_isDeaf (va_wsS RX8 139 yX8_ofTerminal wsX8_ofTerminal) := goodIn_app (goodIn_of _ (by decide +kernel)) ggX8_isDeaf_X8_ofTerminal
theorem dX8_isDeaf_0 : decode cX8_isDeaf 0 = .ok (.iload_n 2, 1) := by decide +kernel
theorem dX8_isDeaf_1 : decode cX8_isDeaf 1 = .ok (.sipush 199, 3) := by decide +kernel
theorem dX8_isDeaf_4 : decode cX8_isDeaf 4 = .ok (.if_icmp .gt 34, 3) := by decide +kernel
theorem dX8_isDeaf_7 : decode cX8_isDeaf 7 = .ok (.aload_n 0, 1) := by decide +kernel
theorem dX8_isDeaf_8 : decode cX8_isDeaf 8 = .ok (.getfield 22, 3) := by decide +kernel
theorem dX8_isDeaf_11 : decode cX8_isDeaf 11 = .ok (.iload_n 1, 1) := by decide +kernel
theorem dX8_isDeaf_12 : decode cX8_isDeaf 12 = .ok (.bipush 6, 2) := by decide +kernel
theorem dX8_isDeaf_14 : decode cX8_isDeaf 14 = .ok (.iload_n 2, 1) := by decide +kernel
theorem dX8_isDeaf_15 : decode cX8_isDeaf 15 = .ok (.bipush 30, 2) := by decide +kernel
theorem dX8_isDeaf_17 : decode cX8_isDeaf 17 = .ok (.idiv, 1) := by decide +kernel
theorem dX8_isDeaf_18 : decode cX8_isDeaf 18 = .ok (.iadd, 1) := by decide +kernel
theorem dX8_isDeaf_19 : decode cX8_isDeaf 19 = .ok (.invokestatic 139, 3) := by decide +kernel
theorem dX8_isDeaf_22 : decode cX8_isDeaf 22 = .ok (.iaload, 1) := by decide +kernel
theorem dX8_isDeaf_23 : decode cX8_isDeaf 23 = .ok (.iload_n 2, 1) := by decide +kernel
theorem dX8_isDeaf_24 : decode cX8_isDeaf 24 = .ok (.bipush 30, 2) := by decide +kernel
theorem dX8_isDeaf_26 : decode cX8_isDeaf 26 = .ok (.irem, 1) := by decide +kernel
theorem dX8_isDeaf_27 : decode cX8_isDeaf 27 = .ok (.ishr, 1) := by decide +kernel
theorem dX8_isDeaf_28 : decode cX8_isDeaf 28 = .ok (.iconst 1, 1) := by decide +kernel
theorem dX8_isDeaf_29 : decode cX8_isDeaf 29 = .ok (.iand, 1) := by decide +kernel
theorem dX8_isDeaf_30 : decode cX8_isDeaf 30 = .ok (.iconst 1, 1) := by decide +kernel
theorem dX8_isDeaf_31 : decode cX8_isDeaf 31 = .ok (.if_icmp .ne 7, 3) := by decide +kernel
theorem dX8_isDeaf_34 : decode cX8_isDeaf 34 = .ok (.iconst 1, 1) := by decide +kernel
theorem dX8_isDeaf_35 : decode cX8_isDeaf 35 = .ok (.goto 4, 3) := by decide +kernel
theorem dX8_isDeaf_38 : decode cX8_isDeaf 38 = .ok (.iconst 0, 1) := by decide +kernel
theorem dX8_isDeaf_39 : decode cX8_isDeaf 39 = .ok (.ireturn, 1) := by decide +kernel
set_option maxRecDepth 20000 in
theorem ggX8_waitsOf_X8_ofClass : GoodIn wsX8_waitsOf wsX8_ofClass := goodIn_r _ [7] (by decide +kernel) (by decide +kernel)
set_option maxRecDepth 20000 in
theorem gX8_waitsOf_X8_ofClass : GoodIn wsX8_waitsOf (va_wsS RX8 143 yX8_ofClass wsX8_ofClass) := goodIn_app (goodIn_of _ (by decide +kernel)) ggX8_waitsOf_X8_ofClass
theorem dX8_waitsOf_0 : decode cX8_waitsOf 0 = .ok (.iconst 0, 1) := by decide +kernel
theorem dX8_waitsOf_1 : decode cX8_waitsOf 1 = .ok (.istore_n 2, 1) := by decide +kernel
theorem dX8_waitsOf_2 : decode cX8_waitsOf 2 = .ok (.iconst 0, 1) := by decide +kernel
theorem dX8_waitsOf_3 : decode cX8_waitsOf 3 = .ok (.istore_n 3, 1) := by decide +kernel
theorem dX8_waitsOf_4 : decode cX8_waitsOf 4 = .ok (.iload_n 3, 1) := by decide +kernel
theorem dX8_waitsOf_5 : decode cX8_waitsOf 5 = .ok (.aload_n 0, 1) := by decide +kernel
theorem dX8_waitsOf_6 : decode cX8_waitsOf 6 = .ok (.getfield 64, 3) := by decide +kernel
theorem dX8_waitsOf_9 : decode cX8_waitsOf 9 = .ok (.if_icmp .ge 38, 3) := by decide +kernel
theorem dX8_waitsOf_12 : decode cX8_waitsOf 12 = .ok (.iload_n 2, 1) := by decide +kernel
theorem dX8_waitsOf_13 : decode cX8_waitsOf 13 = .ok (.aload_n 0, 1) := by decide +kernel
theorem dX8_waitsOf_14 : decode cX8_waitsOf 14 = .ok (.getfield 13, 3) := by decide +kernel
theorem dX8_waitsOf_17 : decode cX8_waitsOf 17 = .ok (.iconst 4, 1) := by decide +kernel
theorem dX8_waitsOf_18 : decode cX8_waitsOf 18 = .ok (.iload_n 3, 1) := by decide +kernel
theorem dX8_waitsOf_19 : decode cX8_waitsOf 19 = .ok (.imul, 1) := by decide +kernel
theorem dX8_waitsOf_20 : decode cX8_waitsOf 20 = .ok (.iaload, 1) := by decide +kernel
theorem dX8_waitsOf_21 : decode cX8_waitsOf 21 = .ok (.iload_n 1, 1) := by decide +kernel
theorem dX8_waitsOf_22 : decode cX8_waitsOf 22 = .ok (.if_icmp .ne 16, 3) := by decide +kernel
theorem dX8_waitsOf_25 : decode cX8_waitsOf 25 = .ok (.aload_n 0, 1) := by decide +kernel
theorem dX8_waitsOf_26 : decode cX8_waitsOf 26 = .ok (.getfield 22, 3) := by decide +kernel
theorem dX8_waitsOf_29 : decode cX8_waitsOf 29 = .ok (.iload_n 3, 1) := by decide +kernel
theorem dX8_waitsOf_30 : decode cX8_waitsOf 30 = .ok (.iconst 0, 1) := by decide +kernel
theorem dX8_waitsOf_31 : decode cX8_waitsOf 31 = .ok (.invokestatic 143, 3) := by decide +kernel
theorem dX8_waitsOf_34 : decode cX8_waitsOf 34 = .ok (.iaload, 1) := by decide +kernel
theorem dX8_waitsOf_35 : decode cX8_waitsOf 35 = .ok (.goto 4, 3) := by decide +kernel
theorem dX8_waitsOf_38 : decode cX8_waitsOf 38 = .ok (.iconst 0, 1) := by decide +kernel
theorem dX8_waitsOf_39 : decode cX8_waitsOf 39 = .ok (.iadd, 1) := by decide +kernel
theorem dX8_waitsOf_40 : decode cX8_waitsOf 40 = .ok (.istore_n 2, 1) := by decide +kernel
theorem dX8_waitsOf_41 : decode cX8_waitsOf 41 = .ok (.iinc 3 1, 3) := by decide +kernel
theorem dX8_waitsOf_44 : decode cX8_waitsOf 44 = .ok (.goto (-40), 3) := by decide +kernel
theorem dX8_waitsOf_47 : decode cX8_waitsOf 47 = .ok (.iload_n 2, 1) := by decide +kernel
theorem dX8_waitsOf_48 : decode cX8_waitsOf 48 = .ok (.ireturn, 1) := by decide +kernel
set_option maxRecDepth 20000 in
theorem ggX8_lettersIn_X8_ofBlock : GoodIn wsX8_lettersIn wsX8_ofBlock := goodIn_r _ [6] (by decide +kernel) (by decide +kernel)
set_option maxRecDepth 20000 in
theorem gX8_lettersIn_X8_ofBlock : GoodIn wsX8_lettersIn (va_wsS RX8 146 yX8_ofBlock wsX8_ofBlock) := goodIn_app (goodIn_of _ (by decide +kernel)) ggX8_lettersIn_X8_ofBlock
theorem dX8_lettersIn_0 : decode cX8_lettersIn 0 = .ok (.iconst 0, 1) := by decide +kernel
theorem dX8_lettersIn_1 : decode cX8_lettersIn 1 = .ok (.istore_n 2, 1) := by decide +kernel
theorem dX8_lettersIn_2 : decode cX8_lettersIn 2 = .ok (.iconst 0, 1) := by decide +kernel
theorem dX8_lettersIn_3 : decode cX8_lettersIn 3 = .ok (.istore_n 3, 1) := by decide +kernel
theorem dX8_lettersIn_4 : decode cX8_lettersIn 4 = .ok (.iload_n 3, 1) := by decide +kernel
theorem dX8_lettersIn_5 : decode cX8_lettersIn 5 = .ok (.aload_n 0, 1) := by decide +kernel
theorem dX8_lettersIn_6 : decode cX8_lettersIn 6 = .ok (.getfield 64, 3) := by decide +kernel
theorem dX8_lettersIn_9 : decode cX8_lettersIn 9 = .ok (.if_icmp .ge 24, 3) := by decide +kernel
theorem dX8_lettersIn_12 : decode cX8_lettersIn 12 = .ok (.iload_n 2, 1) := by decide +kernel
theorem dX8_lettersIn_13 : decode cX8_lettersIn 13 = .ok (.aload_n 0, 1) := by decide +kernel
theorem dX8_lettersIn_14 : decode cX8_lettersIn 14 = .ok (.getfield 22, 3) := by decide +kernel
theorem dX8_lettersIn_17 : decode cX8_lettersIn 17 = .ok (.iload_n 1, 1) := by decide +kernel
theorem dX8_lettersIn_18 : decode cX8_lettersIn 18 = .ok (.iconst 4, 1) := by decide +kernel
theorem dX8_lettersIn_19 : decode cX8_lettersIn 19 = .ok (.iload_n 3, 1) := by decide +kernel
theorem dX8_lettersIn_20 : decode cX8_lettersIn 20 = .ok (.iadd, 1) := by decide +kernel
theorem dX8_lettersIn_21 : decode cX8_lettersIn 21 = .ok (.invokestatic 146, 3) := by decide +kernel
theorem dX8_lettersIn_24 : decode cX8_lettersIn 24 = .ok (.iaload, 1) := by decide +kernel
theorem dX8_lettersIn_25 : decode cX8_lettersIn 25 = .ok (.iadd, 1) := by decide +kernel
theorem dX8_lettersIn_26 : decode cX8_lettersIn 26 = .ok (.istore_n 2, 1) := by decide +kernel
theorem dX8_lettersIn_27 : decode cX8_lettersIn 27 = .ok (.iinc 3 1, 3) := by decide +kernel
theorem dX8_lettersIn_30 : decode cX8_lettersIn 30 = .ok (.goto (-26), 3) := by decide +kernel
theorem dX8_lettersIn_33 : decode cX8_lettersIn 33 = .ok (.iload_n 2, 1) := by decide +kernel
theorem dX8_lettersIn_34 : decode cX8_lettersIn 34 = .ok (.ireturn, 1) := by decide +kernel
set_option maxRecDepth 20000 in
theorem ggX8_inBlock_X8_lettersIn : GoodIn wsX8_inBlock wsX8_lettersIn := goodIn_r _ [6, 7, 1, 8, 9, 5, 10, 11, 12, 13, 14, 15, 16, 17, 18, 19, 20, 21, 22, 23, 24, 25, 26, 27, 28, 29, 30, 31, 32, 33, 34, 35, 36, 37, 38, 39, 40, 41, 42] (by decide +kernel) (by decide +kernel)
set_option maxRecDepth 20000 in
theorem gX8_inBlock_X8_lettersIn : GoodIn wsX8_inBlock (wsV RX8 149 RX8 yX8_lettersIn wsX8_lettersIn) := goodIn_app (goodIn_of _ (by decide +kernel)) ggX8_inBlock_X8_lettersIn
set_option maxRecDepth 20000 in
theorem ggX8_inBlock_X8_ofBlock : GoodIn wsX8_inBlock wsX8_ofBlock := goodIn_r _ [10] (by decide +kernel) (by decide +kernel)
set_option maxRecDepth 20000 in
theorem gX8_inBlock_X8_ofBlock : GoodIn wsX8_inBlock (va_wsS RX8 146 yX8_ofBlock wsX8_ofBlock) := goodIn_app (goodIn_of _ (by decide +kernel)) ggX8_inBlock_X8_ofBlock
theorem dX8_inBlock_0 : decode cX8_inBlock 0 = .ok (.aload_n 0, 1) := by decide +kernel
theorem dX8_inBlock_1 : decode cX8_inBlock 1 = .ok (.iload_n 1, 1) := by decide +kernel
theorem dX8_inBlock_2 : decode cX8_inBlock 2 = .ok (.invokevirtual 149, 3) := by decide +kernel
theorem dX8_inBlock_5 : decode cX8_inBlock 5 = .ok (.aload_n 0, 1) := by decide +kernel
theorem dX8_inBlock_6 : decode cX8_inBlock 6 = .ok (.getfield 22, 3) := by decide +kernel
theorem dX8_inBlock_9 : decode cX8_inBlock 9 = .ok (.iload_n 1, 1) := by decide +kernel
theorem dX8_inBlock_10 : decode cX8_inBlock 10 = .ok (.iconst 3, 1) := by decide +kernel
theorem dX8_inBlock_11 : decode cX8_inBlock 11 = .ok (.invokestatic 146, 3) := by decide +kernel
theorem dX8_inBlock_14 : decode cX8_inBlock 14 = .ok (.iaload, 1) := by decide +kernel
theorem dX8_inBlock_15 : decode cX8_inBlock 15 = .ok (.bipush (-9), 2) := by decide +kernel
theorem dX8_inBlock_17 : decode cX8_inBlock 17 = .ok (.if_icmp .ne 7, 3) := by decide +kernel
theorem dX8_inBlock_20 : decode cX8_inBlock 20 = .ok (.iconst 0, 1) := by decide +kernel
theorem dX8_inBlock_21 : decode cX8_inBlock 21 = .ok (.goto 4, 3) := by decide +kernel
theorem dX8_inBlock_24 : decode cX8_inBlock 24 = .ok (.iconst 2, 1) := by decide +kernel
theorem dX8_inBlock_25 : decode cX8_inBlock 25 = .ok (.iadd, 1) := by decide +kernel
theorem dX8_inBlock_26 : decode cX8_inBlock 26 = .ok (.ireturn, 1) := by decide +kernel
set_option maxRecDepth 20000 in
theorem ggX8_sends_X8_ofBlock : GoodIn wsX8_sends wsX8_ofBlock := goodIn_r _ [9] (by decide +kernel) (by decide +kernel)
set_option maxRecDepth 20000 in
theorem gX8_sends_X8_ofBlock : GoodIn wsX8_sends (va_wsS RX8 146 yX8_ofBlock wsX8_ofBlock) := goodIn_app (goodIn_of _ (by decide +kernel)) ggX8_sends_X8_ofBlock
set_option maxRecDepth 20000 in
theorem ggX8_sends_X8_isDeaf : GoodIn wsX8_sends wsX8_isDeaf := goodIn_r _ [13, 1, 14, 15, 8, 16, 24, 25, 26, 27, 28, 29, 30, 31, 32, 33, 34, 35, 36, 37, 38, 39, 40, 41, 42, 43, 44, 45, 46, 47, 48, 49, 50, 51, 52, 53, 54, 55] (by decide +kernel) (by decide +kernel)
set_option maxRecDepth 20000 in
theorem gX8_sends_X8_isDeaf : GoodIn wsX8_sends (wsV RX8 153 RX8 yX8_isDeaf wsX8_isDeaf) := goodIn_app (goodIn_of _ (by decide +kernel)) ggX8_sends_X8_isDeaf
set_option maxRecDepth 20000 in
theorem ggX8_sends_X8_ofClass : GoodIn wsX8_sends wsX8_ofClass := goodIn_r _ [19] (by decide +kernel) (by decide +kernel)
set_option maxRecDepth 20000 in
theorem gX8_sends_X8_ofClass : GoodIn wsX8_sends (va_wsS RX8 143 yX8_ofClass wsX8_ofClass) := goodIn_app (goodIn_of _ (by decide +kernel)) ggX8_sends_X8_ofClass
set_option maxRecDepth 20000 in
theorem ggX8_sends_X8_ofTerminal : GoodIn wsX8_sends wsX8_ofTerminal := goodIn_r _ [16] (by decide +kernel) (by decide +kernel)
set_option maxRecDepth 20000 in
theorem gX8_sends_X8_ofTerminal : GoodIn wsX8_sends (va_wsS RX8 139 yX8_ofTerminal wsX8_ofTerminal) := goodIn_app (goodIn_of _ (by decide +kernel)) ggX8_sends_X8_ofTerminal
set_option maxRecDepth 20000 in
theorem ggX8_sends_X8_lettersIn : GoodIn wsX8_sends wsX8_lettersIn := goodIn_r _ [23, 4, 1, 6, 7, 8, 9, 24, 25, 26, 27, 28, 29, 30, 31, 32, 33, 34, 35, 36, 37, 38, 39, 40, 41, 42, 43, 44, 45, 46, 47, 48, 49, 50, 51, 52, 53, 54, 55] (by decide +kernel) (by decide +kernel)
set_option maxRecDepth 20000 in
theorem gX8_sends_X8_lettersIn : GoodIn wsX8_sends (wsV RX8 149 RX8 yX8_lettersIn wsX8_lettersIn) := goodIn_app (goodIn_of _ (by decide +kernel)) ggX8_sends_X8_lettersIn
theorem dX8_sends_0 : decode cX8_sends 0 = .ok (.aload_n 0, 1) := by decide +kernel
theorem dX8_sends_1 : decode cX8_sends 1 = .ok (.getfield 22, 3) := by decide +kernel
theorem dX8_sends_4 : decode cX8_sends 4 = .ok (.iload_n 1, 1) := by decide +kernel
theorem dX8_sends_5 : decode cX8_sends 5 = .ok (.iconst 0, 1) := by decide +kernel
theorem dX8_sends_6 : decode cX8_sends 6 = .ok (.invokestatic 146, 3) := by decide +kernel
theorem dX8_sends_9 : decode cX8_sends 9 = .ok (.iaload, 1) := by decide +kernel
theorem dX8_sends_10 : decode cX8_sends 10 = .ok (.istore_n 2, 1) := by decide +kernel
theorem dX8_sends_11 : decode cX8_sends 11 = .ok (.aload_n 0, 1) := by decide +kernel
theorem dX8_sends_12 : decode cX8_sends 12 = .ok (.getfield 22, 3) := by decide +kernel
theorem dX8_sends_15 : decode cX8_sends 15 = .ok (.iload_n 1, 1) := by decide +kernel
theorem dX8_sends_16 : decode cX8_sends 16 = .ok (.iconst 2, 1) := by decide +kernel
theorem dX8_sends_17 : decode cX8_sends 17 = .ok (.invokestatic 146, 3) := by decide +kernel
theorem dX8_sends_20 : decode cX8_sends 20 = .ok (.dup2, 1) := by decide +kernel
theorem dX8_sends_21 : decode cX8_sends 21 = .ok (.iaload, 1) := by decide +kernel
theorem dX8_sends_22 : decode cX8_sends 22 = .ok (.iconst 1, 1) := by decide +kernel
theorem dX8_sends_23 : decode cX8_sends 23 = .ok (.iadd, 1) := by decide +kernel
theorem dX8_sends_24 : decode cX8_sends 24 = .ok (.iastore, 1) := by decide +kernel
theorem dX8_sends_25 : decode cX8_sends 25 = .ok (.aload_n 0, 1) := by decide +kernel
theorem dX8_sends_26 : decode cX8_sends 26 = .ok (.iload_n 2, 1) := by decide +kernel
theorem dX8_sends_27 : decode cX8_sends 27 = .ok (.aload_n 0, 1) := by decide +kernel
theorem dX8_sends_28 : decode cX8_sends 28 = .ok (.getfield 22, 3) := by decide +kernel
theorem dX8_sends_31 : decode cX8_sends 31 = .ok (.iconst 0, 1) := by decide +kernel
theorem dX8_sends_32 : decode cX8_sends 32 = .ok (.iaload, 1) := by decide +kernel
theorem dX8_sends_33 : decode cX8_sends 33 = .ok (.invokevirtual 153, 3) := by decide +kernel
theorem dX8_sends_36 : decode cX8_sends 36 = .ok (.ifCond .ne 7, 3) := by decide +kernel
theorem dX8_sends_39 : decode cX8_sends 39 = .ok (.iconst 1, 1) := by decide +kernel
theorem dX8_sends_40 : decode cX8_sends 40 = .ok (.goto 4, 3) := by decide +kernel
theorem dX8_sends_43 : decode cX8_sends 43 = .ok (.iconst 0, 1) := by decide +kernel
theorem dX8_sends_44 : decode cX8_sends 44 = .ok (.istore_n 3, 1) := by decide +kernel
theorem dX8_sends_45 : decode cX8_sends 45 = .ok (.iload_n 3, 1) := by decide +kernel
theorem dX8_sends_46 : decode cX8_sends 46 = .ok (.ifCond .ne 42, 3) := by decide +kernel
theorem dX8_sends_49 : decode cX8_sends 49 = .ok (.aload_n 0, 1) := by decide +kernel
theorem dX8_sends_50 : decode cX8_sends 50 = .ok (.getfield 22, 3) := by decide +kernel
theorem dX8_sends_53 : decode cX8_sends 53 = .ok (.iload_n 1, 1) := by decide +kernel
theorem dX8_sends_54 : decode cX8_sends 54 = .ok (.iconst 2, 1) := by decide +kernel
theorem dX8_sends_55 : decode cX8_sends 55 = .ok (.invokestatic 146, 3) := by decide +kernel
theorem dX8_sends_58 : decode cX8_sends 58 = .ok (.iaload, 1) := by decide +kernel
theorem dX8_sends_59 : decode cX8_sends 59 = .ok (.aload_n 0, 1) := by decide +kernel
theorem dX8_sends_60 : decode cX8_sends 60 = .ok (.getfield 127, 3) := by decide +kernel
theorem dX8_sends_63 : decode cX8_sends 63 = .ok (.if_icmp .ge 25, 3) := by decide +kernel
theorem dX8_sends_66 : decode cX8_sends 66 = .ok (.aload_n 0, 1) := by decide +kernel
theorem dX8_sends_67 : decode cX8_sends 67 = .ok (.getfield 22, 3) := by decide +kernel
theorem dX8_sends_70 : decode cX8_sends 70 = .ok (.iload_n 1, 1) := by decide +kernel
theorem dX8_sends_71 : decode cX8_sends 71 = .ok (.iconst 1, 1) := by decide +kernel
theorem dX8_sends_72 : decode cX8_sends 72 = .ok (.invokestatic 146, 3) := by decide +kernel
theorem dX8_sends_75 : decode cX8_sends 75 = .ok (.aload_n 0, 1) := by decide +kernel
theorem dX8_sends_76 : decode cX8_sends 76 = .ok (.getfield 22, 3) := by decide +kernel
theorem dX8_sends_79 : decode cX8_sends 79 = .ok (.iconst 0, 1) := by decide +kernel
theorem dX8_sends_80 : decode cX8_sends 80 = .ok (.iaload, 1) := by decide +kernel
theorem dX8_sends_81 : decode cX8_sends 81 = .ok (.aload_n 0, 1) := by decide +kernel
theorem dX8_sends_82 : decode cX8_sends 82 = .ok (.getfield 124, 3) := by decide +kernel
theorem dX8_sends_85 : decode cX8_sends 85 = .ok (.iadd, 1) := by decide +kernel
theorem dX8_sends_86 : decode cX8_sends 86 = .ok (.iastore, 1) := by decide +kernel
theorem dX8_sends_87 : decode cX8_sends 87 = .ok (.return_, 1) := by decide +kernel
theorem dX8_sends_88 : decode cX8_sends 88 = .ok (.iconst 0, 1) := by decide +kernel
theorem dX8_sends_89 : decode cX8_sends 89 = .ok (.istore 4, 2) := by decide +kernel
theorem dX8_sends_91 : decode cX8_sends 91 = .ok (.iload 4, 2) := by decide +kernel
theorem dX8_sends_93 : decode cX8_sends 93 = .ok (.aload_n 0, 1) := by decide +kernel
theorem dX8_sends_94 : decode cX8_sends 94 = .ok (.getfield 64, 3) := by decide +kernel
theorem dX8_sends_97 : decode cX8_sends 97 = .ok (.if_icmp .ge 44, 3) := by decide +kernel
theorem dX8_sends_100 : decode cX8_sends 100 = .ok (.aload_n 0, 1) := by decide +kernel
theorem dX8_sends_101 : decode cX8_sends 101 = .ok (.getfield 22, 3) := by decide +kernel
theorem dX8_sends_104 : decode cX8_sends 104 = .ok (.iload 4, 2) := by decide +kernel
theorem dX8_sends_106 : decode cX8_sends 106 = .ok (.iload_n 3, 1) := by decide +kernel
theorem dX8_sends_107 : decode cX8_sends 107 = .ok (.ifCond .eq 7, 3) := by decide +kernel
theorem dX8_sends_110 : decode cX8_sends 110 = .ok (.iconst 2, 1) := by decide +kernel
theorem dX8_sends_111 : decode cX8_sends 111 = .ok (.goto 4, 3) := by decide +kernel
theorem dX8_sends_114 : decode cX8_sends 114 = .ok (.iconst 3, 1) := by decide +kernel
theorem dX8_sends_115 : decode cX8_sends 115 = .ok (.invokestatic 143, 3) := by decide +kernel
theorem dX8_sends_118 : decode cX8_sends 118 = .ok (.dup2, 1) := by decide +kernel
theorem dX8_sends_119 : decode cX8_sends 119 = .ok (.iaload, 1) := by decide +kernel
theorem dX8_sends_120 : decode cX8_sends 120 = .ok (.aload_n 0, 1) := by decide +kernel
theorem dX8_sends_121 : decode cX8_sends 121 = .ok (.getfield 22, 3) := by decide +kernel
theorem dX8_sends_124 : decode cX8_sends 124 = .ok (.iload_n 1, 1) := by decide +kernel
theorem dX8_sends_125 : decode cX8_sends 125 = .ok (.iconst 4, 1) := by decide +kernel
theorem dX8_sends_126 : decode cX8_sends 126 = .ok (.iload 4, 2) := by decide +kernel
theorem dX8_sends_128 : decode cX8_sends 128 = .ok (.iadd, 1) := by decide +kernel
theorem dX8_sends_129 : decode cX8_sends 129 = .ok (.invokestatic 146, 3) := by decide +kernel
theorem dX8_sends_132 : decode cX8_sends 132 = .ok (.iaload, 1) := by decide +kernel
theorem dX8_sends_133 : decode cX8_sends 133 = .ok (.iadd, 1) := by decide +kernel
theorem dX8_sends_134 : decode cX8_sends 134 = .ok (.iastore, 1) := by decide +kernel
theorem dX8_sends_135 : decode cX8_sends 135 = .ok (.iinc 4 1, 3) := by decide +kernel
theorem dX8_sends_138 : decode cX8_sends 138 = .ok (.goto (-47), 3) := by decide +kernel
theorem dX8_sends_141 : decode cX8_sends 141 = .ok (.aload_n 0, 1) := by decide +kernel
theorem dX8_sends_142 : decode cX8_sends 142 = .ok (.getfield 22, 3) := by decide +kernel
theorem dX8_sends_145 : decode cX8_sends 145 = .ok (.iload_n 2, 1) := by decide +kernel
theorem dX8_sends_146 : decode cX8_sends 146 = .ok (.iconst 3, 1) := by decide +kernel
theorem dX8_sends_147 : decode cX8_sends 147 = .ok (.invokestatic 139, 3) := by decide +kernel
theorem dX8_sends_150 : decode cX8_sends 150 = .ok (.iaload, 1) := by decide +kernel
theorem dX8_sends_151 : decode cX8_sends 151 = .ok (.aload_n 0, 1) := by decide +kernel
theorem dX8_sends_152 : decode cX8_sends 152 = .ok (.iload_n 1, 1) := by decide +kernel
theorem dX8_sends_153 : decode cX8_sends 153 = .ok (.invokevirtual 149, 3) := by decide +kernel
theorem dX8_sends_156 : decode cX8_sends 156 = .ok (.isub, 1) := by decide +kernel
theorem dX8_sends_157 : decode cX8_sends 157 = .ok (.istore 4, 2) := by decide +kernel
theorem dX8_sends_159 : decode cX8_sends 159 = .ok (.iload_n 3, 1) := by decide +kernel
theorem dX8_sends_160 : decode cX8_sends 160 = .ok (.ifCond .ne 17, 3) := by decide +kernel
theorem dX8_sends_163 : decode cX8_sends 163 = .ok (.aload_n 0, 1) := by decide +kernel
theorem dX8_sends_164 : decode cX8_sends 164 = .ok (.getfield 22, 3) := by decide +kernel
theorem dX8_sends_167 : decode cX8_sends 167 = .ok (.iload_n 2, 1) := by decide +kernel
theorem dX8_sends_168 : decode cX8_sends 168 = .ok (.iconst 0, 1) := by decide +kernel
theorem dX8_sends_169 : decode cX8_sends 169 = .ok (.invokestatic 139, 3) := by decide +kernel
theorem dX8_sends_172 : decode cX8_sends 172 = .ok (.iconst 1, 1) := by decide +kernel
theorem dX8_sends_173 : decode cX8_sends 173 = .ok (.iastore, 1) := by decide +kernel
theorem dX8_sends_174 : decode cX8_sends 174 = .ok (.goto 66, 3) := by decide +kernel
theorem dX8_sends_177 : decode cX8_sends 177 = .ok (.aload_n 0, 1) := by decide +kernel
theorem dX8_sends_178 : decode cX8_sends 178 = .ok (.dup, 1) := by decide +kernel
theorem dX8_sends_179 : decode cX8_sends 179 = .ok (.getfield 156, 3) := by decide +kernel
theorem dX8_sends_182 : decode cX8_sends 182 = .ok (.aload_n 0, 1) := by decide +kernel
theorem dX8_sends_183 : decode cX8_sends 183 = .ok (.iload_n 1, 1) := by decide +kernel
theorem dX8_sends_184 : decode cX8_sends 184 = .ok (.invokevirtual 149, 3) := by decide +kernel
theorem dX8_sends_187 : decode cX8_sends 187 = .ok (.iadd, 1) := by decide +kernel
theorem dX8_sends_188 : decode cX8_sends 188 = .ok (.putfield 156, 3) := by decide +kernel
theorem dX8_sends_191 : decode cX8_sends 191 = .ok (.aload_n 0, 1) := by decide +kernel
theorem dX8_sends_192 : decode cX8_sends 192 = .ok (.getfield 22, 3) := by decide +kernel
theorem dX8_sends_195 : decode cX8_sends 195 = .ok (.iload_n 2, 1) := by decide +kernel
theorem dX8_sends_196 : decode cX8_sends 196 = .ok (.iconst 3, 1) := by decide +kernel
theorem dX8_sends_197 : decode cX8_sends 197 = .ok (.invokestatic 139, 3) := by decide +kernel
theorem dX8_sends_200 : decode cX8_sends 200 = .ok (.aload_n 0, 1) := by decide +kernel
theorem dX8_sends_201 : decode cX8_sends 201 = .ok (.getfield 22, 3) := by decide +kernel
theorem dX8_sends_204 : decode cX8_sends 204 = .ok (.iload_n 1, 1) := by decide +kernel
theorem dX8_sends_205 : decode cX8_sends 205 = .ok (.iconst 3, 1) := by decide +kernel
theorem dX8_sends_206 : decode cX8_sends 206 = .ok (.invokestatic 146, 3) := by decide +kernel
theorem dX8_sends_209 : decode cX8_sends 209 = .ok (.iaload, 1) := by decide +kernel
theorem dX8_sends_210 : decode cX8_sends 210 = .ok (.bipush (-9), 2) := by decide +kernel
theorem dX8_sends_212 : decode cX8_sends 212 = .ok (.if_icmp .eq 16, 3) := by decide +kernel
theorem dX8_sends_215 : decode cX8_sends 215 = .ok (.aload_n 0, 1) := by decide +kernel
theorem dX8_sends_216 : decode cX8_sends 216 = .ok (.getfield 22, 3) := by decide +kernel
theorem dX8_sends_219 : decode cX8_sends 219 = .ok (.iload_n 1, 1) := by decide +kernel
theorem dX8_sends_220 : decode cX8_sends 220 = .ok (.iconst 3, 1) := by decide +kernel
theorem dX8_sends_221 : decode cX8_sends 221 = .ok (.invokestatic 146, 3) := by decide +kernel
theorem dX8_sends_224 : decode cX8_sends 224 = .ok (.iaload, 1) := by decide +kernel
theorem dX8_sends_225 : decode cX8_sends 225 = .ok (.goto 14, 3) := by decide +kernel
theorem dX8_sends_228 : decode cX8_sends 228 = .ok (.iload 4, 2) := by decide +kernel
theorem dX8_sends_230 : decode cX8_sends 230 = .ok (.ifCond .le 8, 3) := by decide +kernel
theorem dX8_sends_233 : decode cX8_sends 233 = .ok (.iload 4, 2) := by decide +kernel
theorem dX8_sends_235 : decode cX8_sends 235 = .ok (.goto 4, 3) := by decide +kernel
theorem dX8_sends_238 : decode cX8_sends 238 = .ok (.iconst 0, 1) := by decide +kernel
theorem dX8_sends_239 : decode cX8_sends 239 = .ok (.iastore, 1) := by decide +kernel
theorem dX8_sends_240 : decode cX8_sends 240 = .ok (.aload_n 0, 1) := by decide +kernel
theorem dX8_sends_241 : decode cX8_sends 241 = .ok (.getfield 22, 3) := by decide +kernel
theorem dX8_sends_244 : decode cX8_sends 244 = .ok (.iload_n 1, 1) := by decide +kernel
theorem dX8_sends_245 : decode cX8_sends 245 = .ok (.iconst 1, 1) := by decide +kernel
theorem dX8_sends_246 : decode cX8_sends 246 = .ok (.invokestatic 146, 3) := by decide +kernel
theorem dX8_sends_249 : decode cX8_sends 249 = .ok (.iconst (-1), 1) := by decide +kernel
theorem dX8_sends_250 : decode cX8_sends 250 = .ok (.iastore, 1) := by decide +kernel
theorem dX8_sends_251 : decode cX8_sends 251 = .ok (.return_, 1) := by decide +kernel
set_option maxRecDepth 20000 in
theorem ggX8_clearsGone_X8_ofBlock : GoodIn wsX8_clearsGone wsX8_ofBlock := goodIn_r _ [5] (by decide +kernel) (by decide +kernel)
set_option maxRecDepth 20000 in
theorem gX8_clearsGone_X8_ofBlock : GoodIn wsX8_clearsGone (va_wsS RX8 146 yX8_ofBlock wsX8_ofBlock) := goodIn_app (goodIn_of _ (by decide +kernel)) ggX8_clearsGone_X8_ofBlock
theorem dX8_clearsGone_0 : decode cX8_clearsGone 0 = .ok (.iconst 0, 1) := by decide +kernel
theorem dX8_clearsGone_1 : decode cX8_clearsGone 1 = .ok (.istore_n 1, 1) := by decide +kernel
theorem dX8_clearsGone_2 : decode cX8_clearsGone 2 = .ok (.iconst 0, 1) := by decide +kernel
theorem dX8_clearsGone_3 : decode cX8_clearsGone 3 = .ok (.istore_n 2, 1) := by decide +kernel
theorem dX8_clearsGone_4 : decode cX8_clearsGone 4 = .ok (.iload_n 2, 1) := by decide +kernel
theorem dX8_clearsGone_5 : decode cX8_clearsGone 5 = .ok (.aload_n 0, 1) := by decide +kernel
theorem dX8_clearsGone_6 : decode cX8_clearsGone 6 = .ok (.getfield 22, 3) := by decide +kernel
theorem dX8_clearsGone_9 : decode cX8_clearsGone 9 = .ok (.iconst 3, 1) := by decide +kernel
theorem dX8_clearsGone_10 : decode cX8_clearsGone 10 = .ok (.iaload, 1) := by decide +kernel
theorem dX8_clearsGone_11 : decode cX8_clearsGone 11 = .ok (.if_icmp .ge 60, 3) := by decide +kernel
theorem dX8_clearsGone_14 : decode cX8_clearsGone 14 = .ok (.aload_n 0, 1) := by decide +kernel
theorem dX8_clearsGone_15 : decode cX8_clearsGone 15 = .ok (.getfield 22, 3) := by decide +kernel
theorem dX8_clearsGone_18 : decode cX8_clearsGone 18 = .ok (.iload_n 2, 1) := by decide +kernel
theorem dX8_clearsGone_19 : decode cX8_clearsGone 19 = .ok (.iconst 1, 1) := by decide +kernel
theorem dX8_clearsGone_20 : decode cX8_clearsGone 20 = .ok (.invokestatic 146, 3) := by decide +kernel
theorem dX8_clearsGone_23 : decode cX8_clearsGone 23 = .ok (.iaload, 1) := by decide +kernel
theorem dX8_clearsGone_24 : decode cX8_clearsGone 24 = .ok (.iconst (-1), 1) := by decide +kernel
theorem dX8_clearsGone_25 : decode cX8_clearsGone 25 = .ok (.if_icmp .eq 40, 3) := by decide +kernel
theorem dX8_clearsGone_28 : decode cX8_clearsGone 28 = .ok (.iconst 0, 1) := by decide +kernel
theorem dX8_clearsGone_29 : decode cX8_clearsGone 29 = .ok (.istore_n 3, 1) := by decide +kernel
theorem dX8_clearsGone_30 : decode cX8_clearsGone 30 = .ok (.iload_n 3, 1) := by decide +kernel
theorem dX8_clearsGone_31 : decode cX8_clearsGone 31 = .ok (.bipush 10, 2) := by decide +kernel
theorem dX8_clearsGone_33 : decode cX8_clearsGone 33 = .ok (.if_icmp .ge 29, 3) := by decide +kernel
theorem dX8_clearsGone_36 : decode cX8_clearsGone 36 = .ok (.aload_n 0, 1) := by decide +kernel
theorem dX8_clearsGone_37 : decode cX8_clearsGone 37 = .ok (.getfield 22, 3) := by decide +kernel
theorem dX8_clearsGone_40 : decode cX8_clearsGone 40 = .ok (.iload_n 1, 1) := by decide +kernel
theorem dX8_clearsGone_41 : decode cX8_clearsGone 41 = .ok (.iload_n 3, 1) := by decide +kernel
theorem dX8_clearsGone_42 : decode cX8_clearsGone 42 = .ok (.invokestatic 146, 3) := by decide +kernel
theorem dX8_clearsGone_45 : decode cX8_clearsGone 45 = .ok (.aload_n 0, 1) := by decide +kernel
theorem dX8_clearsGone_46 : decode cX8_clearsGone 46 = .ok (.getfield 22, 3) := by decide +kernel
theorem dX8_clearsGone_49 : decode cX8_clearsGone 49 = .ok (.iload_n 2, 1) := by decide +kernel
theorem dX8_clearsGone_50 : decode cX8_clearsGone 50 = .ok (.iload_n 3, 1) := by decide +kernel
theorem dX8_clearsGone_51 : decode cX8_clearsGone 51 = .ok (.invokestatic 146, 3) := by decide +kernel
theorem dX8_clearsGone_54 : decode cX8_clearsGone 54 = .ok (.iaload, 1) := by decide +kernel
theorem dX8_clearsGone_55 : decode cX8_clearsGone 55 = .ok (.iastore, 1) := by decide +kernel
theorem dX8_clearsGone_56 : decode cX8_clearsGone 56 = .ok (.iinc 3 1, 3) := by decide +kernel
theorem dX8_clearsGone_59 : decode cX8_clearsGone 59 = .ok (.goto (-29), 3) := by decide +kernel
theorem dX8_clearsGone_62 : decode cX8_clearsGone 62 = .ok (.iinc 1 1, 3) := by decide +kernel
theorem dX8_clearsGone_65 : decode cX8_clearsGone 65 = .ok (.iinc 2 1, 3) := by decide +kernel
theorem dX8_clearsGone_68 : decode cX8_clearsGone 68 = .ok (.goto (-64), 3) := by decide +kernel
theorem dX8_clearsGone_71 : decode cX8_clearsGone 71 = .ok (.iload_n 1, 1) := by decide +kernel
theorem dX8_clearsGone_72 : decode cX8_clearsGone 72 = .ok (.istore_n 2, 1) := by decide +kernel
theorem dX8_clearsGone_73 : decode cX8_clearsGone 73 = .ok (.iload_n 2, 1) := by decide +kernel
theorem dX8_clearsGone_74 : decode cX8_clearsGone 74 = .ok (.aload_n 0, 1) := by decide +kernel
theorem dX8_clearsGone_75 : decode cX8_clearsGone 75 = .ok (.getfield 22, 3) := by decide +kernel
theorem dX8_clearsGone_78 : decode cX8_clearsGone 78 = .ok (.iconst 3, 1) := by decide +kernel
theorem dX8_clearsGone_79 : decode cX8_clearsGone 79 = .ok (.iaload, 1) := by decide +kernel
theorem dX8_clearsGone_80 : decode cX8_clearsGone 80 = .ok (.if_icmp .ge 34, 3) := by decide +kernel
theorem dX8_clearsGone_83 : decode cX8_clearsGone 83 = .ok (.iconst 0, 1) := by decide +kernel
theorem dX8_clearsGone_84 : decode cX8_clearsGone 84 = .ok (.istore_n 3, 1) := by decide +kernel
theorem dX8_clearsGone_85 : decode cX8_clearsGone 85 = .ok (.iload_n 3, 1) := by decide +kernel
theorem dX8_clearsGone_86 : decode cX8_clearsGone 86 = .ok (.bipush 10, 2) := by decide +kernel
theorem dX8_clearsGone_88 : decode cX8_clearsGone 88 = .ok (.if_icmp .ge 20, 3) := by decide +kernel
theorem dX8_clearsGone_91 : decode cX8_clearsGone 91 = .ok (.aload_n 0, 1) := by decide +kernel
theorem dX8_clearsGone_92 : decode cX8_clearsGone 92 = .ok (.getfield 22, 3) := by decide +kernel
theorem dX8_clearsGone_95 : decode cX8_clearsGone 95 = .ok (.iload_n 2, 1) := by decide +kernel
theorem dX8_clearsGone_96 : decode cX8_clearsGone 96 = .ok (.iload_n 3, 1) := by decide +kernel
theorem dX8_clearsGone_97 : decode cX8_clearsGone 97 = .ok (.invokestatic 146, 3) := by decide +kernel
theorem dX8_clearsGone_100 : decode cX8_clearsGone 100 = .ok (.iconst 0, 1) := by decide +kernel
theorem dX8_clearsGone_101 : decode cX8_clearsGone 101 = .ok (.iastore, 1) := by decide +kernel
theorem dX8_clearsGone_102 : decode cX8_clearsGone 102 = .ok (.iinc 3 1, 3) := by decide +kernel
theorem dX8_clearsGone_105 : decode cX8_clearsGone 105 = .ok (.goto (-20), 3) := by decide +kernel
theorem dX8_clearsGone_108 : decode cX8_clearsGone 108 = .ok (.iinc 2 1, 3) := by decide +kernel
theorem dX8_clearsGone_111 : decode cX8_clearsGone 111 = .ok (.goto (-38), 3) := by decide +kernel
theorem dX8_clearsGone_114 : decode cX8_clearsGone 114 = .ok (.aload_n 0, 1) := by decide +kernel
theorem dX8_clearsGone_115 : decode cX8_clearsGone 115 = .ok (.getfield 22, 3) := by decide +kernel
theorem dX8_clearsGone_118 : decode cX8_clearsGone 118 = .ok (.iconst 3, 1) := by decide +kernel
theorem dX8_clearsGone_119 : decode cX8_clearsGone 119 = .ok (.iload_n 1, 1) := by decide +kernel
theorem dX8_clearsGone_120 : decode cX8_clearsGone 120 = .ok (.iastore, 1) := by decide +kernel
theorem dX8_clearsGone_121 : decode cX8_clearsGone 121 = .ok (.return_, 1) := by decide +kernel
