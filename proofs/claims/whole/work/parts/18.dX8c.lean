set_option maxRecDepth 20000 in
theorem ggX8_deafens_X8_notes : GoodIn wsX8_deafens wsX8_notes := goodIn_r _ [15, 16, 17, 2, 18, 19, 20, 6, 21, 33, 34, 35, 36, 37, 38, 39, 40, 41, 42, 43, 44, 45, 46, 47, 48, 49, 50, 51, 52, 53, 54, 55, 56, 57, 58, 59, 60, 61, 62, 63, 64] (by decide +kernel) (by decide +kernel)
set_option maxRecDepth 20000 in
theorem gX8_deafens_X8_notes : GoodIn wsX8_deafens (wsV RX8 206 RX8 yX8_notes wsX8_notes) := goodIn_app (goodIn_of _ (by decide +kernel)) ggX8_deafens_X8_notes
set_option maxRecDepth 20000 in
theorem ggX8_deafens_X8_deafen : GoodIn wsX8_deafens wsX8_deafen := goodIn_r _ [25, 2, 26, 27, 28, 6, 29, 30, 31, 32, 33, 34, 35, 36, 37, 38, 39, 40, 41, 42, 43, 44, 45, 46, 47, 48, 49, 50, 51, 52, 53, 54, 55, 56, 57, 58, 59, 60, 61, 62, 63, 64] (by decide +kernel) (by decide +kernel)
set_option maxRecDepth 20000 in
theorem gX8_deafens_X8_deafen : GoodIn wsX8_deafens (wsV RX8 215 RX8 yX8_deafen wsX8_deafen) := goodIn_app (goodIn_of _ (by decide +kernel)) ggX8_deafens_X8_deafen
theorem dX8_deafens_0 : decode cX8_deafens 0 = .ok (.aload_n 0, 1) := by decide +kernel
theorem dX8_deafens_1 : decode cX8_deafens 1 = .ok (.iconst 0, 1) := by decide +kernel
theorem dX8_deafens_2 : decode cX8_deafens 2 = .ok (.putfield 53, 3) := by decide +kernel
theorem dX8_deafens_5 : decode cX8_deafens 5 = .ok (.aload_n 0, 1) := by decide +kernel
theorem dX8_deafens_6 : decode cX8_deafens 6 = .ok (.iload_n 1, 1) := by decide +kernel
theorem dX8_deafens_7 : decode cX8_deafens 7 = .ok (.invokevirtual 212, 3) := by decide +kernel
theorem dX8_deafens_10 : decode cX8_deafens 10 = .ok (.ifCond .eq 30, 3) := by decide +kernel
theorem dX8_deafens_13 : decode cX8_deafens 13 = .ok (.iload_n 2, 1) := by decide +kernel
theorem dX8_deafens_14 : decode cX8_deafens 14 = .ok (.aload_n 0, 1) := by decide +kernel
theorem dX8_deafens_15 : decode cX8_deafens 15 = .ok (.getfield 22, 3) := by decide +kernel
theorem dX8_deafens_18 : decode cX8_deafens 18 = .ok (.iconst 0, 1) := by decide +kernel
theorem dX8_deafens_19 : decode cX8_deafens 19 = .ok (.iaload, 1) := by decide +kernel
theorem dX8_deafens_20 : decode cX8_deafens 20 = .ok (.sipush 199, 3) := by decide +kernel
theorem dX8_deafens_23 : decode cX8_deafens 23 = .ok (.invokestatic 60, 3) := by decide +kernel
theorem dX8_deafens_26 : decode cX8_deafens 26 = .ok (.ifCond .eq 14, 3) := by decide +kernel
theorem dX8_deafens_29 : decode cX8_deafens 29 = .ok (.iload_n 3, 1) := by decide +kernel
theorem dX8_deafens_30 : decode cX8_deafens 30 = .ok (.iload_n 2, 1) := by decide +kernel
theorem dX8_deafens_31 : decode cX8_deafens 31 = .ok (.sipush 199, 3) := by decide +kernel
theorem dX8_deafens_34 : decode cX8_deafens 34 = .ok (.invokestatic 60, 3) := by decide +kernel
theorem dX8_deafens_37 : decode cX8_deafens 37 = .ok (.ifCond .ne 5, 3) := by decide +kernel
theorem dX8_deafens_40 : decode cX8_deafens 40 = .ok (.iconst (-1), 1) := by decide +kernel
theorem dX8_deafens_41 : decode cX8_deafens 41 = .ok (.ireturn, 1) := by decide +kernel
theorem dX8_deafens_42 : decode cX8_deafens 42 = .ok (.aload_n 0, 1) := by decide +kernel
theorem dX8_deafens_43 : decode cX8_deafens 43 = .ok (.invokevirtual 206, 3) := by decide +kernel
theorem dX8_deafens_46 : decode cX8_deafens 46 = .ok (.aload_n 0, 1) := by decide +kernel
theorem dX8_deafens_47 : decode cX8_deafens 47 = .ok (.iload_n 1, 1) := by decide +kernel
theorem dX8_deafens_48 : decode cX8_deafens 48 = .ok (.iload_n 2, 1) := by decide +kernel
theorem dX8_deafens_49 : decode cX8_deafens 49 = .ok (.iload_n 3, 1) := by decide +kernel
theorem dX8_deafens_50 : decode cX8_deafens 50 = .ok (.invokevirtual 215, 3) := by decide +kernel
theorem dX8_deafens_53 : decode cX8_deafens 53 = .ok (.ireturn, 1) := by decide +kernel
set_option maxRecDepth 20000 in
theorem ggX8_widens_X8_in : GoodIn wsX8_widens wsX8_in := goodIn_r _ [6] (by decide +kernel) (by decide +kernel)
set_option maxRecDepth 20000 in
theorem gX8_widens_X8_in : GoodIn wsX8_widens (va_wsS RX8 60 yX8_in wsX8_in) := goodIn_app (goodIn_of _ (by decide +kernel)) ggX8_widens_X8_in
set_option maxRecDepth 20000 in
theorem ggX8_widens_X8_notes : GoodIn wsX8_widens wsX8_notes := goodIn_r _ [10, 11, 12, 2, 13, 14, 15, 5, 16, 17, 18, 19, 20, 21, 22, 23, 24, 25, 26, 27, 28, 29, 30, 31, 32, 33, 34, 35, 36, 37, 38, 39, 40, 41, 42, 43, 44, 45, 46, 47, 48] (by decide +kernel) (by decide +kernel)
set_option maxRecDepth 20000 in
theorem gX8_widens_X8_notes : GoodIn wsX8_widens (wsV RX8 206 RX8 yX8_notes wsX8_notes) := goodIn_app (goodIn_of _ (by decide +kernel)) ggX8_widens_X8_notes
theorem dX8_widens_0 : decode cX8_widens 0 = .ok (.aload_n 0, 1) := by decide +kernel
theorem dX8_widens_1 : decode cX8_widens 1 = .ok (.iconst 0, 1) := by decide +kernel
theorem dX8_widens_2 : decode cX8_widens 2 = .ok (.putfield 53, 3) := by decide +kernel
theorem dX8_widens_5 : decode cX8_widens 5 = .ok (.iload_n 1, 1) := by decide +kernel
theorem dX8_widens_6 : decode cX8_widens 6 = .ok (.iconst 0, 1) := by decide +kernel
theorem dX8_widens_7 : decode cX8_widens 7 = .ok (.bipush 60, 2) := by decide +kernel
theorem dX8_widens_9 : decode cX8_widens 9 = .ok (.invokestatic 60, 3) := by decide +kernel
theorem dX8_widens_12 : decode cX8_widens 12 = .ok (.ifCond .ne 5, 3) := by decide +kernel
theorem dX8_widens_15 : decode cX8_widens 15 = .ok (.iconst (-1), 1) := by decide +kernel
theorem dX8_widens_16 : decode cX8_widens 16 = .ok (.ireturn, 1) := by decide +kernel
theorem dX8_widens_17 : decode cX8_widens 17 = .ok (.aload_n 0, 1) := by decide +kernel
theorem dX8_widens_18 : decode cX8_widens 18 = .ok (.getfield 22, 3) := by decide +kernel
theorem dX8_widens_21 : decode cX8_widens 21 = .ok (.iconst 1, 1) := by decide +kernel
theorem dX8_widens_22 : decode cX8_widens 22 = .ok (.iaload, 1) := by decide +kernel
theorem dX8_widens_23 : decode cX8_widens 23 = .ok (.istore_n 2, 1) := by decide +kernel
theorem dX8_widens_24 : decode cX8_widens 24 = .ok (.iload_n 2, 1) := by decide +kernel
theorem dX8_widens_25 : decode cX8_widens 25 = .ok (.iload_n 1, 1) := by decide +kernel
theorem dX8_widens_26 : decode cX8_widens 26 = .ok (.if_icmp .ne 6, 3) := by decide +kernel
theorem dX8_widens_29 : decode cX8_widens 29 = .ok (.bipush (-2), 2) := by decide +kernel
theorem dX8_widens_31 : decode cX8_widens 31 = .ok (.ireturn, 1) := by decide +kernel
theorem dX8_widens_32 : decode cX8_widens 32 = .ok (.aload_n 0, 1) := by decide +kernel
theorem dX8_widens_33 : decode cX8_widens 33 = .ok (.invokevirtual 206, 3) := by decide +kernel
theorem dX8_widens_36 : decode cX8_widens 36 = .ok (.aload_n 0, 1) := by decide +kernel
theorem dX8_widens_37 : decode cX8_widens 37 = .ok (.getfield 22, 3) := by decide +kernel
theorem dX8_widens_40 : decode cX8_widens 40 = .ok (.iconst 1, 1) := by decide +kernel
theorem dX8_widens_41 : decode cX8_widens 41 = .ok (.iload_n 1, 1) := by decide +kernel
theorem dX8_widens_42 : decode cX8_widens 42 = .ok (.iastore, 1) := by decide +kernel
theorem dX8_widens_43 : decode cX8_widens 43 = .ok (.iload_n 2, 1) := by decide +kernel
theorem dX8_widens_44 : decode cX8_widens 44 = .ok (.ireturn, 1) := by decide +kernel
set_option maxRecDepth 20000 in
theorem ggX8_undo_X8_copies : GoodIn wsX8_undo wsX8_copies := goodIn_r _ [9] (by decide +kernel) (by decide +kernel)
set_option maxRecDepth 20000 in
theorem gX8_undo_X8_copies : GoodIn wsX8_undo (wsV RX8 199 RX8 yX8_copies wsX8_copies) := goodIn_app (goodIn_of _ (by decide +kernel)) ggX8_undo_X8_copies
theorem dX8_undo_0 : decode cX8_undo 0 = .ok (.aload_n 0, 1) := by decide +kernel
theorem dX8_undo_1 : decode cX8_undo 1 = .ok (.iconst 0, 1) := by decide +kernel
theorem dX8_undo_2 : decode cX8_undo 2 = .ok (.putfield 53, 3) := by decide +kernel
theorem dX8_undo_5 : decode cX8_undo 5 = .ok (.aload_n 0, 1) := by decide +kernel
theorem dX8_undo_6 : decode cX8_undo 6 = .ok (.getfield 130, 3) := by decide +kernel
theorem dX8_undo_9 : decode cX8_undo 9 = .ok (.ifCond .ne 6, 3) := by decide +kernel
theorem dX8_undo_12 : decode cX8_undo 12 = .ok (.bipush (-2), 2) := by decide +kernel
theorem dX8_undo_14 : decode cX8_undo 14 = .ok (.ireturn, 1) := by decide +kernel
theorem dX8_undo_15 : decode cX8_undo 15 = .ok (.aload_n 0, 1) := by decide +kernel
theorem dX8_undo_16 : decode cX8_undo 16 = .ok (.dup, 1) := by decide +kernel
theorem dX8_undo_17 : decode cX8_undo 17 = .ok (.getfield 130, 3) := by decide +kernel
theorem dX8_undo_20 : decode cX8_undo 20 = .ok (.iconst 1, 1) := by decide +kernel
theorem dX8_undo_21 : decode cX8_undo 21 = .ok (.isub, 1) := by decide +kernel
theorem dX8_undo_22 : decode cX8_undo 22 = .ok (.putfield 130, 3) := by decide +kernel
theorem dX8_undo_25 : decode cX8_undo 25 = .ok (.aload_n 0, 1) := by decide +kernel
theorem dX8_undo_26 : decode cX8_undo 26 = .ok (.aload_n 0, 1) := by decide +kernel
theorem dX8_undo_27 : decode cX8_undo 27 = .ok (.getfield 25, 3) := by decide +kernel
theorem dX8_undo_30 : decode cX8_undo 30 = .ok (.aload_n 0, 1) := by decide +kernel
theorem dX8_undo_31 : decode cX8_undo 31 = .ok (.getfield 22, 3) := by decide +kernel
theorem dX8_undo_34 : decode cX8_undo 34 = .ok (.sipush 667, 3) := by decide +kernel
theorem dX8_undo_37 : decode cX8_undo 37 = .ok (.aload_n 0, 1) := by decide +kernel
theorem dX8_undo_38 : decode cX8_undo 38 = .ok (.getfield 130, 3) := by decide +kernel
theorem dX8_undo_41 : decode cX8_undo 41 = .ok (.imul, 1) := by decide +kernel
theorem dX8_undo_42 : decode cX8_undo 42 = .ok (.iconst 0, 1) := by decide +kernel
theorem dX8_undo_43 : decode cX8_undo 43 = .ok (.invokevirtual 199, 3) := by decide +kernel
theorem dX8_undo_46 : decode cX8_undo 46 = .ok (.aload_n 0, 1) := by decide +kernel
theorem dX8_undo_47 : decode cX8_undo 47 = .ok (.getfield 130, 3) := by decide +kernel
theorem dX8_undo_50 : decode cX8_undo 50 = .ok (.ireturn, 1) := by decide +kernel
set_option maxRecDepth 20000 in
theorem ggX8_sort_X8_isClass : GoodIn wsX8_sort wsX8_isClass := goodIn_r _ [8, 9, 10, 11, 7, 12, 19, 20, 21, 22, 23, 24, 25, 26, 27, 28, 29, 30, 31, 32, 33, 34, 35, 36, 37, 38, 39, 40, 41, 42, 43, 44, 45, 46, 47, 48, 49, 50] (by decide +kernel) (by decide +kernel)
set_option maxRecDepth 20000 in
theorem gX8_sort_X8_isClass : GoodIn wsX8_sort (wsV RX8 203 RX8 yX8_isClass wsX8_isClass) := goodIn_app (goodIn_of _ (by decide +kernel)) ggX8_sort_X8_isClass
set_option maxRecDepth 20000 in
theorem ggX8_sort_X8_in : GoodIn wsX8_sort wsX8_in := goodIn_r _ [12] (by decide +kernel) (by decide +kernel)
set_option maxRecDepth 20000 in
theorem gX8_sort_X8_in : GoodIn wsX8_sort (va_wsS RX8 60 yX8_in wsX8_in) := goodIn_app (goodIn_of _ (by decide +kernel)) ggX8_sort_X8_in
set_option maxRecDepth 20000 in
theorem ggX8_sort_X8_ofClass : GoodIn wsX8_sort wsX8_ofClass := goodIn_r _ [15] (by decide +kernel) (by decide +kernel)
set_option maxRecDepth 20000 in
theorem gX8_sort_X8_ofClass : GoodIn wsX8_sort (va_wsS RX8 143 yX8_ofClass wsX8_ofClass) := goodIn_app (goodIn_of _ (by decide +kernel)) ggX8_sort_X8_ofClass
set_option maxRecDepth 20000 in
theorem ggX8_sort_X8_ofBlock : GoodIn wsX8_sort wsX8_ofBlock := goodIn_r _ [18] (by decide +kernel) (by decide +kernel)
set_option maxRecDepth 20000 in
theorem gX8_sort_X8_ofBlock : GoodIn wsX8_sort (va_wsS RX8 146 yX8_ofBlock wsX8_ofBlock) := goodIn_app (goodIn_of _ (by decide +kernel)) ggX8_sort_X8_ofBlock
theorem dX8_sort_0 : decode cX8_sort 0 = .ok (.aload_n 0, 1) := by decide +kernel
theorem dX8_sort_1 : decode cX8_sort 1 = .ok (.iconst 0, 1) := by decide +kernel
theorem dX8_sort_2 : decode cX8_sort 2 = .ok (.putfield 53, 3) := by decide +kernel
theorem dX8_sort_5 : decode cX8_sort 5 = .ok (.aload_n 0, 1) := by decide +kernel
theorem dX8_sort_6 : decode cX8_sort 6 = .ok (.iload_n 1, 1) := by decide +kernel
theorem dX8_sort_7 : decode cX8_sort 7 = .ok (.invokevirtual 203, 3) := by decide +kernel
theorem dX8_sort_10 : decode cX8_sort 10 = .ok (.ifCond .eq 13, 3) := by decide +kernel
theorem dX8_sort_13 : decode cX8_sort 13 = .ok (.iload_n 2, 1) := by decide +kernel
theorem dX8_sort_14 : decode cX8_sort 14 = .ok (.iconst 0, 1) := by decide +kernel
theorem dX8_sort_15 : decode cX8_sort 15 = .ok (.bipush 8, 2) := by decide +kernel
theorem dX8_sort_17 : decode cX8_sort 17 = .ok (.invokestatic 60, 3) := by decide +kernel
theorem dX8_sort_20 : decode cX8_sort 20 = .ok (.ifCond .ne 5, 3) := by decide +kernel
theorem dX8_sort_23 : decode cX8_sort 23 = .ok (.iconst (-1), 1) := by decide +kernel
theorem dX8_sort_24 : decode cX8_sort 24 = .ok (.ireturn, 1) := by decide +kernel
theorem dX8_sort_25 : decode cX8_sort 25 = .ok (.iload_n 2, 1) := by decide +kernel
theorem dX8_sort_26 : decode cX8_sort 26 = .ok (.iconst 4, 1) := by decide +kernel
theorem dX8_sort_27 : decode cX8_sort 27 = .ok (.if_icmp .ge 14, 3) := by decide +kernel
theorem dX8_sort_30 : decode cX8_sort 30 = .ok (.aload_n 0, 1) := by decide +kernel
theorem dX8_sort_31 : decode cX8_sort 31 = .ok (.getfield 13, 3) := by decide +kernel
theorem dX8_sort_34 : decode cX8_sort 34 = .ok (.iconst 4, 1) := by decide +kernel
theorem dX8_sort_35 : decode cX8_sort 35 = .ok (.iload_n 1, 1) := by decide +kernel
theorem dX8_sort_36 : decode cX8_sort 36 = .ok (.imul, 1) := by decide +kernel
theorem dX8_sort_37 : decode cX8_sort 37 = .ok (.iload_n 2, 1) := by decide +kernel
theorem dX8_sort_38 : decode cX8_sort 38 = .ok (.iadd, 1) := by decide +kernel
theorem dX8_sort_39 : decode cX8_sort 39 = .ok (.iaload, 1) := by decide +kernel
theorem dX8_sort_40 : decode cX8_sort 40 = .ok (.ireturn, 1) := by decide +kernel
theorem dX8_sort_41 : decode cX8_sort 41 = .ok (.iload_n 2, 1) := by decide +kernel
theorem dX8_sort_42 : decode cX8_sort 42 = .ok (.bipush 8, 2) := by decide +kernel
theorem dX8_sort_44 : decode cX8_sort 44 = .ok (.if_icmp .ge 16, 3) := by decide +kernel
theorem dX8_sort_47 : decode cX8_sort 47 = .ok (.aload_n 0, 1) := by decide +kernel
theorem dX8_sort_48 : decode cX8_sort 48 = .ok (.getfield 22, 3) := by decide +kernel
theorem dX8_sort_51 : decode cX8_sort 51 = .ok (.iload_n 1, 1) := by decide +kernel
theorem dX8_sort_52 : decode cX8_sort 52 = .ok (.iload_n 2, 1) := by decide +kernel
theorem dX8_sort_53 : decode cX8_sort 53 = .ok (.iconst 4, 1) := by decide +kernel
theorem dX8_sort_54 : decode cX8_sort 54 = .ok (.isub, 1) := by decide +kernel
theorem dX8_sort_55 : decode cX8_sort 55 = .ok (.invokestatic 143, 3) := by decide +kernel
theorem dX8_sort_58 : decode cX8_sort 58 = .ok (.iaload, 1) := by decide +kernel
theorem dX8_sort_59 : decode cX8_sort 59 = .ok (.ireturn, 1) := by decide +kernel
theorem dX8_sort_60 : decode cX8_sort 60 = .ok (.iconst 0, 1) := by decide +kernel
theorem dX8_sort_61 : decode cX8_sort 61 = .ok (.istore_n 3, 1) := by decide +kernel
theorem dX8_sort_62 : decode cX8_sort 62 = .ok (.iconst 0, 1) := by decide +kernel
theorem dX8_sort_63 : decode cX8_sort 63 = .ok (.istore 4, 2) := by decide +kernel
theorem dX8_sort_65 : decode cX8_sort 65 = .ok (.iload 4, 2) := by decide +kernel
theorem dX8_sort_67 : decode cX8_sort 67 = .ok (.aload_n 0, 1) := by decide +kernel
theorem dX8_sort_68 : decode cX8_sort 68 = .ok (.getfield 22, 3) := by decide +kernel
theorem dX8_sort_71 : decode cX8_sort 71 = .ok (.iconst 3, 1) := by decide +kernel
theorem dX8_sort_72 : decode cX8_sort 72 = .ok (.iaload, 1) := by decide +kernel
theorem dX8_sort_73 : decode cX8_sort 73 = .ok (.if_icmp .ge 25, 3) := by decide +kernel
theorem dX8_sort_76 : decode cX8_sort 76 = .ok (.iload_n 3, 1) := by decide +kernel
theorem dX8_sort_77 : decode cX8_sort 77 = .ok (.aload_n 0, 1) := by decide +kernel
theorem dX8_sort_78 : decode cX8_sort 78 = .ok (.getfield 22, 3) := by decide +kernel
theorem dX8_sort_81 : decode cX8_sort 81 = .ok (.iload 4, 2) := by decide +kernel
theorem dX8_sort_83 : decode cX8_sort 83 = .ok (.iconst 4, 1) := by decide +kernel
theorem dX8_sort_84 : decode cX8_sort 84 = .ok (.iload_n 1, 1) := by decide +kernel
theorem dX8_sort_85 : decode cX8_sort 85 = .ok (.iadd, 1) := by decide +kernel
theorem dX8_sort_86 : decode cX8_sort 86 = .ok (.invokestatic 146, 3) := by decide +kernel
theorem dX8_sort_89 : decode cX8_sort 89 = .ok (.iaload, 1) := by decide +kernel
theorem dX8_sort_90 : decode cX8_sort 90 = .ok (.iadd, 1) := by decide +kernel
theorem dX8_sort_91 : decode cX8_sort 91 = .ok (.istore_n 3, 1) := by decide +kernel
theorem dX8_sort_92 : decode cX8_sort 92 = .ok (.iinc 4 1, 3) := by decide +kernel
theorem dX8_sort_95 : decode cX8_sort 95 = .ok (.goto (-30), 3) := by decide +kernel
theorem dX8_sort_98 : decode cX8_sort 98 = .ok (.iload_n 3, 1) := by decide +kernel
theorem dX8_sort_99 : decode cX8_sort 99 = .ok (.ireturn, 1) := by decide +kernel
set_option maxRecDepth 20000 in
theorem ggX8_blocksOf_X8_ofBlock : GoodIn wsX8_blocksOf wsX8_ofBlock := goodIn_r _ [5] (by decide +kernel) (by decide +kernel)
set_option maxRecDepth 20000 in
theorem gX8_blocksOf_X8_ofBlock : GoodIn wsX8_blocksOf (va_wsS RX8 146 yX8_ofBlock wsX8_ofBlock) := goodIn_app (goodIn_of _ (by decide +kernel)) ggX8_blocksOf_X8_ofBlock
theorem dX8_blocksOf_0 : decode cX8_blocksOf 0 = .ok (.iconst 0, 1) := by decide +kernel
theorem dX8_blocksOf_1 : decode cX8_blocksOf 1 = .ok (.istore_n 2, 1) := by decide +kernel
theorem dX8_blocksOf_2 : decode cX8_blocksOf 2 = .ok (.iconst 0, 1) := by decide +kernel
theorem dX8_blocksOf_3 : decode cX8_blocksOf 3 = .ok (.istore_n 3, 1) := by decide +kernel
theorem dX8_blocksOf_4 : decode cX8_blocksOf 4 = .ok (.iload_n 3, 1) := by decide +kernel
theorem dX8_blocksOf_5 : decode cX8_blocksOf 5 = .ok (.aload_n 0, 1) := by decide +kernel
theorem dX8_blocksOf_6 : decode cX8_blocksOf 6 = .ok (.getfield 22, 3) := by decide +kernel
theorem dX8_blocksOf_9 : decode cX8_blocksOf 9 = .ok (.iconst 3, 1) := by decide +kernel
theorem dX8_blocksOf_10 : decode cX8_blocksOf 10 = .ok (.iaload, 1) := by decide +kernel
theorem dX8_blocksOf_11 : decode cX8_blocksOf 11 = .ok (.if_icmp .ge 31, 3) := by decide +kernel
theorem dX8_blocksOf_14 : decode cX8_blocksOf 14 = .ok (.iload_n 2, 1) := by decide +kernel
theorem dX8_blocksOf_15 : decode cX8_blocksOf 15 = .ok (.aload_n 0, 1) := by decide +kernel
theorem dX8_blocksOf_16 : decode cX8_blocksOf 16 = .ok (.getfield 22, 3) := by decide +kernel
theorem dX8_blocksOf_19 : decode cX8_blocksOf 19 = .ok (.iload_n 3, 1) := by decide +kernel
theorem dX8_blocksOf_20 : decode cX8_blocksOf 20 = .ok (.iconst 0, 1) := by decide +kernel
theorem dX8_blocksOf_21 : decode cX8_blocksOf 21 = .ok (.invokestatic 146, 3) := by decide +kernel
theorem dX8_blocksOf_24 : decode cX8_blocksOf 24 = .ok (.iaload, 1) := by decide +kernel
theorem dX8_blocksOf_25 : decode cX8_blocksOf 25 = .ok (.iload_n 1, 1) := by decide +kernel
theorem dX8_blocksOf_26 : decode cX8_blocksOf 26 = .ok (.if_icmp .ne 7, 3) := by decide +kernel
theorem dX8_blocksOf_29 : decode cX8_blocksOf 29 = .ok (.iconst 1, 1) := by decide +kernel
theorem dX8_blocksOf_30 : decode cX8_blocksOf 30 = .ok (.goto 4, 3) := by decide +kernel
theorem dX8_blocksOf_33 : decode cX8_blocksOf 33 = .ok (.iconst 0, 1) := by decide +kernel
theorem dX8_blocksOf_34 : decode cX8_blocksOf 34 = .ok (.iadd, 1) := by decide +kernel
theorem dX8_blocksOf_35 : decode cX8_blocksOf 35 = .ok (.istore_n 2, 1) := by decide +kernel
theorem dX8_blocksOf_36 : decode cX8_blocksOf 36 = .ok (.iinc 3 1, 3) := by decide +kernel
theorem dX8_blocksOf_39 : decode cX8_blocksOf 39 = .ok (.goto (-35), 3) := by decide +kernel
theorem dX8_blocksOf_42 : decode cX8_blocksOf 42 = .ok (.iload_n 2, 1) := by decide +kernel
theorem dX8_blocksOf_43 : decode cX8_blocksOf 43 = .ok (.ireturn, 1) := by decide +kernel
set_option maxRecDepth 20000 in
theorem ggX8_terminal_X8_isTerminal : GoodIn wsX8_terminal wsX8_isTerminal := goodIn_r _ [8, 9, 10, 11, 7, 12, 32, 33, 34, 35, 36, 37, 38, 39, 40, 41, 42, 43, 44, 45, 46, 47, 48, 49, 50, 51, 52, 53, 54, 55, 56, 57, 58, 59, 60, 61, 62, 63] (by decide +kernel) (by decide +kernel)
set_option maxRecDepth 20000 in
theorem gX8_terminal_X8_isTerminal : GoodIn wsX8_terminal (wsV RX8 212 RX8 yX8_isTerminal wsX8_isTerminal) := goodIn_app (goodIn_of _ (by decide +kernel)) ggX8_terminal_X8_isTerminal
set_option maxRecDepth 20000 in
theorem ggX8_terminal_X8_ofTerminal : GoodIn wsX8_terminal wsX8_ofTerminal := goodIn_r _ [15] (by decide +kernel) (by decide +kernel)
set_option maxRecDepth 20000 in
theorem gX8_terminal_X8_ofTerminal : GoodIn wsX8_terminal (va_wsS RX8 139 yX8_ofTerminal wsX8_ofTerminal) := goodIn_app (goodIn_of _ (by decide +kernel)) ggX8_terminal_X8_ofTerminal
set_option maxRecDepth 20000 in
theorem ggX8_terminal_X8_waitsOf : GoodIn wsX8_terminal wsX8_waitsOf := goodIn_r _ [19, 20, 21, 3, 22, 23, 7, 24, 32, 33, 34, 35, 36, 37, 38, 39, 40, 41, 42, 43, 44, 45, 46, 47, 48, 49, 50, 51, 52, 53, 54, 55, 56, 57, 58, 59, 60, 61, 62, 63] (by decide +kernel) (by decide +kernel)
set_option maxRecDepth 20000 in
theorem gX8_terminal_X8_waitsOf : GoodIn wsX8_terminal (wsV RX8 172 RX8 yX8_waitsOf wsX8_waitsOf) := goodIn_app (goodIn_of _ (by decide +kernel)) ggX8_terminal_X8_waitsOf
set_option maxRecDepth 20000 in
theorem ggX8_terminal_X8_blocksOf : GoodIn wsX8_terminal wsX8_blocksOf := goodIn_r _ [28, 3, 29, 30, 7, 31, 32, 33, 34, 35, 36, 37, 38, 39, 40, 41, 42, 43, 44, 45, 46, 47, 48, 49, 50, 51, 52, 53, 54, 55, 56, 57, 58, 59, 60, 61, 62, 63] (by decide +kernel) (by decide +kernel)
set_option maxRecDepth 20000 in
theorem gX8_terminal_X8_blocksOf : GoodIn wsX8_terminal (wsV RX8 219 RX8 yX8_blocksOf wsX8_blocksOf) := goodIn_app (goodIn_of _ (by decide +kernel)) ggX8_terminal_X8_blocksOf
theorem dX8_terminal_0 : decode cX8_terminal 0 = .ok (.aload_n 0, 1) := by decide +kernel
theorem dX8_terminal_1 : decode cX8_terminal 1 = .ok (.iconst 0, 1) := by decide +kernel
theorem dX8_terminal_2 : decode cX8_terminal 2 = .ok (.putfield 53, 3) := by decide +kernel
theorem dX8_terminal_5 : decode cX8_terminal 5 = .ok (.aload_n 0, 1) := by decide +kernel
theorem dX8_terminal_6 : decode cX8_terminal 6 = .ok (.iload_n 1, 1) := by decide +kernel
theorem dX8_terminal_7 : decode cX8_terminal 7 = .ok (.invokevirtual 212, 3) := by decide +kernel
theorem dX8_terminal_10 : decode cX8_terminal 10 = .ok (.ifCond .ne 5, 3) := by decide +kernel
theorem dX8_terminal_13 : decode cX8_terminal 13 = .ok (.iconst (-1), 1) := by decide +kernel
theorem dX8_terminal_14 : decode cX8_terminal 14 = .ok (.ireturn, 1) := by decide +kernel
theorem dX8_terminal_15 : decode cX8_terminal 15 = .ok (.iload_n 2, 1) := by decide +kernel
theorem dX8_terminal_16 : decode cX8_terminal 16 = .ok (.tableswitch 97 0 8 #[52, 59, 59, 59, 59, 72, 78, 78, 91], 52) := by decide +kernel
theorem dX8_terminal_68 : decode cX8_terminal 68 = .ok (.aload_n 0, 1) := by decide +kernel
theorem dX8_terminal_69 : decode cX8_terminal 69 = .ok (.getfield 7, 3) := by decide +kernel
theorem dX8_terminal_72 : decode cX8_terminal 72 = .ok (.iload_n 1, 1) := by decide +kernel
theorem dX8_terminal_73 : decode cX8_terminal 73 = .ok (.iaload, 1) := by decide +kernel
theorem dX8_terminal_74 : decode cX8_terminal 74 = .ok (.ireturn, 1) := by decide +kernel
theorem dX8_terminal_75 : decode cX8_terminal 75 = .ok (.aload_n 0, 1) := by decide +kernel
theorem dX8_terminal_76 : decode cX8_terminal 76 = .ok (.getfield 22, 3) := by decide +kernel
theorem dX8_terminal_79 : decode cX8_terminal 79 = .ok (.iload_n 1, 1) := by decide +kernel
theorem dX8_terminal_80 : decode cX8_terminal 80 = .ok (.iload_n 2, 1) := by decide +kernel
theorem dX8_terminal_81 : decode cX8_terminal 81 = .ok (.iconst 1, 1) := by decide +kernel
theorem dX8_terminal_82 : decode cX8_terminal 82 = .ok (.isub, 1) := by decide +kernel
theorem dX8_terminal_83 : decode cX8_terminal 83 = .ok (.invokestatic 139, 3) := by decide +kernel
theorem dX8_terminal_86 : decode cX8_terminal 86 = .ok (.iaload, 1) := by decide +kernel
theorem dX8_terminal_87 : decode cX8_terminal 87 = .ok (.ireturn, 1) := by decide +kernel
theorem dX8_terminal_88 : decode cX8_terminal 88 = .ok (.aload_n 0, 1) := by decide +kernel
theorem dX8_terminal_89 : decode cX8_terminal 89 = .ok (.iload_n 1, 1) := by decide +kernel
theorem dX8_terminal_90 : decode cX8_terminal 90 = .ok (.invokevirtual 172, 3) := by decide +kernel
theorem dX8_terminal_93 : decode cX8_terminal 93 = .ok (.ireturn, 1) := by decide +kernel
theorem dX8_terminal_94 : decode cX8_terminal 94 = .ok (.aload_n 0, 1) := by decide +kernel
theorem dX8_terminal_95 : decode cX8_terminal 95 = .ok (.getfield 22, 3) := by decide +kernel
theorem dX8_terminal_98 : decode cX8_terminal 98 = .ok (.iload_n 1, 1) := by decide +kernel
theorem dX8_terminal_99 : decode cX8_terminal 99 = .ok (.iload_n 2, 1) := by decide +kernel
theorem dX8_terminal_100 : decode cX8_terminal 100 = .ok (.iconst 2, 1) := by decide +kernel
theorem dX8_terminal_101 : decode cX8_terminal 101 = .ok (.isub, 1) := by decide +kernel
theorem dX8_terminal_102 : decode cX8_terminal 102 = .ok (.invokestatic 139, 3) := by decide +kernel
theorem dX8_terminal_105 : decode cX8_terminal 105 = .ok (.iaload, 1) := by decide +kernel
theorem dX8_terminal_106 : decode cX8_terminal 106 = .ok (.ireturn, 1) := by decide +kernel
theorem dX8_terminal_107 : decode cX8_terminal 107 = .ok (.aload_n 0, 1) := by decide +kernel
theorem dX8_terminal_108 : decode cX8_terminal 108 = .ok (.iload_n 1, 1) := by decide +kernel
theorem dX8_terminal_109 : decode cX8_terminal 109 = .ok (.invokevirtual 219, 3) := by decide +kernel
theorem dX8_terminal_112 : decode cX8_terminal 112 = .ok (.ireturn, 1) := by decide +kernel
theorem dX8_terminal_113 : decode cX8_terminal 113 = .ok (.iconst (-1), 1) := by decide +kernel
theorem dX8_terminal_114 : decode cX8_terminal 114 = .ok (.ireturn, 1) := by decide +kernel
set_option maxRecDepth 20000 in
theorem ggX8_isSooner_X8_ofBlock : GoodIn wsX8_isSooner wsX8_ofBlock := goodIn_r _ [5] (by decide +kernel) (by decide +kernel)
set_option maxRecDepth 20000 in
theorem gX8_isSooner_X8_ofBlock : GoodIn wsX8_isSooner (va_wsS RX8 146 yX8_ofBlock wsX8_ofBlock) := goodIn_app (goodIn_of _ (by decide +kernel)) ggX8_isSooner_X8_ofBlock
theorem dX8_isSooner_0 : decode cX8_isSooner 0 = .ok (.aload_n 0, 1) := by decide +kernel
theorem dX8_isSooner_1 : decode cX8_isSooner 1 = .ok (.getfield 22, 3) := by decide +kernel
theorem dX8_isSooner_4 : decode cX8_isSooner 4 = .ok (.iload_n 1, 1) := by decide +kernel
theorem dX8_isSooner_5 : decode cX8_isSooner 5 = .ok (.iconst 1, 1) := by decide +kernel
theorem dX8_isSooner_6 : decode cX8_isSooner 6 = .ok (.invokestatic 146, 3) := by decide +kernel
theorem dX8_isSooner_9 : decode cX8_isSooner 9 = .ok (.iaload, 1) := by decide +kernel
theorem dX8_isSooner_10 : decode cX8_isSooner 10 = .ok (.istore_n 3, 1) := by decide +kernel
theorem dX8_isSooner_11 : decode cX8_isSooner 11 = .ok (.aload_n 0, 1) := by decide +kernel
theorem dX8_isSooner_12 : decode cX8_isSooner 12 = .ok (.getfield 22, 3) := by decide +kernel
theorem dX8_isSooner_15 : decode cX8_isSooner 15 = .ok (.iload_n 2, 1) := by decide +kernel
theorem dX8_isSooner_16 : decode cX8_isSooner 16 = .ok (.iconst 1, 1) := by decide +kernel
theorem dX8_isSooner_17 : decode cX8_isSooner 17 = .ok (.invokestatic 146, 3) := by decide +kernel
theorem dX8_isSooner_20 : decode cX8_isSooner 20 = .ok (.iaload, 1) := by decide +kernel
theorem dX8_isSooner_21 : decode cX8_isSooner 21 = .ok (.istore 4, 2) := by decide +kernel
theorem dX8_isSooner_23 : decode cX8_isSooner 23 = .ok (.iload_n 3, 1) := by decide +kernel
theorem dX8_isSooner_24 : decode cX8_isSooner 24 = .ok (.iload 4, 2) := by decide +kernel
theorem dX8_isSooner_26 : decode cX8_isSooner 26 = .ok (.if_icmp .eq 15, 3) := by decide +kernel
theorem dX8_isSooner_29 : decode cX8_isSooner 29 = .ok (.iload_n 3, 1) := by decide +kernel
theorem dX8_isSooner_30 : decode cX8_isSooner 30 = .ok (.iload 4, 2) := by decide +kernel
theorem dX8_isSooner_32 : decode cX8_isSooner 32 = .ok (.if_icmp .ge 7, 3) := by decide +kernel
theorem dX8_isSooner_35 : decode cX8_isSooner 35 = .ok (.iconst 1, 1) := by decide +kernel
theorem dX8_isSooner_36 : decode cX8_isSooner 36 = .ok (.goto 4, 3) := by decide +kernel
theorem dX8_isSooner_39 : decode cX8_isSooner 39 = .ok (.iconst 0, 1) := by decide +kernel
theorem dX8_isSooner_40 : decode cX8_isSooner 40 = .ok (.ireturn, 1) := by decide +kernel
theorem dX8_isSooner_41 : decode cX8_isSooner 41 = .ok (.aload_n 0, 1) := by decide +kernel
theorem dX8_isSooner_42 : decode cX8_isSooner 42 = .ok (.getfield 22, 3) := by decide +kernel
theorem dX8_isSooner_45 : decode cX8_isSooner 45 = .ok (.iload_n 1, 1) := by decide +kernel
theorem dX8_isSooner_46 : decode cX8_isSooner 46 = .ok (.iconst 0, 1) := by decide +kernel
theorem dX8_isSooner_47 : decode cX8_isSooner 47 = .ok (.invokestatic 146, 3) := by decide +kernel
theorem dX8_isSooner_50 : decode cX8_isSooner 50 = .ok (.iaload, 1) := by decide +kernel
theorem dX8_isSooner_51 : decode cX8_isSooner 51 = .ok (.aload_n 0, 1) := by decide +kernel
theorem dX8_isSooner_52 : decode cX8_isSooner 52 = .ok (.getfield 22, 3) := by decide +kernel
theorem dX8_isSooner_55 : decode cX8_isSooner 55 = .ok (.iload_n 2, 1) := by decide +kernel
theorem dX8_isSooner_56 : decode cX8_isSooner 56 = .ok (.iconst 0, 1) := by decide +kernel
theorem dX8_isSooner_57 : decode cX8_isSooner 57 = .ok (.invokestatic 146, 3) := by decide +kernel
theorem dX8_isSooner_60 : decode cX8_isSooner 60 = .ok (.iaload, 1) := by decide +kernel
theorem dX8_isSooner_61 : decode cX8_isSooner 61 = .ok (.if_icmp .eq 34, 3) := by decide +kernel
theorem dX8_isSooner_64 : decode cX8_isSooner 64 = .ok (.aload_n 0, 1) := by decide +kernel
theorem dX8_isSooner_65 : decode cX8_isSooner 65 = .ok (.getfield 22, 3) := by decide +kernel
theorem dX8_isSooner_68 : decode cX8_isSooner 68 = .ok (.iload_n 1, 1) := by decide +kernel
theorem dX8_isSooner_69 : decode cX8_isSooner 69 = .ok (.iconst 0, 1) := by decide +kernel
theorem dX8_isSooner_70 : decode cX8_isSooner 70 = .ok (.invokestatic 146, 3) := by decide +kernel
theorem dX8_isSooner_73 : decode cX8_isSooner 73 = .ok (.iaload, 1) := by decide +kernel
theorem dX8_isSooner_74 : decode cX8_isSooner 74 = .ok (.aload_n 0, 1) := by decide +kernel
theorem dX8_isSooner_75 : decode cX8_isSooner 75 = .ok (.getfield 22, 3) := by decide +kernel
theorem dX8_isSooner_78 : decode cX8_isSooner 78 = .ok (.iload_n 2, 1) := by decide +kernel
theorem dX8_isSooner_79 : decode cX8_isSooner 79 = .ok (.iconst 0, 1) := by decide +kernel
theorem dX8_isSooner_80 : decode cX8_isSooner 80 = .ok (.invokestatic 146, 3) := by decide +kernel
theorem dX8_isSooner_83 : decode cX8_isSooner 83 = .ok (.iaload, 1) := by decide +kernel
theorem dX8_isSooner_84 : decode cX8_isSooner 84 = .ok (.if_icmp .ge 7, 3) := by decide +kernel
theorem dX8_isSooner_87 : decode cX8_isSooner 87 = .ok (.iconst 1, 1) := by decide +kernel
theorem dX8_isSooner_88 : decode cX8_isSooner 88 = .ok (.goto 17, 3) := by decide +kernel
theorem dX8_isSooner_91 : decode cX8_isSooner 91 = .ok (.iconst 0, 1) := by decide +kernel
theorem dX8_isSooner_92 : decode cX8_isSooner 92 = .ok (.goto 13, 3) := by decide +kernel
theorem dX8_isSooner_95 : decode cX8_isSooner 95 = .ok (.iload_n 1, 1) := by decide +kernel
theorem dX8_isSooner_96 : decode cX8_isSooner 96 = .ok (.iload_n 2, 1) := by decide +kernel
theorem dX8_isSooner_97 : decode cX8_isSooner 97 = .ok (.if_icmp .ge 7, 3) := by decide +kernel
theorem dX8_isSooner_100 : decode cX8_isSooner 100 = .ok (.iconst 1, 1) := by decide +kernel
theorem dX8_isSooner_101 : decode cX8_isSooner 101 = .ok (.goto 4, 3) := by decide +kernel
theorem dX8_isSooner_104 : decode cX8_isSooner 104 = .ok (.iconst 0, 1) := by decide +kernel
theorem dX8_isSooner_105 : decode cX8_isSooner 105 = .ok (.ireturn, 1) := by decide +kernel
set_option maxRecDepth 20000 in
theorem ggX8_block_X8_in : GoodIn wsX8_block wsX8_in := goodIn_r _ [6] (by decide +kernel) (by decide +kernel)
set_option maxRecDepth 20000 in
theorem gX8_block_X8_in : GoodIn wsX8_block (va_wsS RX8 60 yX8_in wsX8_in) := goodIn_app (goodIn_of _ (by decide +kernel)) ggX8_block_X8_in
set_option maxRecDepth 20000 in
theorem ggX8_block_X8_isSooner : GoodIn wsX8_block wsX8_isSooner := goodIn_r _ [10, 2, 11, 12, 5, 13, 23, 24, 25, 26, 27, 28, 29, 30, 31, 32, 33, 34, 35, 36, 37, 38, 39, 40, 41, 42, 43, 44, 45, 46, 47, 48, 49, 50, 51, 52, 53, 54] (by decide +kernel) (by decide +kernel)
set_option maxRecDepth 20000 in
theorem gX8_block_X8_isSooner : GoodIn wsX8_block (wsV RX8 222 RX8 yX8_isSooner wsX8_isSooner) := goodIn_app (goodIn_of _ (by decide +kernel)) ggX8_block_X8_isSooner
set_option maxRecDepth 20000 in
theorem ggX8_block_X8_ofBlock : GoodIn wsX8_block wsX8_ofBlock := goodIn_r _ [13] (by decide +kernel) (by decide +kernel)
set_option maxRecDepth 20000 in
theorem gX8_block_X8_ofBlock : GoodIn wsX8_block (va_wsS RX8 146 yX8_ofBlock wsX8_ofBlock) := goodIn_app (goodIn_of _ (by decide +kernel)) ggX8_block_X8_ofBlock
set_option maxRecDepth 20000 in
theorem ggX8_block_X8_inBlock : GoodIn wsX8_block wsX8_inBlock := goodIn_r _ [17, 2, 18, 19, 20, 5, 21, 22, 11, 12, 13, 23, 24, 25, 26, 27, 28, 29, 30, 31, 32, 33, 34, 35, 36, 37, 38, 39, 40, 41, 42, 43, 44, 45, 46, 47, 48, 49, 50, 51, 52, 53, 54] (by decide +kernel) (by decide +kernel)
set_option maxRecDepth 20000 in
theorem gX8_block_X8_inBlock : GoodIn wsX8_block (wsV RX8 175 RX8 yX8_inBlock wsX8_inBlock) := goodIn_app (goodIn_of _ (by decide +kernel)) ggX8_block_X8_inBlock
theorem dX8_block_0 : decode cX8_block 0 = .ok (.aload_n 0, 1) := by decide +kernel
theorem dX8_block_1 : decode cX8_block 1 = .ok (.iconst 0, 1) := by decide +kernel
theorem dX8_block_2 : decode cX8_block 2 = .ok (.putfield 53, 3) := by decide +kernel
theorem dX8_block_5 : decode cX8_block 5 = .ok (.iload_n 1, 1) := by decide +kernel
theorem dX8_block_6 : decode cX8_block 6 = .ok (.ifCond .lt 12, 3) := by decide +kernel
theorem dX8_block_9 : decode cX8_block 9 = .ok (.iload_n 2, 1) := by decide +kernel
theorem dX8_block_10 : decode cX8_block 10 = .ok (.iconst 0, 1) := by decide +kernel
theorem dX8_block_11 : decode cX8_block 11 = .ok (.iconst 4, 1) := by decide +kernel
theorem dX8_block_12 : decode cX8_block 12 = .ok (.invokestatic 60, 3) := by decide +kernel
theorem dX8_block_15 : decode cX8_block 15 = .ok (.ifCond .ne 5, 3) := by decide +kernel
theorem dX8_block_18 : decode cX8_block 18 = .ok (.iconst (-1), 1) := by decide +kernel
theorem dX8_block_19 : decode cX8_block 19 = .ok (.ireturn, 1) := by decide +kernel
theorem dX8_block_20 : decode cX8_block 20 = .ok (.iconst 0, 1) := by decide +kernel
theorem dX8_block_21 : decode cX8_block 21 = .ok (.istore_n 3, 1) := by decide +kernel
theorem dX8_block_22 : decode cX8_block 22 = .ok (.iload_n 3, 1) := by decide +kernel
theorem dX8_block_23 : decode cX8_block 23 = .ok (.aload_n 0, 1) := by decide +kernel
theorem dX8_block_24 : decode cX8_block 24 = .ok (.getfield 22, 3) := by decide +kernel
theorem dX8_block_27 : decode cX8_block 27 = .ok (.iconst 3, 1) := by decide +kernel
theorem dX8_block_28 : decode cX8_block 28 = .ok (.iaload, 1) := by decide +kernel
theorem dX8_block_29 : decode cX8_block 29 = .ok (.if_icmp .ge 100, 3) := by decide +kernel
theorem dX8_block_32 : decode cX8_block 32 = .ok (.iconst 0, 1) := by decide +kernel
theorem dX8_block_33 : decode cX8_block 33 = .ok (.istore 4, 2) := by decide +kernel
theorem dX8_block_35 : decode cX8_block 35 = .ok (.iconst 0, 1) := by decide +kernel
theorem dX8_block_36 : decode cX8_block 36 = .ok (.istore 5, 2) := by decide +kernel
theorem dX8_block_38 : decode cX8_block 38 = .ok (.iload 5, 2) := by decide +kernel
theorem dX8_block_40 : decode cX8_block 40 = .ok (.aload_n 0, 1) := by decide +kernel
theorem dX8_block_41 : decode cX8_block 41 = .ok (.getfield 22, 3) := by decide +kernel
theorem dX8_block_44 : decode cX8_block 44 = .ok (.iconst 3, 1) := by decide +kernel
theorem dX8_block_45 : decode cX8_block 45 = .ok (.iaload, 1) := by decide +kernel
theorem dX8_block_46 : decode cX8_block 46 = .ok (.if_icmp .ge 29, 3) := by decide +kernel
theorem dX8_block_49 : decode cX8_block 49 = .ok (.iload 4, 2) := by decide +kernel
theorem dX8_block_51 : decode cX8_block 51 = .ok (.aload_n 0, 1) := by decide +kernel
theorem dX8_block_52 : decode cX8_block 52 = .ok (.iload 5, 2) := by decide +kernel
theorem dX8_block_54 : decode cX8_block 54 = .ok (.iload_n 3, 1) := by decide +kernel
theorem dX8_block_55 : decode cX8_block 55 = .ok (.invokevirtual 222, 3) := by decide +kernel
theorem dX8_block_58 : decode cX8_block 58 = .ok (.ifCond .eq 7, 3) := by decide +kernel
theorem dX8_block_61 : decode cX8_block 61 = .ok (.iconst 1, 1) := by decide +kernel
theorem dX8_block_62 : decode cX8_block 62 = .ok (.goto 4, 3) := by decide +kernel
theorem dX8_block_65 : decode cX8_block 65 = .ok (.iconst 0, 1) := by decide +kernel
theorem dX8_block_66 : decode cX8_block 66 = .ok (.iadd, 1) := by decide +kernel
theorem dX8_block_67 : decode cX8_block 67 = .ok (.istore 4, 2) := by decide +kernel
theorem dX8_block_69 : decode cX8_block 69 = .ok (.iinc 5 1, 3) := by decide +kernel
theorem dX8_block_72 : decode cX8_block 72 = .ok (.goto (-34), 3) := by decide +kernel
theorem dX8_block_75 : decode cX8_block 75 = .ok (.iload 4, 2) := by decide +kernel
theorem dX8_block_77 : decode cX8_block 77 = .ok (.iload_n 1, 1) := by decide +kernel
theorem dX8_block_78 : decode cX8_block 78 = .ok (.if_icmp .ne 45, 3) := by decide +kernel
theorem dX8_block_81 : decode cX8_block 81 = .ok (.iload_n 2, 1) := by decide +kernel
theorem dX8_block_82 : decode cX8_block 82 = .ok (.iconst 3, 1) := by decide +kernel
theorem dX8_block_83 : decode cX8_block 83 = .ok (.if_icmp .ge 16, 3) := by decide +kernel
theorem dX8_block_86 : decode cX8_block 86 = .ok (.aload_n 0, 1) := by decide +kernel
theorem dX8_block_87 : decode cX8_block 87 = .ok (.getfield 22, 3) := by decide +kernel
theorem dX8_block_90 : decode cX8_block 90 = .ok (.iload_n 3, 1) := by decide +kernel
theorem dX8_block_91 : decode cX8_block 91 = .ok (.iload_n 2, 1) := by decide +kernel
theorem dX8_block_92 : decode cX8_block 92 = .ok (.invokestatic 146, 3) := by decide +kernel
theorem dX8_block_95 : decode cX8_block 95 = .ok (.iaload, 1) := by decide +kernel
theorem dX8_block_96 : decode cX8_block 96 = .ok (.goto 26, 3) := by decide +kernel
theorem dX8_block_99 : decode cX8_block 99 = .ok (.iload_n 2, 1) := by decide +kernel
theorem dX8_block_100 : decode cX8_block 100 = .ok (.iconst 3, 1) := by decide +kernel
theorem dX8_block_101 : decode cX8_block 101 = .ok (.if_icmp .ne 11, 3) := by decide +kernel
theorem dX8_block_104 : decode cX8_block 104 = .ok (.aload_n 0, 1) := by decide +kernel
theorem dX8_block_105 : decode cX8_block 105 = .ok (.iload_n 3, 1) := by decide +kernel
theorem dX8_block_106 : decode cX8_block 106 = .ok (.invokevirtual 175, 3) := by decide +kernel
theorem dX8_block_109 : decode cX8_block 109 = .ok (.goto 13, 3) := by decide +kernel
theorem dX8_block_112 : decode cX8_block 112 = .ok (.aload_n 0, 1) := by decide +kernel
theorem dX8_block_113 : decode cX8_block 113 = .ok (.getfield 22, 3) := by decide +kernel
theorem dX8_block_116 : decode cX8_block 116 = .ok (.iload_n 3, 1) := by decide +kernel
theorem dX8_block_117 : decode cX8_block 117 = .ok (.iconst 3, 1) := by decide +kernel
theorem dX8_block_118 : decode cX8_block 118 = .ok (.invokestatic 146, 3) := by decide +kernel
theorem dX8_block_121 : decode cX8_block 121 = .ok (.iaload, 1) := by decide +kernel
theorem dX8_block_122 : decode cX8_block 122 = .ok (.ireturn, 1) := by decide +kernel
theorem dX8_block_123 : decode cX8_block 123 = .ok (.iinc 3 1, 3) := by decide +kernel
theorem dX8_block_126 : decode cX8_block 126 = .ok (.goto (-104), 3) := by decide +kernel
theorem dX8_block_129 : decode cX8_block 129 = .ok (.bipush (-9), 2) := by decide +kernel
theorem dX8_block_131 : decode cX8_block 131 = .ok (.ireturn, 1) := by decide +kernel
set_option maxRecDepth 20000 in
theorem ggX8_deaf_X8_isTerminal : GoodIn wsX8_deaf wsX8_isTerminal := goodIn_r _ [6, 7, 8, 9, 5, 10, 19, 20, 21, 22, 23, 24, 25, 26, 27, 28, 29, 30, 31, 32, 33, 34, 35, 36, 37, 38, 39, 40, 41, 42, 43, 44, 45, 46, 47, 48, 49, 50] (by decide +kernel) (by decide +kernel)
set_option maxRecDepth 20000 in
theorem gX8_deaf_X8_isTerminal : GoodIn wsX8_deaf (wsV RX8 212 RX8 yX8_isTerminal wsX8_isTerminal) := goodIn_app (goodIn_of _ (by decide +kernel)) ggX8_deaf_X8_isTerminal
set_option maxRecDepth 20000 in
theorem ggX8_deaf_X8_in : GoodIn wsX8_deaf wsX8_in := goodIn_r _ [10] (by decide +kernel) (by decide +kernel)
set_option maxRecDepth 20000 in
theorem gX8_deaf_X8_in : GoodIn wsX8_deaf (va_wsS RX8 60 yX8_in wsX8_in) := goodIn_app (goodIn_of _ (by decide +kernel)) ggX8_deaf_X8_in
set_option maxRecDepth 20000 in
theorem ggX8_deaf_X8_isDeaf : GoodIn wsX8_deaf wsX8_isDeaf := goodIn_r _ [14, 15, 16, 17, 5, 18, 19, 20, 21, 22, 23, 24, 25, 26, 27, 28, 29, 30, 31, 32, 33, 34, 35, 36, 37, 38, 39, 40, 41, 42, 43, 44, 45, 46, 47, 48, 49, 50] (by decide +kernel) (by decide +kernel)
set_option maxRecDepth 20000 in
theorem gX8_deaf_X8_isDeaf : GoodIn wsX8_deaf (wsV RX8 153 RX8 yX8_isDeaf wsX8_isDeaf) := goodIn_app (goodIn_of _ (by decide +kernel)) ggX8_deaf_X8_isDeaf
theorem dX8_deaf_0 : decode cX8_deaf 0 = .ok (.aload_n 0, 1) := by decide +kernel
theorem dX8_deaf_1 : decode cX8_deaf 1 = .ok (.iconst 0, 1) := by decide +kernel
theorem dX8_deaf_2 : decode cX8_deaf 2 = .ok (.putfield 53, 3) := by decide +kernel
theorem dX8_deaf_5 : decode cX8_deaf 5 = .ok (.aload_n 0, 1) := by decide +kernel
theorem dX8_deaf_6 : decode cX8_deaf 6 = .ok (.iload_n 1, 1) := by decide +kernel
theorem dX8_deaf_7 : decode cX8_deaf 7 = .ok (.invokevirtual 212, 3) := by decide +kernel
theorem dX8_deaf_10 : decode cX8_deaf 10 = .ok (.ifCond .eq 14, 3) := by decide +kernel
theorem dX8_deaf_13 : decode cX8_deaf 13 = .ok (.iload_n 2, 1) := by decide +kernel
theorem dX8_deaf_14 : decode cX8_deaf 14 = .ok (.iconst 0, 1) := by decide +kernel
theorem dX8_deaf_15 : decode cX8_deaf 15 = .ok (.sipush 199, 3) := by decide +kernel
theorem dX8_deaf_18 : decode cX8_deaf 18 = .ok (.invokestatic 60, 3) := by decide +kernel
theorem dX8_deaf_21 : decode cX8_deaf 21 = .ok (.ifCond .ne 5, 3) := by decide +kernel
theorem dX8_deaf_24 : decode cX8_deaf 24 = .ok (.iconst (-1), 1) := by decide +kernel
theorem dX8_deaf_25 : decode cX8_deaf 25 = .ok (.ireturn, 1) := by decide +kernel
theorem dX8_deaf_26 : decode cX8_deaf 26 = .ok (.aload_n 0, 1) := by decide +kernel
theorem dX8_deaf_27 : decode cX8_deaf 27 = .ok (.iload_n 1, 1) := by decide +kernel
theorem dX8_deaf_28 : decode cX8_deaf 28 = .ok (.iload_n 2, 1) := by decide +kernel
theorem dX8_deaf_29 : decode cX8_deaf 29 = .ok (.invokevirtual 153, 3) := by decide +kernel
theorem dX8_deaf_32 : decode cX8_deaf 32 = .ok (.ifCond .eq 7, 3) := by decide +kernel
theorem dX8_deaf_35 : decode cX8_deaf 35 = .ok (.iconst 1, 1) := by decide +kernel
theorem dX8_deaf_36 : decode cX8_deaf 36 = .ok (.goto 4, 3) := by decide +kernel
theorem dX8_deaf_39 : decode cX8_deaf 39 = .ok (.iconst 0, 1) := by decide +kernel
theorem dX8_deaf_40 : decode cX8_deaf 40 = .ok (.ireturn, 1) := by decide +kernel
set_option maxRecDepth 20000 in
theorem ggX8_isDrained_X8_ofClass : GoodIn wsX8_isDrained wsX8_ofClass := goodIn_r _ [6] (by decide +kernel) (by decide +kernel)
set_option maxRecDepth 20000 in
theorem gX8_isDrained_X8_ofClass : GoodIn wsX8_isDrained (va_wsS RX8 143 yX8_ofClass wsX8_ofClass) := goodIn_app (goodIn_of _ (by decide +kernel)) ggX8_isDrained_X8_ofClass
theorem dX8_isDrained_0 : decode cX8_isDrained 0 = .ok (.aload_n 0, 1) := by decide +kernel
theorem dX8_isDrained_1 : decode cX8_isDrained 1 = .ok (.getfield 22, 3) := by decide +kernel
theorem dX8_isDrained_4 : decode cX8_isDrained 4 = .ok (.iconst 3, 1) := by decide +kernel
theorem dX8_isDrained_5 : decode cX8_isDrained 5 = .ok (.iaload, 1) := by decide +kernel
theorem dX8_isDrained_6 : decode cX8_isDrained 6 = .ok (.istore_n 1, 1) := by decide +kernel
theorem dX8_isDrained_7 : decode cX8_isDrained 7 = .ok (.iconst 0, 1) := by decide +kernel
theorem dX8_isDrained_8 : decode cX8_isDrained 8 = .ok (.istore_n 2, 1) := by decide +kernel
theorem dX8_isDrained_9 : decode cX8_isDrained 9 = .ok (.iload_n 2, 1) := by decide +kernel
theorem dX8_isDrained_10 : decode cX8_isDrained 10 = .ok (.aload_n 0, 1) := by decide +kernel
theorem dX8_isDrained_11 : decode cX8_isDrained 11 = .ok (.getfield 64, 3) := by decide +kernel
theorem dX8_isDrained_14 : decode cX8_isDrained 14 = .ok (.if_icmp .ge 22, 3) := by decide +kernel
theorem dX8_isDrained_17 : decode cX8_isDrained 17 = .ok (.iload_n 1, 1) := by decide +kernel
theorem dX8_isDrained_18 : decode cX8_isDrained 18 = .ok (.aload_n 0, 1) := by decide +kernel
theorem dX8_isDrained_19 : decode cX8_isDrained 19 = .ok (.getfield 22, 3) := by decide +kernel
theorem dX8_isDrained_22 : decode cX8_isDrained 22 = .ok (.iload_n 2, 1) := by decide +kernel
theorem dX8_isDrained_23 : decode cX8_isDrained 23 = .ok (.iconst 0, 1) := by decide +kernel
theorem dX8_isDrained_24 : decode cX8_isDrained 24 = .ok (.invokestatic 143, 3) := by decide +kernel
theorem dX8_isDrained_27 : decode cX8_isDrained 27 = .ok (.iaload, 1) := by decide +kernel
theorem dX8_isDrained_28 : decode cX8_isDrained 28 = .ok (.iadd, 1) := by decide +kernel
theorem dX8_isDrained_29 : decode cX8_isDrained 29 = .ok (.istore_n 1, 1) := by decide +kernel
theorem dX8_isDrained_30 : decode cX8_isDrained 30 = .ok (.iinc 2 1, 3) := by decide +kernel
theorem dX8_isDrained_33 : decode cX8_isDrained 33 = .ok (.goto (-24), 3) := by decide +kernel
theorem dX8_isDrained_36 : decode cX8_isDrained 36 = .ok (.iload_n 1, 1) := by decide +kernel
theorem dX8_isDrained_37 : decode cX8_isDrained 37 = .ok (.ifCond .ne 7, 3) := by decide +kernel
theorem dX8_isDrained_40 : decode cX8_isDrained 40 = .ok (.iconst 1, 1) := by decide +kernel
theorem dX8_isDrained_41 : decode cX8_isDrained 41 = .ok (.goto 4, 3) := by decide +kernel
theorem dX8_isDrained_44 : decode cX8_isDrained 44 = .ok (.iconst 0, 1) := by decide +kernel
theorem dX8_isDrained_45 : decode cX8_isDrained 45 = .ok (.ireturn, 1) := by decide +kernel
set_option maxRecDepth 20000 in
theorem ggX8_drains_X8_isDrained : GoodIn wsX8_drains wsX8_isDrained := goodIn_r _ [5, 6, 7, 8, 9, 4, 10, 83, 84, 85, 86, 87, 88, 89, 90, 91, 92, 93, 94, 95, 96, 97, 98, 99, 100, 101, 102, 103, 104, 105, 106, 107, 108, 109, 110, 111, 112, 113, 114] (by decide +kernel) (by decide +kernel)
set_option maxRecDepth 20000 in
theorem gX8_drains_X8_isDrained : GoodIn wsX8_drains (wsV RX8 225 RX8 yX8_isDrained wsX8_isDrained) := goodIn_app (goodIn_of _ (by decide +kernel)) ggX8_drains_X8_isDrained
set_option maxRecDepth 20000 in
theorem ggX8_drains_X8_step : GoodIn wsX8_drains wsX8_step := goodIn_r _ [14, 7, 6, 15, 16, 8, 9, 4, 10, 17, 18, 19, 20, 21, 22, 23, 24, 25, 26, 27, 28, 29, 30, 31, 32, 33, 34, 35, 36, 37, 38, 39, 40, 41, 42, 43, 44, 45, 46, 47, 48, 49, 50, 51, 52, 53, 54, 55, 56, 57, 58, 59, 60, 61, 62, 63, 64, 65, 66, 67, 68, 69, 70, 71, 72, 73, 74, 75, 76, 77, 78, 79, 80, 81, 82, 83, 84, 85, 86, 87, 88, 89, 90, 91, 92, 93, 94, 95, 96, 97, 98, 99, 100, 101, 102, 103, 104, 105, 106, 107, 108, 109, 110, 111, 112, 113, 114] (by decide +kernel) (by decide +kernel)
set_option maxRecDepth 20000 in
theorem gX8_drains_X8_step : GoodIn wsX8_drains (wsV RX8 209 RX8 yX8_step wsX8_step) := goodIn_app (goodIn_of _ (by decide +kernel)) ggX8_drains_X8_step
theorem dX8_drains_0 : decode cX8_drains 0 = .ok (.iconst 0, 1) := by decide +kernel
theorem dX8_drains_1 : decode cX8_drains 1 = .ok (.istore_n 2, 1) := by decide +kernel
theorem dX8_drains_2 : decode cX8_drains 2 = .ok (.iload_n 2, 1) := by decide +kernel
theorem dX8_drains_3 : decode cX8_drains 3 = .ok (.iload_n 1, 1) := by decide +kernel
theorem dX8_drains_4 : decode cX8_drains 4 = .ok (.if_icmp .gt 22, 3) := by decide +kernel
theorem dX8_drains_7 : decode cX8_drains 7 = .ok (.aload_n 0, 1) := by decide +kernel
theorem dX8_drains_8 : decode cX8_drains 8 = .ok (.invokevirtual 225, 3) := by decide +kernel
theorem dX8_drains_11 : decode cX8_drains 11 = .ok (.ifCond .eq 5, 3) := by decide +kernel
theorem dX8_drains_14 : decode cX8_drains 14 = .ok (.iload_n 2, 1) := by decide +kernel
theorem dX8_drains_15 : decode cX8_drains 15 = .ok (.ireturn, 1) := by decide +kernel
theorem dX8_drains_16 : decode cX8_drains 16 = .ok (.aload_n 0, 1) := by decide +kernel
theorem dX8_drains_17 : decode cX8_drains 17 = .ok (.invokevirtual 209, 3) := by decide +kernel
theorem dX8_drains_20 : decode cX8_drains 20 = .ok (.iinc 2 1, 3) := by decide +kernel
theorem dX8_drains_23 : decode cX8_drains 23 = .ok (.goto (-21), 3) := by decide +kernel
theorem dX8_drains_26 : decode cX8_drains 26 = .ok (.bipush (-9), 2) := by decide +kernel
theorem dX8_drains_28 : decode cX8_drains 28 = .ok (.ireturn, 1) := by decide +kernel
set_option maxRecDepth 20000 in
theorem ggX8_drain_X8_copies : GoodIn wsX8_drain wsX8_copies := goodIn_r _ [8] (by decide +kernel) (by decide +kernel)
set_option maxRecDepth 20000 in
theorem gX8_drain_X8_copies : GoodIn wsX8_drain (wsV RX8 199 RX8 yX8_copies wsX8_copies) := goodIn_app (goodIn_of _ (by decide +kernel)) ggX8_drain_X8_copies
set_option maxRecDepth 20000 in
theorem ggX8_drain_X8_drains : GoodIn wsX8_drain wsX8_drains := goodIn_r _ [12, 13, 14, 15, 7, 16, 2, 17, 18, 19, 20, 21, 22, 23, 24, 25, 26, 27, 28, 29, 30, 31, 32, 33, 34, 35, 36, 37, 38, 39, 40, 41, 42, 43, 44, 45, 46, 47, 48, 49, 50, 51, 52, 53, 54, 55, 56, 57, 58, 59, 60, 61, 62, 63, 64, 65, 66, 67, 68, 69, 70, 71, 72, 73, 74, 75, 76, 77, 78, 79, 80, 81, 82, 83, 84, 85, 86, 87, 88, 89, 90, 91, 92, 93, 94, 95, 96, 97, 98, 99, 100, 101, 102, 103, 104, 105, 106, 107, 108, 109, 110, 111, 112, 113, 114, 115, 116, 117, 118, 119, 120, 121, 122, 123, 124] (by decide +kernel) (by decide +kernel)
set_option maxRecDepth 20000 in
theorem gX8_drain_X8_drains : GoodIn wsX8_drain (wsV RX8 228 RX8 yX8_drains wsX8_drains) := goodIn_app (goodIn_of _ (by decide +kernel)) ggX8_drain_X8_drains
theorem dX8_drain_0 : decode cX8_drain 0 = .ok (.aload_n 0, 1) := by decide +kernel
theorem dX8_drain_1 : decode cX8_drain 1 = .ok (.iconst 0, 1) := by decide +kernel
theorem dX8_drain_2 : decode cX8_drain 2 = .ok (.putfield 53, 3) := by decide +kernel
theorem dX8_drain_5 : decode cX8_drain 5 = .ok (.aload_n 0, 1) := by decide +kernel
theorem dX8_drain_6 : decode cX8_drain 6 = .ok (.aload_n 0, 1) := by decide +kernel
theorem dX8_drain_7 : decode cX8_drain 7 = .ok (.getfield 22, 3) := by decide +kernel
theorem dX8_drain_10 : decode cX8_drain 10 = .ok (.aload_n 0, 1) := by decide +kernel
theorem dX8_drain_11 : decode cX8_drain 11 = .ok (.getfield 35, 3) := by decide +kernel
theorem dX8_drain_14 : decode cX8_drain 14 = .ok (.iconst 0, 1) := by decide +kernel
theorem dX8_drain_15 : decode cX8_drain 15 = .ok (.iconst 0, 1) := by decide +kernel
theorem dX8_drain_16 : decode cX8_drain 16 = .ok (.invokevirtual 199, 3) := by decide +kernel
theorem dX8_drain_19 : decode cX8_drain 19 = .ok (.aload_n 0, 1) := by decide +kernel
theorem dX8_drain_20 : decode cX8_drain 20 = .ok (.bipush 100, 2) := by decide +kernel
theorem dX8_drain_22 : decode cX8_drain 22 = .ok (.invokevirtual 228, 3) := by decide +kernel
theorem dX8_drain_25 : decode cX8_drain 25 = .ok (.istore_n 1, 1) := by decide +kernel
theorem dX8_drain_26 : decode cX8_drain 26 = .ok (.aload_n 0, 1) := by decide +kernel
theorem dX8_drain_27 : decode cX8_drain 27 = .ok (.aload_n 0, 1) := by decide +kernel
theorem dX8_drain_28 : decode cX8_drain 28 = .ok (.getfield 35, 3) := by decide +kernel
theorem dX8_drain_31 : decode cX8_drain 31 = .ok (.aload_n 0, 1) := by decide +kernel
theorem dX8_drain_32 : decode cX8_drain 32 = .ok (.getfield 22, 3) := by decide +kernel
theorem dX8_drain_35 : decode cX8_drain 35 = .ok (.iconst 0, 1) := by decide +kernel
theorem dX8_drain_36 : decode cX8_drain 36 = .ok (.iconst 0, 1) := by decide +kernel
theorem dX8_drain_37 : decode cX8_drain 37 = .ok (.invokevirtual 199, 3) := by decide +kernel
theorem dX8_drain_40 : decode cX8_drain 40 = .ok (.iload_n 1, 1) := by decide +kernel
theorem dX8_drain_41 : decode cX8_drain 41 = .ok (.ireturn, 1) := by decide +kernel
set_option maxRecDepth 20000 in
theorem ggX8_enough_X8_in : GoodIn wsX8_enough wsX8_in := goodIn_r _ [7] (by decide +kernel) (by decide +kernel)
set_option maxRecDepth 20000 in
theorem gX8_enough_X8_in : GoodIn wsX8_enough (va_wsS RX8 60 yX8_in wsX8_in) := goodIn_app (goodIn_of _ (by decide +kernel)) ggX8_enough_X8_in
set_option maxRecDepth 20000 in
theorem ggX8_enough_X8_copies : GoodIn wsX8_enough wsX8_copies := goodIn_r _ [11] (by decide +kernel) (by decide +kernel)
set_option maxRecDepth 20000 in
theorem gX8_enough_X8_copies : GoodIn wsX8_enough (wsV RX8 199 RX8 yX8_copies wsX8_copies) := goodIn_app (goodIn_of _ (by decide +kernel)) ggX8_enough_X8_copies
set_option maxRecDepth 20000 in
theorem ggX8_enough_X8_drains : GoodIn wsX8_enough wsX8_drains := goodIn_r _ [15, 16, 17, 18, 6, 19, 2, 20, 21, 22, 23, 24, 25, 26, 27, 28, 29, 30, 31, 32, 33, 34, 35, 36, 37, 38, 39, 40, 41, 42, 43, 44, 45, 46, 47, 48, 49, 50, 51, 52, 53, 54, 55, 56, 57, 58, 59, 60, 61, 62, 63, 64, 65, 66, 67, 68, 69, 70, 71, 72, 73, 74, 75, 76, 77, 78, 79, 80, 81, 82, 83, 84, 85, 86, 87, 88, 89, 90, 91, 92, 93, 94, 95, 96, 97, 98, 99, 100, 101, 102, 103, 104, 105, 106, 107, 108, 109, 110, 111, 112, 113, 114, 115, 116, 117, 118, 119, 120, 121, 122, 123, 124, 125, 126, 127] (by decide +kernel) (by decide +kernel)
set_option maxRecDepth 20000 in
theorem gX8_enough_X8_drains : GoodIn wsX8_enough (wsV RX8 228 RX8 yX8_drains wsX8_drains) := goodIn_app (goodIn_of _ (by decide +kernel)) ggX8_enough_X8_drains
theorem dX8_enough_0 : decode cX8_enough 0 = .ok (.aload_n 0, 1) := by decide +kernel
theorem dX8_enough_1 : decode cX8_enough 1 = .ok (.iconst 0, 1) := by decide +kernel
theorem dX8_enough_2 : decode cX8_enough 2 = .ok (.putfield 53, 3) := by decide +kernel
theorem dX8_enough_5 : decode cX8_enough 5 = .ok (.iload_n 1, 1) := by decide +kernel
theorem dX8_enough_6 : decode cX8_enough 6 = .ok (.iconst 0, 1) := by decide +kernel
theorem dX8_enough_7 : decode cX8_enough 7 = .ok (.bipush 40, 2) := by decide +kernel
theorem dX8_enough_9 : decode cX8_enough 9 = .ok (.invokestatic 60, 3) := by decide +kernel
theorem dX8_enough_12 : decode cX8_enough 12 = .ok (.ifCond .ne 5, 3) := by decide +kernel
theorem dX8_enough_15 : decode cX8_enough 15 = .ok (.iconst (-1), 1) := by decide +kernel
theorem dX8_enough_16 : decode cX8_enough 16 = .ok (.ireturn, 1) := by decide +kernel
theorem dX8_enough_17 : decode cX8_enough 17 = .ok (.aload_n 0, 1) := by decide +kernel
theorem dX8_enough_18 : decode cX8_enough 18 = .ok (.aload_n 0, 1) := by decide +kernel
theorem dX8_enough_19 : decode cX8_enough 19 = .ok (.getfield 22, 3) := by decide +kernel
theorem dX8_enough_22 : decode cX8_enough 22 = .ok (.aload_n 0, 1) := by decide +kernel
theorem dX8_enough_23 : decode cX8_enough 23 = .ok (.getfield 35, 3) := by decide +kernel
theorem dX8_enough_26 : decode cX8_enough 26 = .ok (.iconst 0, 1) := by decide +kernel
theorem dX8_enough_27 : decode cX8_enough 27 = .ok (.iconst 0, 1) := by decide +kernel
theorem dX8_enough_28 : decode cX8_enough 28 = .ok (.invokevirtual 199, 3) := by decide +kernel
theorem dX8_enough_31 : decode cX8_enough 31 = .ok (.bipush (-9), 2) := by decide +kernel
theorem dX8_enough_33 : decode cX8_enough 33 = .ok (.istore_n 2, 1) := by decide +kernel
theorem dX8_enough_34 : decode cX8_enough 34 = .ok (.iconst 0, 1) := by decide +kernel
theorem dX8_enough_35 : decode cX8_enough 35 = .ok (.istore_n 3, 1) := by decide +kernel
theorem dX8_enough_36 : decode cX8_enough 36 = .ok (.iload_n 3, 1) := by decide +kernel
theorem dX8_enough_37 : decode cX8_enough 37 = .ok (.bipush 60, 2) := by decide +kernel
theorem dX8_enough_39 : decode cX8_enough 39 = .ok (.if_icmp .gt 53, 3) := by decide +kernel
theorem dX8_enough_42 : decode cX8_enough 42 = .ok (.iload_n 2, 1) := by decide +kernel
theorem dX8_enough_43 : decode cX8_enough 43 = .ok (.bipush (-9), 2) := by decide +kernel
theorem dX8_enough_45 : decode cX8_enough 45 = .ok (.if_icmp .ne 47, 3) := by decide +kernel
theorem dX8_enough_48 : decode cX8_enough 48 = .ok (.aload_n 0, 1) := by decide +kernel
theorem dX8_enough_49 : decode cX8_enough 49 = .ok (.getfield 22, 3) := by decide +kernel
theorem dX8_enough_52 : decode cX8_enough 52 = .ok (.iconst 1, 1) := by decide +kernel
theorem dX8_enough_53 : decode cX8_enough 53 = .ok (.iload_n 3, 1) := by decide +kernel
theorem dX8_enough_54 : decode cX8_enough 54 = .ok (.iastore, 1) := by decide +kernel
theorem dX8_enough_55 : decode cX8_enough 55 = .ok (.aload_n 0, 1) := by decide +kernel
theorem dX8_enough_56 : decode cX8_enough 56 = .ok (.iload_n 1, 1) := by decide +kernel
theorem dX8_enough_57 : decode cX8_enough 57 = .ok (.invokevirtual 228, 3) := by decide +kernel
theorem dX8_enough_60 : decode cX8_enough 60 = .ok (.bipush (-9), 2) := by decide +kernel
theorem dX8_enough_62 : decode cX8_enough 62 = .ok (.if_icmp .ne 8, 3) := by decide +kernel
theorem dX8_enough_65 : decode cX8_enough 65 = .ok (.bipush (-9), 2) := by decide +kernel
theorem dX8_enough_67 : decode cX8_enough 67 = .ok (.goto 4, 3) := by decide +kernel
theorem dX8_enough_70 : decode cX8_enough 70 = .ok (.iload_n 3, 1) := by decide +kernel
theorem dX8_enough_71 : decode cX8_enough 71 = .ok (.istore_n 2, 1) := by decide +kernel
theorem dX8_enough_72 : decode cX8_enough 72 = .ok (.aload_n 0, 1) := by decide +kernel
theorem dX8_enough_73 : decode cX8_enough 73 = .ok (.aload_n 0, 1) := by decide +kernel
theorem dX8_enough_74 : decode cX8_enough 74 = .ok (.getfield 35, 3) := by decide +kernel
theorem dX8_enough_77 : decode cX8_enough 77 = .ok (.aload_n 0, 1) := by decide +kernel
theorem dX8_enough_78 : decode cX8_enough 78 = .ok (.getfield 22, 3) := by decide +kernel
theorem dX8_enough_81 : decode cX8_enough 81 = .ok (.iconst 0, 1) := by decide +kernel
theorem dX8_enough_82 : decode cX8_enough 82 = .ok (.iconst 0, 1) := by decide +kernel
theorem dX8_enough_83 : decode cX8_enough 83 = .ok (.invokevirtual 199, 3) := by decide +kernel
theorem dX8_enough_86 : decode cX8_enough 86 = .ok (.iinc 3 1, 3) := by decide +kernel
theorem dX8_enough_89 : decode cX8_enough 89 = .ok (.goto (-53), 3) := by decide +kernel
theorem dX8_enough_92 : decode cX8_enough 92 = .ok (.iload_n 2, 1) := by decide +kernel
theorem dX8_enough_93 : decode cX8_enough 93 = .ok (.ireturn, 1) := by decide +kernel
set_option maxRecDepth 20000 in
theorem ggX8_ahead_X8_isClass : GoodIn wsX8_ahead wsX8_isClass := goodIn_r _ [8, 9, 10, 11, 7, 12, 92, 93, 94, 95, 96, 97, 98, 99, 100, 101, 102, 103, 104, 105, 106, 107, 108, 109, 110, 111, 112, 113, 114, 115, 116, 117, 118, 119, 120, 121, 122, 123] (by decide +kernel) (by decide +kernel)
set_option maxRecDepth 20000 in
theorem gX8_ahead_X8_isClass : GoodIn wsX8_ahead (wsV RX8 203 RX8 yX8_isClass wsX8_isClass) := goodIn_app (goodIn_of _ (by decide +kernel)) ggX8_ahead_X8_isClass
set_option maxRecDepth 20000 in
theorem ggX8_ahead_X8_in : GoodIn wsX8_ahead wsX8_in := goodIn_r _ [12] (by decide +kernel) (by decide +kernel)
set_option maxRecDepth 20000 in
theorem gX8_ahead_X8_in : GoodIn wsX8_ahead (va_wsS RX8 60 yX8_in wsX8_in) := goodIn_app (goodIn_of _ (by decide +kernel)) ggX8_ahead_X8_in
set_option maxRecDepth 20000 in
theorem ggX8_ahead_X8_copies : GoodIn wsX8_ahead wsX8_copies := goodIn_r _ [16] (by decide +kernel) (by decide +kernel)
set_option maxRecDepth 20000 in
theorem gX8_ahead_X8_copies : GoodIn wsX8_ahead (wsV RX8 199 RX8 yX8_copies wsX8_copies) := goodIn_app (goodIn_of _ (by decide +kernel)) ggX8_ahead_X8_copies
set_option maxRecDepth 20000 in
theorem ggX8_ahead_X8_step : GoodIn wsX8_ahead wsX8_step := goodIn_r _ [20, 9, 2, 21, 22, 23, 24, 7, 25, 26, 27, 28, 29, 30, 31, 32, 33, 34, 35, 36, 37, 38, 39, 40, 41, 42, 43, 44, 45, 46, 47, 48, 49, 50, 51, 52, 53, 54, 55, 56, 57, 58, 59, 60, 61, 62, 63, 64, 65, 66, 67, 68, 69, 70, 71, 72, 73, 74, 75, 76, 77, 78, 79, 80, 81, 82, 83, 84, 85, 86, 87, 88, 89, 90, 91, 92, 93, 94, 95, 96, 97, 98, 99, 100, 101, 102, 103, 104, 105, 106, 107, 108, 109, 110, 111, 112, 113, 114, 115, 116, 117, 118, 119, 120, 121, 122, 123] (by decide +kernel) (by decide +kernel)
set_option maxRecDepth 20000 in
theorem gX8_ahead_X8_step : GoodIn wsX8_ahead (wsV RX8 209 RX8 yX8_step wsX8_step) := goodIn_app (goodIn_of _ (by decide +kernel)) ggX8_ahead_X8_step
set_option maxRecDepth 20000 in
theorem ggX8_ahead_X8_ofClass : GoodIn wsX8_ahead wsX8_ofClass := goodIn_r _ [25] (by decide +kernel) (by decide +kernel)
set_option maxRecDepth 20000 in
theorem gX8_ahead_X8_ofClass : GoodIn wsX8_ahead (va_wsS RX8 143 yX8_ofClass wsX8_ofClass) := goodIn_app (goodIn_of _ (by decide +kernel)) ggX8_ahead_X8_ofClass
theorem dX8_ahead_0 : decode cX8_ahead 0 = .ok (.aload_n 0, 1) := by decide +kernel
theorem dX8_ahead_1 : decode cX8_ahead 1 = .ok (.iconst 0, 1) := by decide +kernel
theorem dX8_ahead_2 : decode cX8_ahead 2 = .ok (.putfield 53, 3) := by decide +kernel
theorem dX8_ahead_5 : decode cX8_ahead 5 = .ok (.aload_n 0, 1) := by decide +kernel
theorem dX8_ahead_6 : decode cX8_ahead 6 = .ok (.iload_n 1, 1) := by decide +kernel
theorem dX8_ahead_7 : decode cX8_ahead 7 = .ok (.invokevirtual 203, 3) := by decide +kernel
theorem dX8_ahead_10 : decode cX8_ahead 10 = .ok (.ifCond .eq 13, 3) := by decide +kernel
theorem dX8_ahead_13 : decode cX8_ahead 13 = .ok (.iload_n 2, 1) := by decide +kernel
theorem dX8_ahead_14 : decode cX8_ahead 14 = .ok (.iconst 1, 1) := by decide +kernel
theorem dX8_ahead_15 : decode cX8_ahead 15 = .ok (.bipush 40, 2) := by decide +kernel
theorem dX8_ahead_17 : decode cX8_ahead 17 = .ok (.invokestatic 60, 3) := by decide +kernel
theorem dX8_ahead_20 : decode cX8_ahead 20 = .ok (.ifCond .ne 5, 3) := by decide +kernel
theorem dX8_ahead_23 : decode cX8_ahead 23 = .ok (.iconst (-1), 1) := by decide +kernel
theorem dX8_ahead_24 : decode cX8_ahead 24 = .ok (.ireturn, 1) := by decide +kernel
theorem dX8_ahead_25 : decode cX8_ahead 25 = .ok (.aload_n 0, 1) := by decide +kernel
theorem dX8_ahead_26 : decode cX8_ahead 26 = .ok (.aload_n 0, 1) := by decide +kernel
theorem dX8_ahead_27 : decode cX8_ahead 27 = .ok (.getfield 22, 3) := by decide +kernel
theorem dX8_ahead_30 : decode cX8_ahead 30 = .ok (.aload_n 0, 1) := by decide +kernel
theorem dX8_ahead_31 : decode cX8_ahead 31 = .ok (.getfield 35, 3) := by decide +kernel
theorem dX8_ahead_34 : decode cX8_ahead 34 = .ok (.iconst 0, 1) := by decide +kernel
theorem dX8_ahead_35 : decode cX8_ahead 35 = .ok (.iconst 0, 1) := by decide +kernel
theorem dX8_ahead_36 : decode cX8_ahead 36 = .ok (.invokevirtual 199, 3) := by decide +kernel
theorem dX8_ahead_39 : decode cX8_ahead 39 = .ok (.iconst 0, 1) := by decide +kernel
theorem dX8_ahead_40 : decode cX8_ahead 40 = .ok (.istore_n 3, 1) := by decide +kernel
theorem dX8_ahead_41 : decode cX8_ahead 41 = .ok (.iload_n 3, 1) := by decide +kernel
theorem dX8_ahead_42 : decode cX8_ahead 42 = .ok (.iload_n 2, 1) := by decide +kernel
theorem dX8_ahead_43 : decode cX8_ahead 43 = .ok (.if_icmp .ge 13, 3) := by decide +kernel
theorem dX8_ahead_46 : decode cX8_ahead 46 = .ok (.aload_n 0, 1) := by decide +kernel
theorem dX8_ahead_47 : decode cX8_ahead 47 = .ok (.invokevirtual 209, 3) := by decide +kernel
theorem dX8_ahead_50 : decode cX8_ahead 50 = .ok (.iinc 3 1, 3) := by decide +kernel
theorem dX8_ahead_53 : decode cX8_ahead 53 = .ok (.goto (-12), 3) := by decide +kernel
theorem dX8_ahead_56 : decode cX8_ahead 56 = .ok (.aload_n 0, 1) := by decide +kernel
theorem dX8_ahead_57 : decode cX8_ahead 57 = .ok (.getfield 22, 3) := by decide +kernel
theorem dX8_ahead_60 : decode cX8_ahead 60 = .ok (.iload_n 1, 1) := by decide +kernel
theorem dX8_ahead_61 : decode cX8_ahead 61 = .ok (.iconst 2, 1) := by decide +kernel
theorem dX8_ahead_62 : decode cX8_ahead 62 = .ok (.invokestatic 143, 3) := by decide +kernel
theorem dX8_ahead_65 : decode cX8_ahead 65 = .ok (.iaload, 1) := by decide +kernel
theorem dX8_ahead_66 : decode cX8_ahead 66 = .ok (.istore_n 3, 1) := by decide +kernel
theorem dX8_ahead_67 : decode cX8_ahead 67 = .ok (.aload_n 0, 1) := by decide +kernel
theorem dX8_ahead_68 : decode cX8_ahead 68 = .ok (.aload_n 0, 1) := by decide +kernel
theorem dX8_ahead_69 : decode cX8_ahead 69 = .ok (.getfield 35, 3) := by decide +kernel
theorem dX8_ahead_72 : decode cX8_ahead 72 = .ok (.aload_n 0, 1) := by decide +kernel
theorem dX8_ahead_73 : decode cX8_ahead 73 = .ok (.getfield 22, 3) := by decide +kernel
theorem dX8_ahead_76 : decode cX8_ahead 76 = .ok (.iconst 0, 1) := by decide +kernel
theorem dX8_ahead_77 : decode cX8_ahead 77 = .ok (.iconst 0, 1) := by decide +kernel
theorem dX8_ahead_78 : decode cX8_ahead 78 = .ok (.invokevirtual 199, 3) := by decide +kernel
theorem dX8_ahead_81 : decode cX8_ahead 81 = .ok (.iload_n 3, 1) := by decide +kernel
theorem dX8_ahead_82 : decode cX8_ahead 82 = .ok (.aload_n 0, 1) := by decide +kernel
theorem dX8_ahead_83 : decode cX8_ahead 83 = .ok (.getfield 22, 3) := by decide +kernel
theorem dX8_ahead_86 : decode cX8_ahead 86 = .ok (.iload_n 1, 1) := by decide +kernel
theorem dX8_ahead_87 : decode cX8_ahead 87 = .ok (.iconst 2, 1) := by decide +kernel
theorem dX8_ahead_88 : decode cX8_ahead 88 = .ok (.invokestatic 143, 3) := by decide +kernel
theorem dX8_ahead_91 : decode cX8_ahead 91 = .ok (.iaload, 1) := by decide +kernel
theorem dX8_ahead_92 : decode cX8_ahead 92 = .ok (.isub, 1) := by decide +kernel
theorem dX8_ahead_93 : decode cX8_ahead 93 = .ok (.ireturn, 1) := by decide +kernel
set_option maxRecDepth 20000 in
theorem ggX8_sees_X8_in : GoodIn wsX8_sees wsX8_in := goodIn_r _ [8] (by decide +kernel) (by decide +kernel)
set_option maxRecDepth 20000 in
theorem gX8_sees_X8_in : GoodIn wsX8_sees (va_wsS RX8 60 yX8_in wsX8_in) := goodIn_app (goodIn_of _ (by decide +kernel)) ggX8_sees_X8_in
theorem dX8_sees_0 : decode cX8_sees 0 = .ok (.aload_n 0, 1) := by decide +kernel
theorem dX8_sees_1 : decode cX8_sees 1 = .ok (.iconst 0, 1) := by decide +kernel
theorem dX8_sees_2 : decode cX8_sees 2 = .ok (.putfield 53, 3) := by decide +kernel
theorem dX8_sees_5 : decode cX8_sees 5 = .ok (.iload_n 1, 1) := by decide +kernel
theorem dX8_sees_6 : decode cX8_sees 6 = .ok (.iconst 1, 1) := by decide +kernel
theorem dX8_sees_7 : decode cX8_sees 7 = .ok (.bipush 40, 2) := by decide +kernel
theorem dX8_sees_9 : decode cX8_sees 9 = .ok (.invokestatic 60, 3) := by decide +kernel
theorem dX8_sees_12 : decode cX8_sees 12 = .ok (.ifCond .eq 14, 3) := by decide +kernel
theorem dX8_sees_15 : decode cX8_sees 15 = .ok (.iload_n 2, 1) := by decide +kernel
theorem dX8_sees_16 : decode cX8_sees 16 = .ok (.iconst 0, 1) := by decide +kernel
theorem dX8_sees_17 : decode cX8_sees 17 = .ok (.sipush 9999, 3) := by decide +kernel
theorem dX8_sees_20 : decode cX8_sees 20 = .ok (.invokestatic 60, 3) := by decide +kernel
theorem dX8_sees_23 : decode cX8_sees 23 = .ok (.ifCond .ne 5, 3) := by decide +kernel
theorem dX8_sees_26 : decode cX8_sees 26 = .ok (.iconst (-1), 1) := by decide +kernel
theorem dX8_sees_27 : decode cX8_sees 27 = .ok (.ireturn, 1) := by decide +kernel
theorem dX8_sees_28 : decode cX8_sees 28 = .ok (.aload_n 0, 1) := by decide +kernel
theorem dX8_sees_29 : decode cX8_sees 29 = .ok (.getfield 133, 3) := by decide +kernel
theorem dX8_sees_32 : decode cX8_sees 32 = .ok (.iconst 4, 1) := by decide +kernel
theorem dX8_sees_33 : decode cX8_sees 33 = .ok (.if_icmp .ne 6, 3) := by decide +kernel
theorem dX8_sees_36 : decode cX8_sees 36 = .ok (.bipush (-3), 2) := by decide +kernel
theorem dX8_sees_38 : decode cX8_sees 38 = .ok (.ireturn, 1) := by decide +kernel
theorem dX8_sees_39 : decode cX8_sees 39 = .ok (.aload_n 0, 1) := by decide +kernel
theorem dX8_sees_40 : decode cX8_sees 40 = .ok (.getfield 38, 3) := by decide +kernel
theorem dX8_sees_43 : decode cX8_sees 43 = .ok (.aload_n 0, 1) := by decide +kernel
theorem dX8_sees_44 : decode cX8_sees 44 = .ok (.getfield 133, 3) := by decide +kernel
theorem dX8_sees_47 : decode cX8_sees 47 = .ok (.iload_n 1, 1) := by decide +kernel
theorem dX8_sees_48 : decode cX8_sees 48 = .ok (.iastore, 1) := by decide +kernel
theorem dX8_sees_49 : decode cX8_sees 49 = .ok (.aload_n 0, 1) := by decide +kernel
theorem dX8_sees_50 : decode cX8_sees 50 = .ok (.getfield 41, 3) := by decide +kernel
theorem dX8_sees_53 : decode cX8_sees 53 = .ok (.aload_n 0, 1) := by decide +kernel
theorem dX8_sees_54 : decode cX8_sees 54 = .ok (.getfield 133, 3) := by decide +kernel
theorem dX8_sees_57 : decode cX8_sees 57 = .ok (.iload_n 2, 1) := by decide +kernel
theorem dX8_sees_58 : decode cX8_sees 58 = .ok (.iastore, 1) := by decide +kernel
theorem dX8_sees_59 : decode cX8_sees 59 = .ok (.aload_n 0, 1) := by decide +kernel
theorem dX8_sees_60 : decode cX8_sees 60 = .ok (.dup, 1) := by decide +kernel
theorem dX8_sees_61 : decode cX8_sees 61 = .ok (.getfield 133, 3) := by decide +kernel
theorem dX8_sees_64 : decode cX8_sees 64 = .ok (.iconst 1, 1) := by decide +kernel
theorem dX8_sees_65 : decode cX8_sees 65 = .ok (.iadd, 1) := by decide +kernel
theorem dX8_sees_66 : decode cX8_sees 66 = .ok (.putfield 133, 3) := by decide +kernel
theorem dX8_sees_69 : decode cX8_sees 69 = .ok (.aload_n 0, 1) := by decide +kernel
theorem dX8_sees_70 : decode cX8_sees 70 = .ok (.getfield 133, 3) := by decide +kernel
theorem dX8_sees_73 : decode cX8_sees 73 = .ok (.ireturn, 1) := by decide +kernel
theorem dX8_forget_0 : decode cX8_forget 0 = .ok (.aload_n 0, 1) := by decide +kernel
theorem dX8_forget_1 : decode cX8_forget 1 = .ok (.iconst 0, 1) := by decide +kernel
theorem dX8_forget_2 : decode cX8_forget 2 = .ok (.putfield 53, 3) := by decide +kernel
theorem dX8_forget_5 : decode cX8_forget 5 = .ok (.aload_n 0, 1) := by decide +kernel
theorem dX8_forget_6 : decode cX8_forget 6 = .ok (.getfield 133, 3) := by decide +kernel
theorem dX8_forget_9 : decode cX8_forget 9 = .ok (.istore_n 1, 1) := by decide +kernel
theorem dX8_forget_10 : decode cX8_forget 10 = .ok (.aload_n 0, 1) := by decide +kernel
theorem dX8_forget_11 : decode cX8_forget 11 = .ok (.iconst 0, 1) := by decide +kernel
theorem dX8_forget_12 : decode cX8_forget 12 = .ok (.putfield 133, 3) := by decide +kernel
theorem dX8_forget_15 : decode cX8_forget 15 = .ok (.iload_n 1, 1) := by decide +kernel
theorem dX8_forget_16 : decode cX8_forget 16 = .ok (.ireturn, 1) := by decide +kernel
set_option maxRecDepth 20000 in
theorem ggX8_isSo_X8_copies : GoodIn wsX8_isSo wsX8_copies := goodIn_r _ [10] (by decide +kernel) (by decide +kernel)
set_option maxRecDepth 20000 in
theorem gX8_isSo_X8_copies : GoodIn wsX8_isSo (wsV RX8 199 RX8 yX8_copies wsX8_copies) := goodIn_app (goodIn_of _ (by decide +kernel)) ggX8_isSo_X8_copies
set_option maxRecDepth 20000 in
theorem ggX8_isSo_X8_deafen : GoodIn wsX8_isSo wsX8_deafen := goodIn_r _ [14, 1, 15, 16, 17, 9, 18, 19, 20, 21, 90, 91, 92, 93, 94, 95, 96, 97, 98, 99, 100, 101, 102, 103, 104, 105, 106, 107, 108, 109, 110, 111, 112, 113, 114, 115, 116, 117, 118, 119, 120, 121] (by decide +kernel) (by decide +kernel)
set_option maxRecDepth 20000 in
theorem gX8_isSo_X8_deafen : GoodIn wsX8_isSo (wsV RX8 215 RX8 yX8_deafen wsX8_deafen) := goodIn_app (goodIn_of _ (by decide +kernel)) ggX8_isSo_X8_deafen
set_option maxRecDepth 20000 in
theorem ggX8_isSo_X8_step : GoodIn wsX8_isSo wsX8_step := goodIn_r _ [25, 26, 1, 27, 28, 29, 30, 9, 31, 32, 33, 34, 35, 36, 37, 38, 39, 40, 19, 20, 21, 41, 42, 43, 44, 45, 46, 47, 48, 49, 50, 51, 52, 53, 54, 55, 56, 57, 58, 59, 60, 61, 4, 15, 16, 17, 18, 62, 63, 64, 65, 66, 67, 68, 69, 70, 71, 72, 73, 74, 75, 76, 77, 78, 79, 80, 81, 82, 83, 84, 85, 86, 87, 88, 89, 90, 91, 92, 93, 94, 95, 96, 97, 98, 99, 100, 101, 102, 103, 104, 105, 106, 107, 108, 109, 110, 111, 112, 113, 114, 115, 116, 117, 118, 119, 120, 121] (by decide +kernel) (by decide +kernel)
set_option maxRecDepth 20000 in
theorem gX8_isSo_X8_step : GoodIn wsX8_isSo (wsV RX8 209 RX8 yX8_step wsX8_step) := goodIn_app (goodIn_of _ (by decide +kernel)) ggX8_isSo_X8_step
theorem dX8_isSo_0 : decode cX8_isSo 0 = .ok (.aload_n 0, 1) := by decide +kernel
theorem dX8_isSo_1 : decode cX8_isSo 1 = .ok (.aload_n 0, 1) := by decide +kernel
theorem dX8_isSo_2 : decode cX8_isSo 2 = .ok (.getfield 22, 3) := by decide +kernel
theorem dX8_isSo_5 : decode cX8_isSo 5 = .ok (.aload_n 0, 1) := by decide +kernel
theorem dX8_isSo_6 : decode cX8_isSo 6 = .ok (.getfield 35, 3) := by decide +kernel
theorem dX8_isSo_9 : decode cX8_isSo 9 = .ok (.iconst 0, 1) := by decide +kernel
theorem dX8_isSo_10 : decode cX8_isSo 10 = .ok (.iconst 0, 1) := by decide +kernel
theorem dX8_isSo_11 : decode cX8_isSo 11 = .ok (.invokevirtual 199, 3) := by decide +kernel
theorem dX8_isSo_14 : decode cX8_isSo 14 = .ok (.aload_n 0, 1) := by decide +kernel
theorem dX8_isSo_15 : decode cX8_isSo 15 = .ok (.iload_n 1, 1) := by decide +kernel
theorem dX8_isSo_16 : decode cX8_isSo 16 = .ok (.aload_n 0, 1) := by decide +kernel
theorem dX8_isSo_17 : decode cX8_isSo 17 = .ok (.getfield 22, 3) := by decide +kernel
theorem dX8_isSo_20 : decode cX8_isSo 20 = .ok (.iconst 0, 1) := by decide +kernel
theorem dX8_isSo_21 : decode cX8_isSo 21 = .ok (.iaload, 1) := by decide +kernel
theorem dX8_isSo_22 : decode cX8_isSo 22 = .ok (.aload_n 0, 1) := by decide +kernel
theorem dX8_isSo_23 : decode cX8_isSo 23 = .ok (.getfield 22, 3) := by decide +kernel
theorem dX8_isSo_26 : decode cX8_isSo 26 = .ok (.iconst 0, 1) := by decide +kernel
theorem dX8_isSo_27 : decode cX8_isSo 27 = .ok (.iaload, 1) := by decide +kernel
theorem dX8_isSo_28 : decode cX8_isSo 28 = .ok (.aload_n 0, 1) := by decide +kernel
theorem dX8_isSo_29 : decode cX8_isSo 29 = .ok (.getfield 38, 3) := by decide +kernel
theorem dX8_isSo_32 : decode cX8_isSo 32 = .ok (.iload_n 2, 1) := by decide +kernel
theorem dX8_isSo_33 : decode cX8_isSo 33 = .ok (.iaload, 1) := by decide +kernel
theorem dX8_isSo_34 : decode cX8_isSo 34 = .ok (.iadd, 1) := by decide +kernel
theorem dX8_isSo_35 : decode cX8_isSo 35 = .ok (.iconst 1, 1) := by decide +kernel
theorem dX8_isSo_36 : decode cX8_isSo 36 = .ok (.isub, 1) := by decide +kernel
theorem dX8_isSo_37 : decode cX8_isSo 37 = .ok (.invokevirtual 215, 3) := by decide +kernel
theorem dX8_isSo_40 : decode cX8_isSo 40 = .ok (.pop, 1) := by decide +kernel
theorem dX8_isSo_41 : decode cX8_isSo 41 = .ok (.aload_n 0, 1) := by decide +kernel
theorem dX8_isSo_42 : decode cX8_isSo 42 = .ok (.iconst 0, 1) := by decide +kernel
theorem dX8_isSo_43 : decode cX8_isSo 43 = .ok (.putfield 156, 3) := by decide +kernel
theorem dX8_isSo_46 : decode cX8_isSo 46 = .ok (.iconst 0, 1) := by decide +kernel
theorem dX8_isSo_47 : decode cX8_isSo 47 = .ok (.istore_n 3, 1) := by decide +kernel
theorem dX8_isSo_48 : decode cX8_isSo 48 = .ok (.iload_n 3, 1) := by decide +kernel
theorem dX8_isSo_49 : decode cX8_isSo 49 = .ok (.aload_n 0, 1) := by decide +kernel
theorem dX8_isSo_50 : decode cX8_isSo 50 = .ok (.getfield 38, 3) := by decide +kernel
theorem dX8_isSo_53 : decode cX8_isSo 53 = .ok (.iload_n 2, 1) := by decide +kernel
theorem dX8_isSo_54 : decode cX8_isSo 54 = .ok (.iaload, 1) := by decide +kernel
theorem dX8_isSo_55 : decode cX8_isSo 55 = .ok (.if_icmp .ge 13, 3) := by decide +kernel
theorem dX8_isSo_58 : decode cX8_isSo 58 = .ok (.aload_n 0, 1) := by decide +kernel
theorem dX8_isSo_59 : decode cX8_isSo 59 = .ok (.invokevirtual 209, 3) := by decide +kernel
theorem dX8_isSo_62 : decode cX8_isSo 62 = .ok (.iinc 3 1, 3) := by decide +kernel
theorem dX8_isSo_65 : decode cX8_isSo 65 = .ok (.goto (-17), 3) := by decide +kernel
theorem dX8_isSo_68 : decode cX8_isSo 68 = .ok (.aload_n 0, 1) := by decide +kernel
theorem dX8_isSo_69 : decode cX8_isSo 69 = .ok (.aload_n 0, 1) := by decide +kernel
theorem dX8_isSo_70 : decode cX8_isSo 70 = .ok (.getfield 35, 3) := by decide +kernel
theorem dX8_isSo_73 : decode cX8_isSo 73 = .ok (.aload_n 0, 1) := by decide +kernel
theorem dX8_isSo_74 : decode cX8_isSo 74 = .ok (.getfield 22, 3) := by decide +kernel
theorem dX8_isSo_77 : decode cX8_isSo 77 = .ok (.iconst 0, 1) := by decide +kernel
theorem dX8_isSo_78 : decode cX8_isSo 78 = .ok (.iconst 0, 1) := by decide +kernel
theorem dX8_isSo_79 : decode cX8_isSo 79 = .ok (.invokevirtual 199, 3) := by decide +kernel
theorem dX8_isSo_82 : decode cX8_isSo 82 = .ok (.aload_n 0, 1) := by decide +kernel
theorem dX8_isSo_83 : decode cX8_isSo 83 = .ok (.getfield 156, 3) := by decide +kernel
theorem dX8_isSo_86 : decode cX8_isSo 86 = .ok (.aload_n 0, 1) := by decide +kernel
theorem dX8_isSo_87 : decode cX8_isSo 87 = .ok (.getfield 41, 3) := by decide +kernel
theorem dX8_isSo_90 : decode cX8_isSo 90 = .ok (.iload_n 2, 1) := by decide +kernel
theorem dX8_isSo_91 : decode cX8_isSo 91 = .ok (.iaload, 1) := by decide +kernel
theorem dX8_isSo_92 : decode cX8_isSo 92 = .ok (.if_icmp .ne 7, 3) := by decide +kernel
theorem dX8_isSo_95 : decode cX8_isSo 95 = .ok (.iconst 1, 1) := by decide +kernel
theorem dX8_isSo_96 : decode cX8_isSo 96 = .ok (.goto 4, 3) := by decide +kernel
theorem dX8_isSo_99 : decode cX8_isSo 99 = .ok (.iconst 0, 1) := by decide +kernel
theorem dX8_isSo_100 : decode cX8_isSo 100 = .ok (.ireturn, 1) := by decide +kernel
set_option maxRecDepth 20000 in
theorem ggX8_unseen_X8_isSo : GoodIn wsX8_unseen wsX8_isSo := goodIn_r _ [8, 9, 10, 11, 12, 13, 14, 15, 16, 7, 17, 18, 19, 20, 21, 22, 23, 24, 25, 26, 27, 28, 29, 30, 31, 32, 33, 34, 2, 35, 36, 37, 38, 39, 40, 41, 42, 43, 44, 45, 46, 47, 48, 49, 50, 51, 52, 53, 54, 55, 56, 57, 58, 59, 60, 61, 62, 63, 64, 65, 66, 67, 68, 69, 70, 71, 72, 73, 74, 75, 76, 77, 78, 79, 80, 81, 82, 83, 84, 85, 86, 87, 88, 89, 90, 91, 92, 93, 94, 95, 96, 97, 98, 99, 100, 101, 102, 103, 104, 105, 106, 107, 108, 109, 110, 111, 112, 113, 114, 115, 116, 117, 118, 119, 120, 121, 122, 123, 124, 125, 126, 127] (by decide +kernel) (by decide +kernel)
set_option maxRecDepth 20000 in
theorem gX8_unseen_X8_isSo : GoodIn wsX8_unseen (wsV RX8 231 RX8 yX8_isSo wsX8_isSo) := goodIn_app (goodIn_of _ (by decide +kernel)) ggX8_unseen_X8_isSo
theorem dX8_unseen_0 : decode cX8_unseen 0 = .ok (.aload_n 0, 1) := by decide +kernel
theorem dX8_unseen_1 : decode cX8_unseen 1 = .ok (.iconst 0, 1) := by decide +kernel
theorem dX8_unseen_2 : decode cX8_unseen 2 = .ok (.putfield 53, 3) := by decide +kernel
theorem dX8_unseen_5 : decode cX8_unseen 5 = .ok (.iconst 0, 1) := by decide +kernel
theorem dX8_unseen_6 : decode cX8_unseen 6 = .ok (.istore_n 1, 1) := by decide +kernel
theorem dX8_unseen_7 : decode cX8_unseen 7 = .ok (.iconst 0, 1) := by decide +kernel
theorem dX8_unseen_8 : decode cX8_unseen 8 = .ok (.istore_n 2, 1) := by decide +kernel
theorem dX8_unseen_9 : decode cX8_unseen 9 = .ok (.iload_n 2, 1) := by decide +kernel
theorem dX8_unseen_10 : decode cX8_unseen 10 = .ok (.aload_n 0, 1) := by decide +kernel
theorem dX8_unseen_11 : decode cX8_unseen 11 = .ok (.getfield 57, 3) := by decide +kernel
theorem dX8_unseen_14 : decode cX8_unseen 14 = .ok (.if_icmp .ge 55, 3) := by decide +kernel
theorem dX8_unseen_17 : decode cX8_unseen 17 = .ok (.iconst 1, 1) := by decide +kernel
theorem dX8_unseen_18 : decode cX8_unseen 18 = .ok (.istore_n 3, 1) := by decide +kernel
theorem dX8_unseen_19 : decode cX8_unseen 19 = .ok (.iconst 0, 1) := by decide +kernel
theorem dX8_unseen_20 : decode cX8_unseen 20 = .ok (.istore 4, 2) := by decide +kernel
theorem dX8_unseen_22 : decode cX8_unseen 22 = .ok (.iload 4, 2) := by decide +kernel
theorem dX8_unseen_24 : decode cX8_unseen 24 = .ok (.aload_n 0, 1) := by decide +kernel
theorem dX8_unseen_25 : decode cX8_unseen 25 = .ok (.getfield 133, 3) := by decide +kernel
theorem dX8_unseen_28 : decode cX8_unseen 28 = .ok (.if_icmp .ge 21, 3) := by decide +kernel
theorem dX8_unseen_31 : decode cX8_unseen 31 = .ok (.iload_n 3, 1) := by decide +kernel
theorem dX8_unseen_32 : decode cX8_unseen 32 = .ok (.ifCond .eq 17, 3) := by decide +kernel
theorem dX8_unseen_35 : decode cX8_unseen 35 = .ok (.aload_n 0, 1) := by decide +kernel
theorem dX8_unseen_36 : decode cX8_unseen 36 = .ok (.iload_n 2, 1) := by decide +kernel
theorem dX8_unseen_37 : decode cX8_unseen 37 = .ok (.iload 4, 2) := by decide +kernel
theorem dX8_unseen_39 : decode cX8_unseen 39 = .ok (.invokevirtual 231, 3) := by decide +kernel
theorem dX8_unseen_42 : decode cX8_unseen 42 = .ok (.istore_n 3, 1) := by decide +kernel
theorem dX8_unseen_43 : decode cX8_unseen 43 = .ok (.iinc 4 1, 3) := by decide +kernel
theorem dX8_unseen_46 : decode cX8_unseen 46 = .ok (.goto (-24), 3) := by decide +kernel
theorem dX8_unseen_49 : decode cX8_unseen 49 = .ok (.iload_n 1, 1) := by decide +kernel
theorem dX8_unseen_50 : decode cX8_unseen 50 = .ok (.iload_n 3, 1) := by decide +kernel
theorem dX8_unseen_51 : decode cX8_unseen 51 = .ok (.ifCond .eq 9, 3) := by decide +kernel
theorem dX8_unseen_54 : decode cX8_unseen 54 = .ok (.iconst 1, 1) := by decide +kernel
theorem dX8_unseen_55 : decode cX8_unseen 55 = .ok (.iload_n 2, 1) := by decide +kernel
theorem dX8_unseen_56 : decode cX8_unseen 56 = .ok (.ishl, 1) := by decide +kernel
theorem dX8_unseen_57 : decode cX8_unseen 57 = .ok (.goto 4, 3) := by decide +kernel
theorem dX8_unseen_60 : decode cX8_unseen 60 = .ok (.iconst 0, 1) := by decide +kernel
theorem dX8_unseen_61 : decode cX8_unseen 61 = .ok (.ior, 1) := by decide +kernel
theorem dX8_unseen_62 : decode cX8_unseen 62 = .ok (.istore_n 1, 1) := by decide +kernel
theorem dX8_unseen_63 : decode cX8_unseen 63 = .ok (.iinc 2 1, 3) := by decide +kernel
theorem dX8_unseen_66 : decode cX8_unseen 66 = .ok (.goto (-57), 3) := by decide +kernel
theorem dX8_unseen_69 : decode cX8_unseen 69 = .ok (.iload_n 1, 1) := by decide +kernel
theorem dX8_unseen_70 : decode cX8_unseen 70 = .ok (.ireturn, 1) := by decide +kernel
set_option maxRecDepth 20000 in
theorem ggX8_keep_X8_in : GoodIn wsX8_keep wsX8_in := goodIn_r _ [8] (by decide +kernel) (by decide +kernel)
set_option maxRecDepth 20000 in
theorem gX8_keep_X8_in : GoodIn wsX8_keep (va_wsS RX8 60 yX8_in wsX8_in) := goodIn_app (goodIn_of _ (by decide +kernel)) ggX8_keep_X8_in
set_option maxRecDepth 20000 in
theorem ggX8_keep_X8_copies : GoodIn wsX8_keep wsX8_copies := goodIn_r _ [12] (by decide +kernel) (by decide +kernel)
set_option maxRecDepth 20000 in
theorem gX8_keep_X8_copies : GoodIn wsX8_keep (wsV RX8 199 RX8 yX8_copies wsX8_copies) := goodIn_app (goodIn_of _ (by decide +kernel)) ggX8_keep_X8_copies
theorem dX8_keep_0 : decode cX8_keep 0 = .ok (.aload_n 0, 1) := by decide +kernel
theorem dX8_keep_1 : decode cX8_keep 1 = .ok (.iconst 0, 1) := by decide +kernel
theorem dX8_keep_2 : decode cX8_keep 2 = .ok (.putfield 53, 3) := by decide +kernel
theorem dX8_keep_5 : decode cX8_keep 5 = .ok (.iload_n 1, 1) := by decide +kernel
theorem dX8_keep_6 : decode cX8_keep 6 = .ok (.iconst 0, 1) := by decide +kernel
theorem dX8_keep_7 : decode cX8_keep 7 = .ok (.iconst 1, 1) := by decide +kernel
theorem dX8_keep_8 : decode cX8_keep 8 = .ok (.invokestatic 60, 3) := by decide +kernel
theorem dX8_keep_11 : decode cX8_keep 11 = .ok (.ifCond .ne 5, 3) := by decide +kernel
theorem dX8_keep_14 : decode cX8_keep 14 = .ok (.iconst (-1), 1) := by decide +kernel
theorem dX8_keep_15 : decode cX8_keep 15 = .ok (.ireturn, 1) := by decide +kernel
theorem dX8_keep_16 : decode cX8_keep 16 = .ok (.aload_n 0, 1) := by decide +kernel
theorem dX8_keep_17 : decode cX8_keep 17 = .ok (.aload_n 0, 1) := by decide +kernel
theorem dX8_keep_18 : decode cX8_keep 18 = .ok (.getfield 22, 3) := by decide +kernel
theorem dX8_keep_21 : decode cX8_keep 21 = .ok (.aload_n 0, 1) := by decide +kernel
theorem dX8_keep_22 : decode cX8_keep 22 = .ok (.getfield 28, 3) := by decide +kernel
theorem dX8_keep_25 : decode cX8_keep 25 = .ok (.iconst 0, 1) := by decide +kernel
theorem dX8_keep_26 : decode cX8_keep 26 = .ok (.sipush 667, 3) := by decide +kernel
theorem dX8_keep_29 : decode cX8_keep 29 = .ok (.iload_n 1, 1) := by decide +kernel
theorem dX8_keep_30 : decode cX8_keep 30 = .ok (.imul, 1) := by decide +kernel
theorem dX8_keep_31 : decode cX8_keep 31 = .ok (.invokevirtual 199, 3) := by decide +kernel
theorem dX8_keep_34 : decode cX8_keep 34 = .ok (.aload_n 0, 1) := by decide +kernel
theorem dX8_keep_35 : decode cX8_keep 35 = .ok (.getfield 31, 3) := by decide +kernel
theorem dX8_keep_38 : decode cX8_keep 38 = .ok (.iload_n 1, 1) := by decide +kernel
theorem dX8_keep_39 : decode cX8_keep 39 = .ok (.iconst 1, 1) := by decide +kernel
theorem dX8_keep_40 : decode cX8_keep 40 = .ok (.bastore, 1) := by decide +kernel
theorem dX8_keep_41 : decode cX8_keep 41 = .ok (.aload_n 0, 1) := by decide +kernel
theorem dX8_keep_42 : decode cX8_keep 42 = .ok (.getfield 22, 3) := by decide +kernel
theorem dX8_keep_45 : decode cX8_keep 45 = .ok (.iconst 0, 1) := by decide +kernel
theorem dX8_keep_46 : decode cX8_keep 46 = .ok (.iaload, 1) := by decide +kernel
theorem dX8_keep_47 : decode cX8_keep 47 = .ok (.ireturn, 1) := by decide +kernel
set_option maxRecDepth 20000 in
theorem ggX8_back_X8_in : GoodIn wsX8_back wsX8_in := goodIn_r _ [9] (by decide +kernel) (by decide +kernel)
set_option maxRecDepth 20000 in
theorem gX8_back_X8_in : GoodIn wsX8_back (va_wsS RX8 60 yX8_in wsX8_in) := goodIn_app (goodIn_of _ (by decide +kernel)) ggX8_back_X8_in
set_option maxRecDepth 20000 in
theorem ggX8_back_X8_copies : GoodIn wsX8_back wsX8_copies := goodIn_r _ [13] (by decide +kernel) (by decide +kernel)
set_option maxRecDepth 20000 in
theorem gX8_back_X8_copies : GoodIn wsX8_back (wsV RX8 199 RX8 yX8_copies wsX8_copies) := goodIn_app (goodIn_of _ (by decide +kernel)) ggX8_back_X8_copies
theorem dX8_back_0 : decode cX8_back 0 = .ok (.aload_n 0, 1) := by decide +kernel
theorem dX8_back_1 : decode cX8_back 1 = .ok (.iconst 0, 1) := by decide +kernel
theorem dX8_back_2 : decode cX8_back 2 = .ok (.putfield 53, 3) := by decide +kernel
theorem dX8_back_5 : decode cX8_back 5 = .ok (.iload_n 1, 1) := by decide +kernel
theorem dX8_back_6 : decode cX8_back 6 = .ok (.iconst 0, 1) := by decide +kernel
theorem dX8_back_7 : decode cX8_back 7 = .ok (.iconst 1, 1) := by decide +kernel
theorem dX8_back_8 : decode cX8_back 8 = .ok (.invokestatic 60, 3) := by decide +kernel
theorem dX8_back_11 : decode cX8_back 11 = .ok (.ifCond .ne 5, 3) := by decide +kernel
theorem dX8_back_14 : decode cX8_back 14 = .ok (.iconst (-1), 1) := by decide +kernel
theorem dX8_back_15 : decode cX8_back 15 = .ok (.ireturn, 1) := by decide +kernel
theorem dX8_back_16 : decode cX8_back 16 = .ok (.aload_n 0, 1) := by decide +kernel
theorem dX8_back_17 : decode cX8_back 17 = .ok (.getfield 31, 3) := by decide +kernel
theorem dX8_back_20 : decode cX8_back 20 = .ok (.iload_n 1, 1) := by decide +kernel
theorem dX8_back_21 : decode cX8_back 21 = .ok (.baload, 1) := by decide +kernel
theorem dX8_back_22 : decode cX8_back 22 = .ok (.ifCond .ne 6, 3) := by decide +kernel
theorem dX8_back_25 : decode cX8_back 25 = .ok (.bipush (-2), 2) := by decide +kernel
theorem dX8_back_27 : decode cX8_back 27 = .ok (.ireturn, 1) := by decide +kernel
theorem dX8_back_28 : decode cX8_back 28 = .ok (.aload_n 0, 1) := by decide +kernel
theorem dX8_back_29 : decode cX8_back 29 = .ok (.aload_n 0, 1) := by decide +kernel
theorem dX8_back_30 : decode cX8_back 30 = .ok (.getfield 28, 3) := by decide +kernel
theorem dX8_back_33 : decode cX8_back 33 = .ok (.aload_n 0, 1) := by decide +kernel
theorem dX8_back_34 : decode cX8_back 34 = .ok (.getfield 22, 3) := by decide +kernel
theorem dX8_back_37 : decode cX8_back 37 = .ok (.sipush 667, 3) := by decide +kernel
theorem dX8_back_40 : decode cX8_back 40 = .ok (.iload_n 1, 1) := by decide +kernel
theorem dX8_back_41 : decode cX8_back 41 = .ok (.imul, 1) := by decide +kernel
theorem dX8_back_42 : decode cX8_back 42 = .ok (.iconst 0, 1) := by decide +kernel
theorem dX8_back_43 : decode cX8_back 43 = .ok (.invokevirtual 199, 3) := by decide +kernel
theorem dX8_back_46 : decode cX8_back 46 = .ok (.aload_n 0, 1) := by decide +kernel
theorem dX8_back_47 : decode cX8_back 47 = .ok (.iconst 0, 1) := by decide +kernel
theorem dX8_back_48 : decode cX8_back 48 = .ok (.putfield 130, 3) := by decide +kernel
theorem dX8_back_51 : decode cX8_back 51 = .ok (.aload_n 0, 1) := by decide +kernel
theorem dX8_back_52 : decode cX8_back 52 = .ok (.getfield 22, 3) := by decide +kernel
theorem dX8_back_55 : decode cX8_back 55 = .ok (.iconst 0, 1) := by decide +kernel
theorem dX8_back_56 : decode cX8_back 56 = .ok (.iaload, 1) := by decide +kernel
theorem dX8_back_57 : decode cX8_back 57 = .ok (.ireturn, 1) := by decide +kernel
theorem dX8_count_0 : decode cX8_count 0 = .ok (.aload_n 0, 1) := by decide +kernel
theorem dX8_count_1 : decode cX8_count 1 = .ok (.iconst 0, 1) := by decide +kernel
theorem dX8_count_2 : decode cX8_count 2 = .ok (.putfield 53, 3) := by decide +kernel
theorem dX8_count_5 : decode cX8_count 5 = .ok (.iload_n 1, 1) := by decide +kernel
theorem dX8_count_6 : decode cX8_count 6 = .ok (.tableswitch 130 0 11 #[62, 67, 72, 79, 84, 89, 94, 101, 108, 115, 120, 125], 62) := by decide +kernel
theorem dX8_count_68 : decode cX8_count 68 = .ok (.aload_n 0, 1) := by decide +kernel
theorem dX8_count_69 : decode cX8_count 69 = .ok (.getfield 57, 3) := by decide +kernel
theorem dX8_count_72 : decode cX8_count 72 = .ok (.ireturn, 1) := by decide +kernel
theorem dX8_count_73 : decode cX8_count 73 = .ok (.aload_n 0, 1) := by decide +kernel
theorem dX8_count_74 : decode cX8_count 74 = .ok (.getfield 64, 3) := by decide +kernel
theorem dX8_count_77 : decode cX8_count 77 = .ok (.ireturn, 1) := by decide +kernel
theorem dX8_count_78 : decode cX8_count 78 = .ok (.aload_n 0, 1) := by decide +kernel
theorem dX8_count_79 : decode cX8_count 79 = .ok (.getfield 22, 3) := by decide +kernel
theorem dX8_count_82 : decode cX8_count 82 = .ok (.iconst 1, 1) := by decide +kernel
theorem dX8_count_83 : decode cX8_count 83 = .ok (.iaload, 1) := by decide +kernel
theorem dX8_count_84 : decode cX8_count 84 = .ok (.ireturn, 1) := by decide +kernel
theorem dX8_count_85 : decode cX8_count 85 = .ok (.aload_n 0, 1) := by decide +kernel
theorem dX8_count_86 : decode cX8_count 86 = .ok (.getfield 121, 3) := by decide +kernel
theorem dX8_count_89 : decode cX8_count 89 = .ok (.ireturn, 1) := by decide +kernel
theorem dX8_count_90 : decode cX8_count 90 = .ok (.aload_n 0, 1) := by decide +kernel
theorem dX8_count_91 : decode cX8_count 91 = .ok (.getfield 124, 3) := by decide +kernel
theorem dX8_count_94 : decode cX8_count 94 = .ok (.ireturn, 1) := by decide +kernel
theorem dX8_count_95 : decode cX8_count 95 = .ok (.aload_n 0, 1) := by decide +kernel
theorem dX8_count_96 : decode cX8_count 96 = .ok (.getfield 127, 3) := by decide +kernel
theorem dX8_count_99 : decode cX8_count 99 = .ok (.ireturn, 1) := by decide +kernel
theorem dX8_count_100 : decode cX8_count 100 = .ok (.aload_n 0, 1) := by decide +kernel
theorem dX8_count_101 : decode cX8_count 101 = .ok (.getfield 22, 3) := by decide +kernel
theorem dX8_count_104 : decode cX8_count 104 = .ok (.iconst 0, 1) := by decide +kernel
theorem dX8_count_105 : decode cX8_count 105 = .ok (.iaload, 1) := by decide +kernel
theorem dX8_count_106 : decode cX8_count 106 = .ok (.ireturn, 1) := by decide +kernel
theorem dX8_count_107 : decode cX8_count 107 = .ok (.aload_n 0, 1) := by decide +kernel
theorem dX8_count_108 : decode cX8_count 108 = .ok (.getfield 22, 3) := by decide +kernel
theorem dX8_count_111 : decode cX8_count 111 = .ok (.iconst 3, 1) := by decide +kernel
theorem dX8_count_112 : decode cX8_count 112 = .ok (.iaload, 1) := by decide +kernel
theorem dX8_count_113 : decode cX8_count 113 = .ok (.ireturn, 1) := by decide +kernel
theorem dX8_count_114 : decode cX8_count 114 = .ok (.aload_n 0, 1) := by decide +kernel
theorem dX8_count_115 : decode cX8_count 115 = .ok (.getfield 22, 3) := by decide +kernel
theorem dX8_count_118 : decode cX8_count 118 = .ok (.iconst 2, 1) := by decide +kernel
theorem dX8_count_119 : decode cX8_count 119 = .ok (.iaload, 1) := by decide +kernel
theorem dX8_count_120 : decode cX8_count 120 = .ok (.ireturn, 1) := by decide +kernel
theorem dX8_count_121 : decode cX8_count 121 = .ok (.aload_n 0, 1) := by decide +kernel
theorem dX8_count_122 : decode cX8_count 122 = .ok (.getfield 133, 3) := by decide +kernel
theorem dX8_count_125 : decode cX8_count 125 = .ok (.ireturn, 1) := by decide +kernel
theorem dX8_count_126 : decode cX8_count 126 = .ok (.aload_n 0, 1) := by decide +kernel
theorem dX8_count_127 : decode cX8_count 127 = .ok (.getfield 67, 3) := by decide +kernel
theorem dX8_count_130 : decode cX8_count 130 = .ok (.ireturn, 1) := by decide +kernel
theorem dX8_count_131 : decode cX8_count 131 = .ok (.aload_n 0, 1) := by decide +kernel
theorem dX8_count_132 : decode cX8_count 132 = .ok (.getfield 130, 3) := by decide +kernel
theorem dX8_count_135 : decode cX8_count 135 = .ok (.ireturn, 1) := by decide +kernel
theorem dX8_count_136 : decode cX8_count 136 = .ok (.iconst (-1), 1) := by decide +kernel
theorem dX8_count_137 : decode cX8_count 137 = .ok (.ireturn, 1) := by decide +kernel
