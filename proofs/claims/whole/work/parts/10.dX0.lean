theorem dX0_init_0 : decode cX0_init 0 = .ok (.aload_n 0, 1) := by decide +kernel
theorem dX0_init_1 : decode cX0_init 1 = .ok (.invokespecial 3, 3) := by decide +kernel
theorem dX0_init_4 : decode cX0_init 4 = .ok (.aload_n 0, 1) := by decide +kernel
theorem dX0_init_5 : decode cX0_init 5 = .ok (.iconst 0, 1) := by decide +kernel
theorem dX0_init_6 : decode cX0_init 6 = .ok (.putfield 9, 3) := by decide +kernel
theorem dX0_init_9 : decode cX0_init 9 = .ok (.aload_n 0, 1) := by decide +kernel
theorem dX0_init_10 : decode cX0_init 10 = .ok (.bipush 60, 2) := by decide +kernel
theorem dX0_init_12 : decode cX0_init 12 = .ok (.newarray .int, 2) := by decide +kernel
theorem dX0_init_14 : decode cX0_init 14 = .ok (.putfield 15, 3) := by decide +kernel
theorem dX0_init_17 : decode cX0_init 17 = .ok (.aload_n 0, 1) := by decide +kernel
theorem dX0_init_18 : decode cX0_init 18 = .ok (.bipush 60, 2) := by decide +kernel
theorem dX0_init_20 : decode cX0_init 20 = .ok (.newarray .int, 2) := by decide +kernel
theorem dX0_init_22 : decode cX0_init 22 = .ok (.putfield 19, 3) := by decide +kernel
theorem dX0_init_25 : decode cX0_init 25 = .ok (.aload_n 0, 1) := by decide +kernel
theorem dX0_init_26 : decode cX0_init 26 = .ok (.bipush 60, 2) := by decide +kernel
theorem dX0_init_28 : decode cX0_init 28 = .ok (.newarray .int, 2) := by decide +kernel
theorem dX0_init_30 : decode cX0_init 30 = .ok (.putfield 22, 3) := by decide +kernel
theorem dX0_init_33 : decode cX0_init 33 = .ok (.aload_n 0, 1) := by decide +kernel
theorem dX0_init_34 : decode cX0_init 34 = .ok (.bipush 60, 2) := by decide +kernel
theorem dX0_init_36 : decode cX0_init 36 = .ok (.newarray .int, 2) := by decide +kernel
theorem dX0_init_38 : decode cX0_init 38 = .ok (.putfield 25, 3) := by decide +kernel
theorem dX0_init_41 : decode cX0_init 41 = .ok (.aload_n 0, 1) := by decide +kernel
theorem dX0_init_42 : decode cX0_init 42 = .ok (.sipush 360, 3) := by decide +kernel
theorem dX0_init_45 : decode cX0_init 45 = .ok (.newarray .int, 2) := by decide +kernel
theorem dX0_init_47 : decode cX0_init 47 = .ok (.putfield 28, 3) := by decide +kernel
theorem dX0_init_50 : decode cX0_init 50 = .ok (.return_, 1) := by decide +kernel
theorem dX0_open_0 : decode cX0_open 0 = .ok (.aload_n 0, 1) := by decide +kernel
theorem dX0_open_1 : decode cX0_open 1 = .ok (.getfield 9, 3) := by decide +kernel
theorem dX0_open_4 : decode cX0_open 4 = .ok (.ifCond .lt 12, 3) := by decide +kernel
theorem dX0_open_7 : decode cX0_open 7 = .ok (.aload_n 0, 1) := by decide +kernel
theorem dX0_open_8 : decode cX0_open 8 = .ok (.getfield 9, 3) := by decide +kernel
theorem dX0_open_11 : decode cX0_open 11 = .ok (.bipush 60, 2) := by decide +kernel
theorem dX0_open_13 : decode cX0_open 13 = .ok (.if_icmp .lt 5, 3) := by decide +kernel
theorem dX0_open_16 : decode cX0_open 16 = .ok (.iconst (-1), 1) := by decide +kernel
theorem dX0_open_17 : decode cX0_open 17 = .ok (.ireturn, 1) := by decide +kernel
theorem dX0_open_18 : decode cX0_open 18 = .ok (.aload_n 0, 1) := by decide +kernel
theorem dX0_open_19 : decode cX0_open 19 = .ok (.getfield 9, 3) := by decide +kernel
theorem dX0_open_22 : decode cX0_open 22 = .ok (.istore_n 2, 1) := by decide +kernel
theorem dX0_open_23 : decode cX0_open 23 = .ok (.aload_n 0, 1) := by decide +kernel
theorem dX0_open_24 : decode cX0_open 24 = .ok (.getfield 15, 3) := by decide +kernel
theorem dX0_open_27 : decode cX0_open 27 = .ok (.iload_n 2, 1) := by decide +kernel
theorem dX0_open_28 : decode cX0_open 28 = .ok (.iload_n 1, 1) := by decide +kernel
theorem dX0_open_29 : decode cX0_open 29 = .ok (.iastore, 1) := by decide +kernel
theorem dX0_open_30 : decode cX0_open 30 = .ok (.aload_n 0, 1) := by decide +kernel
theorem dX0_open_31 : decode cX0_open 31 = .ok (.getfield 19, 3) := by decide +kernel
theorem dX0_open_34 : decode cX0_open 34 = .ok (.iload_n 2, 1) := by decide +kernel
theorem dX0_open_35 : decode cX0_open 35 = .ok (.iconst (-1), 1) := by decide +kernel
theorem dX0_open_36 : decode cX0_open 36 = .ok (.iastore, 1) := by decide +kernel
theorem dX0_open_37 : decode cX0_open 37 = .ok (.aload_n 0, 1) := by decide +kernel
theorem dX0_open_38 : decode cX0_open 38 = .ok (.getfield 22, 3) := by decide +kernel
theorem dX0_open_41 : decode cX0_open 41 = .ok (.iload_n 2, 1) := by decide +kernel
theorem dX0_open_42 : decode cX0_open 42 = .ok (.iconst 0, 1) := by decide +kernel
theorem dX0_open_43 : decode cX0_open 43 = .ok (.iastore, 1) := by decide +kernel
theorem dX0_open_44 : decode cX0_open 44 = .ok (.aload_n 0, 1) := by decide +kernel
theorem dX0_open_45 : decode cX0_open 45 = .ok (.getfield 25, 3) := by decide +kernel
theorem dX0_open_48 : decode cX0_open 48 = .ok (.iload_n 2, 1) := by decide +kernel
theorem dX0_open_49 : decode cX0_open 49 = .ok (.bipush (-9), 2) := by decide +kernel
theorem dX0_open_51 : decode cX0_open 51 = .ok (.iastore, 1) := by decide +kernel
theorem dX0_open_52 : decode cX0_open 52 = .ok (.iconst 0, 1) := by decide +kernel
theorem dX0_open_53 : decode cX0_open 53 = .ok (.istore_n 3, 1) := by decide +kernel
theorem dX0_open_54 : decode cX0_open 54 = .ok (.iload_n 3, 1) := by decide +kernel
theorem dX0_open_55 : decode cX0_open 55 = .ok (.bipush 6, 2) := by decide +kernel
theorem dX0_open_57 : decode cX0_open 57 = .ok (.if_icmp .ge 21, 3) := by decide +kernel
theorem dX0_open_60 : decode cX0_open 60 = .ok (.aload_n 0, 1) := by decide +kernel
theorem dX0_open_61 : decode cX0_open 61 = .ok (.getfield 28, 3) := by decide +kernel
theorem dX0_open_64 : decode cX0_open 64 = .ok (.iload_n 2, 1) := by decide +kernel
theorem dX0_open_65 : decode cX0_open 65 = .ok (.bipush 6, 2) := by decide +kernel
theorem dX0_open_67 : decode cX0_open 67 = .ok (.imul, 1) := by decide +kernel
theorem dX0_open_68 : decode cX0_open 68 = .ok (.iload_n 3, 1) := by decide +kernel
theorem dX0_open_69 : decode cX0_open 69 = .ok (.iadd, 1) := by decide +kernel
theorem dX0_open_70 : decode cX0_open 70 = .ok (.iconst 0, 1) := by decide +kernel
theorem dX0_open_71 : decode cX0_open 71 = .ok (.iastore, 1) := by decide +kernel
theorem dX0_open_72 : decode cX0_open 72 = .ok (.iinc 3 1, 3) := by decide +kernel
theorem dX0_open_75 : decode cX0_open 75 = .ok (.goto (-21), 3) := by decide +kernel
theorem dX0_open_78 : decode cX0_open 78 = .ok (.aload_n 0, 1) := by decide +kernel
theorem dX0_open_79 : decode cX0_open 79 = .ok (.dup, 1) := by decide +kernel
theorem dX0_open_80 : decode cX0_open 80 = .ok (.getfield 9, 3) := by decide +kernel
theorem dX0_open_83 : decode cX0_open 83 = .ok (.iconst 1, 1) := by decide +kernel
theorem dX0_open_84 : decode cX0_open 84 = .ok (.iadd, 1) := by decide +kernel
theorem dX0_open_85 : decode cX0_open 85 = .ok (.putfield 9, 3) := by decide +kernel
theorem dX0_open_88 : decode cX0_open 88 = .ok (.iload_n 2, 1) := by decide +kernel
theorem dX0_open_89 : decode cX0_open 89 = .ok (.ireturn, 1) := by decide +kernel
theorem dX0_isDue_0 : decode cX0_isDue 0 = .ok (.iload_n 1, 1) := by decide +kernel
theorem dX0_isDue_1 : decode cX0_isDue 1 = .ok (.ifCond .lt 33, 3) := by decide +kernel
theorem dX0_isDue_4 : decode cX0_isDue 4 = .ok (.iload_n 1, 1) := by decide +kernel
theorem dX0_isDue_5 : decode cX0_isDue 5 = .ok (.bipush 60, 2) := by decide +kernel
theorem dX0_isDue_7 : decode cX0_isDue 7 = .ok (.if_icmp .ge 27, 3) := by decide +kernel
theorem dX0_isDue_10 : decode cX0_isDue 10 = .ok (.aload_n 0, 1) := by decide +kernel
theorem dX0_isDue_11 : decode cX0_isDue 11 = .ok (.getfield 15, 3) := by decide +kernel
theorem dX0_isDue_14 : decode cX0_isDue 14 = .ok (.iload_n 1, 1) := by decide +kernel
theorem dX0_isDue_15 : decode cX0_isDue 15 = .ok (.iaload, 1) := by decide +kernel
theorem dX0_isDue_16 : decode cX0_isDue 16 = .ok (.iload_n 2, 1) := by decide +kernel
theorem dX0_isDue_17 : decode cX0_isDue 17 = .ok (.if_icmp .ne 17, 3) := by decide +kernel
theorem dX0_isDue_20 : decode cX0_isDue 20 = .ok (.aload_n 0, 1) := by decide +kernel
theorem dX0_isDue_21 : decode cX0_isDue 21 = .ok (.getfield 19, 3) := by decide +kernel
theorem dX0_isDue_24 : decode cX0_isDue 24 = .ok (.iload_n 1, 1) := by decide +kernel
theorem dX0_isDue_25 : decode cX0_isDue 25 = .ok (.iaload, 1) := by decide +kernel
theorem dX0_isDue_26 : decode cX0_isDue 26 = .ok (.iload_n 3, 1) := by decide +kernel
theorem dX0_isDue_27 : decode cX0_isDue 27 = .ok (.if_icmp .ne 7, 3) := by decide +kernel
theorem dX0_isDue_30 : decode cX0_isDue 30 = .ok (.iconst 1, 1) := by decide +kernel
theorem dX0_isDue_31 : decode cX0_isDue 31 = .ok (.goto 4, 3) := by decide +kernel
theorem dX0_isDue_34 : decode cX0_isDue 34 = .ok (.iconst 0, 1) := by decide +kernel
theorem dX0_isDue_35 : decode cX0_isDue 35 = .ok (.ireturn, 1) := by decide +kernel
theorem dX0_putLetters_0 : decode cX0_putLetters 0 = .ok (.iload_n 1, 1) := by decide +kernel
theorem dX0_putLetters_1 : decode cX0_putLetters 1 = .ok (.bipush 6, 2) := by decide +kernel
theorem dX0_putLetters_3 : decode cX0_putLetters 3 = .ok (.imul, 1) := by decide +kernel
theorem dX0_putLetters_4 : decode cX0_putLetters 4 = .ok (.iload_n 2, 1) := by decide +kernel
theorem dX0_putLetters_5 : decode cX0_putLetters 5 = .ok (.iadd, 1) := by decide +kernel
theorem dX0_putLetters_6 : decode cX0_putLetters 6 = .ok (.istore 4, 2) := by decide +kernel
theorem dX0_putLetters_8 : decode cX0_putLetters 8 = .ok (.iload 4, 2) := by decide +kernel
theorem dX0_putLetters_10 : decode cX0_putLetters 10 = .ok (.ifCond .lt 24, 3) := by decide +kernel
theorem dX0_putLetters_13 : decode cX0_putLetters 13 = .ok (.iload 4, 2) := by decide +kernel
theorem dX0_putLetters_15 : decode cX0_putLetters 15 = .ok (.aload_n 0, 1) := by decide +kernel
theorem dX0_putLetters_16 : decode cX0_putLetters 16 = .ok (.getfield 28, 3) := by decide +kernel
theorem dX0_putLetters_19 : decode cX0_putLetters 19 = .ok (.arraylength, 1) := by decide +kernel
theorem dX0_putLetters_20 : decode cX0_putLetters 20 = .ok (.if_icmp .ge 14, 3) := by decide +kernel
theorem dX0_putLetters_23 : decode cX0_putLetters 23 = .ok (.aload_n 0, 1) := by decide +kernel
theorem dX0_putLetters_24 : decode cX0_putLetters 24 = .ok (.getfield 28, 3) := by decide +kernel
theorem dX0_putLetters_27 : decode cX0_putLetters 27 = .ok (.iload 4, 2) := by decide +kernel
theorem dX0_putLetters_29 : decode cX0_putLetters 29 = .ok (.dup2, 1) := by decide +kernel
theorem dX0_putLetters_30 : decode cX0_putLetters 30 = .ok (.iaload, 1) := by decide +kernel
theorem dX0_putLetters_31 : decode cX0_putLetters 31 = .ok (.iload_n 3, 1) := by decide +kernel
theorem dX0_putLetters_32 : decode cX0_putLetters 32 = .ok (.iadd, 1) := by decide +kernel
theorem dX0_putLetters_33 : decode cX0_putLetters 33 = .ok (.iastore, 1) := by decide +kernel
theorem dX0_putLetters_34 : decode cX0_putLetters 34 = .ok (.return_, 1) := by decide +kernel
theorem dX0_lettersOf_0 : decode cX0_lettersOf 0 = .ok (.iload_n 1, 1) := by decide +kernel
theorem dX0_lettersOf_1 : decode cX0_lettersOf 1 = .ok (.bipush 6, 2) := by decide +kernel
theorem dX0_lettersOf_3 : decode cX0_lettersOf 3 = .ok (.imul, 1) := by decide +kernel
theorem dX0_lettersOf_4 : decode cX0_lettersOf 4 = .ok (.iload_n 2, 1) := by decide +kernel
theorem dX0_lettersOf_5 : decode cX0_lettersOf 5 = .ok (.iadd, 1) := by decide +kernel
theorem dX0_lettersOf_6 : decode cX0_lettersOf 6 = .ok (.istore_n 3, 1) := by decide +kernel
theorem dX0_lettersOf_7 : decode cX0_lettersOf 7 = .ok (.iload_n 3, 1) := by decide +kernel
theorem dX0_lettersOf_8 : decode cX0_lettersOf 8 = .ok (.ifCond .lt 21, 3) := by decide +kernel
theorem dX0_lettersOf_11 : decode cX0_lettersOf 11 = .ok (.iload_n 3, 1) := by decide +kernel
theorem dX0_lettersOf_12 : decode cX0_lettersOf 12 = .ok (.aload_n 0, 1) := by decide +kernel
theorem dX0_lettersOf_13 : decode cX0_lettersOf 13 = .ok (.getfield 28, 3) := by decide +kernel
theorem dX0_lettersOf_16 : decode cX0_lettersOf 16 = .ok (.arraylength, 1) := by decide +kernel
theorem dX0_lettersOf_17 : decode cX0_lettersOf 17 = .ok (.if_icmp .ge 12, 3) := by decide +kernel
theorem dX0_lettersOf_20 : decode cX0_lettersOf 20 = .ok (.aload_n 0, 1) := by decide +kernel
theorem dX0_lettersOf_21 : decode cX0_lettersOf 21 = .ok (.getfield 28, 3) := by decide +kernel
theorem dX0_lettersOf_24 : decode cX0_lettersOf 24 = .ok (.iload_n 3, 1) := by decide +kernel
theorem dX0_lettersOf_25 : decode cX0_lettersOf 25 = .ok (.iaload, 1) := by decide +kernel
theorem dX0_lettersOf_26 : decode cX0_lettersOf 26 = .ok (.goto 4, 3) := by decide +kernel
theorem dX0_lettersOf_29 : decode cX0_lettersOf 29 = .ok (.iconst 0, 1) := by decide +kernel
theorem dX0_lettersOf_30 : decode cX0_lettersOf 30 = .ok (.ireturn, 1) := by decide +kernel
theorem dX0_addLettersTo_0 : decode cX0_addLettersTo 0 = .ok (.iload_n 2, 1) := by decide +kernel
theorem dX0_addLettersTo_1 : decode cX0_addLettersTo 1 = .ok (.bipush 6, 2) := by decide +kernel
theorem dX0_addLettersTo_3 : decode cX0_addLettersTo 3 = .ok (.imul, 1) := by decide +kernel
theorem dX0_addLettersTo_4 : decode cX0_addLettersTo 4 = .ok (.istore_n 3, 1) := by decide +kernel
theorem dX0_addLettersTo_5 : decode cX0_addLettersTo 5 = .ok (.iconst 0, 1) := by decide +kernel
theorem dX0_addLettersTo_6 : decode cX0_addLettersTo 6 = .ok (.istore 4, 2) := by decide +kernel
theorem dX0_addLettersTo_8 : decode cX0_addLettersTo 8 = .ok (.iload 4, 2) := by decide +kernel
theorem dX0_addLettersTo_10 : decode cX0_addLettersTo 10 = .ok (.bipush 6, 2) := by decide +kernel
theorem dX0_addLettersTo_12 : decode cX0_addLettersTo 12 = .ok (.if_icmp .ge 55, 3) := by decide +kernel
theorem dX0_addLettersTo_15 : decode cX0_addLettersTo 15 = .ok (.iload 4, 2) := by decide +kernel
theorem dX0_addLettersTo_17 : decode cX0_addLettersTo 17 = .ok (.aload_n 1, 1) := by decide +kernel
theorem dX0_addLettersTo_18 : decode cX0_addLettersTo 18 = .ok (.arraylength, 1) := by decide +kernel
theorem dX0_addLettersTo_19 : decode cX0_addLettersTo 19 = .ok (.if_icmp .ge 48, 3) := by decide +kernel
theorem dX0_addLettersTo_22 : decode cX0_addLettersTo 22 = .ok (.iload_n 3, 1) := by decide +kernel
theorem dX0_addLettersTo_23 : decode cX0_addLettersTo 23 = .ok (.iload 4, 2) := by decide +kernel
theorem dX0_addLettersTo_25 : decode cX0_addLettersTo 25 = .ok (.iadd, 1) := by decide +kernel
theorem dX0_addLettersTo_26 : decode cX0_addLettersTo 26 = .ok (.istore 5, 2) := by decide +kernel
theorem dX0_addLettersTo_28 : decode cX0_addLettersTo 28 = .ok (.aload_n 1, 1) := by decide +kernel
theorem dX0_addLettersTo_29 : decode cX0_addLettersTo 29 = .ok (.iload 4, 2) := by decide +kernel
theorem dX0_addLettersTo_31 : decode cX0_addLettersTo 31 = .ok (.dup2, 1) := by decide +kernel
theorem dX0_addLettersTo_32 : decode cX0_addLettersTo 32 = .ok (.iaload, 1) := by decide +kernel
theorem dX0_addLettersTo_33 : decode cX0_addLettersTo 33 = .ok (.iload 5, 2) := by decide +kernel
theorem dX0_addLettersTo_35 : decode cX0_addLettersTo 35 = .ok (.ifCond .lt 23, 3) := by decide +kernel
theorem dX0_addLettersTo_38 : decode cX0_addLettersTo 38 = .ok (.iload 5, 2) := by decide +kernel
theorem dX0_addLettersTo_40 : decode cX0_addLettersTo 40 = .ok (.aload_n 0, 1) := by decide +kernel
theorem dX0_addLettersTo_41 : decode cX0_addLettersTo 41 = .ok (.getfield 28, 3) := by decide +kernel
theorem dX0_addLettersTo_44 : decode cX0_addLettersTo 44 = .ok (.arraylength, 1) := by decide +kernel
theorem dX0_addLettersTo_45 : decode cX0_addLettersTo 45 = .ok (.if_icmp .ge 13, 3) := by decide +kernel
theorem dX0_addLettersTo_48 : decode cX0_addLettersTo 48 = .ok (.aload_n 0, 1) := by decide +kernel
theorem dX0_addLettersTo_49 : decode cX0_addLettersTo 49 = .ok (.getfield 28, 3) := by decide +kernel
theorem dX0_addLettersTo_52 : decode cX0_addLettersTo 52 = .ok (.iload 5, 2) := by decide +kernel
theorem dX0_addLettersTo_54 : decode cX0_addLettersTo 54 = .ok (.iaload, 1) := by decide +kernel
theorem dX0_addLettersTo_55 : decode cX0_addLettersTo 55 = .ok (.goto 4, 3) := by decide +kernel
theorem dX0_addLettersTo_58 : decode cX0_addLettersTo 58 = .ok (.iconst 0, 1) := by decide +kernel
theorem dX0_addLettersTo_59 : decode cX0_addLettersTo 59 = .ok (.iadd, 1) := by decide +kernel
theorem dX0_addLettersTo_60 : decode cX0_addLettersTo 60 = .ok (.iastore, 1) := by decide +kernel
theorem dX0_addLettersTo_61 : decode cX0_addLettersTo 61 = .ok (.iinc 4 1, 3) := by decide +kernel
theorem dX0_addLettersTo_64 : decode cX0_addLettersTo 64 = .ok (.goto (-56), 3) := by decide +kernel
theorem dX0_addLettersTo_67 : decode cX0_addLettersTo 67 = .ok (.return_, 1) := by decide +kernel
theorem dX0_allLetters_0 : decode cX0_allLetters 0 = .ok (.iload_n 1, 1) := by decide +kernel
theorem dX0_allLetters_1 : decode cX0_allLetters 1 = .ok (.bipush 6, 2) := by decide +kernel
theorem dX0_allLetters_3 : decode cX0_allLetters 3 = .ok (.imul, 1) := by decide +kernel
theorem dX0_allLetters_4 : decode cX0_allLetters 4 = .ok (.istore_n 2, 1) := by decide +kernel
theorem dX0_allLetters_5 : decode cX0_allLetters 5 = .ok (.iconst 0, 1) := by decide +kernel
theorem dX0_allLetters_6 : decode cX0_allLetters 6 = .ok (.istore_n 3, 1) := by decide +kernel
theorem dX0_allLetters_7 : decode cX0_allLetters 7 = .ok (.iload_n 2, 1) := by decide +kernel
theorem dX0_allLetters_8 : decode cX0_allLetters 8 = .ok (.istore 4, 2) := by decide +kernel
theorem dX0_allLetters_10 : decode cX0_allLetters 10 = .ok (.iload 4, 2) := by decide +kernel
theorem dX0_allLetters_12 : decode cX0_allLetters 12 = .ok (.ifCond .lt 38, 3) := by decide +kernel
theorem dX0_allLetters_15 : decode cX0_allLetters 15 = .ok (.iload 4, 2) := by decide +kernel
theorem dX0_allLetters_17 : decode cX0_allLetters 17 = .ok (.iload_n 2, 1) := by decide +kernel
theorem dX0_allLetters_18 : decode cX0_allLetters 18 = .ok (.bipush 6, 2) := by decide +kernel
theorem dX0_allLetters_20 : decode cX0_allLetters 20 = .ok (.iadd, 1) := by decide +kernel
theorem dX0_allLetters_21 : decode cX0_allLetters 21 = .ok (.if_icmp .ge 29, 3) := by decide +kernel
theorem dX0_allLetters_24 : decode cX0_allLetters 24 = .ok (.iload 4, 2) := by decide +kernel
theorem dX0_allLetters_26 : decode cX0_allLetters 26 = .ok (.aload_n 0, 1) := by decide +kernel
theorem dX0_allLetters_27 : decode cX0_allLetters 27 = .ok (.getfield 28, 3) := by decide +kernel
theorem dX0_allLetters_30 : decode cX0_allLetters 30 = .ok (.arraylength, 1) := by decide +kernel
theorem dX0_allLetters_31 : decode cX0_allLetters 31 = .ok (.if_icmp .ge 19, 3) := by decide +kernel
theorem dX0_allLetters_34 : decode cX0_allLetters 34 = .ok (.iload_n 3, 1) := by decide +kernel
theorem dX0_allLetters_35 : decode cX0_allLetters 35 = .ok (.aload_n 0, 1) := by decide +kernel
theorem dX0_allLetters_36 : decode cX0_allLetters 36 = .ok (.getfield 28, 3) := by decide +kernel
theorem dX0_allLetters_39 : decode cX0_allLetters 39 = .ok (.iload 4, 2) := by decide +kernel
theorem dX0_allLetters_41 : decode cX0_allLetters 41 = .ok (.iaload, 1) := by decide +kernel
theorem dX0_allLetters_42 : decode cX0_allLetters 42 = .ok (.iadd, 1) := by decide +kernel
theorem dX0_allLetters_43 : decode cX0_allLetters 43 = .ok (.istore_n 3, 1) := by decide +kernel
theorem dX0_allLetters_44 : decode cX0_allLetters 44 = .ok (.iinc 4 1, 3) := by decide +kernel
theorem dX0_allLetters_47 : decode cX0_allLetters 47 = .ok (.goto (-37), 3) := by decide +kernel
theorem dX0_allLetters_50 : decode cX0_allLetters 50 = .ok (.iload_n 3, 1) := by decide +kernel
theorem dX0_allLetters_51 : decode cX0_allLetters 51 = .ok (.ireturn, 1) := by decide +kernel
theorem dX0_putReport_0 : decode cX0_putReport 0 = .ok (.iload_n 1, 1) := by decide +kernel
theorem dX0_putReport_1 : decode cX0_putReport 1 = .ok (.ifCond .lt 16, 3) := by decide +kernel
theorem dX0_putReport_4 : decode cX0_putReport 4 = .ok (.iload_n 1, 1) := by decide +kernel
theorem dX0_putReport_5 : decode cX0_putReport 5 = .ok (.bipush 60, 2) := by decide +kernel
theorem dX0_putReport_7 : decode cX0_putReport 7 = .ok (.if_icmp .ge 10, 3) := by decide +kernel
theorem dX0_putReport_10 : decode cX0_putReport 10 = .ok (.aload_n 0, 1) := by decide +kernel
theorem dX0_putReport_11 : decode cX0_putReport 11 = .ok (.getfield 25, 3) := by decide +kernel
theorem dX0_putReport_14 : decode cX0_putReport 14 = .ok (.iload_n 1, 1) := by decide +kernel
theorem dX0_putReport_15 : decode cX0_putReport 15 = .ok (.iload_n 2, 1) := by decide +kernel
theorem dX0_putReport_16 : decode cX0_putReport 16 = .ok (.iastore, 1) := by decide +kernel
theorem dX0_putReport_17 : decode cX0_putReport 17 = .ok (.return_, 1) := by decide +kernel
theorem dX0_reportOf_0 : decode cX0_reportOf 0 = .ok (.iload_n 1, 1) := by decide +kernel
theorem dX0_reportOf_1 : decode cX0_reportOf 1 = .ok (.ifCond .lt 18, 3) := by decide +kernel
theorem dX0_reportOf_4 : decode cX0_reportOf 4 = .ok (.iload_n 1, 1) := by decide +kernel
theorem dX0_reportOf_5 : decode cX0_reportOf 5 = .ok (.bipush 60, 2) := by decide +kernel
theorem dX0_reportOf_7 : decode cX0_reportOf 7 = .ok (.if_icmp .ge 12, 3) := by decide +kernel
theorem dX0_reportOf_10 : decode cX0_reportOf 10 = .ok (.aload_n 0, 1) := by decide +kernel
theorem dX0_reportOf_11 : decode cX0_reportOf 11 = .ok (.getfield 25, 3) := by decide +kernel
theorem dX0_reportOf_14 : decode cX0_reportOf 14 = .ok (.iload_n 1, 1) := by decide +kernel
theorem dX0_reportOf_15 : decode cX0_reportOf 15 = .ok (.iaload, 1) := by decide +kernel
theorem dX0_reportOf_16 : decode cX0_reportOf 16 = .ok (.goto 5, 3) := by decide +kernel
theorem dX0_reportOf_19 : decode cX0_reportOf 19 = .ok (.bipush (-9), 2) := by decide +kernel
theorem dX0_reportOf_21 : decode cX0_reportOf 21 = .ok (.ireturn, 1) := by decide +kernel
set_option maxRecDepth 20000 in
theorem ggX0_content_X0_allLetters : GoodIn wsX0_content wsX0_allLetters := goodIn_r _ [5, 6, 12, 13, 14, 15, 16, 17] (by decide +kernel) (by decide +kernel)
set_option maxRecDepth 20000 in
theorem gX0_content_X0_allLetters : GoodIn wsX0_content (wsV RX0 31 RX0 yX0_allLetters wsX0_allLetters) := goodIn_app (goodIn_of _ (by decide +kernel)) ggX0_content_X0_allLetters
set_option maxRecDepth 20000 in
theorem ggX0_content_X0_reportOf : GoodIn wsX0_content wsX0_reportOf := goodIn_r _ [10, 11, 12, 13, 14, 15, 16, 17] (by decide +kernel) (by decide +kernel)
set_option maxRecDepth 20000 in
theorem gX0_content_X0_reportOf : GoodIn wsX0_content (wsV RX0 35 RX0 yX0_reportOf wsX0_reportOf) := goodIn_app (goodIn_of _ (by decide +kernel)) ggX0_content_X0_reportOf
theorem dX0_content_0 : decode cX0_content 0 = .ok (.aload_n 0, 1) := by decide +kernel
theorem dX0_content_1 : decode cX0_content 1 = .ok (.iload_n 1, 1) := by decide +kernel
theorem dX0_content_2 : decode cX0_content 2 = .ok (.invokevirtual 31, 3) := by decide +kernel
theorem dX0_content_5 : decode cX0_content 5 = .ok (.aload_n 0, 1) := by decide +kernel
theorem dX0_content_6 : decode cX0_content 6 = .ok (.iload_n 1, 1) := by decide +kernel
theorem dX0_content_7 : decode cX0_content 7 = .ok (.invokevirtual 35, 3) := by decide +kernel
theorem dX0_content_10 : decode cX0_content 10 = .ok (.bipush (-9), 2) := by decide +kernel
theorem dX0_content_12 : decode cX0_content 12 = .ok (.if_icmp .ne 7, 3) := by decide +kernel
theorem dX0_content_15 : decode cX0_content 15 = .ok (.iconst 0, 1) := by decide +kernel
theorem dX0_content_16 : decode cX0_content 16 = .ok (.goto 4, 3) := by decide +kernel
theorem dX0_content_19 : decode cX0_content 19 = .ok (.iconst 2, 1) := by decide +kernel
theorem dX0_content_20 : decode cX0_content 20 = .ok (.iadd, 1) := by decide +kernel
theorem dX0_content_21 : decode cX0_content 21 = .ok (.ireturn, 1) := by decide +kernel
theorem dX0_countSending_0 : decode cX0_countSending 0 = .ok (.iload_n 1, 1) := by decide +kernel
theorem dX0_countSending_1 : decode cX0_countSending 1 = .ok (.ifCond .lt 9, 3) := by decide +kernel
theorem dX0_countSending_4 : decode cX0_countSending 4 = .ok (.iload_n 1, 1) := by decide +kernel
theorem dX0_countSending_5 : decode cX0_countSending 5 = .ok (.bipush 60, 2) := by decide +kernel
theorem dX0_countSending_7 : decode cX0_countSending 7 = .ok (.if_icmp .lt 5, 3) := by decide +kernel
theorem dX0_countSending_10 : decode cX0_countSending 10 = .ok (.iconst 0, 1) := by decide +kernel
theorem dX0_countSending_11 : decode cX0_countSending 11 = .ok (.ireturn, 1) := by decide +kernel
theorem dX0_countSending_12 : decode cX0_countSending 12 = .ok (.aload_n 0, 1) := by decide +kernel
theorem dX0_countSending_13 : decode cX0_countSending 13 = .ok (.getfield 22, 3) := by decide +kernel
theorem dX0_countSending_16 : decode cX0_countSending 16 = .ok (.iload_n 1, 1) := by decide +kernel
theorem dX0_countSending_17 : decode cX0_countSending 17 = .ok (.dup2, 1) := by decide +kernel
theorem dX0_countSending_18 : decode cX0_countSending 18 = .ok (.iaload, 1) := by decide +kernel
theorem dX0_countSending_19 : decode cX0_countSending 19 = .ok (.iconst 1, 1) := by decide +kernel
theorem dX0_countSending_20 : decode cX0_countSending 20 = .ok (.iadd, 1) := by decide +kernel
theorem dX0_countSending_21 : decode cX0_countSending 21 = .ok (.iastore, 1) := by decide +kernel
theorem dX0_countSending_22 : decode cX0_countSending 22 = .ok (.aload_n 0, 1) := by decide +kernel
theorem dX0_countSending_23 : decode cX0_countSending 23 = .ok (.getfield 22, 3) := by decide +kernel
theorem dX0_countSending_26 : decode cX0_countSending 26 = .ok (.iload_n 1, 1) := by decide +kernel
theorem dX0_countSending_27 : decode cX0_countSending 27 = .ok (.iaload, 1) := by decide +kernel
theorem dX0_countSending_28 : decode cX0_countSending 28 = .ok (.ireturn, 1) := by decide +kernel
theorem dX0_putDue_0 : decode cX0_putDue 0 = .ok (.iload_n 1, 1) := by decide +kernel
theorem dX0_putDue_1 : decode cX0_putDue 1 = .ok (.ifCond .lt 16, 3) := by decide +kernel
theorem dX0_putDue_4 : decode cX0_putDue 4 = .ok (.iload_n 1, 1) := by decide +kernel
theorem dX0_putDue_5 : decode cX0_putDue 5 = .ok (.bipush 60, 2) := by decide +kernel
theorem dX0_putDue_7 : decode cX0_putDue 7 = .ok (.if_icmp .ge 10, 3) := by decide +kernel
theorem dX0_putDue_10 : decode cX0_putDue 10 = .ok (.aload_n 0, 1) := by decide +kernel
theorem dX0_putDue_11 : decode cX0_putDue 11 = .ok (.getfield 19, 3) := by decide +kernel
theorem dX0_putDue_14 : decode cX0_putDue 14 = .ok (.iload_n 1, 1) := by decide +kernel
theorem dX0_putDue_15 : decode cX0_putDue 15 = .ok (.iload_n 2, 1) := by decide +kernel
theorem dX0_putDue_16 : decode cX0_putDue 16 = .ok (.iastore, 1) := by decide +kernel
theorem dX0_putDue_17 : decode cX0_putDue 17 = .ok (.return_, 1) := by decide +kernel
theorem dX0_markGone_0 : decode cX0_markGone 0 = .ok (.iload_n 1, 1) := by decide +kernel
theorem dX0_markGone_1 : decode cX0_markGone 1 = .ok (.ifCond .lt 16, 3) := by decide +kernel
theorem dX0_markGone_4 : decode cX0_markGone 4 = .ok (.iload_n 1, 1) := by decide +kernel
theorem dX0_markGone_5 : decode cX0_markGone 5 = .ok (.bipush 60, 2) := by decide +kernel
theorem dX0_markGone_7 : decode cX0_markGone 7 = .ok (.if_icmp .ge 10, 3) := by decide +kernel
theorem dX0_markGone_10 : decode cX0_markGone 10 = .ok (.aload_n 0, 1) := by decide +kernel
theorem dX0_markGone_11 : decode cX0_markGone 11 = .ok (.getfield 19, 3) := by decide +kernel
theorem dX0_markGone_14 : decode cX0_markGone 14 = .ok (.iload_n 1, 1) := by decide +kernel
theorem dX0_markGone_15 : decode cX0_markGone 15 = .ok (.iconst (-1), 1) := by decide +kernel
theorem dX0_markGone_16 : decode cX0_markGone 16 = .ok (.iastore, 1) := by decide +kernel
theorem dX0_markGone_17 : decode cX0_markGone 17 = .ok (.return_, 1) := by decide +kernel
set_option maxRecDepth 20000 in
theorem ggX0_dropGone_X0_move : GoodIn wsX0_dropGone wsX0_move := goodIn_r _ [7, 8, 2, 9, 10, 11, 12, 13, 14, 15, 16, 17] (by decide +kernel) (by decide +kernel)
set_option maxRecDepth 20000 in
theorem gX0_dropGone_X0_move : GoodIn wsX0_dropGone (wsV RX0 38 RX0 yX0_move wsX0_move) := goodIn_app (goodIn_of _ (by decide +kernel)) ggX0_dropGone_X0_move
theorem dX0_dropGone_0 : decode cX0_dropGone 0 = .ok (.iconst 0, 1) := by decide +kernel
theorem dX0_dropGone_1 : decode cX0_dropGone 1 = .ok (.istore_n 1, 1) := by decide +kernel
theorem dX0_dropGone_2 : decode cX0_dropGone 2 = .ok (.iconst 0, 1) := by decide +kernel
theorem dX0_dropGone_3 : decode cX0_dropGone 3 = .ok (.istore_n 2, 1) := by decide +kernel
theorem dX0_dropGone_4 : decode cX0_dropGone 4 = .ok (.iload_n 2, 1) := by decide +kernel
theorem dX0_dropGone_5 : decode cX0_dropGone 5 = .ok (.aload_n 0, 1) := by decide +kernel
theorem dX0_dropGone_6 : decode cX0_dropGone 6 = .ok (.getfield 9, 3) := by decide +kernel
theorem dX0_dropGone_9 : decode cX0_dropGone 9 = .ok (.if_icmp .ge 34, 3) := by decide +kernel
theorem dX0_dropGone_12 : decode cX0_dropGone 12 = .ok (.iload_n 2, 1) := by decide +kernel
theorem dX0_dropGone_13 : decode cX0_dropGone 13 = .ok (.bipush 60, 2) := by decide +kernel
theorem dX0_dropGone_15 : decode cX0_dropGone 15 = .ok (.if_icmp .ge 28, 3) := by decide +kernel
theorem dX0_dropGone_18 : decode cX0_dropGone 18 = .ok (.aload_n 0, 1) := by decide +kernel
theorem dX0_dropGone_19 : decode cX0_dropGone 19 = .ok (.getfield 19, 3) := by decide +kernel
theorem dX0_dropGone_22 : decode cX0_dropGone 22 = .ok (.iload_n 2, 1) := by decide +kernel
theorem dX0_dropGone_23 : decode cX0_dropGone 23 = .ok (.iaload, 1) := by decide +kernel
theorem dX0_dropGone_24 : decode cX0_dropGone 24 = .ok (.iconst (-1), 1) := by decide +kernel
theorem dX0_dropGone_25 : decode cX0_dropGone 25 = .ok (.if_icmp .eq 12, 3) := by decide +kernel
theorem dX0_dropGone_28 : decode cX0_dropGone 28 = .ok (.aload_n 0, 1) := by decide +kernel
theorem dX0_dropGone_29 : decode cX0_dropGone 29 = .ok (.iload_n 2, 1) := by decide +kernel
theorem dX0_dropGone_30 : decode cX0_dropGone 30 = .ok (.iload_n 1, 1) := by decide +kernel
theorem dX0_dropGone_31 : decode cX0_dropGone 31 = .ok (.invokevirtual 38, 3) := by decide +kernel
theorem dX0_dropGone_34 : decode cX0_dropGone 34 = .ok (.iinc 1 1, 3) := by decide +kernel
theorem dX0_dropGone_37 : decode cX0_dropGone 37 = .ok (.iinc 2 1, 3) := by decide +kernel
theorem dX0_dropGone_40 : decode cX0_dropGone 40 = .ok (.goto (-36), 3) := by decide +kernel
theorem dX0_dropGone_43 : decode cX0_dropGone 43 = .ok (.aload_n 0, 1) := by decide +kernel
theorem dX0_dropGone_44 : decode cX0_dropGone 44 = .ok (.iload_n 1, 1) := by decide +kernel
theorem dX0_dropGone_45 : decode cX0_dropGone 45 = .ok (.putfield 9, 3) := by decide +kernel
theorem dX0_dropGone_48 : decode cX0_dropGone 48 = .ok (.return_, 1) := by decide +kernel
theorem dX0_move_0 : decode cX0_move 0 = .ok (.iload_n 2, 1) := by decide +kernel
theorem dX0_move_1 : decode cX0_move 1 = .ok (.ifCond .lt 14, 3) := by decide +kernel
theorem dX0_move_4 : decode cX0_move 4 = .ok (.iload_n 2, 1) := by decide +kernel
theorem dX0_move_5 : decode cX0_move 5 = .ok (.iload_n 1, 1) := by decide +kernel
theorem dX0_move_6 : decode cX0_move 6 = .ok (.if_icmp .ge 9, 3) := by decide +kernel
theorem dX0_move_9 : decode cX0_move 9 = .ok (.iload_n 1, 1) := by decide +kernel
theorem dX0_move_10 : decode cX0_move 10 = .ok (.bipush 60, 2) := by decide +kernel
theorem dX0_move_12 : decode cX0_move 12 = .ok (.if_icmp .lt 4, 3) := by decide +kernel
theorem dX0_move_15 : decode cX0_move 15 = .ok (.return_, 1) := by decide +kernel
theorem dX0_move_16 : decode cX0_move 16 = .ok (.aload_n 0, 1) := by decide +kernel
theorem dX0_move_17 : decode cX0_move 17 = .ok (.getfield 15, 3) := by decide +kernel
theorem dX0_move_20 : decode cX0_move 20 = .ok (.iload_n 2, 1) := by decide +kernel
theorem dX0_move_21 : decode cX0_move 21 = .ok (.aload_n 0, 1) := by decide +kernel
theorem dX0_move_22 : decode cX0_move 22 = .ok (.getfield 15, 3) := by decide +kernel
theorem dX0_move_25 : decode cX0_move 25 = .ok (.iload_n 1, 1) := by decide +kernel
theorem dX0_move_26 : decode cX0_move 26 = .ok (.iaload, 1) := by decide +kernel
theorem dX0_move_27 : decode cX0_move 27 = .ok (.iastore, 1) := by decide +kernel
theorem dX0_move_28 : decode cX0_move 28 = .ok (.aload_n 0, 1) := by decide +kernel
theorem dX0_move_29 : decode cX0_move 29 = .ok (.getfield 19, 3) := by decide +kernel
theorem dX0_move_32 : decode cX0_move 32 = .ok (.iload_n 2, 1) := by decide +kernel
theorem dX0_move_33 : decode cX0_move 33 = .ok (.aload_n 0, 1) := by decide +kernel
theorem dX0_move_34 : decode cX0_move 34 = .ok (.getfield 19, 3) := by decide +kernel
theorem dX0_move_37 : decode cX0_move 37 = .ok (.iload_n 1, 1) := by decide +kernel
theorem dX0_move_38 : decode cX0_move 38 = .ok (.iaload, 1) := by decide +kernel
theorem dX0_move_39 : decode cX0_move 39 = .ok (.iastore, 1) := by decide +kernel
theorem dX0_move_40 : decode cX0_move 40 = .ok (.aload_n 0, 1) := by decide +kernel
theorem dX0_move_41 : decode cX0_move 41 = .ok (.getfield 22, 3) := by decide +kernel
theorem dX0_move_44 : decode cX0_move 44 = .ok (.iload_n 2, 1) := by decide +kernel
theorem dX0_move_45 : decode cX0_move 45 = .ok (.aload_n 0, 1) := by decide +kernel
theorem dX0_move_46 : decode cX0_move 46 = .ok (.getfield 22, 3) := by decide +kernel
theorem dX0_move_49 : decode cX0_move 49 = .ok (.iload_n 1, 1) := by decide +kernel
theorem dX0_move_50 : decode cX0_move 50 = .ok (.iaload, 1) := by decide +kernel
theorem dX0_move_51 : decode cX0_move 51 = .ok (.iastore, 1) := by decide +kernel
theorem dX0_move_52 : decode cX0_move 52 = .ok (.aload_n 0, 1) := by decide +kernel
theorem dX0_move_53 : decode cX0_move 53 = .ok (.getfield 25, 3) := by decide +kernel
theorem dX0_move_56 : decode cX0_move 56 = .ok (.iload_n 2, 1) := by decide +kernel
theorem dX0_move_57 : decode cX0_move 57 = .ok (.aload_n 0, 1) := by decide +kernel
theorem dX0_move_58 : decode cX0_move 58 = .ok (.getfield 25, 3) := by decide +kernel
theorem dX0_move_61 : decode cX0_move 61 = .ok (.iload_n 1, 1) := by decide +kernel
theorem dX0_move_62 : decode cX0_move 62 = .ok (.iaload, 1) := by decide +kernel
theorem dX0_move_63 : decode cX0_move 63 = .ok (.iastore, 1) := by decide +kernel
theorem dX0_move_64 : decode cX0_move 64 = .ok (.iconst 0, 1) := by decide +kernel
theorem dX0_move_65 : decode cX0_move 65 = .ok (.istore_n 3, 1) := by decide +kernel
theorem dX0_move_66 : decode cX0_move 66 = .ok (.iload_n 3, 1) := by decide +kernel
theorem dX0_move_67 : decode cX0_move 67 = .ok (.bipush 6, 2) := by decide +kernel
theorem dX0_move_69 : decode cX0_move 69 = .ok (.if_icmp .ge 31, 3) := by decide +kernel
theorem dX0_move_72 : decode cX0_move 72 = .ok (.aload_n 0, 1) := by decide +kernel
theorem dX0_move_73 : decode cX0_move 73 = .ok (.getfield 28, 3) := by decide +kernel
theorem dX0_move_76 : decode cX0_move 76 = .ok (.iload_n 2, 1) := by decide +kernel
theorem dX0_move_77 : decode cX0_move 77 = .ok (.bipush 6, 2) := by decide +kernel
theorem dX0_move_79 : decode cX0_move 79 = .ok (.imul, 1) := by decide +kernel
theorem dX0_move_80 : decode cX0_move 80 = .ok (.iload_n 3, 1) := by decide +kernel
theorem dX0_move_81 : decode cX0_move 81 = .ok (.iadd, 1) := by decide +kernel
theorem dX0_move_82 : decode cX0_move 82 = .ok (.aload_n 0, 1) := by decide +kernel
theorem dX0_move_83 : decode cX0_move 83 = .ok (.getfield 28, 3) := by decide +kernel
theorem dX0_move_86 : decode cX0_move 86 = .ok (.iload_n 1, 1) := by decide +kernel
theorem dX0_move_87 : decode cX0_move 87 = .ok (.bipush 6, 2) := by decide +kernel
theorem dX0_move_89 : decode cX0_move 89 = .ok (.imul, 1) := by decide +kernel
theorem dX0_move_90 : decode cX0_move 90 = .ok (.iload_n 3, 1) := by decide +kernel
theorem dX0_move_91 : decode cX0_move 91 = .ok (.iadd, 1) := by decide +kernel
theorem dX0_move_92 : decode cX0_move 92 = .ok (.iaload, 1) := by decide +kernel
theorem dX0_move_93 : decode cX0_move 93 = .ok (.iastore, 1) := by decide +kernel
theorem dX0_move_94 : decode cX0_move 94 = .ok (.iinc 3 1, 3) := by decide +kernel
theorem dX0_move_97 : decode cX0_move 97 = .ok (.goto (-31), 3) := by decide +kernel
theorem dX0_move_100 : decode cX0_move 100 = .ok (.return_, 1) := by decide +kernel
set_option maxRecDepth 20000 in
theorem ggX0_placeOf_X0_isEarlier : GoodIn wsX0_placeOf wsX0_isEarlier := goodIn_r _ [6, 7, 8, 9, 10, 11, 12, 13, 14] (by decide +kernel) (by decide +kernel)
set_option maxRecDepth 20000 in
theorem gX0_placeOf_X0_isEarlier : GoodIn wsX0_placeOf (wsV RX0 42 RX0 yX0_isEarlier wsX0_isEarlier) := goodIn_app (goodIn_of _ (by decide +kernel)) ggX0_placeOf_X0_isEarlier
theorem dX0_placeOf_0 : decode cX0_placeOf 0 = .ok (.iconst 0, 1) := by decide +kernel
theorem dX0_placeOf_1 : decode cX0_placeOf 1 = .ok (.istore_n 2, 1) := by decide +kernel
theorem dX0_placeOf_2 : decode cX0_placeOf 2 = .ok (.iload_n 2, 1) := by decide +kernel
theorem dX0_placeOf_3 : decode cX0_placeOf 3 = .ok (.aload_n 0, 1) := by decide +kernel
theorem dX0_placeOf_4 : decode cX0_placeOf 4 = .ok (.getfield 9, 3) := by decide +kernel
theorem dX0_placeOf_7 : decode cX0_placeOf 7 = .ok (.if_icmp .ge 67, 3) := by decide +kernel
theorem dX0_placeOf_10 : decode cX0_placeOf 10 = .ok (.iload_n 2, 1) := by decide +kernel
theorem dX0_placeOf_11 : decode cX0_placeOf 11 = .ok (.bipush 60, 2) := by decide +kernel
theorem dX0_placeOf_13 : decode cX0_placeOf 13 = .ok (.if_icmp .ge 61, 3) := by decide +kernel
theorem dX0_placeOf_16 : decode cX0_placeOf 16 = .ok (.iconst 0, 1) := by decide +kernel
theorem dX0_placeOf_17 : decode cX0_placeOf 17 = .ok (.istore_n 3, 1) := by decide +kernel
theorem dX0_placeOf_18 : decode cX0_placeOf 18 = .ok (.iconst 0, 1) := by decide +kernel
theorem dX0_placeOf_19 : decode cX0_placeOf 19 = .ok (.istore 4, 2) := by decide +kernel
theorem dX0_placeOf_21 : decode cX0_placeOf 21 = .ok (.iload 4, 2) := by decide +kernel
theorem dX0_placeOf_23 : decode cX0_placeOf 23 = .ok (.aload_n 0, 1) := by decide +kernel
theorem dX0_placeOf_24 : decode cX0_placeOf 24 = .ok (.getfield 9, 3) := by decide +kernel
theorem dX0_placeOf_27 : decode cX0_placeOf 27 = .ok (.if_icmp .ge 34, 3) := by decide +kernel
theorem dX0_placeOf_30 : decode cX0_placeOf 30 = .ok (.iload 4, 2) := by decide +kernel
theorem dX0_placeOf_32 : decode cX0_placeOf 32 = .ok (.bipush 60, 2) := by decide +kernel
theorem dX0_placeOf_34 : decode cX0_placeOf 34 = .ok (.if_icmp .ge 27, 3) := by decide +kernel
theorem dX0_placeOf_37 : decode cX0_placeOf 37 = .ok (.iload_n 3, 1) := by decide +kernel
theorem dX0_placeOf_38 : decode cX0_placeOf 38 = .ok (.aload_n 0, 1) := by decide +kernel
theorem dX0_placeOf_39 : decode cX0_placeOf 39 = .ok (.iload 4, 2) := by decide +kernel
theorem dX0_placeOf_41 : decode cX0_placeOf 41 = .ok (.iload_n 2, 1) := by decide +kernel
theorem dX0_placeOf_42 : decode cX0_placeOf 42 = .ok (.invokevirtual 42, 3) := by decide +kernel
theorem dX0_placeOf_45 : decode cX0_placeOf 45 = .ok (.ifCond .eq 7, 3) := by decide +kernel
theorem dX0_placeOf_48 : decode cX0_placeOf 48 = .ok (.iconst 1, 1) := by decide +kernel
theorem dX0_placeOf_49 : decode cX0_placeOf 49 = .ok (.goto 4, 3) := by decide +kernel
theorem dX0_placeOf_52 : decode cX0_placeOf 52 = .ok (.iconst 0, 1) := by decide +kernel
theorem dX0_placeOf_53 : decode cX0_placeOf 53 = .ok (.iadd, 1) := by decide +kernel
theorem dX0_placeOf_54 : decode cX0_placeOf 54 = .ok (.istore_n 3, 1) := by decide +kernel
theorem dX0_placeOf_55 : decode cX0_placeOf 55 = .ok (.iinc 4 1, 3) := by decide +kernel
theorem dX0_placeOf_58 : decode cX0_placeOf 58 = .ok (.goto (-37), 3) := by decide +kernel
theorem dX0_placeOf_61 : decode cX0_placeOf 61 = .ok (.iload_n 3, 1) := by decide +kernel
theorem dX0_placeOf_62 : decode cX0_placeOf 62 = .ok (.iload_n 1, 1) := by decide +kernel
theorem dX0_placeOf_63 : decode cX0_placeOf 63 = .ok (.if_icmp .ne 5, 3) := by decide +kernel
theorem dX0_placeOf_66 : decode cX0_placeOf 66 = .ok (.iload_n 2, 1) := by decide +kernel
theorem dX0_placeOf_67 : decode cX0_placeOf 67 = .ok (.ireturn, 1) := by decide +kernel
theorem dX0_placeOf_68 : decode cX0_placeOf 68 = .ok (.iinc 2 1, 3) := by decide +kernel
theorem dX0_placeOf_71 : decode cX0_placeOf 71 = .ok (.goto (-69), 3) := by decide +kernel
theorem dX0_placeOf_74 : decode cX0_placeOf 74 = .ok (.iconst (-1), 1) := by decide +kernel
theorem dX0_placeOf_75 : decode cX0_placeOf 75 = .ok (.ireturn, 1) := by decide +kernel
theorem dX0_isEarlier_0 : decode cX0_isEarlier 0 = .ok (.aload_n 0, 1) := by decide +kernel
theorem dX0_isEarlier_1 : decode cX0_isEarlier 1 = .ok (.getfield 19, 3) := by decide +kernel
theorem dX0_isEarlier_4 : decode cX0_isEarlier 4 = .ok (.iload_n 1, 1) := by decide +kernel
theorem dX0_isEarlier_5 : decode cX0_isEarlier 5 = .ok (.iaload, 1) := by decide +kernel
theorem dX0_isEarlier_6 : decode cX0_isEarlier 6 = .ok (.aload_n 0, 1) := by decide +kernel
theorem dX0_isEarlier_7 : decode cX0_isEarlier 7 = .ok (.getfield 19, 3) := by decide +kernel
theorem dX0_isEarlier_10 : decode cX0_isEarlier 10 = .ok (.iload_n 2, 1) := by decide +kernel
theorem dX0_isEarlier_11 : decode cX0_isEarlier 11 = .ok (.iaload, 1) := by decide +kernel
theorem dX0_isEarlier_12 : decode cX0_isEarlier 12 = .ok (.if_icmp .eq 24, 3) := by decide +kernel
theorem dX0_isEarlier_15 : decode cX0_isEarlier 15 = .ok (.aload_n 0, 1) := by decide +kernel
theorem dX0_isEarlier_16 : decode cX0_isEarlier 16 = .ok (.getfield 19, 3) := by decide +kernel
theorem dX0_isEarlier_19 : decode cX0_isEarlier 19 = .ok (.iload_n 1, 1) := by decide +kernel
theorem dX0_isEarlier_20 : decode cX0_isEarlier 20 = .ok (.iaload, 1) := by decide +kernel
theorem dX0_isEarlier_21 : decode cX0_isEarlier 21 = .ok (.aload_n 0, 1) := by decide +kernel
theorem dX0_isEarlier_22 : decode cX0_isEarlier 22 = .ok (.getfield 19, 3) := by decide +kernel
theorem dX0_isEarlier_25 : decode cX0_isEarlier 25 = .ok (.iload_n 2, 1) := by decide +kernel
theorem dX0_isEarlier_26 : decode cX0_isEarlier 26 = .ok (.iaload, 1) := by decide +kernel
theorem dX0_isEarlier_27 : decode cX0_isEarlier 27 = .ok (.if_icmp .ge 7, 3) := by decide +kernel
theorem dX0_isEarlier_30 : decode cX0_isEarlier 30 = .ok (.iconst 1, 1) := by decide +kernel
theorem dX0_isEarlier_31 : decode cX0_isEarlier 31 = .ok (.goto 4, 3) := by decide +kernel
theorem dX0_isEarlier_34 : decode cX0_isEarlier 34 = .ok (.iconst 0, 1) := by decide +kernel
theorem dX0_isEarlier_35 : decode cX0_isEarlier 35 = .ok (.ireturn, 1) := by decide +kernel
theorem dX0_isEarlier_36 : decode cX0_isEarlier 36 = .ok (.aload_n 0, 1) := by decide +kernel
theorem dX0_isEarlier_37 : decode cX0_isEarlier 37 = .ok (.getfield 15, 3) := by decide +kernel
theorem dX0_isEarlier_40 : decode cX0_isEarlier 40 = .ok (.iload_n 1, 1) := by decide +kernel
theorem dX0_isEarlier_41 : decode cX0_isEarlier 41 = .ok (.iaload, 1) := by decide +kernel
theorem dX0_isEarlier_42 : decode cX0_isEarlier 42 = .ok (.aload_n 0, 1) := by decide +kernel
theorem dX0_isEarlier_43 : decode cX0_isEarlier 43 = .ok (.getfield 15, 3) := by decide +kernel
theorem dX0_isEarlier_46 : decode cX0_isEarlier 46 = .ok (.iload_n 2, 1) := by decide +kernel
theorem dX0_isEarlier_47 : decode cX0_isEarlier 47 = .ok (.iaload, 1) := by decide +kernel
theorem dX0_isEarlier_48 : decode cX0_isEarlier 48 = .ok (.if_icmp .eq 26, 3) := by decide +kernel
theorem dX0_isEarlier_51 : decode cX0_isEarlier 51 = .ok (.aload_n 0, 1) := by decide +kernel
theorem dX0_isEarlier_52 : decode cX0_isEarlier 52 = .ok (.getfield 15, 3) := by decide +kernel
theorem dX0_isEarlier_55 : decode cX0_isEarlier 55 = .ok (.iload_n 1, 1) := by decide +kernel
theorem dX0_isEarlier_56 : decode cX0_isEarlier 56 = .ok (.iaload, 1) := by decide +kernel
theorem dX0_isEarlier_57 : decode cX0_isEarlier 57 = .ok (.aload_n 0, 1) := by decide +kernel
theorem dX0_isEarlier_58 : decode cX0_isEarlier 58 = .ok (.getfield 15, 3) := by decide +kernel
theorem dX0_isEarlier_61 : decode cX0_isEarlier 61 = .ok (.iload_n 2, 1) := by decide +kernel
theorem dX0_isEarlier_62 : decode cX0_isEarlier 62 = .ok (.iaload, 1) := by decide +kernel
theorem dX0_isEarlier_63 : decode cX0_isEarlier 63 = .ok (.if_icmp .ge 7, 3) := by decide +kernel
theorem dX0_isEarlier_66 : decode cX0_isEarlier 66 = .ok (.iconst 1, 1) := by decide +kernel
theorem dX0_isEarlier_67 : decode cX0_isEarlier 67 = .ok (.goto 17, 3) := by decide +kernel
theorem dX0_isEarlier_70 : decode cX0_isEarlier 70 = .ok (.iconst 0, 1) := by decide +kernel
theorem dX0_isEarlier_71 : decode cX0_isEarlier 71 = .ok (.goto 13, 3) := by decide +kernel
theorem dX0_isEarlier_74 : decode cX0_isEarlier 74 = .ok (.iload_n 1, 1) := by decide +kernel
theorem dX0_isEarlier_75 : decode cX0_isEarlier 75 = .ok (.iload_n 2, 1) := by decide +kernel
theorem dX0_isEarlier_76 : decode cX0_isEarlier 76 = .ok (.if_icmp .ge 7, 3) := by decide +kernel
theorem dX0_isEarlier_79 : decode cX0_isEarlier 79 = .ok (.iconst 1, 1) := by decide +kernel
theorem dX0_isEarlier_80 : decode cX0_isEarlier 80 = .ok (.goto 4, 3) := by decide +kernel
theorem dX0_isEarlier_83 : decode cX0_isEarlier 83 = .ok (.iconst 0, 1) := by decide +kernel
theorem dX0_isEarlier_84 : decode cX0_isEarlier 84 = .ok (.ireturn, 1) := by decide +kernel
set_option maxRecDepth 20000 in
theorem ggX0_told_X0_content : GoodIn wsX0_told wsX0_content := goodIn_r _ [9, 10, 11, 12, 8, 13, 14, 15, 16, 17, 18, 4, 19, 20, 21, 22, 23, 24] (by decide +kernel) (by decide +kernel)
set_option maxRecDepth 20000 in
theorem gX0_told_X0_content : GoodIn wsX0_told (wsV RX0 46 RX0 yX0_content wsX0_content) := goodIn_app (goodIn_of _ (by decide +kernel)) ggX0_told_X0_content
theorem dX0_told_0 : decode cX0_told 0 = .ok (.iload_n 1, 1) := by decide +kernel
theorem dX0_told_1 : decode cX0_told 1 = .ok (.ifCond .lt 9, 3) := by decide +kernel
theorem dX0_told_4 : decode cX0_told 4 = .ok (.iload_n 1, 1) := by decide +kernel
theorem dX0_told_5 : decode cX0_told 5 = .ok (.bipush 60, 2) := by decide +kernel
theorem dX0_told_7 : decode cX0_told 7 = .ok (.if_icmp .lt 6, 3) := by decide +kernel
theorem dX0_told_10 : decode cX0_told 10 = .ok (.bipush (-9), 2) := by decide +kernel
theorem dX0_told_12 : decode cX0_told 12 = .ok (.ireturn, 1) := by decide +kernel
theorem dX0_told_13 : decode cX0_told 13 = .ok (.iload_n 2, 1) := by decide +kernel
theorem dX0_told_14 : decode cX0_told 14 = .ok (.tableswitch 57 0 3 #[30, 37, 44, 51], 30) := by decide +kernel
theorem dX0_told_44 : decode cX0_told 44 = .ok (.aload_n 0, 1) := by decide +kernel
theorem dX0_told_45 : decode cX0_told 45 = .ok (.getfield 15, 3) := by decide +kernel
theorem dX0_told_48 : decode cX0_told 48 = .ok (.iload_n 1, 1) := by decide +kernel
theorem dX0_told_49 : decode cX0_told 49 = .ok (.iaload, 1) := by decide +kernel
theorem dX0_told_50 : decode cX0_told 50 = .ok (.ireturn, 1) := by decide +kernel
theorem dX0_told_51 : decode cX0_told 51 = .ok (.aload_n 0, 1) := by decide +kernel
theorem dX0_told_52 : decode cX0_told 52 = .ok (.getfield 19, 3) := by decide +kernel
theorem dX0_told_55 : decode cX0_told 55 = .ok (.iload_n 1, 1) := by decide +kernel
theorem dX0_told_56 : decode cX0_told 56 = .ok (.iaload, 1) := by decide +kernel
theorem dX0_told_57 : decode cX0_told 57 = .ok (.ireturn, 1) := by decide +kernel
theorem dX0_told_58 : decode cX0_told 58 = .ok (.aload_n 0, 1) := by decide +kernel
theorem dX0_told_59 : decode cX0_told 59 = .ok (.getfield 22, 3) := by decide +kernel
theorem dX0_told_62 : decode cX0_told 62 = .ok (.iload_n 1, 1) := by decide +kernel
theorem dX0_told_63 : decode cX0_told 63 = .ok (.iaload, 1) := by decide +kernel
theorem dX0_told_64 : decode cX0_told 64 = .ok (.ireturn, 1) := by decide +kernel
theorem dX0_told_65 : decode cX0_told 65 = .ok (.aload_n 0, 1) := by decide +kernel
theorem dX0_told_66 : decode cX0_told 66 = .ok (.iload_n 1, 1) := by decide +kernel
theorem dX0_told_67 : decode cX0_told 67 = .ok (.invokevirtual 46, 3) := by decide +kernel
theorem dX0_told_70 : decode cX0_told 70 = .ok (.ireturn, 1) := by decide +kernel
theorem dX0_told_71 : decode cX0_told 71 = .ok (.aload_n 0, 1) := by decide +kernel
theorem dX0_told_72 : decode cX0_told 72 = .ok (.getfield 25, 3) := by decide +kernel
theorem dX0_told_75 : decode cX0_told 75 = .ok (.iload_n 1, 1) := by decide +kernel
theorem dX0_told_76 : decode cX0_told 76 = .ok (.iaload, 1) := by decide +kernel
theorem dX0_told_77 : decode cX0_told 77 = .ok (.ireturn, 1) := by decide +kernel
set_option maxRecDepth 20000 in
theorem ggX0_lettersOnTheWay_X0_lettersOf : GoodIn wsX0_lettersOnTheWay wsX0_lettersOf := goodIn_r _ [6, 7, 8, 9, 10, 11, 12, 13] (by decide +kernel) (by decide +kernel)
set_option maxRecDepth 20000 in
theorem gX0_lettersOnTheWay_X0_lettersOf : GoodIn wsX0_lettersOnTheWay (wsV RX0 49 RX0 yX0_lettersOf wsX0_lettersOf) := goodIn_app (goodIn_of _ (by decide +kernel)) ggX0_lettersOnTheWay_X0_lettersOf
theorem dX0_lettersOnTheWay_0 : decode cX0_lettersOnTheWay 0 = .ok (.iconst 0, 1) := by decide +kernel
theorem dX0_lettersOnTheWay_1 : decode cX0_lettersOnTheWay 1 = .ok (.istore_n 2, 1) := by decide +kernel
theorem dX0_lettersOnTheWay_2 : decode cX0_lettersOnTheWay 2 = .ok (.iconst 0, 1) := by decide +kernel
theorem dX0_lettersOnTheWay_3 : decode cX0_lettersOnTheWay 3 = .ok (.istore_n 3, 1) := by decide +kernel
theorem dX0_lettersOnTheWay_4 : decode cX0_lettersOnTheWay 4 = .ok (.iload_n 3, 1) := by decide +kernel
theorem dX0_lettersOnTheWay_5 : decode cX0_lettersOnTheWay 5 = .ok (.aload_n 0, 1) := by decide +kernel
theorem dX0_lettersOnTheWay_6 : decode cX0_lettersOnTheWay 6 = .ok (.getfield 9, 3) := by decide +kernel
theorem dX0_lettersOnTheWay_9 : decode cX0_lettersOnTheWay 9 = .ok (.if_icmp .ge 18, 3) := by decide +kernel
theorem dX0_lettersOnTheWay_12 : decode cX0_lettersOnTheWay 12 = .ok (.iload_n 2, 1) := by decide +kernel
theorem dX0_lettersOnTheWay_13 : decode cX0_lettersOnTheWay 13 = .ok (.aload_n 0, 1) := by decide +kernel
theorem dX0_lettersOnTheWay_14 : decode cX0_lettersOnTheWay 14 = .ok (.iload_n 3, 1) := by decide +kernel
theorem dX0_lettersOnTheWay_15 : decode cX0_lettersOnTheWay 15 = .ok (.iload_n 1, 1) := by decide +kernel
theorem dX0_lettersOnTheWay_16 : decode cX0_lettersOnTheWay 16 = .ok (.invokevirtual 49, 3) := by decide +kernel
theorem dX0_lettersOnTheWay_19 : decode cX0_lettersOnTheWay 19 = .ok (.iadd, 1) := by decide +kernel
theorem dX0_lettersOnTheWay_20 : decode cX0_lettersOnTheWay 20 = .ok (.istore_n 2, 1) := by decide +kernel
theorem dX0_lettersOnTheWay_21 : decode cX0_lettersOnTheWay 21 = .ok (.iinc 3 1, 3) := by decide +kernel
theorem dX0_lettersOnTheWay_24 : decode cX0_lettersOnTheWay 24 = .ok (.goto (-20), 3) := by decide +kernel
theorem dX0_lettersOnTheWay_27 : decode cX0_lettersOnTheWay 27 = .ok (.iload_n 2, 1) := by decide +kernel
theorem dX0_lettersOnTheWay_28 : decode cX0_lettersOnTheWay 28 = .ok (.ireturn, 1) := by decide +kernel
theorem dX0_blocksOf_0 : decode cX0_blocksOf 0 = .ok (.iconst 0, 1) := by decide +kernel
theorem dX0_blocksOf_1 : decode cX0_blocksOf 1 = .ok (.istore_n 2, 1) := by decide +kernel
theorem dX0_blocksOf_2 : decode cX0_blocksOf 2 = .ok (.iconst 0, 1) := by decide +kernel
theorem dX0_blocksOf_3 : decode cX0_blocksOf 3 = .ok (.istore_n 3, 1) := by decide +kernel
theorem dX0_blocksOf_4 : decode cX0_blocksOf 4 = .ok (.iload_n 3, 1) := by decide +kernel
theorem dX0_blocksOf_5 : decode cX0_blocksOf 5 = .ok (.aload_n 0, 1) := by decide +kernel
theorem dX0_blocksOf_6 : decode cX0_blocksOf 6 = .ok (.getfield 9, 3) := by decide +kernel
theorem dX0_blocksOf_9 : decode cX0_blocksOf 9 = .ok (.if_icmp .ge 33, 3) := by decide +kernel
theorem dX0_blocksOf_12 : decode cX0_blocksOf 12 = .ok (.iload_n 3, 1) := by decide +kernel
theorem dX0_blocksOf_13 : decode cX0_blocksOf 13 = .ok (.bipush 60, 2) := by decide +kernel
theorem dX0_blocksOf_15 : decode cX0_blocksOf 15 = .ok (.if_icmp .ge 27, 3) := by decide +kernel
theorem dX0_blocksOf_18 : decode cX0_blocksOf 18 = .ok (.iload_n 2, 1) := by decide +kernel
theorem dX0_blocksOf_19 : decode cX0_blocksOf 19 = .ok (.aload_n 0, 1) := by decide +kernel
theorem dX0_blocksOf_20 : decode cX0_blocksOf 20 = .ok (.getfield 15, 3) := by decide +kernel
theorem dX0_blocksOf_23 : decode cX0_blocksOf 23 = .ok (.iload_n 3, 1) := by decide +kernel
theorem dX0_blocksOf_24 : decode cX0_blocksOf 24 = .ok (.iaload, 1) := by decide +kernel
theorem dX0_blocksOf_25 : decode cX0_blocksOf 25 = .ok (.iload_n 1, 1) := by decide +kernel
theorem dX0_blocksOf_26 : decode cX0_blocksOf 26 = .ok (.if_icmp .ne 7, 3) := by decide +kernel
theorem dX0_blocksOf_29 : decode cX0_blocksOf 29 = .ok (.iconst 1, 1) := by decide +kernel
theorem dX0_blocksOf_30 : decode cX0_blocksOf 30 = .ok (.goto 4, 3) := by decide +kernel
theorem dX0_blocksOf_33 : decode cX0_blocksOf 33 = .ok (.iconst 0, 1) := by decide +kernel
theorem dX0_blocksOf_34 : decode cX0_blocksOf 34 = .ok (.iadd, 1) := by decide +kernel
theorem dX0_blocksOf_35 : decode cX0_blocksOf 35 = .ok (.istore_n 2, 1) := by decide +kernel
theorem dX0_blocksOf_36 : decode cX0_blocksOf 36 = .ok (.iinc 3 1, 3) := by decide +kernel
theorem dX0_blocksOf_39 : decode cX0_blocksOf 39 = .ok (.goto (-35), 3) := by decide +kernel
theorem dX0_blocksOf_42 : decode cX0_blocksOf 42 = .ok (.iload_n 2, 1) := by decide +kernel
theorem dX0_blocksOf_43 : decode cX0_blocksOf 43 = .ok (.ireturn, 1) := by decide +kernel
set_option maxRecDepth 20000 in
theorem ggX0_copyFrom_X7_copyRow : GoodIn wsX0_copyFrom wsX7_copyRow := goodIn_r _ [9, 10, 11, 12, 13, 14, 15, 16, 17] (by decide +kernel) (by decide +kernel)
set_option maxRecDepth 20000 in
theorem gX0_copyFrom_X7_copyRow_n53 : GoodIn wsX0_copyFrom (wsX7_copyRow) := ggX0_copyFrom_X7_copyRow
theorem dX0_copyFrom_0 : decode cX0_copyFrom 0 = .ok (.aload_n 0, 1) := by decide +kernel
theorem dX0_copyFrom_1 : decode cX0_copyFrom 1 = .ok (.aload_n 1, 1) := by decide +kernel
theorem dX0_copyFrom_2 : decode cX0_copyFrom 2 = .ok (.getfield 9, 3) := by decide +kernel
theorem dX0_copyFrom_5 : decode cX0_copyFrom 5 = .ok (.putfield 9, 3) := by decide +kernel
theorem dX0_copyFrom_8 : decode cX0_copyFrom 8 = .ok (.aload_n 1, 1) := by decide +kernel
theorem dX0_copyFrom_9 : decode cX0_copyFrom 9 = .ok (.getfield 15, 3) := by decide +kernel
theorem dX0_copyFrom_12 : decode cX0_copyFrom 12 = .ok (.aload_n 0, 1) := by decide +kernel
theorem dX0_copyFrom_13 : decode cX0_copyFrom 13 = .ok (.getfield 15, 3) := by decide +kernel
theorem dX0_copyFrom_16 : decode cX0_copyFrom 16 = .ok (.invokestatic 53, 3) := by decide +kernel
theorem dX0_copyFrom_19 : decode cX0_copyFrom 19 = .ok (.aload_n 1, 1) := by decide +kernel
theorem dX0_copyFrom_20 : decode cX0_copyFrom 20 = .ok (.getfield 19, 3) := by decide +kernel
theorem dX0_copyFrom_23 : decode cX0_copyFrom 23 = .ok (.aload_n 0, 1) := by decide +kernel
theorem dX0_copyFrom_24 : decode cX0_copyFrom 24 = .ok (.getfield 19, 3) := by decide +kernel
theorem dX0_copyFrom_27 : decode cX0_copyFrom 27 = .ok (.invokestatic 53, 3) := by decide +kernel
theorem dX0_copyFrom_30 : decode cX0_copyFrom 30 = .ok (.aload_n 1, 1) := by decide +kernel
theorem dX0_copyFrom_31 : decode cX0_copyFrom 31 = .ok (.getfield 22, 3) := by decide +kernel
theorem dX0_copyFrom_34 : decode cX0_copyFrom 34 = .ok (.aload_n 0, 1) := by decide +kernel
theorem dX0_copyFrom_35 : decode cX0_copyFrom 35 = .ok (.getfield 22, 3) := by decide +kernel
theorem dX0_copyFrom_38 : decode cX0_copyFrom 38 = .ok (.invokestatic 53, 3) := by decide +kernel
theorem dX0_copyFrom_41 : decode cX0_copyFrom 41 = .ok (.aload_n 1, 1) := by decide +kernel
theorem dX0_copyFrom_42 : decode cX0_copyFrom 42 = .ok (.getfield 25, 3) := by decide +kernel
theorem dX0_copyFrom_45 : decode cX0_copyFrom 45 = .ok (.aload_n 0, 1) := by decide +kernel
theorem dX0_copyFrom_46 : decode cX0_copyFrom 46 = .ok (.getfield 25, 3) := by decide +kernel
theorem dX0_copyFrom_49 : decode cX0_copyFrom 49 = .ok (.invokestatic 53, 3) := by decide +kernel
theorem dX0_copyFrom_52 : decode cX0_copyFrom 52 = .ok (.aload_n 1, 1) := by decide +kernel
theorem dX0_copyFrom_53 : decode cX0_copyFrom 53 = .ok (.getfield 28, 3) := by decide +kernel
theorem dX0_copyFrom_56 : decode cX0_copyFrom 56 = .ok (.aload_n 0, 1) := by decide +kernel
theorem dX0_copyFrom_57 : decode cX0_copyFrom 57 = .ok (.getfield 28, 3) := by decide +kernel
theorem dX0_copyFrom_60 : decode cX0_copyFrom 60 = .ok (.invokestatic 53, 3) := by decide +kernel
theorem dX0_copyFrom_63 : decode cX0_copyFrom 63 = .ok (.return_, 1) := by decide +kernel
