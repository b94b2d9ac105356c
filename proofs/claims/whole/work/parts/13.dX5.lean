theorem dX5_init_0 : decode cX5_init 0 = .ok (.aload_n 0, 1) := by decide +kernel
theorem dX5_init_1 : decode cX5_init 1 = .ok (.invokespecial 3, 3) := by decide +kernel
theorem dX5_init_4 : decode cX5_init 4 = .ok (.aload_n 0, 1) := by decide +kernel
theorem dX5_init_5 : decode cX5_init 5 = .ok (.iconst 0, 1) := by decide +kernel
theorem dX5_init_6 : decode cX5_init 6 = .ok (.putfield 9, 3) := by decide +kernel
theorem dX5_init_9 : decode cX5_init 9 = .ok (.aload_n 0, 1) := by decide +kernel
theorem dX5_init_10 : decode cX5_init 10 = .ok (.aload_n 1, 1) := by decide +kernel
theorem dX5_init_11 : decode cX5_init 11 = .ok (.putfield 15, 3) := by decide +kernel
theorem dX5_init_14 : decode cX5_init 14 = .ok (.aload_n 0, 1) := by decide +kernel
theorem dX5_init_15 : decode cX5_init 15 = .ok (.aload_n 2, 1) := by decide +kernel
theorem dX5_init_16 : decode cX5_init 16 = .ok (.putfield 19, 3) := by decide +kernel
theorem dX5_init_19 : decode cX5_init 19 = .ok (.return_, 1) := by decide +kernel
set_option maxRecDepth 20000 in
theorem ggX5_bring_X7_isWithin : GoodIn wsX5_bring wsX7_isWithin := goodIn_r _ [8] (by decide +kernel) (by decide +kernel)
set_option maxRecDepth 20000 in
theorem gX5_bring_X7_isWithin_n29 : GoodIn wsX5_bring (wsX7_isWithin) := ggX5_bring_X7_isWithin
set_option maxRecDepth 20000 in
theorem ggX5_bring_X5_waitsUpTo : GoodIn wsX5_bring wsX5_waitsUpTo := goodIn_r _ [13, 1, 14, 2, 3, 5, 15, 16, 17, 18, 19, 20, 21, 22, 23, 24, 25, 26, 27, 28, 29, 30, 31, 32, 33, 34, 35, 36, 37, 38, 39, 40, 41, 42, 43, 44, 45, 46, 47, 48, 49] (by decide +kernel) (by decide +kernel)
set_option maxRecDepth 20000 in
theorem gX5_bring_X5_waitsUpTo : GoodIn wsX5_bring (wsV RX5 33 RX5 yX5_waitsUpTo wsX5_waitsUpTo) := goodIn_app (goodIn_of _ (by decide +kernel)) ggX5_bring_X5_waitsUpTo
theorem dX5_bring_0 : decode cX5_bring 0 = .ok (.aload_n 0, 1) := by decide +kernel
theorem dX5_bring_1 : decode cX5_bring 1 = .ok (.getfield 15, 3) := by decide +kernel
theorem dX5_bring_4 : decode cX5_bring 4 = .ok (.getfield 23, 3) := by decide +kernel
theorem dX5_bring_7 : decode cX5_bring 7 = .ok (.iload_n 1, 1) := by decide +kernel
theorem dX5_bring_8 : decode cX5_bring 8 = .ok (.iaload, 1) := by decide +kernel
theorem dX5_bring_9 : decode cX5_bring 9 = .ok (.istore_n 3, 1) := by decide +kernel
theorem dX5_bring_10 : decode cX5_bring 10 = .ok (.iload_n 3, 1) := by decide +kernel
theorem dX5_bring_11 : decode cX5_bring 11 = .ok (.iconst 0, 1) := by decide +kernel
theorem dX5_bring_12 : decode cX5_bring 12 = .ok (.iconst 2, 1) := by decide +kernel
theorem dX5_bring_13 : decode cX5_bring 13 = .ok (.invokestatic 29, 3) := by decide +kernel
theorem dX5_bring_16 : decode cX5_bring 16 = .ok (.ifCond .eq 21, 3) := by decide +kernel
theorem dX5_bring_19 : decode cX5_bring 19 = .ok (.aload_n 0, 1) := by decide +kernel
theorem dX5_bring_20 : decode cX5_bring 20 = .ok (.iload_n 1, 1) := by decide +kernel
theorem dX5_bring_21 : decode cX5_bring 21 = .ok (.invokevirtual 33, 3) := by decide +kernel
theorem dX5_bring_24 : decode cX5_bring 24 = .ok (.ifCond .ne 13, 3) := by decide +kernel
theorem dX5_bring_27 : decode cX5_bring 27 = .ok (.aload_n 0, 1) := by decide +kernel
theorem dX5_bring_28 : decode cX5_bring 28 = .ok (.getfield 19, 3) := by decide +kernel
theorem dX5_bring_31 : decode cX5_bring 31 = .ok (.getfield 37, 3) := by decide +kernel
theorem dX5_bring_34 : decode cX5_bring 34 = .ok (.iload_n 3, 1) := by decide +kernel
theorem dX5_bring_35 : decode cX5_bring 35 = .ok (.iconst 1, 1) := by decide +kernel
theorem dX5_bring_36 : decode cX5_bring 36 = .ok (.iastore, 1) := by decide +kernel
theorem dX5_bring_37 : decode cX5_bring 37 = .ok (.aload_n 0, 1) := by decide +kernel
theorem dX5_bring_38 : decode cX5_bring 38 = .ok (.getfield 19, 3) := by decide +kernel
theorem dX5_bring_41 : decode cX5_bring 41 = .ok (.getfield 42, 3) := by decide +kernel
theorem dX5_bring_44 : decode cX5_bring 44 = .ok (.iload_n 1, 1) := by decide +kernel
theorem dX5_bring_45 : decode cX5_bring 45 = .ok (.dup2, 1) := by decide +kernel
theorem dX5_bring_46 : decode cX5_bring 46 = .ok (.iaload, 1) := by decide +kernel
theorem dX5_bring_47 : decode cX5_bring 47 = .ok (.iload_n 2, 1) := by decide +kernel
theorem dX5_bring_48 : decode cX5_bring 48 = .ok (.iadd, 1) := by decide +kernel
theorem dX5_bring_49 : decode cX5_bring 49 = .ok (.iastore, 1) := by decide +kernel
theorem dX5_bring_50 : decode cX5_bring 50 = .ok (.return_, 1) := by decide +kernel
set_option maxRecDepth 20000 in
theorem ggX5_waitsUpTo_X3_isAhead : GoodIn wsX5_waitsUpTo wsX3_isAhead := goodIn_r _ [10, 11, 15, 16, 17, 18, 19, 20, 21, 22, 23, 24, 25] (by decide +kernel) (by decide +kernel)
set_option maxRecDepth 20000 in
theorem gX5_waitsUpTo_X3_isAhead : GoodIn wsX5_waitsUpTo (wsV RX5 48 RX3 yX3_isAhead wsX3_isAhead) := goodIn_app (goodIn_of _ (by decide +kernel)) ggX5_waitsUpTo_X3_isAhead
theorem dX5_waitsUpTo_0 : decode cX5_waitsUpTo 0 = .ok (.iconst 0, 1) := by decide +kernel
theorem dX5_waitsUpTo_1 : decode cX5_waitsUpTo 1 = .ok (.istore_n 2, 1) := by decide +kernel
theorem dX5_waitsUpTo_2 : decode cX5_waitsUpTo 2 = .ok (.iload_n 2, 1) := by decide +kernel
theorem dX5_waitsUpTo_3 : decode cX5_waitsUpTo 3 = .ok (.aload_n 0, 1) := by decide +kernel
theorem dX5_waitsUpTo_4 : decode cX5_waitsUpTo 4 = .ok (.getfield 15, 3) := by decide +kernel
theorem dX5_waitsUpTo_7 : decode cX5_waitsUpTo 7 = .ok (.getfield 45, 3) := by decide +kernel
theorem dX5_waitsUpTo_10 : decode cX5_waitsUpTo 10 = .ok (.if_icmp .ge 66, 3) := by decide +kernel
theorem dX5_waitsUpTo_13 : decode cX5_waitsUpTo 13 = .ok (.aload_n 0, 1) := by decide +kernel
theorem dX5_waitsUpTo_14 : decode cX5_waitsUpTo 14 = .ok (.getfield 15, 3) := by decide +kernel
theorem dX5_waitsUpTo_17 : decode cX5_waitsUpTo 17 = .ok (.getfield 23, 3) := by decide +kernel
theorem dX5_waitsUpTo_20 : decode cX5_waitsUpTo 20 = .ok (.iload_n 2, 1) := by decide +kernel
theorem dX5_waitsUpTo_21 : decode cX5_waitsUpTo 21 = .ok (.iaload, 1) := by decide +kernel
theorem dX5_waitsUpTo_22 : decode cX5_waitsUpTo 22 = .ok (.aload_n 0, 1) := by decide +kernel
theorem dX5_waitsUpTo_23 : decode cX5_waitsUpTo 23 = .ok (.getfield 15, 3) := by decide +kernel
theorem dX5_waitsUpTo_26 : decode cX5_waitsUpTo 26 = .ok (.getfield 23, 3) := by decide +kernel
theorem dX5_waitsUpTo_29 : decode cX5_waitsUpTo 29 = .ok (.iload_n 1, 1) := by decide +kernel
theorem dX5_waitsUpTo_30 : decode cX5_waitsUpTo 30 = .ok (.iaload, 1) := by decide +kernel
theorem dX5_waitsUpTo_31 : decode cX5_waitsUpTo 31 = .ok (.if_icmp .ne 19, 3) := by decide +kernel
theorem dX5_waitsUpTo_34 : decode cX5_waitsUpTo 34 = .ok (.aload_n 0, 1) := by decide +kernel
theorem dX5_waitsUpTo_35 : decode cX5_waitsUpTo 35 = .ok (.getfield 15, 3) := by decide +kernel
theorem dX5_waitsUpTo_38 : decode cX5_waitsUpTo 38 = .ok (.iload_n 1, 1) := by decide +kernel
theorem dX5_waitsUpTo_39 : decode cX5_waitsUpTo 39 = .ok (.iload_n 2, 1) := by decide +kernel
theorem dX5_waitsUpTo_40 : decode cX5_waitsUpTo 40 = .ok (.invokevirtual 48, 3) := by decide +kernel
theorem dX5_waitsUpTo_43 : decode cX5_waitsUpTo 43 = .ok (.ifCond .ne 7, 3) := by decide +kernel
theorem dX5_waitsUpTo_46 : decode cX5_waitsUpTo 46 = .ok (.iconst 1, 1) := by decide +kernel
theorem dX5_waitsUpTo_47 : decode cX5_waitsUpTo 47 = .ok (.goto 4, 3) := by decide +kernel
theorem dX5_waitsUpTo_50 : decode cX5_waitsUpTo 50 = .ok (.iconst 0, 1) := by decide +kernel
theorem dX5_waitsUpTo_51 : decode cX5_waitsUpTo 51 = .ok (.istore_n 3, 1) := by decide +kernel
theorem dX5_waitsUpTo_52 : decode cX5_waitsUpTo 52 = .ok (.iload_n 3, 1) := by decide +kernel
theorem dX5_waitsUpTo_53 : decode cX5_waitsUpTo 53 = .ok (.ifCond .eq 17, 3) := by decide +kernel
theorem dX5_waitsUpTo_56 : decode cX5_waitsUpTo 56 = .ok (.aload_n 0, 1) := by decide +kernel
theorem dX5_waitsUpTo_57 : decode cX5_waitsUpTo 57 = .ok (.getfield 19, 3) := by decide +kernel
theorem dX5_waitsUpTo_60 : decode cX5_waitsUpTo 60 = .ok (.getfield 42, 3) := by decide +kernel
theorem dX5_waitsUpTo_63 : decode cX5_waitsUpTo 63 = .ok (.iload_n 2, 1) := by decide +kernel
theorem dX5_waitsUpTo_64 : decode cX5_waitsUpTo 64 = .ok (.iaload, 1) := by decide +kernel
theorem dX5_waitsUpTo_65 : decode cX5_waitsUpTo 65 = .ok (.ifCond .le 5, 3) := by decide +kernel
theorem dX5_waitsUpTo_68 : decode cX5_waitsUpTo 68 = .ok (.iconst 1, 1) := by decide +kernel
theorem dX5_waitsUpTo_69 : decode cX5_waitsUpTo 69 = .ok (.ireturn, 1) := by decide +kernel
theorem dX5_waitsUpTo_70 : decode cX5_waitsUpTo 70 = .ok (.iinc 2 1, 3) := by decide +kernel
theorem dX5_waitsUpTo_73 : decode cX5_waitsUpTo 73 = .ok (.goto (-71), 3) := by decide +kernel
theorem dX5_waitsUpTo_76 : decode cX5_waitsUpTo 76 = .ok (.iconst 0, 1) := by decide +kernel
theorem dX5_waitsUpTo_77 : decode cX5_waitsUpTo 77 = .ok (.ireturn, 1) := by decide +kernel
theorem dX5_waitingAt_0 : decode cX5_waitingAt 0 = .ok (.iconst 0, 1) := by decide +kernel
theorem dX5_waitingAt_1 : decode cX5_waitingAt 1 = .ok (.istore_n 2, 1) := by decide +kernel
theorem dX5_waitingAt_2 : decode cX5_waitingAt 2 = .ok (.iconst 0, 1) := by decide +kernel
theorem dX5_waitingAt_3 : decode cX5_waitingAt 3 = .ok (.istore_n 3, 1) := by decide +kernel
theorem dX5_waitingAt_4 : decode cX5_waitingAt 4 = .ok (.iload_n 3, 1) := by decide +kernel
theorem dX5_waitingAt_5 : decode cX5_waitingAt 5 = .ok (.aload_n 0, 1) := by decide +kernel
theorem dX5_waitingAt_6 : decode cX5_waitingAt 6 = .ok (.getfield 15, 3) := by decide +kernel
theorem dX5_waitingAt_9 : decode cX5_waitingAt 9 = .ok (.getfield 45, 3) := by decide +kernel
theorem dX5_waitingAt_12 : decode cX5_waitingAt 12 = .ok (.if_icmp .ge 38, 3) := by decide +kernel
theorem dX5_waitingAt_15 : decode cX5_waitingAt 15 = .ok (.iload_n 2, 1) := by decide +kernel
theorem dX5_waitingAt_16 : decode cX5_waitingAt 16 = .ok (.aload_n 0, 1) := by decide +kernel
theorem dX5_waitingAt_17 : decode cX5_waitingAt 17 = .ok (.getfield 15, 3) := by decide +kernel
theorem dX5_waitingAt_20 : decode cX5_waitingAt 20 = .ok (.getfield 23, 3) := by decide +kernel
theorem dX5_waitingAt_23 : decode cX5_waitingAt 23 = .ok (.iload_n 3, 1) := by decide +kernel
theorem dX5_waitingAt_24 : decode cX5_waitingAt 24 = .ok (.iaload, 1) := by decide +kernel
theorem dX5_waitingAt_25 : decode cX5_waitingAt 25 = .ok (.iload_n 1, 1) := by decide +kernel
theorem dX5_waitingAt_26 : decode cX5_waitingAt 26 = .ok (.if_icmp .ne 15, 3) := by decide +kernel
theorem dX5_waitingAt_29 : decode cX5_waitingAt 29 = .ok (.aload_n 0, 1) := by decide +kernel
theorem dX5_waitingAt_30 : decode cX5_waitingAt 30 = .ok (.getfield 19, 3) := by decide +kernel
theorem dX5_waitingAt_33 : decode cX5_waitingAt 33 = .ok (.getfield 42, 3) := by decide +kernel
theorem dX5_waitingAt_36 : decode cX5_waitingAt 36 = .ok (.iload_n 3, 1) := by decide +kernel
theorem dX5_waitingAt_37 : decode cX5_waitingAt 37 = .ok (.iaload, 1) := by decide +kernel
theorem dX5_waitingAt_38 : decode cX5_waitingAt 38 = .ok (.goto 4, 3) := by decide +kernel
theorem dX5_waitingAt_41 : decode cX5_waitingAt 41 = .ok (.iconst 0, 1) := by decide +kernel
theorem dX5_waitingAt_42 : decode cX5_waitingAt 42 = .ok (.iadd, 1) := by decide +kernel
theorem dX5_waitingAt_43 : decode cX5_waitingAt 43 = .ok (.istore_n 2, 1) := by decide +kernel
theorem dX5_waitingAt_44 : decode cX5_waitingAt 44 = .ok (.iinc 3 1, 3) := by decide +kernel
theorem dX5_waitingAt_47 : decode cX5_waitingAt 47 = .ok (.goto (-43), 3) := by decide +kernel
theorem dX5_waitingAt_50 : decode cX5_waitingAt 50 = .ok (.iload_n 2, 1) := by decide +kernel
theorem dX5_waitingAt_51 : decode cX5_waitingAt 51 = .ok (.ireturn, 1) := by decide +kernel
set_option maxRecDepth 20000 in
theorem ggX5_drainedWithin_X4_isDrained : GoodIn wsX5_drainedWithin wsX4_isDrained := goodIn_r _ [6, 7, 8, 9, 164, 165, 166, 167, 168, 169, 170, 171, 172, 173, 174, 175, 176, 177, 178, 179, 180, 181, 182, 183, 184] (by decide +kernel) (by decide +kernel)
set_option maxRecDepth 20000 in
theorem gX5_drainedWithin_X4_isDrained : GoodIn wsX5_drainedWithin (wsV RX5 52 RX4 yX4_isDrained wsX4_isDrained) := goodIn_app (goodIn_of _ (by decide +kernel)) ggX5_drainedWithin_X4_isDrained
set_option maxRecDepth 20000 in
theorem ggX5_drainedWithin_X5_takeSteps : GoodIn wsX5_drainedWithin wsX5_takeSteps := goodIn_r _ [14, 1, 15, 16, 17, 18, 19, 20, 21, 5, 22, 23, 24, 25, 26, 13, 27, 28, 29, 30, 31, 32, 33, 34, 35, 36, 37, 38, 39, 40, 41, 42, 43, 44, 45, 46, 47, 48, 49, 50, 51, 52, 53, 54, 55, 56, 57, 58, 59, 60, 61, 62, 63, 64, 65, 66, 67, 68, 69, 70, 71, 72, 73, 74, 75, 76, 77, 78, 79, 80, 81, 82, 83, 84, 85, 86, 87, 88, 89, 90, 91, 92, 93, 94, 95, 96, 97, 98, 99, 100, 101, 102, 103, 104, 105, 106, 107, 108, 109, 110, 111, 112, 113, 114, 115, 116, 117, 118, 119, 120, 121, 122, 123, 124, 125, 126, 127, 128, 129, 130, 131, 132, 133, 134, 135, 136, 137, 138, 139, 140, 141, 142, 143, 144, 145, 146, 147, 148, 149, 150, 151, 152, 153, 154, 155, 156, 157, 158, 159, 160, 161, 162, 163, 164, 165, 166, 167, 168, 169, 170, 171, 172, 173, 174, 175, 176, 177, 178, 185, 186, 187, 188, 189, 190, 191, 192, 193, 194, 195, 179, 180, 181, 182, 183, 184] (by decide +kernel) (by decide +kernel)
set_option maxRecDepth 20000 in
theorem gX5_drainedWithin_X5_takeSteps : GoodIn wsX5_drainedWithin (wsV RX5 56 RX5 yX5_takeSteps wsX5_takeSteps) := goodIn_app (goodIn_of _ (by decide +kernel)) ggX5_drainedWithin_X5_takeSteps
theorem dX5_drainedWithin_0 : decode cX5_drainedWithin 0 = .ok (.iconst 0, 1) := by decide +kernel
theorem dX5_drainedWithin_1 : decode cX5_drainedWithin 1 = .ok (.istore_n 2, 1) := by decide +kernel
theorem dX5_drainedWithin_2 : decode cX5_drainedWithin 2 = .ok (.iload_n 2, 1) := by decide +kernel
theorem dX5_drainedWithin_3 : decode cX5_drainedWithin 3 = .ok (.iload_n 1, 1) := by decide +kernel
theorem dX5_drainedWithin_4 : decode cX5_drainedWithin 4 = .ok (.if_icmp .gt 27, 3) := by decide +kernel
theorem dX5_drainedWithin_7 : decode cX5_drainedWithin 7 = .ok (.aload_n 0, 1) := by decide +kernel
theorem dX5_drainedWithin_8 : decode cX5_drainedWithin 8 = .ok (.getfield 19, 3) := by decide +kernel
theorem dX5_drainedWithin_11 : decode cX5_drainedWithin 11 = .ok (.invokevirtual 52, 3) := by decide +kernel
theorem dX5_drainedWithin_14 : decode cX5_drainedWithin 14 = .ok (.ifCond .eq 5, 3) := by decide +kernel
theorem dX5_drainedWithin_17 : decode cX5_drainedWithin 17 = .ok (.iload_n 2, 1) := by decide +kernel
theorem dX5_drainedWithin_18 : decode cX5_drainedWithin 18 = .ok (.ireturn, 1) := by decide +kernel
theorem dX5_drainedWithin_19 : decode cX5_drainedWithin 19 = .ok (.aload_n 0, 1) := by decide +kernel
theorem dX5_drainedWithin_20 : decode cX5_drainedWithin 20 = .ok (.iconst 1, 1) := by decide +kernel
theorem dX5_drainedWithin_21 : decode cX5_drainedWithin 21 = .ok (.invokevirtual 56, 3) := by decide +kernel
theorem dX5_drainedWithin_24 : decode cX5_drainedWithin 24 = .ok (.pop, 1) := by decide +kernel
theorem dX5_drainedWithin_25 : decode cX5_drainedWithin 25 = .ok (.iinc 2 1, 3) := by decide +kernel
theorem dX5_drainedWithin_28 : decode cX5_drainedWithin 28 = .ok (.goto (-26), 3) := by decide +kernel
theorem dX5_drainedWithin_31 : decode cX5_drainedWithin 31 = .ok (.bipush (-9), 2) := by decide +kernel
theorem dX5_drainedWithin_33 : decode cX5_drainedWithin 33 = .ok (.ireturn, 1) := by decide +kernel
set_option maxRecDepth 20000 in
theorem ggX5_takeSteps_X4_allThrough : GoodIn wsX5_takeSteps wsX4_allThrough := goodIn_r _ [10, 11, 153, 154, 155, 156, 157, 158, 159, 160, 161, 162, 163, 164, 165, 166, 167] (by decide +kernel) (by decide +kernel)
set_option maxRecDepth 20000 in
theorem gX5_takeSteps_X4_allThrough : GoodIn wsX5_takeSteps (wsV RX5 60 RX4 yX4_allThrough wsX4_allThrough) := goodIn_app (goodIn_of _ (by decide +kernel)) ggX5_takeSteps_X4_allThrough
set_option maxRecDepth 20000 in
theorem ggX5_takeSteps_X5_gainTokens : GoodIn wsX5_takeSteps wsX5_gainTokens := goodIn_r _ [16, 17, 18, 1, 19, 20, 21, 22, 23, 24, 25, 150, 151, 152, 168, 169, 170, 171, 172, 173, 174, 175, 176, 177, 178, 153, 154, 155, 156, 157, 158, 159, 160, 161, 162, 163, 164, 165, 166, 167] (by decide +kernel) (by decide +kernel)
set_option maxRecDepth 20000 in
theorem gX5_takeSteps_X5_gainTokens : GoodIn wsX5_takeSteps (wsV RX5 64 RX5 yX5_gainTokens wsX5_gainTokens) := goodIn_app (goodIn_of _ (by decide +kernel)) ggX5_takeSteps_X5_gainTokens
set_option maxRecDepth 20000 in
theorem ggX5_takeSteps_X5_askInPlaces : GoodIn wsX5_takeSteps wsX5_askInPlaces := goodIn_r _ [29, 17, 30, 1, 5, 31, 32, 33, 34, 35, 36, 37, 38, 39, 40, 41, 150, 151, 152, 168, 169, 170, 171, 172, 173, 174, 175, 176, 177, 178, 153, 154, 155, 156, 157, 158, 159, 160, 161, 162, 163, 164, 165, 166, 167] (by decide +kernel) (by decide +kernel)
set_option maxRecDepth 20000 in
theorem gX5_takeSteps_X5_askInPlaces : GoodIn wsX5_takeSteps (wsV RX5 67 RX5 yX5_askInPlaces wsX5_askInPlaces) := goodIn_app (goodIn_of _ (by decide +kernel)) ggX5_takeSteps_X5_askInPlaces
set_option maxRecDepth 20000 in
theorem ggX5_takeSteps_X5_sendAgain : GoodIn wsX5_takeSteps wsX5_sendAgain := goodIn_r _ [45, 17, 30, 1, 4, 46, 5, 3, 47, 48, 24, 49, 50, 51, 52, 53, 54, 55, 56, 57, 58, 59, 60, 61, 62, 63, 64, 65, 66, 67, 68, 69, 70, 71, 72, 73, 15, 74, 75, 76, 77, 78, 32, 79, 80, 81, 82, 83, 84, 85, 86, 87, 9, 88, 89, 90, 91, 92, 93, 94, 95, 96, 97, 98, 99, 100, 101, 102, 103, 150, 151, 152, 168, 169, 170, 171, 172, 173, 174, 175, 176, 177, 178, 153, 154, 155, 156, 157, 158, 159, 160, 161, 162, 163, 164, 165, 166, 167, 179, 180, 181, 182, 183, 184] (by decide +kernel) (by decide +kernel)
set_option maxRecDepth 20000 in
theorem gX5_takeSteps_X5_sendAgain : GoodIn wsX5_takeSteps (wsV RX5 73 RX5 yX5_sendAgain wsX5_sendAgain) := goodIn_app (goodIn_of _ (by decide +kernel)) ggX5_takeSteps_X5_sendAgain
set_option maxRecDepth 20000 in
theorem ggX5_takeSteps_X5_giveGrants : GoodIn wsX5_takeSteps wsX5_giveGrants := goodIn_r _ [107, 17, 30, 1, 108, 3, 33, 75, 109, 110, 111, 15, 112, 22, 23, 24, 25, 113, 114, 115, 116, 117, 4, 32, 118, 119, 120, 53, 121, 122, 55, 56, 84, 70, 65, 123, 124, 125, 126, 18, 127, 128, 129, 19, 130, 131, 132, 133, 134, 135, 136, 137, 138, 139, 140, 141, 57, 58, 59, 60, 61, 62, 63, 64, 66, 67, 68, 69, 71, 72, 73, 74, 5, 47, 48, 49, 76, 77, 78, 79, 80, 81, 82, 83, 85, 86, 87, 9, 88, 89, 90, 91, 92, 93, 94, 95, 96, 97, 98, 99, 100, 101, 102, 103, 150, 151, 152, 168, 169, 170, 171, 172, 173, 174, 175, 176, 177, 178, 153, 154, 155, 156, 157, 158, 159, 160, 161, 162, 163, 164, 165, 166, 167, 179, 180, 181, 182, 183, 184] (by decide +kernel) (by decide +kernel)
set_option maxRecDepth 20000 in
theorem gX5_takeSteps_X5_giveGrants : GoodIn wsX5_takeSteps (wsV RX5 76 RX5 yX5_giveGrants wsX5_giveGrants) := goodIn_app (goodIn_of _ (by decide +kernel)) ggX5_takeSteps_X5_giveGrants
set_option maxRecDepth 20000 in
theorem ggX5_takeSteps_X0_dropGone : GoodIn wsX5_takeSteps wsX0_dropGone := goodIn_r _ [145, 122, 56, 146, 147, 148, 53, 149, 55, 84, 70, 65, 179, 180, 181, 182, 183, 184] (by decide +kernel) (by decide +kernel)
set_option maxRecDepth 20000 in
theorem gX5_takeSteps_X0_dropGone : GoodIn wsX5_takeSteps (wsV RX5 83 RX0 yX0_dropGone wsX0_dropGone) := goodIn_app (goodIn_of _ (by decide +kernel)) ggX5_takeSteps_X0_dropGone
theorem dX5_takeSteps_0 : decode cX5_takeSteps 0 = .ok (.aload_n 0, 1) := by decide +kernel
theorem dX5_takeSteps_1 : decode cX5_takeSteps 1 = .ok (.getfield 19, 3) := by decide +kernel
theorem dX5_takeSteps_4 : decode cX5_takeSteps 4 = .ok (.invokevirtual 60, 3) := by decide +kernel
theorem dX5_takeSteps_7 : decode cX5_takeSteps 7 = .ok (.istore_n 2, 1) := by decide +kernel
theorem dX5_takeSteps_8 : decode cX5_takeSteps 8 = .ok (.iconst 0, 1) := by decide +kernel
theorem dX5_takeSteps_9 : decode cX5_takeSteps 9 = .ok (.istore_n 3, 1) := by decide +kernel
theorem dX5_takeSteps_10 : decode cX5_takeSteps 10 = .ok (.iload_n 3, 1) := by decide +kernel
theorem dX5_takeSteps_11 : decode cX5_takeSteps 11 = .ok (.iload_n 1, 1) := by decide +kernel
theorem dX5_takeSteps_12 : decode cX5_takeSteps 12 = .ok (.if_icmp .ge 59, 3) := by decide +kernel
theorem dX5_takeSteps_15 : decode cX5_takeSteps 15 = .ok (.aload_n 0, 1) := by decide +kernel
theorem dX5_takeSteps_16 : decode cX5_takeSteps 16 = .ok (.invokevirtual 64, 3) := by decide +kernel
theorem dX5_takeSteps_19 : decode cX5_takeSteps 19 = .ok (.aload_n 0, 1) := by decide +kernel
theorem dX5_takeSteps_20 : decode cX5_takeSteps 20 = .ok (.invokevirtual 67, 3) := by decide +kernel
theorem dX5_takeSteps_23 : decode cX5_takeSteps 23 = .ok (.aload_n 0, 1) := by decide +kernel
theorem dX5_takeSteps_24 : decode cX5_takeSteps 24 = .ok (.aload_n 0, 1) := by decide +kernel
theorem dX5_takeSteps_25 : decode cX5_takeSteps 25 = .ok (.getfield 19, 3) := by decide +kernel
theorem dX5_takeSteps_28 : decode cX5_takeSteps 28 = .ok (.getfield 70, 3) := by decide +kernel
theorem dX5_takeSteps_31 : decode cX5_takeSteps 31 = .ok (.putfield 9, 3) := by decide +kernel
theorem dX5_takeSteps_34 : decode cX5_takeSteps 34 = .ok (.aload_n 0, 1) := by decide +kernel
theorem dX5_takeSteps_35 : decode cX5_takeSteps 35 = .ok (.invokevirtual 73, 3) := by decide +kernel
theorem dX5_takeSteps_38 : decode cX5_takeSteps 38 = .ok (.aload_n 0, 1) := by decide +kernel
theorem dX5_takeSteps_39 : decode cX5_takeSteps 39 = .ok (.invokevirtual 76, 3) := by decide +kernel
theorem dX5_takeSteps_42 : decode cX5_takeSteps 42 = .ok (.aload_n 0, 1) := by decide +kernel
theorem dX5_takeSteps_43 : decode cX5_takeSteps 43 = .ok (.getfield 19, 3) := by decide +kernel
theorem dX5_takeSteps_46 : decode cX5_takeSteps 46 = .ok (.getfield 79, 3) := by decide +kernel
theorem dX5_takeSteps_49 : decode cX5_takeSteps 49 = .ok (.invokevirtual 83, 3) := by decide +kernel
theorem dX5_takeSteps_52 : decode cX5_takeSteps 52 = .ok (.aload_n 0, 1) := by decide +kernel
theorem dX5_takeSteps_53 : decode cX5_takeSteps 53 = .ok (.getfield 19, 3) := by decide +kernel
theorem dX5_takeSteps_56 : decode cX5_takeSteps 56 = .ok (.dup, 1) := by decide +kernel
theorem dX5_takeSteps_57 : decode cX5_takeSteps 57 = .ok (.getfield 88, 3) := by decide +kernel
theorem dX5_takeSteps_60 : decode cX5_takeSteps 60 = .ok (.iconst 1, 1) := by decide +kernel
theorem dX5_takeSteps_61 : decode cX5_takeSteps 61 = .ok (.iadd, 1) := by decide +kernel
theorem dX5_takeSteps_62 : decode cX5_takeSteps 62 = .ok (.putfield 88, 3) := by decide +kernel
theorem dX5_takeSteps_65 : decode cX5_takeSteps 65 = .ok (.iinc 3 1, 3) := by decide +kernel
theorem dX5_takeSteps_68 : decode cX5_takeSteps 68 = .ok (.goto (-58), 3) := by decide +kernel
theorem dX5_takeSteps_71 : decode cX5_takeSteps 71 = .ok (.aload_n 0, 1) := by decide +kernel
theorem dX5_takeSteps_72 : decode cX5_takeSteps 72 = .ok (.getfield 19, 3) := by decide +kernel
theorem dX5_takeSteps_75 : decode cX5_takeSteps 75 = .ok (.invokevirtual 60, 3) := by decide +kernel
theorem dX5_takeSteps_78 : decode cX5_takeSteps 78 = .ok (.iload_n 2, 1) := by decide +kernel
theorem dX5_takeSteps_79 : decode cX5_takeSteps 79 = .ok (.isub, 1) := by decide +kernel
theorem dX5_takeSteps_80 : decode cX5_takeSteps 80 = .ok (.ireturn, 1) := by decide +kernel
theorem dX5_gainTokens_0 : decode cX5_gainTokens 0 = .ok (.iconst 0, 1) := by decide +kernel
theorem dX5_gainTokens_1 : decode cX5_gainTokens 1 = .ok (.istore_n 1, 1) := by decide +kernel
theorem dX5_gainTokens_2 : decode cX5_gainTokens 2 = .ok (.iload_n 1, 1) := by decide +kernel
theorem dX5_gainTokens_3 : decode cX5_gainTokens 3 = .ok (.aload_n 0, 1) := by decide +kernel
theorem dX5_gainTokens_4 : decode cX5_gainTokens 4 = .ok (.getfield 15, 3) := by decide +kernel
theorem dX5_gainTokens_7 : decode cX5_gainTokens 7 = .ok (.getfield 45, 3) := by decide +kernel
theorem dX5_gainTokens_10 : decode cX5_gainTokens 10 = .ok (.if_icmp .ge 49, 3) := by decide +kernel
theorem dX5_gainTokens_13 : decode cX5_gainTokens 13 = .ok (.aload_n 0, 1) := by decide +kernel
theorem dX5_gainTokens_14 : decode cX5_gainTokens 14 = .ok (.getfield 19, 3) := by decide +kernel
theorem dX5_gainTokens_17 : decode cX5_gainTokens 17 = .ok (.getfield 91, 3) := by decide +kernel
theorem dX5_gainTokens_20 : decode cX5_gainTokens 20 = .ok (.iload_n 1, 1) := by decide +kernel
theorem dX5_gainTokens_21 : decode cX5_gainTokens 21 = .ok (.aload_n 0, 1) := by decide +kernel
theorem dX5_gainTokens_22 : decode cX5_gainTokens 22 = .ok (.getfield 15, 3) := by decide +kernel
theorem dX5_gainTokens_25 : decode cX5_gainTokens 25 = .ok (.getfield 94, 3) := by decide +kernel
theorem dX5_gainTokens_28 : decode cX5_gainTokens 28 = .ok (.iload_n 1, 1) := by decide +kernel
theorem dX5_gainTokens_29 : decode cX5_gainTokens 29 = .ok (.iaload, 1) := by decide +kernel
theorem dX5_gainTokens_30 : decode cX5_gainTokens 30 = .ok (.aload_n 0, 1) := by decide +kernel
theorem dX5_gainTokens_31 : decode cX5_gainTokens 31 = .ok (.getfield 19, 3) := by decide +kernel
theorem dX5_gainTokens_34 : decode cX5_gainTokens 34 = .ok (.getfield 91, 3) := by decide +kernel
theorem dX5_gainTokens_37 : decode cX5_gainTokens 37 = .ok (.iload_n 1, 1) := by decide +kernel
theorem dX5_gainTokens_38 : decode cX5_gainTokens 38 = .ok (.iaload, 1) := by decide +kernel
theorem dX5_gainTokens_39 : decode cX5_gainTokens 39 = .ok (.aload_n 0, 1) := by decide +kernel
theorem dX5_gainTokens_40 : decode cX5_gainTokens 40 = .ok (.getfield 15, 3) := by decide +kernel
theorem dX5_gainTokens_43 : decode cX5_gainTokens 43 = .ok (.getfield 97, 3) := by decide +kernel
theorem dX5_gainTokens_46 : decode cX5_gainTokens 46 = .ok (.iload_n 1, 1) := by decide +kernel
theorem dX5_gainTokens_47 : decode cX5_gainTokens 47 = .ok (.iaload, 1) := by decide +kernel
theorem dX5_gainTokens_48 : decode cX5_gainTokens 48 = .ok (.iadd, 1) := by decide +kernel
theorem dX5_gainTokens_49 : decode cX5_gainTokens 49 = .ok (.invokestatic 100, 3) := by decide +kernel
theorem dX5_gainTokens_52 : decode cX5_gainTokens 52 = .ok (.iastore, 1) := by decide +kernel
theorem dX5_gainTokens_53 : decode cX5_gainTokens 53 = .ok (.iinc 1 1, 3) := by decide +kernel
theorem dX5_gainTokens_56 : decode cX5_gainTokens 56 = .ok (.goto (-54), 3) := by decide +kernel
theorem dX5_gainTokens_59 : decode cX5_gainTokens 59 = .ok (.return_, 1) := by decide +kernel
set_option maxRecDepth 20000 in
theorem ggX5_askInPlaces_X3_isPlaceToAsk : GoodIn wsX5_askInPlaces wsX3_isPlaceToAsk := goodIn_r _ [14, 15, 19, 20, 21, 22, 23, 24, 25, 26, 27, 28, 29] (by decide +kernel) (by decide +kernel)
set_option maxRecDepth 20000 in
theorem gX5_askInPlaces_X3_isPlaceToAsk : GoodIn wsX5_askInPlaces (wsV RX5 109 RX3 yX3_isPlaceToAsk wsX3_isPlaceToAsk) := goodIn_app (goodIn_of _ (by decide +kernel)) ggX5_askInPlaces_X3_isPlaceToAsk
theorem dX5_askInPlaces_0 : decode cX5_askInPlaces 0 = .ok (.iconst 0, 1) := by decide +kernel
theorem dX5_askInPlaces_1 : decode cX5_askInPlaces 1 = .ok (.istore_n 1, 1) := by decide +kernel
theorem dX5_askInPlaces_2 : decode cX5_askInPlaces 2 = .ok (.iload_n 1, 1) := by decide +kernel
theorem dX5_askInPlaces_3 : decode cX5_askInPlaces 3 = .ok (.aload_n 0, 1) := by decide +kernel
theorem dX5_askInPlaces_4 : decode cX5_askInPlaces 4 = .ok (.getfield 15, 3) := by decide +kernel
theorem dX5_askInPlaces_7 : decode cX5_askInPlaces 7 = .ok (.getfield 106, 3) := by decide +kernel
theorem dX5_askInPlaces_10 : decode cX5_askInPlaces 10 = .ok (.if_icmp .ge 118, 3) := by decide +kernel
theorem dX5_askInPlaces_13 : decode cX5_askInPlaces 13 = .ok (.aload_n 0, 1) := by decide +kernel
theorem dX5_askInPlaces_14 : decode cX5_askInPlaces 14 = .ok (.getfield 15, 3) := by decide +kernel
theorem dX5_askInPlaces_17 : decode cX5_askInPlaces 17 = .ok (.iload_n 1, 1) := by decide +kernel
theorem dX5_askInPlaces_18 : decode cX5_askInPlaces 18 = .ok (.aload_n 0, 1) := by decide +kernel
theorem dX5_askInPlaces_19 : decode cX5_askInPlaces 19 = .ok (.getfield 19, 3) := by decide +kernel
theorem dX5_askInPlaces_22 : decode cX5_askInPlaces 22 = .ok (.getfield 88, 3) := by decide +kernel
theorem dX5_askInPlaces_25 : decode cX5_askInPlaces 25 = .ok (.invokevirtual 109, 3) := by decide +kernel
theorem dX5_askInPlaces_28 : decode cX5_askInPlaces 28 = .ok (.ifCond .eq 26, 3) := by decide +kernel
theorem dX5_askInPlaces_31 : decode cX5_askInPlaces 31 = .ok (.aload_n 0, 1) := by decide +kernel
theorem dX5_askInPlaces_32 : decode cX5_askInPlaces 32 = .ok (.getfield 19, 3) := by decide +kernel
theorem dX5_askInPlaces_35 : decode cX5_askInPlaces 35 = .ok (.getfield 88, 3) := by decide +kernel
theorem dX5_askInPlaces_38 : decode cX5_askInPlaces 38 = .ok (.aload_n 0, 1) := by decide +kernel
theorem dX5_askInPlaces_39 : decode cX5_askInPlaces 39 = .ok (.getfield 19, 3) := by decide +kernel
theorem dX5_askInPlaces_42 : decode cX5_askInPlaces 42 = .ok (.getfield 112, 3) := by decide +kernel
theorem dX5_askInPlaces_45 : decode cX5_askInPlaces 45 = .ok (.iload_n 1, 1) := by decide +kernel
theorem dX5_askInPlaces_46 : decode cX5_askInPlaces 46 = .ok (.iaload, 1) := by decide +kernel
theorem dX5_askInPlaces_47 : decode cX5_askInPlaces 47 = .ok (.if_icmp .lt 7, 3) := by decide +kernel
theorem dX5_askInPlaces_50 : decode cX5_askInPlaces 50 = .ok (.iconst 1, 1) := by decide +kernel
theorem dX5_askInPlaces_51 : decode cX5_askInPlaces 51 = .ok (.goto 4, 3) := by decide +kernel
theorem dX5_askInPlaces_54 : decode cX5_askInPlaces 54 = .ok (.iconst 0, 1) := by decide +kernel
theorem dX5_askInPlaces_55 : decode cX5_askInPlaces 55 = .ok (.istore_n 2, 1) := by decide +kernel
theorem dX5_askInPlaces_56 : decode cX5_askInPlaces 56 = .ok (.iload_n 2, 1) := by decide +kernel
theorem dX5_askInPlaces_57 : decode cX5_askInPlaces 57 = .ok (.ifCond .eq 65, 3) := by decide +kernel
theorem dX5_askInPlaces_60 : decode cX5_askInPlaces 60 = .ok (.aload_n 0, 1) := by decide +kernel
theorem dX5_askInPlaces_61 : decode cX5_askInPlaces 61 = .ok (.getfield 19, 3) := by decide +kernel
theorem dX5_askInPlaces_64 : decode cX5_askInPlaces 64 = .ok (.getfield 37, 3) := by decide +kernel
theorem dX5_askInPlaces_67 : decode cX5_askInPlaces 67 = .ok (.iload_n 1, 1) := by decide +kernel
theorem dX5_askInPlaces_68 : decode cX5_askInPlaces 68 = .ok (.iaload, 1) := by decide +kernel
theorem dX5_askInPlaces_69 : decode cX5_askInPlaces 69 = .ok (.iconst 1, 1) := by decide +kernel
theorem dX5_askInPlaces_70 : decode cX5_askInPlaces 70 = .ok (.if_icmp .ne 52, 3) := by decide +kernel
theorem dX5_askInPlaces_73 : decode cX5_askInPlaces 73 = .ok (.aload_n 0, 1) := by decide +kernel
theorem dX5_askInPlaces_74 : decode cX5_askInPlaces 74 = .ok (.getfield 19, 3) := by decide +kernel
theorem dX5_askInPlaces_77 : decode cX5_askInPlaces 77 = .ok (.getfield 115, 3) := by decide +kernel
theorem dX5_askInPlaces_80 : decode cX5_askInPlaces 80 = .ok (.iload_n 1, 1) := by decide +kernel
theorem dX5_askInPlaces_81 : decode cX5_askInPlaces 81 = .ok (.iconst 1, 1) := by decide +kernel
theorem dX5_askInPlaces_82 : decode cX5_askInPlaces 82 = .ok (.iastore, 1) := by decide +kernel
theorem dX5_askInPlaces_83 : decode cX5_askInPlaces 83 = .ok (.aload_n 0, 1) := by decide +kernel
theorem dX5_askInPlaces_84 : decode cX5_askInPlaces 84 = .ok (.getfield 19, 3) := by decide +kernel
theorem dX5_askInPlaces_87 : decode cX5_askInPlaces 87 = .ok (.getfield 118, 3) := by decide +kernel
theorem dX5_askInPlaces_90 : decode cX5_askInPlaces 90 = .ok (.iload_n 1, 1) := by decide +kernel
theorem dX5_askInPlaces_91 : decode cX5_askInPlaces 91 = .ok (.dup2, 1) := by decide +kernel
theorem dX5_askInPlaces_92 : decode cX5_askInPlaces 92 = .ok (.iaload, 1) := by decide +kernel
theorem dX5_askInPlaces_93 : decode cX5_askInPlaces 93 = .ok (.iconst 1, 1) := by decide +kernel
theorem dX5_askInPlaces_94 : decode cX5_askInPlaces 94 = .ok (.iadd, 1) := by decide +kernel
theorem dX5_askInPlaces_95 : decode cX5_askInPlaces 95 = .ok (.iastore, 1) := by decide +kernel
theorem dX5_askInPlaces_96 : decode cX5_askInPlaces 96 = .ok (.aload_n 0, 1) := by decide +kernel
theorem dX5_askInPlaces_97 : decode cX5_askInPlaces 97 = .ok (.getfield 19, 3) := by decide +kernel
theorem dX5_askInPlaces_100 : decode cX5_askInPlaces 100 = .ok (.getfield 112, 3) := by decide +kernel
theorem dX5_askInPlaces_103 : decode cX5_askInPlaces 103 = .ok (.iload_n 1, 1) := by decide +kernel
theorem dX5_askInPlaces_104 : decode cX5_askInPlaces 104 = .ok (.aload_n 0, 1) := by decide +kernel
theorem dX5_askInPlaces_105 : decode cX5_askInPlaces 105 = .ok (.getfield 19, 3) := by decide +kernel
theorem dX5_askInPlaces_108 : decode cX5_askInPlaces 108 = .ok (.getfield 88, 3) := by decide +kernel
theorem dX5_askInPlaces_111 : decode cX5_askInPlaces 111 = .ok (.aload_n 0, 1) := by decide +kernel
theorem dX5_askInPlaces_112 : decode cX5_askInPlaces 112 = .ok (.getfield 15, 3) := by decide +kernel
theorem dX5_askInPlaces_115 : decode cX5_askInPlaces 115 = .ok (.getfield 121, 3) := by decide +kernel
theorem dX5_askInPlaces_118 : decode cX5_askInPlaces 118 = .ok (.iadd, 1) := by decide +kernel
theorem dX5_askInPlaces_119 : decode cX5_askInPlaces 119 = .ok (.iconst 1, 1) := by decide +kernel
theorem dX5_askInPlaces_120 : decode cX5_askInPlaces 120 = .ok (.iadd, 1) := by decide +kernel
theorem dX5_askInPlaces_121 : decode cX5_askInPlaces 121 = .ok (.iastore, 1) := by decide +kernel
theorem dX5_askInPlaces_122 : decode cX5_askInPlaces 122 = .ok (.iinc 1 1, 3) := by decide +kernel
theorem dX5_askInPlaces_125 : decode cX5_askInPlaces 125 = .ok (.goto (-123), 3) := by decide +kernel
theorem dX5_askInPlaces_128 : decode cX5_askInPlaces 128 = .ok (.return_, 1) := by decide +kernel
set_option maxRecDepth 20000 in
theorem ggX5_sendAgain_X0_isDue : GoodIn wsX5_sendAgain wsX0_isDue := goodIn_r _ [16, 17, 18, 98, 99, 100, 101, 102, 103] (by decide +kernel) (by decide +kernel)
set_option maxRecDepth 20000 in
theorem gX5_sendAgain_X0_isDue : GoodIn wsX5_sendAgain (wsV RX5 127 RX0 yX0_isDue wsX0_isDue) := goodIn_app (goodIn_of _ (by decide +kernel)) ggX5_sendAgain_X0_isDue
set_option maxRecDepth 20000 in
theorem ggX5_sendAgain_X0_content : GoodIn wsX5_sendAgain wsX0_content := goodIn_r _ [22, 23, 24, 25, 15, 26, 27, 28, 29, 30, 31, 32, 98, 99, 100, 101, 102, 103] (by decide +kernel) (by decide +kernel)
set_option maxRecDepth 20000 in
theorem gX5_sendAgain_X0_content : GoodIn wsX5_sendAgain (wsV RX5 130 RX0 yX0_content wsX0_content) := goodIn_app (goodIn_of _ (by decide +kernel)) ggX5_sendAgain_X0_content
set_option maxRecDepth 20000 in
theorem ggX5_sendAgain_X5_send : GoodIn wsX5_sendAgain wsX5_send := goodIn_r _ [37, 3, 4, 6, 38, 8, 9, 10, 11, 39, 1, 40, 41, 42, 43, 44, 45, 46, 15, 47, 48, 49, 50, 51, 52, 53, 54, 55, 29, 30, 31, 32, 56, 24, 25, 26, 27, 57, 58, 59, 60, 61, 62, 63, 64, 18, 65, 66, 67, 68, 69, 70, 71, 83, 84, 85, 86, 87, 88, 89, 90, 91, 92, 93, 94, 95, 96, 97, 72, 73, 74, 75, 76, 77, 78, 79, 80, 81, 82, 98, 99, 100, 101, 102, 103] (by decide +kernel) (by decide +kernel)
set_option maxRecDepth 20000 in
theorem gX5_sendAgain_X5_send : GoodIn wsX5_sendAgain (wsV RX5 136 RX5 yX5_send wsX5_send) := goodIn_app (goodIn_of _ (by decide +kernel)) ggX5_sendAgain_X5_send
theorem dX5_sendAgain_0 : decode cX5_sendAgain 0 = .ok (.iconst 0, 1) := by decide +kernel
theorem dX5_sendAgain_1 : decode cX5_sendAgain 1 = .ok (.istore_n 1, 1) := by decide +kernel
theorem dX5_sendAgain_2 : decode cX5_sendAgain 2 = .ok (.iload_n 1, 1) := by decide +kernel
theorem dX5_sendAgain_3 : decode cX5_sendAgain 3 = .ok (.aload_n 0, 1) := by decide +kernel
theorem dX5_sendAgain_4 : decode cX5_sendAgain 4 = .ok (.getfield 15, 3) := by decide +kernel
theorem dX5_sendAgain_7 : decode cX5_sendAgain 7 = .ok (.getfield 106, 3) := by decide +kernel
theorem dX5_sendAgain_10 : decode cX5_sendAgain 10 = .ok (.if_icmp .ge 83, 3) := by decide +kernel
theorem dX5_sendAgain_13 : decode cX5_sendAgain 13 = .ok (.iconst 0, 1) := by decide +kernel
theorem dX5_sendAgain_14 : decode cX5_sendAgain 14 = .ok (.istore_n 2, 1) := by decide +kernel
theorem dX5_sendAgain_15 : decode cX5_sendAgain 15 = .ok (.iload_n 2, 1) := by decide +kernel
theorem dX5_sendAgain_16 : decode cX5_sendAgain 16 = .ok (.aload_n 0, 1) := by decide +kernel
theorem dX5_sendAgain_17 : decode cX5_sendAgain 17 = .ok (.getfield 19, 3) := by decide +kernel
theorem dX5_sendAgain_20 : decode cX5_sendAgain 20 = .ok (.getfield 79, 3) := by decide +kernel
theorem dX5_sendAgain_23 : decode cX5_sendAgain 23 = .ok (.getfield 124, 3) := by decide +kernel
theorem dX5_sendAgain_26 : decode cX5_sendAgain 26 = .ok (.if_icmp .ge 61, 3) := by decide +kernel
theorem dX5_sendAgain_29 : decode cX5_sendAgain 29 = .ok (.aload_n 0, 1) := by decide +kernel
theorem dX5_sendAgain_30 : decode cX5_sendAgain 30 = .ok (.getfield 19, 3) := by decide +kernel
theorem dX5_sendAgain_33 : decode cX5_sendAgain 33 = .ok (.getfield 79, 3) := by decide +kernel
theorem dX5_sendAgain_36 : decode cX5_sendAgain 36 = .ok (.iload_n 2, 1) := by decide +kernel
theorem dX5_sendAgain_37 : decode cX5_sendAgain 37 = .ok (.iload_n 1, 1) := by decide +kernel
theorem dX5_sendAgain_38 : decode cX5_sendAgain 38 = .ok (.aload_n 0, 1) := by decide +kernel
theorem dX5_sendAgain_39 : decode cX5_sendAgain 39 = .ok (.getfield 19, 3) := by decide +kernel
theorem dX5_sendAgain_42 : decode cX5_sendAgain 42 = .ok (.getfield 88, 3) := by decide +kernel
theorem dX5_sendAgain_45 : decode cX5_sendAgain 45 = .ok (.invokevirtual 127, 3) := by decide +kernel
theorem dX5_sendAgain_48 : decode cX5_sendAgain 48 = .ok (.ifCond .eq 33, 3) := by decide +kernel
theorem dX5_sendAgain_51 : decode cX5_sendAgain 51 = .ok (.aload_n 0, 1) := by decide +kernel
theorem dX5_sendAgain_52 : decode cX5_sendAgain 52 = .ok (.iconst 0, 1) := by decide +kernel
theorem dX5_sendAgain_53 : decode cX5_sendAgain 53 = .ok (.aload_n 0, 1) := by decide +kernel
theorem dX5_sendAgain_54 : decode cX5_sendAgain 54 = .ok (.getfield 9, 3) := by decide +kernel
theorem dX5_sendAgain_57 : decode cX5_sendAgain 57 = .ok (.aload_n 0, 1) := by decide +kernel
theorem dX5_sendAgain_58 : decode cX5_sendAgain 58 = .ok (.getfield 19, 3) := by decide +kernel
theorem dX5_sendAgain_61 : decode cX5_sendAgain 61 = .ok (.getfield 79, 3) := by decide +kernel
theorem dX5_sendAgain_64 : decode cX5_sendAgain 64 = .ok (.iload_n 2, 1) := by decide +kernel
theorem dX5_sendAgain_65 : decode cX5_sendAgain 65 = .ok (.invokevirtual 130, 3) := by decide +kernel
theorem dX5_sendAgain_68 : decode cX5_sendAgain 68 = .ok (.isub, 1) := by decide +kernel
theorem dX5_sendAgain_69 : decode cX5_sendAgain 69 = .ok (.invokestatic 133, 3) := by decide +kernel
theorem dX5_sendAgain_72 : decode cX5_sendAgain 72 = .ok (.putfield 9, 3) := by decide +kernel
theorem dX5_sendAgain_75 : decode cX5_sendAgain 75 = .ok (.aload_n 0, 1) := by decide +kernel
theorem dX5_sendAgain_76 : decode cX5_sendAgain 76 = .ok (.iload_n 2, 1) := by decide +kernel
theorem dX5_sendAgain_77 : decode cX5_sendAgain 77 = .ok (.iload_n 1, 1) := by decide +kernel
theorem dX5_sendAgain_78 : decode cX5_sendAgain 78 = .ok (.invokevirtual 136, 3) := by decide +kernel
theorem dX5_sendAgain_81 : decode cX5_sendAgain 81 = .ok (.iinc 2 1, 3) := by decide +kernel
theorem dX5_sendAgain_84 : decode cX5_sendAgain 84 = .ok (.goto (-69), 3) := by decide +kernel
theorem dX5_sendAgain_87 : decode cX5_sendAgain 87 = .ok (.iinc 1 1, 3) := by decide +kernel
theorem dX5_sendAgain_90 : decode cX5_sendAgain 90 = .ok (.goto (-88), 3) := by decide +kernel
theorem dX5_sendAgain_93 : decode cX5_sendAgain 93 = .ok (.return_, 1) := by decide +kernel
set_option maxRecDepth 20000 in
theorem ggX5_giveGrants_X5_takeGrant : GoodIn wsX5_giveGrants wsX5_takeGrant := goodIn_r _ [12, 3, 7, 5, 13, 14, 15, 16, 6, 17, 4, 104, 105, 106, 118, 119, 120, 121, 122, 123, 124, 125, 126, 127, 128, 129, 130, 131, 132] (by decide +kernel) (by decide +kernel)
set_option maxRecDepth 20000 in
theorem gX5_giveGrants_X5_takeGrant : GoodIn wsX5_giveGrants (wsV RX5 146 RX5 yX5_takeGrant wsX5_takeGrant) := goodIn_app (goodIn_of _ (by decide +kernel)) ggX5_giveGrants_X5_takeGrant
set_option maxRecDepth 20000 in
theorem ggX5_giveGrants_X5_pack : GoodIn wsX5_giveGrants wsX5_pack := goodIn_r _ [21, 3, 22, 23, 24, 25, 26, 27, 28, 29, 30, 31, 32, 33, 34, 35, 36, 37, 11, 38, 1, 39, 40, 41, 42, 13, 14, 15, 16, 43, 44, 45, 46, 47, 48, 49, 50, 51, 52, 53, 54, 55, 56, 57, 58, 59, 60, 61, 62, 63, 64, 65, 66, 67, 68, 69, 70, 71, 72, 7, 73, 74, 75, 76, 77, 78, 79, 80, 81, 82, 83, 84, 85, 86, 87, 88, 89, 90, 91, 92, 93, 94, 95, 96, 97, 98, 99, 100, 101, 102, 103, 104, 105, 106, 118, 119, 120, 121, 122, 123, 124, 125, 126, 127, 128, 129, 130, 131, 132, 133, 134, 135, 136, 137, 138, 107, 108, 109, 110, 111, 112, 113, 114, 115, 116, 117] (by decide +kernel) (by decide +kernel)
set_option maxRecDepth 20000 in
theorem gX5_giveGrants_X5_pack : GoodIn wsX5_giveGrants (wsV RX5 149 RX5 yX5_pack wsX5_pack) := goodIn_app (goodIn_of _ (by decide +kernel)) ggX5_giveGrants_X5_pack
theorem dX5_giveGrants_0 : decode cX5_giveGrants 0 = .ok (.aload_n 0, 1) := by decide +kernel
theorem dX5_giveGrants_1 : decode cX5_giveGrants 1 = .ok (.getfield 15, 3) := by decide +kernel
theorem dX5_giveGrants_4 : decode cX5_giveGrants 4 = .ok (.getfield 106, 3) := by decide +kernel
theorem dX5_giveGrants_7 : decode cX5_giveGrants 7 = .ok (.istore_n 1, 1) := by decide +kernel
theorem dX5_giveGrants_8 : decode cX5_giveGrants 8 = .ok (.aload_n 0, 1) := by decide +kernel
theorem dX5_giveGrants_9 : decode cX5_giveGrants 9 = .ok (.getfield 19, 3) := by decide +kernel
theorem dX5_giveGrants_12 : decode cX5_giveGrants 12 = .ok (.getfield 140, 3) := by decide +kernel
theorem dX5_giveGrants_15 : decode cX5_giveGrants 15 = .ok (.bipush (-9), 2) := by decide +kernel
theorem dX5_giveGrants_17 : decode cX5_giveGrants 17 = .ok (.if_icmp .ne 7, 3) := by decide +kernel
theorem dX5_giveGrants_20 : decode cX5_giveGrants 20 = .ok (.iconst 0, 1) := by decide +kernel
theorem dX5_giveGrants_21 : decode cX5_giveGrants 21 = .ok (.goto 12, 3) := by decide +kernel
theorem dX5_giveGrants_24 : decode cX5_giveGrants 24 = .ok (.aload_n 0, 1) := by decide +kernel
theorem dX5_giveGrants_25 : decode cX5_giveGrants 25 = .ok (.getfield 19, 3) := by decide +kernel
theorem dX5_giveGrants_28 : decode cX5_giveGrants 28 = .ok (.getfield 140, 3) := by decide +kernel
theorem dX5_giveGrants_31 : decode cX5_giveGrants 31 = .ok (.iconst 1, 1) := by decide +kernel
theorem dX5_giveGrants_32 : decode cX5_giveGrants 32 = .ok (.iadd, 1) := by decide +kernel
theorem dX5_giveGrants_33 : decode cX5_giveGrants 33 = .ok (.istore_n 2, 1) := by decide +kernel
theorem dX5_giveGrants_34 : decode cX5_giveGrants 34 = .ok (.iconst 0, 1) := by decide +kernel
theorem dX5_giveGrants_35 : decode cX5_giveGrants 35 = .ok (.istore_n 3, 1) := by decide +kernel
theorem dX5_giveGrants_36 : decode cX5_giveGrants 36 = .ok (.iload_n 3, 1) := by decide +kernel
theorem dX5_giveGrants_37 : decode cX5_giveGrants 37 = .ok (.iload_n 1, 1) := by decide +kernel
theorem dX5_giveGrants_38 : decode cX5_giveGrants 38 = .ok (.if_icmp .ge 73, 3) := by decide +kernel
theorem dX5_giveGrants_41 : decode cX5_giveGrants 41 = .ok (.aload_n 0, 1) := by decide +kernel
theorem dX5_giveGrants_42 : decode cX5_giveGrants 42 = .ok (.getfield 9, 3) := by decide +kernel
theorem dX5_giveGrants_45 : decode cX5_giveGrants 45 = .ok (.ifCond .le 66, 3) := by decide +kernel
theorem dX5_giveGrants_48 : decode cX5_giveGrants 48 = .ok (.iload_n 2, 1) := by decide +kernel
theorem dX5_giveGrants_49 : decode cX5_giveGrants 49 = .ok (.iload_n 3, 1) := by decide +kernel
theorem dX5_giveGrants_50 : decode cX5_giveGrants 50 = .ok (.iadd, 1) := by decide +kernel
theorem dX5_giveGrants_51 : decode cX5_giveGrants 51 = .ok (.iload_n 1, 1) := by decide +kernel
theorem dX5_giveGrants_52 : decode cX5_giveGrants 52 = .ok (.irem, 1) := by decide +kernel
theorem dX5_giveGrants_53 : decode cX5_giveGrants 53 = .ok (.istore 4, 2) := by decide +kernel
theorem dX5_giveGrants_55 : decode cX5_giveGrants 55 = .ok (.iload 4, 2) := by decide +kernel
theorem dX5_giveGrants_57 : decode cX5_giveGrants 57 = .ok (.ifCond .lt 48, 3) := by decide +kernel
theorem dX5_giveGrants_60 : decode cX5_giveGrants 60 = .ok (.iload 4, 2) := by decide +kernel
theorem dX5_giveGrants_62 : decode cX5_giveGrants 62 = .ok (.iconst 3, 1) := by decide +kernel
theorem dX5_giveGrants_63 : decode cX5_giveGrants 63 = .ok (.if_icmp .ge 42, 3) := by decide +kernel
theorem dX5_giveGrants_66 : decode cX5_giveGrants 66 = .ok (.aload_n 0, 1) := by decide +kernel
theorem dX5_giveGrants_67 : decode cX5_giveGrants 67 = .ok (.getfield 19, 3) := by decide +kernel
theorem dX5_giveGrants_70 : decode cX5_giveGrants 70 = .ok (.getfield 115, 3) := by decide +kernel
theorem dX5_giveGrants_73 : decode cX5_giveGrants 73 = .ok (.iload 4, 2) := by decide +kernel
theorem dX5_giveGrants_75 : decode cX5_giveGrants 75 = .ok (.iaload, 1) := by decide +kernel
theorem dX5_giveGrants_76 : decode cX5_giveGrants 76 = .ok (.iconst 1, 1) := by decide +kernel
theorem dX5_giveGrants_77 : decode cX5_giveGrants 77 = .ok (.if_icmp .eq 16, 3) := by decide +kernel
theorem dX5_giveGrants_80 : decode cX5_giveGrants 80 = .ok (.aload_n 0, 1) := by decide +kernel
theorem dX5_giveGrants_81 : decode cX5_giveGrants 81 = .ok (.getfield 19, 3) := by decide +kernel
theorem dX5_giveGrants_84 : decode cX5_giveGrants 84 = .ok (.getfield 143, 3) := by decide +kernel
theorem dX5_giveGrants_87 : decode cX5_giveGrants 87 = .ok (.iload 4, 2) := by decide +kernel
theorem dX5_giveGrants_89 : decode cX5_giveGrants 89 = .ok (.iaload, 1) := by decide +kernel
theorem dX5_giveGrants_90 : decode cX5_giveGrants 90 = .ok (.ifCond .le 15, 3) := by decide +kernel
theorem dX5_giveGrants_93 : decode cX5_giveGrants 93 = .ok (.aload_n 0, 1) := by decide +kernel
theorem dX5_giveGrants_94 : decode cX5_giveGrants 94 = .ok (.iload 4, 2) := by decide +kernel
theorem dX5_giveGrants_96 : decode cX5_giveGrants 96 = .ok (.aload_n 0, 1) := by decide +kernel
theorem dX5_giveGrants_97 : decode cX5_giveGrants 97 = .ok (.iload 4, 2) := by decide +kernel
theorem dX5_giveGrants_99 : decode cX5_giveGrants 99 = .ok (.invokevirtual 146, 3) := by decide +kernel
theorem dX5_giveGrants_102 : decode cX5_giveGrants 102 = .ok (.invokevirtual 149, 3) := by decide +kernel
theorem dX5_giveGrants_105 : decode cX5_giveGrants 105 = .ok (.iinc 3 1, 3) := by decide +kernel
theorem dX5_giveGrants_108 : decode cX5_giveGrants 108 = .ok (.goto (-72), 3) := by decide +kernel
theorem dX5_giveGrants_111 : decode cX5_giveGrants 111 = .ok (.return_, 1) := by decide +kernel
theorem dX5_takeGrant_0 : decode cX5_takeGrant 0 = .ok (.aload_n 0, 1) := by decide +kernel
theorem dX5_takeGrant_1 : decode cX5_takeGrant 1 = .ok (.getfield 19, 3) := by decide +kernel
theorem dX5_takeGrant_4 : decode cX5_takeGrant 4 = .ok (.getfield 143, 3) := by decide +kernel
theorem dX5_takeGrant_7 : decode cX5_takeGrant 7 = .ok (.iload_n 1, 1) := by decide +kernel
theorem dX5_takeGrant_8 : decode cX5_takeGrant 8 = .ok (.iaload, 1) := by decide +kernel
theorem dX5_takeGrant_9 : decode cX5_takeGrant 9 = .ok (.ifCond .le 17, 3) := by decide +kernel
theorem dX5_takeGrant_12 : decode cX5_takeGrant 12 = .ok (.aload_n 0, 1) := by decide +kernel
theorem dX5_takeGrant_13 : decode cX5_takeGrant 13 = .ok (.getfield 19, 3) := by decide +kernel
theorem dX5_takeGrant_16 : decode cX5_takeGrant 16 = .ok (.getfield 143, 3) := by decide +kernel
theorem dX5_takeGrant_19 : decode cX5_takeGrant 19 = .ok (.iload_n 1, 1) := by decide +kernel
theorem dX5_takeGrant_20 : decode cX5_takeGrant 20 = .ok (.iaload, 1) := by decide +kernel
theorem dX5_takeGrant_21 : decode cX5_takeGrant 21 = .ok (.iconst 2, 1) := by decide +kernel
theorem dX5_takeGrant_22 : decode cX5_takeGrant 22 = .ok (.iadd, 1) := by decide +kernel
theorem dX5_takeGrant_23 : decode cX5_takeGrant 23 = .ok (.goto 4, 3) := by decide +kernel
theorem dX5_takeGrant_26 : decode cX5_takeGrant 26 = .ok (.iconst 4, 1) := by decide +kernel
theorem dX5_takeGrant_27 : decode cX5_takeGrant 27 = .ok (.istore_n 2, 1) := by decide +kernel
theorem dX5_takeGrant_28 : decode cX5_takeGrant 28 = .ok (.iload_n 2, 1) := by decide +kernel
theorem dX5_takeGrant_29 : decode cX5_takeGrant 29 = .ok (.aload_n 0, 1) := by decide +kernel
theorem dX5_takeGrant_30 : decode cX5_takeGrant 30 = .ok (.getfield 9, 3) := by decide +kernel
theorem dX5_takeGrant_33 : decode cX5_takeGrant 33 = .ok (.invokestatic 100, 3) := by decide +kernel
theorem dX5_takeGrant_36 : decode cX5_takeGrant 36 = .ok (.istore_n 3, 1) := by decide +kernel
theorem dX5_takeGrant_37 : decode cX5_takeGrant 37 = .ok (.aload_n 0, 1) := by decide +kernel
theorem dX5_takeGrant_38 : decode cX5_takeGrant 38 = .ok (.dup, 1) := by decide +kernel
theorem dX5_takeGrant_39 : decode cX5_takeGrant 39 = .ok (.getfield 9, 3) := by decide +kernel
theorem dX5_takeGrant_42 : decode cX5_takeGrant 42 = .ok (.iload_n 3, 1) := by decide +kernel
theorem dX5_takeGrant_43 : decode cX5_takeGrant 43 = .ok (.isub, 1) := by decide +kernel
theorem dX5_takeGrant_44 : decode cX5_takeGrant 44 = .ok (.putfield 9, 3) := by decide +kernel
theorem dX5_takeGrant_47 : decode cX5_takeGrant 47 = .ok (.aload_n 0, 1) := by decide +kernel
theorem dX5_takeGrant_48 : decode cX5_takeGrant 48 = .ok (.getfield 19, 3) := by decide +kernel
theorem dX5_takeGrant_51 : decode cX5_takeGrant 51 = .ok (.getfield 115, 3) := by decide +kernel
theorem dX5_takeGrant_54 : decode cX5_takeGrant 54 = .ok (.iload_n 1, 1) := by decide +kernel
theorem dX5_takeGrant_55 : decode cX5_takeGrant 55 = .ok (.iconst 0, 1) := by decide +kernel
theorem dX5_takeGrant_56 : decode cX5_takeGrant 56 = .ok (.iastore, 1) := by decide +kernel
theorem dX5_takeGrant_57 : decode cX5_takeGrant 57 = .ok (.aload_n 0, 1) := by decide +kernel
theorem dX5_takeGrant_58 : decode cX5_takeGrant 58 = .ok (.getfield 19, 3) := by decide +kernel
theorem dX5_takeGrant_61 : decode cX5_takeGrant 61 = .ok (.getfield 152, 3) := by decide +kernel
theorem dX5_takeGrant_64 : decode cX5_takeGrant 64 = .ok (.iload_n 1, 1) := by decide +kernel
theorem dX5_takeGrant_65 : decode cX5_takeGrant 65 = .ok (.dup2, 1) := by decide +kernel
theorem dX5_takeGrant_66 : decode cX5_takeGrant 66 = .ok (.iaload, 1) := by decide +kernel
theorem dX5_takeGrant_67 : decode cX5_takeGrant 67 = .ok (.iload_n 3, 1) := by decide +kernel
theorem dX5_takeGrant_68 : decode cX5_takeGrant 68 = .ok (.iadd, 1) := by decide +kernel
theorem dX5_takeGrant_69 : decode cX5_takeGrant 69 = .ok (.iastore, 1) := by decide +kernel
theorem dX5_takeGrant_70 : decode cX5_takeGrant 70 = .ok (.aload_n 0, 1) := by decide +kernel
theorem dX5_takeGrant_71 : decode cX5_takeGrant 71 = .ok (.getfield 19, 3) := by decide +kernel
theorem dX5_takeGrant_74 : decode cX5_takeGrant 74 = .ok (.iload_n 1, 1) := by decide +kernel
theorem dX5_takeGrant_75 : decode cX5_takeGrant 75 = .ok (.putfield 140, 3) := by decide +kernel
theorem dX5_takeGrant_78 : decode cX5_takeGrant 78 = .ok (.iload_n 3, 1) := by decide +kernel
theorem dX5_takeGrant_79 : decode cX5_takeGrant 79 = .ok (.ireturn, 1) := by decide +kernel
set_option maxRecDepth 20000 in
theorem ggX5_pack_X0_open : GoodIn wsX5_pack wsX0_open := goodIn_r _ [8, 9, 10, 11, 12, 13, 14, 109, 110, 111, 112, 113, 114] (by decide +kernel) (by decide +kernel)
set_option maxRecDepth 20000 in
theorem gX5_pack_X0_open : GoodIn wsX5_pack (wsV RX5 155 RX0 yX0_open wsX0_open) := goodIn_app (goodIn_of _ (by decide +kernel)) ggX5_pack_X0_open
set_option maxRecDepth 20000 in
theorem ggX5_pack_X5_packLetters : GoodIn wsX5_pack wsX5_packLetters := goodIn_r _ [19, 20, 21, 22, 23, 1, 24, 25, 26, 27, 28, 29, 2, 30, 31, 32, 7, 33, 14, 91, 92, 93, 115, 116, 117, 118, 119, 120, 121, 122, 123, 124, 125, 94, 95, 96, 97, 98, 99, 100, 101, 102, 103, 104, 105, 106, 107, 108, 109, 110, 111, 112, 113, 114] (by decide +kernel) (by decide +kernel)
set_option maxRecDepth 20000 in
theorem gX5_pack_X5_packLetters : GoodIn wsX5_pack (wsV RX5 158 RX5 yX5_packLetters wsX5_packLetters) := goodIn_app (goodIn_of _ (by decide +kernel)) ggX5_pack_X5_packLetters
set_option maxRecDepth 20000 in
theorem ggX5_pack_X5_waitingAt : GoodIn wsX5_pack wsX5_waitingAt := goodIn_r _ [37, 20, 21, 22, 1, 24, 91, 92, 93, 115, 116, 117, 118, 119, 120, 121, 122, 123, 124, 125, 94, 95, 96, 97, 98, 99, 100, 101, 102, 103, 104, 105, 106, 107, 108] (by decide +kernel) (by decide +kernel)
set_option maxRecDepth 20000 in
theorem gX5_pack_X5_waitingAt : GoodIn wsX5_pack (wsV RX5 162 RX5 yX5_waitingAt wsX5_waitingAt) := goodIn_app (goodIn_of _ (by decide +kernel)) ggX5_pack_X5_waitingAt
set_option maxRecDepth 20000 in
theorem ggX5_pack_X0_putReport : GoodIn wsX5_pack wsX0_putReport := goodIn_r _ [41, 13, 109, 110, 111, 112, 113, 114] (by decide +kernel) (by decide +kernel)
set_option maxRecDepth 20000 in
theorem gX5_pack_X0_putReport : GoodIn wsX5_pack (wsV RX5 165 RX0 yX0_putReport wsX0_putReport) := goodIn_app (goodIn_of _ (by decide +kernel)) ggX5_pack_X0_putReport
set_option maxRecDepth 20000 in
theorem ggX5_pack_X0_content : GoodIn wsX5_pack wsX0_content := goodIn_r _ [45, 46, 47, 48, 7, 49, 14, 50, 51, 52, 53, 13, 109, 110, 111, 112, 113, 114] (by decide +kernel) (by decide +kernel)
set_option maxRecDepth 20000 in
theorem gX5_pack_X0_content : GoodIn wsX5_pack (wsV RX5 130 RX0 yX0_content wsX0_content) := goodIn_app (goodIn_of _ (by decide +kernel)) ggX5_pack_X0_content
set_option maxRecDepth 20000 in
theorem ggX5_pack_X5_send : GoodIn wsX5_pack wsX5_send := goodIn_r _ [57, 1, 2, 58, 59, 60, 61, 27, 62, 63, 20, 64, 65, 3, 66, 67, 68, 69, 7, 70, 12, 71, 72, 73, 74, 75, 76, 77, 51, 52, 53, 13, 78, 47, 48, 49, 14, 79, 80, 81, 82, 83, 84, 85, 86, 11, 87, 88, 89, 90, 91, 92, 93, 94, 95, 96, 97, 98, 99, 100, 101, 102, 103, 104, 105, 106, 107, 108, 115, 116, 117, 118, 119, 120, 121, 122, 123, 124, 125, 109, 110, 111, 112, 113, 114] (by decide +kernel) (by decide +kernel)
set_option maxRecDepth 20000 in
theorem gX5_pack_X5_send : GoodIn wsX5_pack (wsV RX5 136 RX5 yX5_send wsX5_send) := goodIn_app (goodIn_of _ (by decide +kernel)) ggX5_pack_X5_send
theorem dX5_pack_0 : decode cX5_pack 0 = .ok (.aload_n 0, 1) := by decide +kernel
theorem dX5_pack_1 : decode cX5_pack 1 = .ok (.getfield 19, 3) := by decide +kernel
theorem dX5_pack_4 : decode cX5_pack 4 = .ok (.getfield 79, 3) := by decide +kernel
theorem dX5_pack_7 : decode cX5_pack 7 = .ok (.iload_n 1, 1) := by decide +kernel
theorem dX5_pack_8 : decode cX5_pack 8 = .ok (.invokevirtual 155, 3) := by decide +kernel
theorem dX5_pack_11 : decode cX5_pack 11 = .ok (.istore_n 3, 1) := by decide +kernel
theorem dX5_pack_12 : decode cX5_pack 12 = .ok (.aload_n 0, 1) := by decide +kernel
theorem dX5_pack_13 : decode cX5_pack 13 = .ok (.getfield 19, 3) := by decide +kernel
theorem dX5_pack_16 : decode cX5_pack 16 = .ok (.getfield 37, 3) := by decide +kernel
theorem dX5_pack_19 : decode cX5_pack 19 = .ok (.iload_n 1, 1) := by decide +kernel
theorem dX5_pack_20 : decode cX5_pack 20 = .ok (.iaload, 1) := by decide +kernel
theorem dX5_pack_21 : decode cX5_pack 21 = .ok (.iconst 1, 1) := by decide +kernel
theorem dX5_pack_22 : decode cX5_pack 22 = .ok (.if_icmp .ne 12, 3) := by decide +kernel
theorem dX5_pack_25 : decode cX5_pack 25 = .ok (.iload_n 2, 1) := by decide +kernel
theorem dX5_pack_26 : decode cX5_pack 26 = .ok (.iconst 2, 1) := by decide +kernel
theorem dX5_pack_27 : decode cX5_pack 27 = .ok (.if_icmp .lt 7, 3) := by decide +kernel
theorem dX5_pack_30 : decode cX5_pack 30 = .ok (.iconst 1, 1) := by decide +kernel
theorem dX5_pack_31 : decode cX5_pack 31 = .ok (.goto 4, 3) := by decide +kernel
theorem dX5_pack_34 : decode cX5_pack 34 = .ok (.iconst 0, 1) := by decide +kernel
theorem dX5_pack_35 : decode cX5_pack 35 = .ok (.istore 4, 2) := by decide +kernel
theorem dX5_pack_37 : decode cX5_pack 37 = .ok (.iload 4, 2) := by decide +kernel
theorem dX5_pack_39 : decode cX5_pack 39 = .ok (.ifCond .eq 9, 3) := by decide +kernel
theorem dX5_pack_42 : decode cX5_pack 42 = .ok (.iload_n 2, 1) := by decide +kernel
theorem dX5_pack_43 : decode cX5_pack 43 = .ok (.iconst 2, 1) := by decide +kernel
theorem dX5_pack_44 : decode cX5_pack 44 = .ok (.isub, 1) := by decide +kernel
theorem dX5_pack_45 : decode cX5_pack 45 = .ok (.goto 4, 3) := by decide +kernel
theorem dX5_pack_48 : decode cX5_pack 48 = .ok (.iload_n 2, 1) := by decide +kernel
theorem dX5_pack_49 : decode cX5_pack 49 = .ok (.istore 5, 2) := by decide +kernel
theorem dX5_pack_51 : decode cX5_pack 51 = .ok (.aload_n 0, 1) := by decide +kernel
theorem dX5_pack_52 : decode cX5_pack 52 = .ok (.iload_n 1, 1) := by decide +kernel
theorem dX5_pack_53 : decode cX5_pack 53 = .ok (.iload_n 3, 1) := by decide +kernel
theorem dX5_pack_54 : decode cX5_pack 54 = .ok (.iload 5, 2) := by decide +kernel
theorem dX5_pack_56 : decode cX5_pack 56 = .ok (.iconst 1, 1) := by decide +kernel
theorem dX5_pack_57 : decode cX5_pack 57 = .ok (.invokevirtual 158, 3) := by decide +kernel
theorem dX5_pack_60 : decode cX5_pack 60 = .ok (.istore 5, 2) := by decide +kernel
theorem dX5_pack_62 : decode cX5_pack 62 = .ok (.aload_n 0, 1) := by decide +kernel
theorem dX5_pack_63 : decode cX5_pack 63 = .ok (.iload_n 1, 1) := by decide +kernel
theorem dX5_pack_64 : decode cX5_pack 64 = .ok (.iload_n 3, 1) := by decide +kernel
theorem dX5_pack_65 : decode cX5_pack 65 = .ok (.iload 5, 2) := by decide +kernel
theorem dX5_pack_67 : decode cX5_pack 67 = .ok (.iconst 0, 1) := by decide +kernel
theorem dX5_pack_68 : decode cX5_pack 68 = .ok (.invokevirtual 158, 3) := by decide +kernel
theorem dX5_pack_71 : decode cX5_pack 71 = .ok (.istore 5, 2) := by decide +kernel
theorem dX5_pack_73 : decode cX5_pack 73 = .ok (.iload 4, 2) := by decide +kernel
theorem dX5_pack_75 : decode cX5_pack 75 = .ok (.ifCond .ne 9, 3) := by decide +kernel
theorem dX5_pack_78 : decode cX5_pack 78 = .ok (.iload 5, 2) := by decide +kernel
theorem dX5_pack_80 : decode cX5_pack 80 = .ok (.iconst 2, 1) := by decide +kernel
theorem dX5_pack_81 : decode cX5_pack 81 = .ok (.if_icmp .lt 29, 3) := by decide +kernel
theorem dX5_pack_84 : decode cX5_pack 84 = .ok (.aload_n 0, 1) := by decide +kernel
theorem dX5_pack_85 : decode cX5_pack 85 = .ok (.getfield 19, 3) := by decide +kernel
theorem dX5_pack_88 : decode cX5_pack 88 = .ok (.getfield 79, 3) := by decide +kernel
theorem dX5_pack_91 : decode cX5_pack 91 = .ok (.iload_n 3, 1) := by decide +kernel
theorem dX5_pack_92 : decode cX5_pack 92 = .ok (.aload_n 0, 1) := by decide +kernel
theorem dX5_pack_93 : decode cX5_pack 93 = .ok (.iload_n 1, 1) := by decide +kernel
theorem dX5_pack_94 : decode cX5_pack 94 = .ok (.invokevirtual 162, 3) := by decide +kernel
theorem dX5_pack_97 : decode cX5_pack 97 = .ok (.invokevirtual 165, 3) := by decide +kernel
theorem dX5_pack_100 : decode cX5_pack 100 = .ok (.aload_n 0, 1) := by decide +kernel
theorem dX5_pack_101 : decode cX5_pack 101 = .ok (.getfield 19, 3) := by decide +kernel
theorem dX5_pack_104 : decode cX5_pack 104 = .ok (.getfield 37, 3) := by decide +kernel
theorem dX5_pack_107 : decode cX5_pack 107 = .ok (.iload_n 1, 1) := by decide +kernel
theorem dX5_pack_108 : decode cX5_pack 108 = .ok (.iconst 0, 1) := by decide +kernel
theorem dX5_pack_109 : decode cX5_pack 109 = .ok (.iastore, 1) := by decide +kernel
theorem dX5_pack_110 : decode cX5_pack 110 = .ok (.aload_n 0, 1) := by decide +kernel
theorem dX5_pack_111 : decode cX5_pack 111 = .ok (.getfield 19, 3) := by decide +kernel
theorem dX5_pack_114 : decode cX5_pack 114 = .ok (.getfield 79, 3) := by decide +kernel
theorem dX5_pack_117 : decode cX5_pack 117 = .ok (.iload_n 3, 1) := by decide +kernel
theorem dX5_pack_118 : decode cX5_pack 118 = .ok (.invokevirtual 130, 3) := by decide +kernel
theorem dX5_pack_121 : decode cX5_pack 121 = .ok (.ifCond .le 9, 3) := by decide +kernel
theorem dX5_pack_124 : decode cX5_pack 124 = .ok (.aload_n 0, 1) := by decide +kernel
theorem dX5_pack_125 : decode cX5_pack 125 = .ok (.iload_n 3, 1) := by decide +kernel
theorem dX5_pack_126 : decode cX5_pack 126 = .ok (.iload_n 1, 1) := by decide +kernel
theorem dX5_pack_127 : decode cX5_pack 127 = .ok (.invokevirtual 136, 3) := by decide +kernel
theorem dX5_pack_130 : decode cX5_pack 130 = .ok (.return_, 1) := by decide +kernel
set_option maxRecDepth 20000 in
theorem ggX5_packLetters_X0_putLetters : GoodIn wsX5_packLetters wsX0_putLetters := goodIn_r _ [17, 18, 48, 49, 50, 51, 52, 53] (by decide +kernel) (by decide +kernel)
set_option maxRecDepth 20000 in
theorem gX5_packLetters_X0_putLetters : GoodIn wsX5_packLetters (wsV RX5 171 RX0 yX0_putLetters wsX0_putLetters) := goodIn_app (goodIn_of _ (by decide +kernel)) ggX5_packLetters_X0_putLetters
theorem dX5_packLetters_0 : decode cX5_packLetters 0 = .ok (.iload_n 3, 1) := by decide +kernel
theorem dX5_packLetters_1 : decode cX5_packLetters 1 = .ok (.istore 5, 2) := by decide +kernel
theorem dX5_packLetters_3 : decode cX5_packLetters 3 = .ok (.iconst 0, 1) := by decide +kernel
theorem dX5_packLetters_4 : decode cX5_packLetters 4 = .ok (.istore 6, 2) := by decide +kernel
theorem dX5_packLetters_6 : decode cX5_packLetters 6 = .ok (.iload 6, 2) := by decide +kernel
theorem dX5_packLetters_8 : decode cX5_packLetters 8 = .ok (.bipush 9, 2) := by decide +kernel
theorem dX5_packLetters_10 : decode cX5_packLetters 10 = .ok (.if_icmp .gt 153, 3) := by decide +kernel
theorem dX5_packLetters_13 : decode cX5_packLetters 13 = .ok (.iconst 0, 1) := by decide +kernel
theorem dX5_packLetters_14 : decode cX5_packLetters 14 = .ok (.istore 7, 2) := by decide +kernel
theorem dX5_packLetters_16 : decode cX5_packLetters 16 = .ok (.iload 7, 2) := by decide +kernel
theorem dX5_packLetters_18 : decode cX5_packLetters 18 = .ok (.aload_n 0, 1) := by decide +kernel
theorem dX5_packLetters_19 : decode cX5_packLetters 19 = .ok (.getfield 15, 3) := by decide +kernel
theorem dX5_packLetters_22 : decode cX5_packLetters 22 = .ok (.getfield 45, 3) := by decide +kernel
theorem dX5_packLetters_25 : decode cX5_packLetters 25 = .ok (.if_icmp .ge 132, 3) := by decide +kernel
theorem dX5_packLetters_28 : decode cX5_packLetters 28 = .ok (.aload_n 0, 1) := by decide +kernel
theorem dX5_packLetters_29 : decode cX5_packLetters 29 = .ok (.getfield 15, 3) := by decide +kernel
theorem dX5_packLetters_32 : decode cX5_packLetters 32 = .ok (.getfield 23, 3) := by decide +kernel
theorem dX5_packLetters_35 : decode cX5_packLetters 35 = .ok (.iload 7, 2) := by decide +kernel
theorem dX5_packLetters_37 : decode cX5_packLetters 37 = .ok (.iaload, 1) := by decide +kernel
theorem dX5_packLetters_38 : decode cX5_packLetters 38 = .ok (.iload_n 1, 1) := by decide +kernel
theorem dX5_packLetters_39 : decode cX5_packLetters 39 = .ok (.if_icmp .ne 112, 3) := by decide +kernel
theorem dX5_packLetters_42 : decode cX5_packLetters 42 = .ok (.aload_n 0, 1) := by decide +kernel
theorem dX5_packLetters_43 : decode cX5_packLetters 43 = .ok (.getfield 15, 3) := by decide +kernel
theorem dX5_packLetters_46 : decode cX5_packLetters 46 = .ok (.getfield 168, 3) := by decide +kernel
theorem dX5_packLetters_49 : decode cX5_packLetters 49 = .ok (.iload 7, 2) := by decide +kernel
theorem dX5_packLetters_51 : decode cX5_packLetters 51 = .ok (.iaload, 1) := by decide +kernel
theorem dX5_packLetters_52 : decode cX5_packLetters 52 = .ok (.iload 6, 2) := by decide +kernel
theorem dX5_packLetters_54 : decode cX5_packLetters 54 = .ok (.if_icmp .eq 6, 3) := by decide +kernel
theorem dX5_packLetters_57 : decode cX5_packLetters 57 = .ok (.goto 94, 3) := by decide +kernel
theorem dX5_packLetters_60 : decode cX5_packLetters 60 = .ok (.aload_n 0, 1) := by decide +kernel
theorem dX5_packLetters_61 : decode cX5_packLetters 61 = .ok (.getfield 19, 3) := by decide +kernel
theorem dX5_packLetters_64 : decode cX5_packLetters 64 = .ok (.getfield 42, 3) := by decide +kernel
theorem dX5_packLetters_67 : decode cX5_packLetters 67 = .ok (.iload 7, 2) := by decide +kernel
theorem dX5_packLetters_69 : decode cX5_packLetters 69 = .ok (.iaload, 1) := by decide +kernel
theorem dX5_packLetters_70 : decode cX5_packLetters 70 = .ok (.iload 5, 2) := by decide +kernel
theorem dX5_packLetters_72 : decode cX5_packLetters 72 = .ok (.invokestatic 100, 3) := by decide +kernel
theorem dX5_packLetters_75 : decode cX5_packLetters 75 = .ok (.istore 8, 2) := by decide +kernel
theorem dX5_packLetters_77 : decode cX5_packLetters 77 = .ok (.iload 4, 2) := by decide +kernel
theorem dX5_packLetters_79 : decode cX5_packLetters 79 = .ok (.ifCond .eq 35, 3) := by decide +kernel
theorem dX5_packLetters_82 : decode cX5_packLetters 82 = .ok (.iload 8, 2) := by decide +kernel
theorem dX5_packLetters_84 : decode cX5_packLetters 84 = .ok (.aload_n 0, 1) := by decide +kernel
theorem dX5_packLetters_85 : decode cX5_packLetters 85 = .ok (.getfield 19, 3) := by decide +kernel
theorem dX5_packLetters_88 : decode cX5_packLetters 88 = .ok (.getfield 91, 3) := by decide +kernel
theorem dX5_packLetters_91 : decode cX5_packLetters 91 = .ok (.iload 7, 2) := by decide +kernel
theorem dX5_packLetters_93 : decode cX5_packLetters 93 = .ok (.iaload, 1) := by decide +kernel
theorem dX5_packLetters_94 : decode cX5_packLetters 94 = .ok (.invokestatic 100, 3) := by decide +kernel
theorem dX5_packLetters_97 : decode cX5_packLetters 97 = .ok (.istore 8, 2) := by decide +kernel
theorem dX5_packLetters_99 : decode cX5_packLetters 99 = .ok (.aload_n 0, 1) := by decide +kernel
theorem dX5_packLetters_100 : decode cX5_packLetters 100 = .ok (.getfield 19, 3) := by decide +kernel
theorem dX5_packLetters_103 : decode cX5_packLetters 103 = .ok (.getfield 91, 3) := by decide +kernel
theorem dX5_packLetters_106 : decode cX5_packLetters 106 = .ok (.iload 7, 2) := by decide +kernel
theorem dX5_packLetters_108 : decode cX5_packLetters 108 = .ok (.dup2, 1) := by decide +kernel
theorem dX5_packLetters_109 : decode cX5_packLetters 109 = .ok (.iaload, 1) := by decide +kernel
theorem dX5_packLetters_110 : decode cX5_packLetters 110 = .ok (.iload 8, 2) := by decide +kernel
theorem dX5_packLetters_112 : decode cX5_packLetters 112 = .ok (.isub, 1) := by decide +kernel
theorem dX5_packLetters_113 : decode cX5_packLetters 113 = .ok (.iastore, 1) := by decide +kernel
theorem dX5_packLetters_114 : decode cX5_packLetters 114 = .ok (.aload_n 0, 1) := by decide +kernel
theorem dX5_packLetters_115 : decode cX5_packLetters 115 = .ok (.getfield 19, 3) := by decide +kernel
theorem dX5_packLetters_118 : decode cX5_packLetters 118 = .ok (.getfield 42, 3) := by decide +kernel
theorem dX5_packLetters_121 : decode cX5_packLetters 121 = .ok (.iload 7, 2) := by decide +kernel
theorem dX5_packLetters_123 : decode cX5_packLetters 123 = .ok (.dup2, 1) := by decide +kernel
theorem dX5_packLetters_124 : decode cX5_packLetters 124 = .ok (.iaload, 1) := by decide +kernel
theorem dX5_packLetters_125 : decode cX5_packLetters 125 = .ok (.iload 8, 2) := by decide +kernel
theorem dX5_packLetters_127 : decode cX5_packLetters 127 = .ok (.isub, 1) := by decide +kernel
theorem dX5_packLetters_128 : decode cX5_packLetters 128 = .ok (.iastore, 1) := by decide +kernel
theorem dX5_packLetters_129 : decode cX5_packLetters 129 = .ok (.aload_n 0, 1) := by decide +kernel
theorem dX5_packLetters_130 : decode cX5_packLetters 130 = .ok (.getfield 19, 3) := by decide +kernel
theorem dX5_packLetters_133 : decode cX5_packLetters 133 = .ok (.getfield 79, 3) := by decide +kernel
theorem dX5_packLetters_136 : decode cX5_packLetters 136 = .ok (.iload_n 2, 1) := by decide +kernel
theorem dX5_packLetters_137 : decode cX5_packLetters 137 = .ok (.iload 7, 2) := by decide +kernel
theorem dX5_packLetters_139 : decode cX5_packLetters 139 = .ok (.iload 8, 2) := by decide +kernel
theorem dX5_packLetters_141 : decode cX5_packLetters 141 = .ok (.invokevirtual 171, 3) := by decide +kernel
theorem dX5_packLetters_144 : decode cX5_packLetters 144 = .ok (.iload 5, 2) := by decide +kernel
theorem dX5_packLetters_146 : decode cX5_packLetters 146 = .ok (.iload 8, 2) := by decide +kernel
theorem dX5_packLetters_148 : decode cX5_packLetters 148 = .ok (.isub, 1) := by decide +kernel
theorem dX5_packLetters_149 : decode cX5_packLetters 149 = .ok (.istore 5, 2) := by decide +kernel
theorem dX5_packLetters_151 : decode cX5_packLetters 151 = .ok (.iinc 7 1, 3) := by decide +kernel
theorem dX5_packLetters_154 : decode cX5_packLetters 154 = .ok (.goto (-138), 3) := by decide +kernel
theorem dX5_packLetters_157 : decode cX5_packLetters 157 = .ok (.iinc 6 1, 3) := by decide +kernel
theorem dX5_packLetters_160 : decode cX5_packLetters 160 = .ok (.goto (-154), 3) := by decide +kernel
theorem dX5_packLetters_163 : decode cX5_packLetters 163 = .ok (.iload 5, 2) := by decide +kernel
theorem dX5_packLetters_165 : decode cX5_packLetters 165 = .ok (.ireturn, 1) := by decide +kernel
set_option maxRecDepth 20000 in
theorem ggX5_send_X0_countSending : GoodIn wsX5_send wsX0_countSending := goodIn_r _ [19, 20, 79, 80, 81, 82, 83, 84] (by decide +kernel) (by decide +kernel)
set_option maxRecDepth 20000 in
theorem gX5_send_X0_countSending : GoodIn wsX5_send (wsV RX5 175 RX0 yX0_countSending wsX0_countSending) := goodIn_app (goodIn_of _ (by decide +kernel)) ggX5_send_X0_countSending
set_option maxRecDepth 20000 in
theorem ggX5_send_X4_isDeaf : GoodIn wsX5_send wsX4_isDeaf := goodIn_r _ [25, 26, 53, 54, 55, 56, 57, 58, 59, 60, 61, 62, 63, 64, 65, 66, 67] (by decide +kernel) (by decide +kernel)
set_option maxRecDepth 20000 in
theorem gX5_send_X4_isDeaf : GoodIn wsX5_send (wsV RX5 178 RX4 yX4_isDeaf wsX4_isDeaf) := goodIn_app (goodIn_of _ (by decide +kernel)) ggX5_send_X4_isDeaf
set_option maxRecDepth 20000 in
theorem ggX5_send_X0_reportOf : GoodIn wsX5_send wsX0_reportOf := goodIn_r _ [30, 31, 79, 80, 81, 82, 83, 84] (by decide +kernel) (by decide +kernel)
set_option maxRecDepth 20000 in
theorem gX5_send_X0_reportOf : GoodIn wsX5_send (wsV RX5 181 RX0 yX0_reportOf wsX0_reportOf) := goodIn_app (goodIn_of _ (by decide +kernel)) ggX5_send_X0_reportOf
set_option maxRecDepth 20000 in
theorem ggX5_send_X0_allLetters : GoodIn wsX5_send wsX0_allLetters := goodIn_r _ [35, 36, 79, 80, 81, 82, 83, 84] (by decide +kernel) (by decide +kernel)
set_option maxRecDepth 20000 in
theorem gX5_send_X0_allLetters : GoodIn wsX5_send (wsV RX5 184 RX0 yX0_allLetters wsX0_allLetters) := goodIn_app (goodIn_of _ (by decide +kernel)) ggX5_send_X0_allLetters
set_option maxRecDepth 20000 in
theorem ggX5_send_X0_addLettersTo : GoodIn wsX5_send wsX0_addLettersTo := goodIn_r _ [40, 36, 79, 80, 81, 82, 83, 84] (by decide +kernel) (by decide +kernel)
set_option maxRecDepth 20000 in
theorem gX5_send_X0_addLettersTo : GoodIn wsX5_send (wsV RX5 190 RX0 yX0_addLettersTo wsX0_addLettersTo) := goodIn_app (goodIn_of _ (by decide +kernel)) ggX5_send_X0_addLettersTo
set_option maxRecDepth 20000 in
theorem ggX5_send_X0_markGone : GoodIn wsX5_send wsX0_markGone := goodIn_r _ [44, 45, 79, 80, 81, 82, 83, 84] (by decide +kernel) (by decide +kernel)
set_option maxRecDepth 20000 in
theorem gX5_send_X0_markGone : GoodIn wsX5_send (wsV RX5 194 RX0 yX0_markGone wsX0_markGone) := goodIn_app (goodIn_of _ (by decide +kernel)) ggX5_send_X0_markGone
set_option maxRecDepth 20000 in
theorem ggX5_send_X0_putDue : GoodIn wsX5_send wsX0_putDue := goodIn_r _ [49, 45, 79, 80, 81, 82, 83, 84] (by decide +kernel) (by decide +kernel)
set_option maxRecDepth 20000 in
theorem gX5_send_X0_putDue : GoodIn wsX5_send (wsV RX5 204 RX0 yX0_putDue wsX0_putDue) := goodIn_app (goodIn_of _ (by decide +kernel)) ggX5_send_X0_putDue
theorem dX5_send_0 : decode cX5_send 0 = .ok (.aload_n 0, 1) := by decide +kernel
theorem dX5_send_1 : decode cX5_send 1 = .ok (.getfield 19, 3) := by decide +kernel
theorem dX5_send_4 : decode cX5_send 4 = .ok (.getfield 79, 3) := by decide +kernel
theorem dX5_send_7 : decode cX5_send 7 = .ok (.astore_n 3, 1) := by decide +kernel
theorem dX5_send_8 : decode cX5_send 8 = .ok (.aload_n 3, 1) := by decide +kernel
theorem dX5_send_9 : decode cX5_send 9 = .ok (.iload_n 1, 1) := by decide +kernel
theorem dX5_send_10 : decode cX5_send 10 = .ok (.invokevirtual 175, 3) := by decide +kernel
theorem dX5_send_13 : decode cX5_send 13 = .ok (.istore 4, 2) := by decide +kernel
theorem dX5_send_15 : decode cX5_send 15 = .ok (.aload_n 0, 1) := by decide +kernel
theorem dX5_send_16 : decode cX5_send 16 = .ok (.getfield 19, 3) := by decide +kernel
theorem dX5_send_19 : decode cX5_send 19 = .ok (.iload_n 2, 1) := by decide +kernel
theorem dX5_send_20 : decode cX5_send 20 = .ok (.aload_n 0, 1) := by decide +kernel
theorem dX5_send_21 : decode cX5_send 21 = .ok (.getfield 19, 3) := by decide +kernel
theorem dX5_send_24 : decode cX5_send 24 = .ok (.getfield 88, 3) := by decide +kernel
theorem dX5_send_27 : decode cX5_send 27 = .ok (.invokevirtual 178, 3) := by decide +kernel
theorem dX5_send_30 : decode cX5_send 30 = .ok (.ifCond .ne 74, 3) := by decide +kernel
theorem dX5_send_33 : decode cX5_send 33 = .ok (.aload_n 3, 1) := by decide +kernel
theorem dX5_send_34 : decode cX5_send 34 = .ok (.iload_n 1, 1) := by decide +kernel
theorem dX5_send_35 : decode cX5_send 35 = .ok (.invokevirtual 181, 3) := by decide +kernel
theorem dX5_send_38 : decode cX5_send 38 = .ok (.istore 5, 2) := by decide +kernel
theorem dX5_send_40 : decode cX5_send 40 = .ok (.iconst 0, 1) := by decide +kernel
theorem dX5_send_41 : decode cX5_send 41 = .ok (.aload_n 0, 1) := by decide +kernel
theorem dX5_send_42 : decode cX5_send 42 = .ok (.getfield 19, 3) := by decide +kernel
theorem dX5_send_45 : decode cX5_send 45 = .ok (.getfield 143, 3) := by decide +kernel
theorem dX5_send_48 : decode cX5_send 48 = .ok (.iload_n 2, 1) := by decide +kernel
theorem dX5_send_49 : decode cX5_send 49 = .ok (.iaload, 1) := by decide +kernel
theorem dX5_send_50 : decode cX5_send 50 = .ok (.aload_n 3, 1) := by decide +kernel
theorem dX5_send_51 : decode cX5_send 51 = .ok (.iload_n 1, 1) := by decide +kernel
theorem dX5_send_52 : decode cX5_send 52 = .ok (.invokevirtual 184, 3) := by decide +kernel
theorem dX5_send_55 : decode cX5_send 55 = .ok (.isub, 1) := by decide +kernel
theorem dX5_send_56 : decode cX5_send 56 = .ok (.invokestatic 133, 3) := by decide +kernel
theorem dX5_send_59 : decode cX5_send 59 = .ok (.istore 6, 2) := by decide +kernel
theorem dX5_send_61 : decode cX5_send 61 = .ok (.aload_n 0, 1) := by decide +kernel
theorem dX5_send_62 : decode cX5_send 62 = .ok (.getfield 19, 3) := by decide +kernel
theorem dX5_send_65 : decode cX5_send 65 = .ok (.getfield 143, 3) := by decide +kernel
theorem dX5_send_68 : decode cX5_send 68 = .ok (.iload_n 2, 1) := by decide +kernel
theorem dX5_send_69 : decode cX5_send 69 = .ok (.iload 5, 2) := by decide +kernel
theorem dX5_send_71 : decode cX5_send 71 = .ok (.bipush (-9), 2) := by decide +kernel
theorem dX5_send_73 : decode cX5_send 73 = .ok (.if_icmp .ne 8, 3) := by decide +kernel
theorem dX5_send_76 : decode cX5_send 76 = .ok (.iload 6, 2) := by decide +kernel
theorem dX5_send_78 : decode cX5_send 78 = .ok (.goto 5, 3) := by decide +kernel
theorem dX5_send_81 : decode cX5_send 81 = .ok (.iload 5, 2) := by decide +kernel
theorem dX5_send_83 : decode cX5_send 83 = .ok (.iastore, 1) := by decide +kernel
theorem dX5_send_84 : decode cX5_send 84 = .ok (.aload_n 3, 1) := by decide +kernel
theorem dX5_send_85 : decode cX5_send 85 = .ok (.aload_n 0, 1) := by decide +kernel
theorem dX5_send_86 : decode cX5_send 86 = .ok (.getfield 19, 3) := by decide +kernel
theorem dX5_send_89 : decode cX5_send 89 = .ok (.getfield 187, 3) := by decide +kernel
theorem dX5_send_92 : decode cX5_send 92 = .ok (.iload_n 1, 1) := by decide +kernel
theorem dX5_send_93 : decode cX5_send 93 = .ok (.invokevirtual 190, 3) := by decide +kernel
theorem dX5_send_96 : decode cX5_send 96 = .ok (.aload_n 3, 1) := by decide +kernel
theorem dX5_send_97 : decode cX5_send 97 = .ok (.iload_n 1, 1) := by decide +kernel
theorem dX5_send_98 : decode cX5_send 98 = .ok (.invokevirtual 194, 3) := by decide +kernel
theorem dX5_send_101 : decode cX5_send 101 = .ok (.goto 65, 3) := by decide +kernel
theorem dX5_send_104 : decode cX5_send 104 = .ok (.iload 4, 2) := by decide +kernel
theorem dX5_send_106 : decode cX5_send 106 = .ok (.aload_n 0, 1) := by decide +kernel
theorem dX5_send_107 : decode cX5_send 107 = .ok (.getfield 15, 3) := by decide +kernel
theorem dX5_send_110 : decode cX5_send 110 = .ok (.getfield 198, 3) := by decide +kernel
theorem dX5_send_113 : decode cX5_send 113 = .ok (.if_icmp .ge 26, 3) := by decide +kernel
theorem dX5_send_116 : decode cX5_send 116 = .ok (.aload_n 3, 1) := by decide +kernel
theorem dX5_send_117 : decode cX5_send 117 = .ok (.iload_n 1, 1) := by decide +kernel
theorem dX5_send_118 : decode cX5_send 118 = .ok (.aload_n 0, 1) := by decide +kernel
theorem dX5_send_119 : decode cX5_send 119 = .ok (.getfield 19, 3) := by decide +kernel
theorem dX5_send_122 : decode cX5_send 122 = .ok (.getfield 88, 3) := by decide +kernel
theorem dX5_send_125 : decode cX5_send 125 = .ok (.aload_n 0, 1) := by decide +kernel
theorem dX5_send_126 : decode cX5_send 126 = .ok (.getfield 15, 3) := by decide +kernel
theorem dX5_send_129 : decode cX5_send 129 = .ok (.getfield 201, 3) := by decide +kernel
theorem dX5_send_132 : decode cX5_send 132 = .ok (.iadd, 1) := by decide +kernel
theorem dX5_send_133 : decode cX5_send 133 = .ok (.invokevirtual 204, 3) := by decide +kernel
theorem dX5_send_136 : decode cX5_send 136 = .ok (.goto 30, 3) := by decide +kernel
theorem dX5_send_139 : decode cX5_send 139 = .ok (.aload_n 0, 1) := by decide +kernel
theorem dX5_send_140 : decode cX5_send 140 = .ok (.getfield 19, 3) := by decide +kernel
theorem dX5_send_143 : decode cX5_send 143 = .ok (.getfield 37, 3) := by decide +kernel
theorem dX5_send_146 : decode cX5_send 146 = .ok (.iload_n 2, 1) := by decide +kernel
theorem dX5_send_147 : decode cX5_send 147 = .ok (.iconst 1, 1) := by decide +kernel
theorem dX5_send_148 : decode cX5_send 148 = .ok (.iastore, 1) := by decide +kernel
theorem dX5_send_149 : decode cX5_send 149 = .ok (.aload_n 3, 1) := by decide +kernel
theorem dX5_send_150 : decode cX5_send 150 = .ok (.aload_n 0, 1) := by decide +kernel
theorem dX5_send_151 : decode cX5_send 151 = .ok (.getfield 19, 3) := by decide +kernel
theorem dX5_send_154 : decode cX5_send 154 = .ok (.getfield 207, 3) := by decide +kernel
theorem dX5_send_157 : decode cX5_send 157 = .ok (.iload_n 1, 1) := by decide +kernel
theorem dX5_send_158 : decode cX5_send 158 = .ok (.invokevirtual 190, 3) := by decide +kernel
theorem dX5_send_161 : decode cX5_send 161 = .ok (.aload_n 3, 1) := by decide +kernel
theorem dX5_send_162 : decode cX5_send 162 = .ok (.iload_n 1, 1) := by decide +kernel
theorem dX5_send_163 : decode cX5_send 163 = .ok (.invokevirtual 194, 3) := by decide +kernel
theorem dX5_send_166 : decode cX5_send 166 = .ok (.return_, 1) := by decide +kernel
