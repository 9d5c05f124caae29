theorem dX4_stationNumbered_1 : decode cX4_stationNumbered 1 = .ok (.iload_n 1, 1) := by decide +kernel
theorem dX4_stationNumbered_2 : decode cX4_stationNumbered 2 = .ok (.invokevirtual 101, 3) := by decide +kernel
theorem dX4_stationNumbered_5 : decode cX4_stationNumbered 5 = .ok (.astore_n 3, 1) := by decide +kernel
theorem dX4_stationNumbered_6 : decode cX4_stationNumbered 6 = .ok (.iload_n 2, 1) := by decide +kernel
theorem dX4_stationNumbered_7 : decode cX4_stationNumbered 7 = .ok (.ifCond .lt 18, 3) := by decide +kernel
theorem dX4_stationNumbered_10 : decode cX4_stationNumbered 10 = .ok (.iload_n 2, 1) := by decide +kernel
theorem dX4_stationNumbered_11 : decode cX4_stationNumbered 11 = .ok (.bipush 8, 2) := by decide +kernel
theorem dX4_stationNumbered_13 : decode cX4_stationNumbered 13 = .ok (.if_icmp .ge 12, 3) := by decide +kernel
theorem dX4_stationNumbered_16 : decode cX4_stationNumbered 16 = .ok (.aload_n 3, 1) := by decide +kernel
theorem dX4_stationNumbered_17 : decode cX4_stationNumbered 17 = .ok (.getfield 118, 3) := by decide +kernel
theorem dX4_stationNumbered_20 : decode cX4_stationNumbered 20 = .ok (.iload_n 2, 1) := by decide +kernel
theorem dX4_stationNumbered_21 : decode cX4_stationNumbered 21 = .ok (.aaload, 1) := by decide +kernel
theorem dX4_stationNumbered_22 : decode cX4_stationNumbered 22 = .ok (.goto 4, 3) := by decide +kernel
theorem dX4_stationNumbered_25 : decode cX4_stationNumbered 25 = .ok (.aconst_null, 1) := by decide +kernel
theorem dX4_stationNumbered_26 : decode cX4_stationNumbered 26 = .ok (.astore 4, 2) := by decide +kernel
theorem dX4_stationNumbered_28 : decode cX4_stationNumbered 28 = .ok (.aload 4, 2) := by decide +kernel
theorem dX4_stationNumbered_30 : decode cX4_stationNumbered 30 = .ok (.ifnonnull 13, 3) := by decide +kernel
theorem dX4_stationNumbered_33 : decode cX4_stationNumbered 33 = .ok (.new 157, 3) := by decide +kernel
theorem dX4_stationNumbered_36 : decode cX4_stationNumbered 36 = .ok (.dup, 1) := by decide +kernel
theorem dX4_stationNumbered_37 : decode cX4_stationNumbered 37 = .ok (.ldc 200, 2) := by decide +kernel
theorem dX4_stationNumbered_39 : decode cX4_stationNumbered 39 = .ok (.invokespecial 161, 3) := by decide +kernel
theorem dX4_stationNumbered_42 : decode cX4_stationNumbered 42 = .ok (.athrow, 1) := by decide +kernel
theorem dX4_stationNumbered_43 : decode cX4_stationNumbered 43 = .ok (.aload 4, 2) := by decide +kernel
theorem dX4_stationNumbered_45 : decode cX4_stationNumbered 45 = .ok (.areturn, 1) := by decide +kernel
theorem dX4_numberOf_0 : decode cX4_numberOf 0 = .ok (.aload_n 0, 1) := by decide +kernel
theorem dX4_numberOf_1 : decode cX4_numberOf 1 = .ok (.ifnonnull 7, 3) := by decide +kernel
theorem dX4_numberOf_4 : decode cX4_numberOf 4 = .ok (.iconst (-1), 1) := by decide +kernel
theorem dX4_numberOf_5 : decode cX4_numberOf 5 = .ok (.goto 7, 3) := by decide +kernel
theorem dX4_numberOf_8 : decode cX4_numberOf 8 = .ok (.aload_n 0, 1) := by decide +kernel
theorem dX4_numberOf_9 : decode cX4_numberOf 9 = .ok (.getfield 202, 3) := by decide +kernel
theorem dX4_numberOf_12 : decode cX4_numberOf 12 = .ok (.ireturn, 1) := by decide +kernel
set_option maxRecDepth 20000 in
theorem ggX4_isDarkFor_X0_strikes : GoodIn wsX4_isDarkFor wsX0_strikes := goodIn_r _ [7, 8, 9, 10, 11, 26, 27, 28, 29] (by decide +kernel) (by decide +kernel)
set_option maxRecDepth 20000 in
theorem gX4_isDarkFor_X0_strikes : GoodIn wsX4_isDarkFor (wsV RX4 206 RX0 yX0_strikes wsX0_strikes) := goodIn_app (goodIn_of _ (by decide +kernel)) ggX4_isDarkFor_X0_strikes
theorem dX4_isDarkFor_0 : decode cX4_isDarkFor 0 = .ok (.aload_n 0, 1) := by decide +kernel
theorem dX4_isDarkFor_1 : decode cX4_isDarkFor 1 = .ok (.getfield 17, 3) := by decide +kernel
theorem dX4_isDarkFor_4 : decode cX4_isDarkFor 4 = .ok (.astore 4, 2) := by decide +kernel
theorem dX4_isDarkFor_6 : decode cX4_isDarkFor 6 = .ok (.aload 4, 2) := by decide +kernel
theorem dX4_isDarkFor_8 : decode cX4_isDarkFor 8 = .ok (.arraylength, 1) := by decide +kernel
theorem dX4_isDarkFor_9 : decode cX4_isDarkFor 9 = .ok (.istore 5, 2) := by decide +kernel
theorem dX4_isDarkFor_11 : decode cX4_isDarkFor 11 = .ok (.iconst 0, 1) := by decide +kernel
theorem dX4_isDarkFor_12 : decode cX4_isDarkFor 12 = .ok (.istore 6, 2) := by decide +kernel
theorem dX4_isDarkFor_14 : decode cX4_isDarkFor 14 = .ok (.iload 6, 2) := by decide +kernel
theorem dX4_isDarkFor_16 : decode cX4_isDarkFor 16 = .ok (.iload 5, 2) := by decide +kernel
theorem dX4_isDarkFor_18 : decode cX4_isDarkFor 18 = .ok (.if_icmp .ge 37, 3) := by decide +kernel
theorem dX4_isDarkFor_21 : decode cX4_isDarkFor 21 = .ok (.aload 4, 2) := by decide +kernel
theorem dX4_isDarkFor_23 : decode cX4_isDarkFor 23 = .ok (.iload 6, 2) := by decide +kernel
theorem dX4_isDarkFor_25 : decode cX4_isDarkFor 25 = .ok (.aaload, 1) := by decide +kernel
theorem dX4_isDarkFor_26 : decode cX4_isDarkFor 26 = .ok (.astore 7, 2) := by decide +kernel
theorem dX4_isDarkFor_28 : decode cX4_isDarkFor 28 = .ok (.aload 7, 2) := by decide +kernel
theorem dX4_isDarkFor_30 : decode cX4_isDarkFor 30 = .ok (.ifnull 19, 3) := by decide +kernel
theorem dX4_isDarkFor_33 : decode cX4_isDarkFor 33 = .ok (.aload 7, 2) := by decide +kernel
theorem dX4_isDarkFor_35 : decode cX4_isDarkFor 35 = .ok (.aload_n 1, 1) := by decide +kernel
theorem dX4_isDarkFor_36 : decode cX4_isDarkFor 36 = .ok (.getfield 203, 3) := by decide +kernel
theorem dX4_isDarkFor_39 : decode cX4_isDarkFor 39 = .ok (.iload_n 2, 1) := by decide +kernel
theorem dX4_isDarkFor_40 : decode cX4_isDarkFor 40 = .ok (.iload_n 3, 1) := by decide +kernel
theorem dX4_isDarkFor_41 : decode cX4_isDarkFor 41 = .ok (.invokevirtual 206, 3) := by decide +kernel
theorem dX4_isDarkFor_44 : decode cX4_isDarkFor 44 = .ok (.ifCond .eq 5, 3) := by decide +kernel
theorem dX4_isDarkFor_47 : decode cX4_isDarkFor 47 = .ok (.iconst 1, 1) := by decide +kernel
theorem dX4_isDarkFor_48 : decode cX4_isDarkFor 48 = .ok (.ireturn, 1) := by decide +kernel
theorem dX4_isDarkFor_49 : decode cX4_isDarkFor 49 = .ok (.iinc 6 1, 3) := by decide +kernel
theorem dX4_isDarkFor_52 : decode cX4_isDarkFor 52 = .ok (.goto (-38), 3) := by decide +kernel
theorem dX4_isDarkFor_55 : decode cX4_isDarkFor 55 = .ok (.iconst 0, 1) := by decide +kernel
theorem dX4_isDarkFor_56 : decode cX4_isDarkFor 56 = .ok (.ireturn, 1) := by decide +kernel
set_option maxRecDepth 20000 in
theorem ggX4_livingHeir_X4_livingFor : GoodIn wsX4_livingHeir wsX4_livingFor := goodIn_r _ [5, 6, 7, 8, 4, 0, 1, 2, 3, 9, 10, 11, 12, 13, 14] (by decide +kernel) (by decide +kernel)
set_option maxRecDepth 20000 in
theorem gX4_livingHeir_X4_livingFor : GoodIn wsX4_livingHeir (va_wsS RX4 184 yX4_livingFor wsX4_livingFor) := goodIn_app (goodIn_of _ (by decide +kernel)) ggX4_livingHeir_X4_livingFor
theorem dX4_livingHeir_0 : decode cX4_livingHeir 0 = .ok (.iload_n 1, 1) := by decide +kernel
theorem dX4_livingHeir_1 : decode cX4_livingHeir 1 = .ok (.ifCond .gt 5, 3) := by decide +kernel
theorem dX4_livingHeir_4 : decode cX4_livingHeir 4 = .ok (.aconst_null, 1) := by decide +kernel
theorem dX4_livingHeir_5 : decode cX4_livingHeir 5 = .ok (.areturn, 1) := by decide +kernel
theorem dX4_livingHeir_6 : decode cX4_livingHeir 6 = .ok (.aload_n 0, 1) := by decide +kernel
theorem dX4_livingHeir_7 : decode cX4_livingHeir 7 = .ok (.getfield 74, 3) := by decide +kernel
theorem dX4_livingHeir_10 : decode cX4_livingHeir 10 = .ok (.astore_n 2, 1) := by decide +kernel
theorem dX4_livingHeir_11 : decode cX4_livingHeir 11 = .ok (.aload_n 2, 1) := by decide +kernel
theorem dX4_livingHeir_12 : decode cX4_livingHeir 12 = .ok (.arraylength, 1) := by decide +kernel
theorem dX4_livingHeir_13 : decode cX4_livingHeir 13 = .ok (.istore_n 3, 1) := by decide +kernel
theorem dX4_livingHeir_14 : decode cX4_livingHeir 14 = .ok (.iconst 0, 1) := by decide +kernel
theorem dX4_livingHeir_15 : decode cX4_livingHeir 15 = .ok (.istore 4, 2) := by decide +kernel
theorem dX4_livingHeir_17 : decode cX4_livingHeir 17 = .ok (.iload 4, 2) := by decide +kernel
theorem dX4_livingHeir_19 : decode cX4_livingHeir 19 = .ok (.iload_n 3, 1) := by decide +kernel
theorem dX4_livingHeir_20 : decode cX4_livingHeir 20 = .ok (.if_icmp .ge 33, 3) := by decide +kernel
theorem dX4_livingHeir_23 : decode cX4_livingHeir 23 = .ok (.aload_n 2, 1) := by decide +kernel
theorem dX4_livingHeir_24 : decode cX4_livingHeir 24 = .ok (.iload 4, 2) := by decide +kernel
theorem dX4_livingHeir_26 : decode cX4_livingHeir 26 = .ok (.aaload, 1) := by decide +kernel
theorem dX4_livingHeir_27 : decode cX4_livingHeir 27 = .ok (.astore 5, 2) := by decide +kernel
theorem dX4_livingHeir_29 : decode cX4_livingHeir 29 = .ok (.aload 5, 2) := by decide +kernel
theorem dX4_livingHeir_31 : decode cX4_livingHeir 31 = .ok (.iload_n 1, 1) := by decide +kernel
theorem dX4_livingHeir_32 : decode cX4_livingHeir 32 = .ok (.iconst 1, 1) := by decide +kernel
theorem dX4_livingHeir_33 : decode cX4_livingHeir 33 = .ok (.isub, 1) := by decide +kernel
theorem dX4_livingHeir_34 : decode cX4_livingHeir 34 = .ok (.invokestatic 184, 3) := by decide +kernel
theorem dX4_livingHeir_37 : decode cX4_livingHeir 37 = .ok (.astore 6, 2) := by decide +kernel
theorem dX4_livingHeir_39 : decode cX4_livingHeir 39 = .ok (.aload 6, 2) := by decide +kernel
theorem dX4_livingHeir_41 : decode cX4_livingHeir 41 = .ok (.ifnull 6, 3) := by decide +kernel
theorem dX4_livingHeir_44 : decode cX4_livingHeir 44 = .ok (.aload 6, 2) := by decide +kernel
theorem dX4_livingHeir_46 : decode cX4_livingHeir 46 = .ok (.areturn, 1) := by decide +kernel
theorem dX4_livingHeir_47 : decode cX4_livingHeir 47 = .ok (.iinc 4 1, 3) := by decide +kernel
theorem dX4_livingHeir_50 : decode cX4_livingHeir 50 = .ok (.goto (-33), 3) := by decide +kernel
theorem dX4_livingHeir_53 : decode cX4_livingHeir 53 = .ok (.aconst_null, 1) := by decide +kernel
theorem dX4_livingHeir_54 : decode cX4_livingHeir 54 = .ok (.areturn, 1) := by decide +kernel
set_option maxRecDepth 20000 in
theorem ggX4_livingFor_X4_livingHeir : GoodIn wsX4_livingFor wsX4_livingHeir := goodIn_r _ [5, 6, 7, 8, 4, 0, 1, 2, 3, 9, 10, 11, 12, 13, 14] (by decide +kernel) (by decide +kernel)
set_option maxRecDepth 20000 in
theorem gX4_livingFor_X4_livingHeir : GoodIn wsX4_livingFor (va_wsS RX4 145 yX4_livingHeir wsX4_livingHeir) := goodIn_app (goodIn_of _ (by decide +kernel)) ggX4_livingFor_X4_livingHeir
theorem dX4_livingFor_0 : decode cX4_livingFor 0 = .ok (.aload_n 0, 1) := by decide +kernel
theorem dX4_livingFor_1 : decode cX4_livingFor 1 = .ok (.ifnull 10, 3) := by decide +kernel
theorem dX4_livingFor_4 : decode cX4_livingFor 4 = .ok (.aload_n 0, 1) := by decide +kernel
theorem dX4_livingFor_5 : decode cX4_livingFor 5 = .ok (.getfield 56, 3) := by decide +kernel
theorem dX4_livingFor_8 : decode cX4_livingFor 8 = .ok (.ifCond .ne 5, 3) := by decide +kernel
theorem dX4_livingFor_11 : decode cX4_livingFor 11 = .ok (.aload_n 0, 1) := by decide +kernel
theorem dX4_livingFor_12 : decode cX4_livingFor 12 = .ok (.areturn, 1) := by decide +kernel
theorem dX4_livingFor_13 : decode cX4_livingFor 13 = .ok (.aload_n 0, 1) := by decide +kernel
theorem dX4_livingFor_14 : decode cX4_livingFor 14 = .ok (.iload_n 1, 1) := by decide +kernel
theorem dX4_livingFor_15 : decode cX4_livingFor 15 = .ok (.invokestatic 145, 3) := by decide +kernel
theorem dX4_livingFor_18 : decode cX4_livingFor 18 = .ok (.areturn, 1) := by decide +kernel
set_option maxRecDepth 20000 in
theorem ggX4_takesAway_X4_isDarkFor : GoodIn wsX4_takesAway wsX4_isDarkFor := goodIn_r _ [11, 12, 13, 14, 15, 16, 17, 18, 19, 20, 21, 22, 32, 33, 34, 35, 36, 37, 38, 39, 40, 41, 42, 43, 44, 45, 46, 47, 48, 49] (by decide +kernel) (by decide +kernel)
set_option maxRecDepth 20000 in
theorem gX4_takesAway_X4_isDarkFor : GoodIn wsX4_takesAway (wsV RX4 141 RX4 yX4_isDarkFor wsX4_isDarkFor) := goodIn_app (goodIn_of _ (by decide +kernel)) ggX4_takesAway_X4_isDarkFor
theorem dX4_takesAway_0 : decode cX4_takesAway 0 = .ok (.aload_n 1, 1) := by decide +kernel
theorem dX4_takesAway_1 : decode cX4_takesAway 1 = .ok (.getfield 210, 3) := by decide +kernel
theorem dX4_takesAway_4 : decode cX4_takesAway 4 = .ok (.astore_n 2, 1) := by decide +kernel
theorem dX4_takesAway_5 : decode cX4_takesAway 5 = .ok (.aload_n 2, 1) := by decide +kernel
theorem dX4_takesAway_6 : decode cX4_takesAway 6 = .ok (.ifnonnull 5, 3) := by decide +kernel
theorem dX4_takesAway_9 : decode cX4_takesAway 9 = .ok (.iconst 0, 1) := by decide +kernel
theorem dX4_takesAway_10 : decode cX4_takesAway 10 = .ok (.ireturn, 1) := by decide +kernel
theorem dX4_takesAway_11 : decode cX4_takesAway 11 = .ok (.aload_n 1, 1) := by decide +kernel
theorem dX4_takesAway_12 : decode cX4_takesAway 12 = .ok (.getfield 130, 3) := by decide +kernel
theorem dX4_takesAway_15 : decode cX4_takesAway 15 = .ok (.ifCond .ne 35, 3) := by decide +kernel
theorem dX4_takesAway_18 : decode cX4_takesAway 18 = .ok (.aload_n 1, 1) := by decide +kernel
theorem dX4_takesAway_19 : decode cX4_takesAway 19 = .ok (.getfield 135, 3) := by decide +kernel
theorem dX4_takesAway_22 : decode cX4_takesAway 22 = .ok (.ifCond .ne 26, 3) := by decide +kernel
theorem dX4_takesAway_25 : decode cX4_takesAway 25 = .ok (.aload_n 0, 1) := by decide +kernel
theorem dX4_takesAway_26 : decode cX4_takesAway 26 = .ok (.aload_n 2, 1) := by decide +kernel
theorem dX4_takesAway_27 : decode cX4_takesAway 27 = .ok (.getfield 213, 3) := by decide +kernel
theorem dX4_takesAway_30 : decode cX4_takesAway 30 = .ok (.aload_n 1, 1) := by decide +kernel
theorem dX4_takesAway_31 : decode cX4_takesAway 31 = .ok (.getfield 217, 3) := by decide +kernel
theorem dX4_takesAway_34 : decode cX4_takesAway 34 = .ok (.aload_n 1, 1) := by decide +kernel
theorem dX4_takesAway_35 : decode cX4_takesAway 35 = .ok (.getfield 220, 3) := by decide +kernel
theorem dX4_takesAway_38 : decode cX4_takesAway 38 = .ok (.invokevirtual 141, 3) := by decide +kernel
theorem dX4_takesAway_41 : decode cX4_takesAway 41 = .ok (.ifCond .eq 7, 3) := by decide +kernel
theorem dX4_takesAway_44 : decode cX4_takesAway 44 = .ok (.iconst 1, 1) := by decide +kernel
theorem dX4_takesAway_45 : decode cX4_takesAway 45 = .ok (.goto 4, 3) := by decide +kernel
theorem dX4_takesAway_48 : decode cX4_takesAway 48 = .ok (.iconst 0, 1) := by decide +kernel
theorem dX4_takesAway_49 : decode cX4_takesAway 49 = .ok (.ireturn, 1) := by decide +kernel
theorem dX4_takesAway_50 : decode cX4_takesAway 50 = .ok (.aload_n 1, 1) := by decide +kernel
theorem dX4_takesAway_51 : decode cX4_takesAway 51 = .ok (.getfield 130, 3) := by decide +kernel
theorem dX4_takesAway_54 : decode cX4_takesAway 54 = .ok (.iconst 3, 1) := by decide +kernel
theorem dX4_takesAway_55 : decode cX4_takesAway 55 = .ok (.if_icmp .eq 19, 3) := by decide +kernel
theorem dX4_takesAway_58 : decode cX4_takesAway 58 = .ok (.aload_n 1, 1) := by decide +kernel
theorem dX4_takesAway_59 : decode cX4_takesAway 59 = .ok (.getfield 130, 3) := by decide +kernel
theorem dX4_takesAway_62 : decode cX4_takesAway 62 = .ok (.iconst 4, 1) := by decide +kernel
theorem dX4_takesAway_63 : decode cX4_takesAway 63 = .ok (.if_icmp .eq 11, 3) := by decide +kernel
theorem dX4_takesAway_66 : decode cX4_takesAway 66 = .ok (.aload_n 1, 1) := by decide +kernel
theorem dX4_takesAway_67 : decode cX4_takesAway 67 = .ok (.getfield 130, 3) := by decide +kernel
theorem dX4_takesAway_70 : decode cX4_takesAway 70 = .ok (.iconst 5, 1) := by decide +kernel
theorem dX4_takesAway_71 : decode cX4_takesAway 71 = .ok (.if_icmp .ne 7, 3) := by decide +kernel
theorem dX4_takesAway_74 : decode cX4_takesAway 74 = .ok (.iconst 1, 1) := by decide +kernel
theorem dX4_takesAway_75 : decode cX4_takesAway 75 = .ok (.goto 4, 3) := by decide +kernel
theorem dX4_takesAway_78 : decode cX4_takesAway 78 = .ok (.iconst 0, 1) := by decide +kernel
theorem dX4_takesAway_79 : decode cX4_takesAway 79 = .ok (.ireturn, 1) := by decide +kernel
theorem dX4_isKeptInGoodFaith_0 : decode cX4_isKeptInGoodFaith 0 = .ok (.aload_n 0, 1) := by decide +kernel
theorem dX4_isKeptInGoodFaith_1 : decode cX4_isKeptInGoodFaith 1 = .ok (.getfield 21, 3) := by decide +kernel
theorem dX4_isKeptInGoodFaith_4 : decode cX4_isKeptInGoodFaith 4 = .ok (.aload_n 1, 1) := by decide +kernel
theorem dX4_isKeptInGoodFaith_5 : decode cX4_isKeptInGoodFaith 5 = .ok (.getfield 217, 3) := by decide +kernel
theorem dX4_isKeptInGoodFaith_8 : decode cX4_isKeptInGoodFaith 8 = .ok (.iaload, 1) := by decide +kernel
theorem dX4_isKeptInGoodFaith_9 : decode cX4_isKeptInGoodFaith 9 = .ok (.istore_n 2, 1) := by decide +kernel
theorem dX4_isKeptInGoodFaith_10 : decode cX4_isKeptInGoodFaith 10 = .ok (.aload_n 1, 1) := by decide +kernel
theorem dX4_isKeptInGoodFaith_11 : decode cX4_isKeptInGoodFaith 11 = .ok (.getfield 166, 3) := by decide +kernel
theorem dX4_isKeptInGoodFaith_14 : decode cX4_isKeptInGoodFaith 14 = .ok (.ifnonnull 10, 3) := by decide +kernel
theorem dX4_isKeptInGoodFaith_17 : decode cX4_isKeptInGoodFaith 17 = .ok (.aload_n 0, 1) := by decide +kernel
theorem dX4_isKeptInGoodFaith_18 : decode cX4_isKeptInGoodFaith 18 = .ok (.getfield 25, 3) := by decide +kernel
theorem dX4_isKeptInGoodFaith_21 : decode cX4_isKeptInGoodFaith 21 = .ok (.goto 10, 3) := by decide +kernel
theorem dX4_isKeptInGoodFaith_24 : decode cX4_isKeptInGoodFaith 24 = .ok (.aload_n 1, 1) := by decide +kernel
theorem dX4_isKeptInGoodFaith_25 : decode cX4_isKeptInGoodFaith 25 = .ok (.getfield 166, 3) := by decide +kernel
theorem dX4_isKeptInGoodFaith_28 : decode cX4_isKeptInGoodFaith 28 = .ok (.getfield 220, 3) := by decide +kernel
theorem dX4_isKeptInGoodFaith_31 : decode cX4_isKeptInGoodFaith 31 = .ok (.istore_n 3, 1) := by decide +kernel
theorem dX4_isKeptInGoodFaith_32 : decode cX4_isKeptInGoodFaith 32 = .ok (.aload_n 1, 1) := by decide +kernel
theorem dX4_isKeptInGoodFaith_33 : decode cX4_isKeptInGoodFaith 33 = .ok (.getfield 130, 3) := by decide +kernel
theorem dX4_isKeptInGoodFaith_36 : decode cX4_isKeptInGoodFaith 36 = .ok (.ifCond .ne 21, 3) := by decide +kernel
theorem dX4_isKeptInGoodFaith_39 : decode cX4_isKeptInGoodFaith 39 = .ok (.iload_n 2, 1) := by decide +kernel
theorem dX4_isKeptInGoodFaith_40 : decode cX4_isKeptInGoodFaith 40 = .ok (.ifCond .le 17, 3) := by decide +kernel
theorem dX4_isKeptInGoodFaith_43 : decode cX4_isKeptInGoodFaith 43 = .ok (.iload_n 3, 1) := by decide +kernel
theorem dX4_isKeptInGoodFaith_44 : decode cX4_isKeptInGoodFaith 44 = .ok (.aload_n 1, 1) := by decide +kernel
theorem dX4_isKeptInGoodFaith_45 : decode cX4_isKeptInGoodFaith 45 = .ok (.getfield 220, 3) := by decide +kernel
theorem dX4_isKeptInGoodFaith_48 : decode cX4_isKeptInGoodFaith 48 = .ok (.isub, 1) := by decide +kernel
theorem dX4_isKeptInGoodFaith_49 : decode cX4_isKeptInGoodFaith 49 = .ok (.iload_n 2, 1) := by decide +kernel
theorem dX4_isKeptInGoodFaith_50 : decode cX4_isKeptInGoodFaith 50 = .ok (.if_icmp .lt 7, 3) := by decide +kernel
theorem dX4_isKeptInGoodFaith_53 : decode cX4_isKeptInGoodFaith 53 = .ok (.iconst 1, 1) := by decide +kernel
theorem dX4_isKeptInGoodFaith_54 : decode cX4_isKeptInGoodFaith 54 = .ok (.goto 4, 3) := by decide +kernel
theorem dX4_isKeptInGoodFaith_57 : decode cX4_isKeptInGoodFaith 57 = .ok (.iconst 0, 1) := by decide +kernel
theorem dX4_isKeptInGoodFaith_58 : decode cX4_isKeptInGoodFaith 58 = .ok (.ireturn, 1) := by decide +kernel
set_option maxRecDepth 20000 in
theorem ggX4_titleFromFirst_X4_bringsTitle : GoodIn wsX4_titleFromFirst wsX4_bringsTitle := goodIn_r _ [8, 9, 10, 2, 11, 12, 13, 7, 14, 15, 16, 17, 18, 19, 20, 21, 22, 23, 24, 25, 26, 27, 28, 29, 30, 31, 32, 33, 34, 35, 36, 37, 38, 3, 39, 46, 47, 48, 49, 50, 51, 52, 53, 54, 55, 56, 57, 58, 59, 60, 61, 62, 63, 64, 65, 66, 67, 68, 69, 70, 71, 72] (by decide +kernel) (by decide +kernel)
set_option maxRecDepth 20000 in
theorem gX4_titleFromFirst_X4_bringsTitle : GoodIn wsX4_titleFromFirst (wsV RX4 223 RX4 yX4_bringsTitle wsX4_bringsTitle) := goodIn_app (goodIn_of _ (by decide +kernel)) ggX4_titleFromFirst_X4_bringsTitle
theorem dX4_titleFromFirst_0 : decode cX4_titleFromFirst 0 = .ok (.aload_n 1, 1) := by decide +kernel
theorem dX4_titleFromFirst_1 : decode cX4_titleFromFirst 1 = .ok (.getfield 162, 3) := by decide +kernel
theorem dX4_titleFromFirst_4 : decode cX4_titleFromFirst 4 = .ok (.ifnonnull 5, 3) := by decide +kernel
theorem dX4_titleFromFirst_7 : decode cX4_titleFromFirst 7 = .ok (.aconst_null, 1) := by decide +kernel
theorem dX4_titleFromFirst_8 : decode cX4_titleFromFirst 8 = .ok (.areturn, 1) := by decide +kernel
theorem dX4_titleFromFirst_9 : decode cX4_titleFromFirst 9 = .ok (.aload_n 1, 1) := by decide +kernel
theorem dX4_titleFromFirst_10 : decode cX4_titleFromFirst 10 = .ok (.getfield 162, 3) := by decide +kernel
theorem dX4_titleFromFirst_13 : decode cX4_titleFromFirst 13 = .ok (.getfield 213, 3) := by decide +kernel
theorem dX4_titleFromFirst_16 : decode cX4_titleFromFirst 16 = .ok (.astore_n 2, 1) := by decide +kernel
theorem dX4_titleFromFirst_17 : decode cX4_titleFromFirst 17 = .ok (.aload_n 1, 1) := by decide +kernel
theorem dX4_titleFromFirst_18 : decode cX4_titleFromFirst 18 = .ok (.getfield 162, 3) := by decide +kernel
theorem dX4_titleFromFirst_21 : decode cX4_titleFromFirst 21 = .ok (.getfield 166, 3) := by decide +kernel
theorem dX4_titleFromFirst_24 : decode cX4_titleFromFirst 24 = .ok (.astore_n 3, 1) := by decide +kernel
theorem dX4_titleFromFirst_25 : decode cX4_titleFromFirst 25 = .ok (.aload_n 3, 1) := by decide +kernel
theorem dX4_titleFromFirst_26 : decode cX4_titleFromFirst 26 = .ok (.ifnull 25, 3) := by decide +kernel
theorem dX4_titleFromFirst_29 : decode cX4_titleFromFirst 29 = .ok (.aload_n 0, 1) := by decide +kernel
theorem dX4_titleFromFirst_30 : decode cX4_titleFromFirst 30 = .ok (.aload_n 3, 1) := by decide +kernel
theorem dX4_titleFromFirst_31 : decode cX4_titleFromFirst 31 = .ok (.aload_n 2, 1) := by decide +kernel
theorem dX4_titleFromFirst_32 : decode cX4_titleFromFirst 32 = .ok (.invokevirtual 223, 3) := by decide +kernel
theorem dX4_titleFromFirst_35 : decode cX4_titleFromFirst 35 = .ok (.ifCond .eq 8, 3) := by decide +kernel
theorem dX4_titleFromFirst_38 : decode cX4_titleFromFirst 38 = .ok (.aload_n 3, 1) := by decide +kernel
theorem dX4_titleFromFirst_39 : decode cX4_titleFromFirst 39 = .ok (.getfield 213, 3) := by decide +kernel
theorem dX4_titleFromFirst_42 : decode cX4_titleFromFirst 42 = .ok (.astore_n 2, 1) := by decide +kernel
theorem dX4_titleFromFirst_43 : decode cX4_titleFromFirst 43 = .ok (.aload_n 3, 1) := by decide +kernel
theorem dX4_titleFromFirst_44 : decode cX4_titleFromFirst 44 = .ok (.getfield 166, 3) := by decide +kernel
theorem dX4_titleFromFirst_47 : decode cX4_titleFromFirst 47 = .ok (.astore_n 3, 1) := by decide +kernel
theorem dX4_titleFromFirst_48 : decode cX4_titleFromFirst 48 = .ok (.goto (-23), 3) := by decide +kernel
theorem dX4_titleFromFirst_51 : decode cX4_titleFromFirst 51 = .ok (.aload_n 2, 1) := by decide +kernel
theorem dX4_titleFromFirst_52 : decode cX4_titleFromFirst 52 = .ok (.areturn, 1) := by decide +kernel
set_option maxRecDepth 20000 in
theorem ggX4_bringsTitle_X4_takesAway : GoodIn wsX4_bringsTitle wsX4_takesAway := goodIn_r _ [8, 2, 9, 10, 3, 11, 12, 13, 14, 15, 7, 16, 17, 18, 19, 20, 21, 22, 23, 24, 25, 26, 27, 35, 36, 37, 38, 39, 40, 41, 42, 43, 44, 45, 46, 47, 48, 49, 50, 51, 52, 53, 54, 55, 56, 57, 58, 59, 60, 61] (by decide +kernel) (by decide +kernel)
set_option maxRecDepth 20000 in
theorem gX4_bringsTitle_X4_takesAway : GoodIn wsX4_bringsTitle (wsV RX4 172 RX4 yX4_takesAway wsX4_takesAway) := goodIn_app (goodIn_of _ (by decide +kernel)) ggX4_bringsTitle_X4_takesAway
set_option maxRecDepth 20000 in
theorem ggX4_bringsTitle_X4_isKeptInGoodFaith : GoodIn wsX4_bringsTitle wsX4_isKeptInGoodFaith := goodIn_r _ [31, 32, 11, 33, 34, 12, 9, 44, 45, 46, 47, 48, 49, 50, 51, 35, 36, 37, 38, 39, 40, 41, 42, 43] (by decide +kernel) (by decide +kernel)
set_option maxRecDepth 20000 in
theorem gX4_bringsTitle_X4_isKeptInGoodFaith : GoodIn wsX4_bringsTitle (wsV RX4 227 RX4 yX4_isKeptInGoodFaith wsX4_isKeptInGoodFaith) := goodIn_app (goodIn_of _ (by decide +kernel)) ggX4_bringsTitle_X4_isKeptInGoodFaith
theorem dX4_bringsTitle_0 : decode cX4_bringsTitle 0 = .ok (.aload_n 1, 1) := by decide +kernel
theorem dX4_bringsTitle_1 : decode cX4_bringsTitle 1 = .ok (.getfield 138, 3) := by decide +kernel
theorem dX4_bringsTitle_4 : decode cX4_bringsTitle 4 = .ok (.ifCond .eq 5, 3) := by decide +kernel
theorem dX4_bringsTitle_7 : decode cX4_bringsTitle 7 = .ok (.iconst 1, 1) := by decide +kernel
theorem dX4_bringsTitle_8 : decode cX4_bringsTitle 8 = .ok (.ireturn, 1) := by decide +kernel
theorem dX4_bringsTitle_9 : decode cX4_bringsTitle 9 = .ok (.aload_n 0, 1) := by decide +kernel
theorem dX4_bringsTitle_10 : decode cX4_bringsTitle 10 = .ok (.aload_n 1, 1) := by decide +kernel
theorem dX4_bringsTitle_11 : decode cX4_bringsTitle 11 = .ok (.invokevirtual 172, 3) := by decide +kernel
theorem dX4_bringsTitle_14 : decode cX4_bringsTitle 14 = .ok (.ifCond .eq 5, 3) := by decide +kernel
theorem dX4_bringsTitle_17 : decode cX4_bringsTitle 17 = .ok (.iconst 0, 1) := by decide +kernel
theorem dX4_bringsTitle_18 : decode cX4_bringsTitle 18 = .ok (.ireturn, 1) := by decide +kernel
theorem dX4_bringsTitle_19 : decode cX4_bringsTitle 19 = .ok (.aload_n 1, 1) := by decide +kernel
theorem dX4_bringsTitle_20 : decode cX4_bringsTitle 20 = .ok (.getfield 210, 3) := by decide +kernel
theorem dX4_bringsTitle_23 : decode cX4_bringsTitle 23 = .ok (.ifnull 18, 3) := by decide +kernel
theorem dX4_bringsTitle_26 : decode cX4_bringsTitle 26 = .ok (.aload_n 1, 1) := by decide +kernel
theorem dX4_bringsTitle_27 : decode cX4_bringsTitle 27 = .ok (.getfield 210, 3) := by decide +kernel
theorem dX4_bringsTitle_30 : decode cX4_bringsTitle 30 = .ok (.getfield 213, 3) := by decide +kernel
theorem dX4_bringsTitle_33 : decode cX4_bringsTitle 33 = .ok (.aload_n 2, 1) := by decide +kernel
theorem dX4_bringsTitle_34 : decode cX4_bringsTitle 34 = .ok (.if_acmp .ne 7, 3) := by decide +kernel
theorem dX4_bringsTitle_37 : decode cX4_bringsTitle 37 = .ok (.iconst 1, 1) := by decide +kernel
theorem dX4_bringsTitle_38 : decode cX4_bringsTitle 38 = .ok (.goto 4, 3) := by decide +kernel
theorem dX4_bringsTitle_41 : decode cX4_bringsTitle 41 = .ok (.iconst 0, 1) := by decide +kernel
theorem dX4_bringsTitle_42 : decode cX4_bringsTitle 42 = .ok (.istore_n 3, 1) := by decide +kernel
theorem dX4_bringsTitle_43 : decode cX4_bringsTitle 43 = .ok (.iload_n 3, 1) := by decide +kernel
theorem dX4_bringsTitle_44 : decode cX4_bringsTitle 44 = .ok (.ifCond .ne 11, 3) := by decide +kernel
theorem dX4_bringsTitle_47 : decode cX4_bringsTitle 47 = .ok (.aload_n 0, 1) := by decide +kernel
theorem dX4_bringsTitle_48 : decode cX4_bringsTitle 48 = .ok (.aload_n 1, 1) := by decide +kernel
theorem dX4_bringsTitle_49 : decode cX4_bringsTitle 49 = .ok (.invokevirtual 227, 3) := by decide +kernel
theorem dX4_bringsTitle_52 : decode cX4_bringsTitle 52 = .ok (.ifCond .eq 7, 3) := by decide +kernel
theorem dX4_bringsTitle_55 : decode cX4_bringsTitle 55 = .ok (.iconst 1, 1) := by decide +kernel
theorem dX4_bringsTitle_56 : decode cX4_bringsTitle 56 = .ok (.goto 4, 3) := by decide +kernel
theorem dX4_bringsTitle_59 : decode cX4_bringsTitle 59 = .ok (.iconst 0, 1) := by decide +kernel
theorem dX4_bringsTitle_60 : decode cX4_bringsTitle 60 = .ok (.ireturn, 1) := by decide +kernel
set_option maxRecDepth 20000 in
theorem ggX4_titleFromLast_X4_takesAway : GoodIn wsX4_titleFromLast wsX4_takesAway := goodIn_r _ [10, 4, 11, 12, 2, 13, 14, 15, 16, 17, 9, 18, 19, 20, 21, 22, 23, 24, 25, 26, 27, 28, 29, 43, 44, 45, 46, 47, 48, 49, 50, 51, 58, 59, 60, 61, 62, 63, 64, 65, 52, 53, 54, 55, 56, 57, 66, 67, 68, 69] (by decide +kernel) (by decide +kernel)
set_option maxRecDepth 20000 in
theorem gX4_titleFromLast_X4_takesAway : GoodIn wsX4_titleFromLast (wsV RX4 172 RX4 yX4_takesAway wsX4_takesAway) := goodIn_app (goodIn_of _ (by decide +kernel)) ggX4_titleFromLast_X4_takesAway
set_option maxRecDepth 20000 in
theorem ggX4_titleFromLast_X4_isKeptInGoodFaith : GoodIn wsX4_titleFromLast wsX4_isKeptInGoodFaith := goodIn_r _ [33, 34, 13, 35, 36, 14, 11, 58, 59, 60, 61, 62, 63, 64, 65, 43, 44, 45, 46, 47, 48, 49, 50, 51] (by decide +kernel) (by decide +kernel)
set_option maxRecDepth 20000 in
theorem gX4_titleFromLast_X4_isKeptInGoodFaith : GoodIn wsX4_titleFromLast (wsV RX4 227 RX4 yX4_isKeptInGoodFaith wsX4_isKeptInGoodFaith) := goodIn_app (goodIn_of _ (by decide +kernel)) ggX4_titleFromLast_X4_isKeptInGoodFaith
theorem dX4_titleFromLast_0 : decode cX4_titleFromLast 0 = .ok (.aload_n 1, 1) := by decide +kernel
theorem dX4_titleFromLast_1 : decode cX4_titleFromLast 1 = .ok (.getfield 230, 3) := by decide +kernel
theorem dX4_titleFromLast_4 : decode cX4_titleFromLast 4 = .ok (.astore_n 2, 1) := by decide +kernel
theorem dX4_titleFromLast_5 : decode cX4_titleFromLast 5 = .ok (.aload_n 2, 1) := by decide +kernel
theorem dX4_titleFromLast_6 : decode cX4_titleFromLast 6 = .ok (.ifnull 22, 3) := by decide +kernel
theorem dX4_titleFromLast_9 : decode cX4_titleFromLast 9 = .ok (.aload_n 2, 1) := by decide +kernel
theorem dX4_titleFromLast_10 : decode cX4_titleFromLast 10 = .ok (.getfield 213, 3) := by decide +kernel
theorem dX4_titleFromLast_13 : decode cX4_titleFromLast 13 = .ok (.aload_n 2, 1) := by decide +kernel
theorem dX4_titleFromLast_14 : decode cX4_titleFromLast 14 = .ok (.getfield 213, 3) := by decide +kernel
theorem dX4_titleFromLast_17 : decode cX4_titleFromLast 17 = .ok (.putfield 233, 3) := by decide +kernel
theorem dX4_titleFromLast_20 : decode cX4_titleFromLast 20 = .ok (.aload_n 2, 1) := by decide +kernel
theorem dX4_titleFromLast_21 : decode cX4_titleFromLast 21 = .ok (.getfield 210, 3) := by decide +kernel
theorem dX4_titleFromLast_24 : decode cX4_titleFromLast 24 = .ok (.astore_n 2, 1) := by decide +kernel
theorem dX4_titleFromLast_25 : decode cX4_titleFromLast 25 = .ok (.goto (-20), 3) := by decide +kernel
theorem dX4_titleFromLast_28 : decode cX4_titleFromLast 28 = .ok (.aload_n 1, 1) := by decide +kernel
theorem dX4_titleFromLast_29 : decode cX4_titleFromLast 29 = .ok (.getfield 230, 3) := by decide +kernel
theorem dX4_titleFromLast_32 : decode cX4_titleFromLast 32 = .ok (.astore_n 2, 1) := by decide +kernel
theorem dX4_titleFromLast_33 : decode cX4_titleFromLast 33 = .ok (.aload_n 2, 1) := by decide +kernel
theorem dX4_titleFromLast_34 : decode cX4_titleFromLast 34 = .ok (.ifnull 76, 3) := by decide +kernel
theorem dX4_titleFromLast_37 : decode cX4_titleFromLast 37 = .ok (.aload_n 2, 1) := by decide +kernel
theorem dX4_titleFromLast_38 : decode cX4_titleFromLast 38 = .ok (.getfield 210, 3) := by decide +kernel
theorem dX4_titleFromLast_41 : decode cX4_titleFromLast 41 = .ok (.astore_n 3, 1) := by decide +kernel
theorem dX4_titleFromLast_42 : decode cX4_titleFromLast 42 = .ok (.aload_n 3, 1) := by decide +kernel
theorem dX4_titleFromLast_43 : decode cX4_titleFromLast 43 = .ok (.ifnull 10, 3) := by decide +kernel
theorem dX4_titleFromLast_46 : decode cX4_titleFromLast 46 = .ok (.aload_n 2, 1) := by decide +kernel
theorem dX4_titleFromLast_47 : decode cX4_titleFromLast 47 = .ok (.getfield 138, 3) := by decide +kernel
theorem dX4_titleFromLast_50 : decode cX4_titleFromLast 50 = .ok (.ifCond .eq 11, 3) := by decide +kernel
theorem dX4_titleFromLast_53 : decode cX4_titleFromLast 53 = .ok (.aload_n 2, 1) := by decide +kernel
theorem dX4_titleFromLast_54 : decode cX4_titleFromLast 54 = .ok (.getfield 213, 3) := by decide +kernel
theorem dX4_titleFromLast_57 : decode cX4_titleFromLast 57 = .ok (.getfield 233, 3) := by decide +kernel
theorem dX4_titleFromLast_60 : decode cX4_titleFromLast 60 = .ok (.areturn, 1) := by decide +kernel
theorem dX4_titleFromLast_61 : decode cX4_titleFromLast 61 = .ok (.aload_n 0, 1) := by decide +kernel
theorem dX4_titleFromLast_62 : decode cX4_titleFromLast 62 = .ok (.aload_n 2, 1) := by decide +kernel
theorem dX4_titleFromLast_63 : decode cX4_titleFromLast 63 = .ok (.invokevirtual 172, 3) := by decide +kernel
theorem dX4_titleFromLast_66 : decode cX4_titleFromLast 66 = .ok (.ifCond .eq 6, 3) := by decide +kernel
theorem dX4_titleFromLast_69 : decode cX4_titleFromLast 69 = .ok (.goto 33, 3) := by decide +kernel
theorem dX4_titleFromLast_72 : decode cX4_titleFromLast 72 = .ok (.aload_n 0, 1) := by decide +kernel
theorem dX4_titleFromLast_73 : decode cX4_titleFromLast 73 = .ok (.aload_n 2, 1) := by decide +kernel
theorem dX4_titleFromLast_74 : decode cX4_titleFromLast 74 = .ok (.invokevirtual 227, 3) := by decide +kernel
theorem dX4_titleFromLast_77 : decode cX4_titleFromLast 77 = .ok (.ifCond .eq 11, 3) := by decide +kernel
theorem dX4_titleFromLast_80 : decode cX4_titleFromLast 80 = .ok (.aload_n 2, 1) := by decide +kernel
theorem dX4_titleFromLast_81 : decode cX4_titleFromLast 81 = .ok (.getfield 213, 3) := by decide +kernel
theorem dX4_titleFromLast_84 : decode cX4_titleFromLast 84 = .ok (.getfield 233, 3) := by decide +kernel
theorem dX4_titleFromLast_87 : decode cX4_titleFromLast 87 = .ok (.areturn, 1) := by decide +kernel
theorem dX4_titleFromLast_88 : decode cX4_titleFromLast 88 = .ok (.aload_n 3, 1) := by decide +kernel
theorem dX4_titleFromLast_89 : decode cX4_titleFromLast 89 = .ok (.getfield 213, 3) := by decide +kernel
theorem dX4_titleFromLast_92 : decode cX4_titleFromLast 92 = .ok (.aload_n 2, 1) := by decide +kernel
theorem dX4_titleFromLast_93 : decode cX4_titleFromLast 93 = .ok (.getfield 213, 3) := by decide +kernel
theorem dX4_titleFromLast_96 : decode cX4_titleFromLast 96 = .ok (.getfield 233, 3) := by decide +kernel
theorem dX4_titleFromLast_99 : decode cX4_titleFromLast 99 = .ok (.putfield 233, 3) := by decide +kernel
theorem dX4_titleFromLast_102 : decode cX4_titleFromLast 102 = .ok (.aload_n 2, 1) := by decide +kernel
theorem dX4_titleFromLast_103 : decode cX4_titleFromLast 103 = .ok (.getfield 210, 3) := by decide +kernel
theorem dX4_titleFromLast_106 : decode cX4_titleFromLast 106 = .ok (.astore_n 2, 1) := by decide +kernel
theorem dX4_titleFromLast_107 : decode cX4_titleFromLast 107 = .ok (.goto (-74), 3) := by decide +kernel
theorem dX4_titleFromLast_110 : decode cX4_titleFromLast 110 = .ok (.aconst_null, 1) := by decide +kernel
theorem dX4_titleFromLast_111 : decode cX4_titleFromLast 111 = .ok (.areturn, 1) := by decide +kernel
theorem dJ6_bitCount_0f7a4_0 : decode cJ6_bitCount_0f7a4 0 = .ok (.iload_n 0, 1) := by decide +kernel
theorem dJ6_bitCount_0f7a4_1 : decode cJ6_bitCount_0f7a4 1 = .ok (.iload_n 0, 1) := by decide +kernel
theorem dJ6_bitCount_0f7a4_2 : decode cJ6_bitCount_0f7a4 2 = .ok (.iconst 1, 1) := by decide +kernel
theorem dJ6_bitCount_0f7a4_3 : decode cJ6_bitCount_0f7a4 3 = .ok (.iushr, 1) := by decide +kernel
theorem dJ6_bitCount_0f7a4_4 : decode cJ6_bitCount_0f7a4 4 = .ok (.ldc_w 265, 3) := by decide +kernel
theorem dJ6_bitCount_0f7a4_7 : decode cJ6_bitCount_0f7a4 7 = .ok (.iand, 1) := by decide +kernel
theorem dJ6_bitCount_0f7a4_8 : decode cJ6_bitCount_0f7a4 8 = .ok (.isub, 1) := by decide +kernel
theorem dJ6_bitCount_0f7a4_9 : decode cJ6_bitCount_0f7a4 9 = .ok (.istore_n 0, 1) := by decide +kernel
theorem dJ6_bitCount_0f7a4_10 : decode cJ6_bitCount_0f7a4 10 = .ok (.iload_n 0, 1) := by decide +kernel
theorem dJ6_bitCount_0f7a4_11 : decode cJ6_bitCount_0f7a4 11 = .ok (.ldc_w 266, 3) := by decide +kernel
theorem dJ6_bitCount_0f7a4_14 : decode cJ6_bitCount_0f7a4 14 = .ok (.iand, 1) := by decide +kernel
theorem dJ6_bitCount_0f7a4_15 : decode cJ6_bitCount_0f7a4 15 = .ok (.iload_n 0, 1) := by decide +kernel
theorem dJ6_bitCount_0f7a4_16 : decode cJ6_bitCount_0f7a4 16 = .ok (.iconst 2, 1) := by decide +kernel
theorem dJ6_bitCount_0f7a4_17 : decode cJ6_bitCount_0f7a4 17 = .ok (.iushr, 1) := by decide +kernel
theorem dJ6_bitCount_0f7a4_18 : decode cJ6_bitCount_0f7a4 18 = .ok (.ldc_w 266, 3) := by decide +kernel
theorem dJ6_bitCount_0f7a4_21 : decode cJ6_bitCount_0f7a4 21 = .ok (.iand, 1) := by decide +kernel
theorem dJ6_bitCount_0f7a4_22 : decode cJ6_bitCount_0f7a4 22 = .ok (.iadd, 1) := by decide +kernel
theorem dJ6_bitCount_0f7a4_23 : decode cJ6_bitCount_0f7a4 23 = .ok (.istore_n 0, 1) := by decide +kernel
theorem dJ6_bitCount_0f7a4_24 : decode cJ6_bitCount_0f7a4 24 = .ok (.iload_n 0, 1) := by decide +kernel
theorem dJ6_bitCount_0f7a4_25 : decode cJ6_bitCount_0f7a4 25 = .ok (.iload_n 0, 1) := by decide +kernel
theorem dJ6_bitCount_0f7a4_26 : decode cJ6_bitCount_0f7a4 26 = .ok (.iconst 4, 1) := by decide +kernel
theorem dJ6_bitCount_0f7a4_27 : decode cJ6_bitCount_0f7a4 27 = .ok (.iushr, 1) := by decide +kernel
theorem dJ6_bitCount_0f7a4_28 : decode cJ6_bitCount_0f7a4 28 = .ok (.iadd, 1) := by decide +kernel
theorem dJ6_bitCount_0f7a4_29 : decode cJ6_bitCount_0f7a4 29 = .ok (.ldc_w 267, 3) := by decide +kernel
theorem dJ6_bitCount_0f7a4_32 : decode cJ6_bitCount_0f7a4 32 = .ok (.iand, 1) := by decide +kernel
theorem dJ6_bitCount_0f7a4_33 : decode cJ6_bitCount_0f7a4 33 = .ok (.istore_n 0, 1) := by decide +kernel
theorem dJ6_bitCount_0f7a4_34 : decode cJ6_bitCount_0f7a4 34 = .ok (.iload_n 0, 1) := by decide +kernel
theorem dJ6_bitCount_0f7a4_35 : decode cJ6_bitCount_0f7a4 35 = .ok (.iload_n 0, 1) := by decide +kernel
theorem dJ6_bitCount_0f7a4_36 : decode cJ6_bitCount_0f7a4 36 = .ok (.bipush 8, 2) := by decide +kernel
theorem dJ6_bitCount_0f7a4_38 : decode cJ6_bitCount_0f7a4 38 = .ok (.iushr, 1) := by decide +kernel
theorem dJ6_bitCount_0f7a4_39 : decode cJ6_bitCount_0f7a4 39 = .ok (.iadd, 1) := by decide +kernel
theorem dJ6_bitCount_0f7a4_40 : decode cJ6_bitCount_0f7a4 40 = .ok (.istore_n 0, 1) := by decide +kernel
theorem dJ6_bitCount_0f7a4_41 : decode cJ6_bitCount_0f7a4 41 = .ok (.iload_n 0, 1) := by decide +kernel
theorem dJ6_bitCount_0f7a4_42 : decode cJ6_bitCount_0f7a4 42 = .ok (.iload_n 0, 1) := by decide +kernel
theorem dJ6_bitCount_0f7a4_43 : decode cJ6_bitCount_0f7a4 43 = .ok (.bipush 16, 2) := by decide +kernel
theorem dJ6_bitCount_0f7a4_45 : decode cJ6_bitCount_0f7a4 45 = .ok (.iushr, 1) := by decide +kernel
theorem dJ6_bitCount_0f7a4_46 : decode cJ6_bitCount_0f7a4 46 = .ok (.iadd, 1) := by decide +kernel
theorem dJ6_bitCount_0f7a4_47 : decode cJ6_bitCount_0f7a4 47 = .ok (.istore_n 0, 1) := by decide +kernel
theorem dJ6_bitCount_0f7a4_48 : decode cJ6_bitCount_0f7a4 48 = .ok (.iload_n 0, 1) := by decide +kernel
theorem dJ6_bitCount_0f7a4_49 : decode cJ6_bitCount_0f7a4 49 = .ok (.bipush 63, 2) := by decide +kernel
theorem dJ6_bitCount_0f7a4_51 : decode cJ6_bitCount_0f7a4 51 = .ok (.iand, 1) := by decide +kernel
theorem dJ6_bitCount_0f7a4_52 : decode cJ6_bitCount_0f7a4 52 = .ok (.ireturn, 1) := by decide +kernel
theorem dJ9_abs_0f7a4_0 : decode cJ9_abs_0f7a4 0 = .ok (.iload_n 0, 1) := by decide +kernel
theorem dJ9_abs_0f7a4_1 : decode cJ9_abs_0f7a4 1 = .ok (.ifCond .ge 8, 3) := by decide +kernel
theorem dJ9_abs_0f7a4_4 : decode cJ9_abs_0f7a4 4 = .ok (.iload_n 0, 1) := by decide +kernel
theorem dJ9_abs_0f7a4_5 : decode cJ9_abs_0f7a4 5 = .ok (.ineg, 1) := by decide +kernel
theorem dJ9_abs_0f7a4_6 : decode cJ9_abs_0f7a4 6 = .ok (.goto 4, 3) := by decide +kernel
theorem dJ9_abs_0f7a4_9 : decode cJ9_abs_0f7a4 9 = .ok (.iload_n 0, 1) := by decide +kernel
theorem dJ9_abs_0f7a4_10 : decode cJ9_abs_0f7a4 10 = .ok (.ireturn, 1) := by decide +kernel
