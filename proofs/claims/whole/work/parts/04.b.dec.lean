theorem dX4_requireGroup_0 : decode cX4_requireGroup 0 = .ok (.iload_n 0, 1) := by decide +kernel
theorem dX4_requireGroup_1 : decode cX4_requireGroup 1 = .ok (.ifCond .lt 8, 3) := by decide +kernel
theorem dX4_requireGroup_4 : decode cX4_requireGroup 4 = .ok (.iload_n 0, 1) := by decide +kernel
theorem dX4_requireGroup_5 : decode cX4_requireGroup 5 = .ok (.iconst 4, 1) := by decide +kernel
theorem dX4_requireGroup_6 : decode cX4_requireGroup 6 = .ok (.if_icmp .lt 13, 3) := by decide +kernel
theorem dX4_requireGroup_9 : decode cX4_requireGroup 9 = .ok (.new 157, 3) := by decide +kernel
theorem dX4_requireGroup_12 : decode cX4_requireGroup 12 = .ok (.dup, 1) := by decide +kernel
theorem dX4_requireGroup_13 : decode cX4_requireGroup 13 = .ok (.ldc 190, 2) := by decide +kernel
theorem dX4_requireGroup_15 : decode cX4_requireGroup 15 = .ok (.invokespecial 161, 3) := by decide +kernel
theorem dX4_requireGroup_18 : decode cX4_requireGroup 18 = .ok (.athrow, 1) := by decide +kernel
theorem dX4_requireGroup_19 : decode cX4_requireGroup 19 = .ok (.return_, 1) := by decide +kernel
theorem dX4_requireLand_0 : decode cX4_requireLand 0 = .ok (.iload_n 0, 1) := by decide +kernel
theorem dX4_requireLand_1 : decode cX4_requireLand 1 = .ok (.ifCond .lt 8, 3) := by decide +kernel
theorem dX4_requireLand_4 : decode cX4_requireLand 4 = .ok (.iload_n 0, 1) := by decide +kernel
theorem dX4_requireLand_5 : decode cX4_requireLand 5 = .ok (.iconst 5, 1) := by decide +kernel
theorem dX4_requireLand_6 : decode cX4_requireLand 6 = .ok (.if_icmp .lt 13, 3) := by decide +kernel
theorem dX4_requireLand_9 : decode cX4_requireLand 9 = .ok (.new 157, 3) := by decide +kernel
theorem dX4_requireLand_12 : decode cX4_requireLand 12 = .ok (.dup, 1) := by decide +kernel
theorem dX4_requireLand_13 : decode cX4_requireLand 13 = .ok (.ldc 192, 2) := by decide +kernel
theorem dX4_requireLand_15 : decode cX4_requireLand 15 = .ok (.invokespecial 161, 3) := by decide +kernel
theorem dX4_requireLand_18 : decode cX4_requireLand 18 = .ok (.athrow, 1) := by decide +kernel
theorem dX4_requireLand_19 : decode cX4_requireLand 19 = .ok (.return_, 1) := by decide +kernel
theorem dX4_requireRange_0 : decode cX4_requireRange 0 = .ok (.iload_n 0, 1) := by decide +kernel
theorem dX4_requireRange_1 : decode cX4_requireRange 1 = .ok (.iload_n 1, 1) := by decide +kernel
theorem dX4_requireRange_2 : decode cX4_requireRange 2 = .ok (.if_icmp .lt 8, 3) := by decide +kernel
theorem dX4_requireRange_5 : decode cX4_requireRange 5 = .ok (.iload_n 0, 1) := by decide +kernel
theorem dX4_requireRange_6 : decode cX4_requireRange 6 = .ok (.iload_n 2, 1) := by decide +kernel
theorem dX4_requireRange_7 : decode cX4_requireRange 7 = .ok (.if_icmp .le 13, 3) := by decide +kernel
theorem dX4_requireRange_10 : decode cX4_requireRange 10 = .ok (.new 62, 3) := by decide +kernel
theorem dX4_requireRange_13 : decode cX4_requireRange 13 = .ok (.dup, 1) := by decide +kernel
theorem dX4_requireRange_14 : decode cX4_requireRange 14 = .ok (.ldc 194, 2) := by decide +kernel
theorem dX4_requireRange_16 : decode cX4_requireRange 16 = .ok (.invokespecial 66, 3) := by decide +kernel
theorem dX4_requireRange_19 : decode cX4_requireRange 19 = .ok (.athrow, 1) := by decide +kernel
theorem dX4_requireRange_20 : decode cX4_requireRange 20 = .ok (.return_, 1) := by decide +kernel
theorem dX4_personNumbered_0 : decode cX4_personNumbered 0 = .ok (.iload_n 1, 1) := by decide +kernel
theorem dX4_personNumbered_1 : decode cX4_personNumbered 1 = .ok (.ifCond .lt 18, 3) := by decide +kernel
theorem dX4_personNumbered_4 : decode cX4_personNumbered 4 = .ok (.iload_n 1, 1) := by decide +kernel
theorem dX4_personNumbered_5 : decode cX4_personNumbered 5 = .ok (.bipush 12, 2) := by decide +kernel
theorem dX4_personNumbered_7 : decode cX4_personNumbered 7 = .ok (.if_icmp .ge 12, 3) := by decide +kernel
theorem dX4_personNumbered_10 : decode cX4_personNumbered 10 = .ok (.aload_n 0, 1) := by decide +kernel
theorem dX4_personNumbered_11 : decode cX4_personNumbered 11 = .ok (.getfield 11, 3) := by decide +kernel
theorem dX4_personNumbered_14 : decode cX4_personNumbered 14 = .ok (.iload_n 1, 1) := by decide +kernel
theorem dX4_personNumbered_15 : decode cX4_personNumbered 15 = .ok (.aaload, 1) := by decide +kernel
theorem dX4_personNumbered_16 : decode cX4_personNumbered 16 = .ok (.goto 4, 3) := by decide +kernel
theorem dX4_personNumbered_19 : decode cX4_personNumbered 19 = .ok (.aconst_null, 1) := by decide +kernel
theorem dX4_personNumbered_20 : decode cX4_personNumbered 20 = .ok (.astore_n 2, 1) := by decide +kernel
theorem dX4_personNumbered_21 : decode cX4_personNumbered 21 = .ok (.aload_n 2, 1) := by decide +kernel
theorem dX4_personNumbered_22 : decode cX4_personNumbered 22 = .ok (.ifnonnull 13, 3) := by decide +kernel
theorem dX4_personNumbered_25 : decode cX4_personNumbered 25 = .ok (.new 157, 3) := by decide +kernel
theorem dX4_personNumbered_28 : decode cX4_personNumbered 28 = .ok (.dup, 1) := by decide +kernel
theorem dX4_personNumbered_29 : decode cX4_personNumbered 29 = .ok (.ldc 196, 2) := by decide +kernel
theorem dX4_personNumbered_31 : decode cX4_personNumbered 31 = .ok (.invokespecial 161, 3) := by decide +kernel
theorem dX4_personNumbered_34 : decode cX4_personNumbered 34 = .ok (.athrow, 1) := by decide +kernel
theorem dX4_personNumbered_35 : decode cX4_personNumbered 35 = .ok (.aload_n 2, 1) := by decide +kernel
theorem dX4_personNumbered_36 : decode cX4_personNumbered 36 = .ok (.areturn, 1) := by decide +kernel
theorem dX4_thingNumbered_0 : decode cX4_thingNumbered 0 = .ok (.iload_n 1, 1) := by decide +kernel
theorem dX4_thingNumbered_1 : decode cX4_thingNumbered 1 = .ok (.ifCond .lt 18, 3) := by decide +kernel
theorem dX4_thingNumbered_4 : decode cX4_thingNumbered 4 = .ok (.iload_n 1, 1) := by decide +kernel
theorem dX4_thingNumbered_5 : decode cX4_thingNumbered 5 = .ok (.bipush 10, 2) := by decide +kernel
theorem dX4_thingNumbered_7 : decode cX4_thingNumbered 7 = .ok (.if_icmp .ge 12, 3) := by decide +kernel
theorem dX4_thingNumbered_10 : decode cX4_thingNumbered 10 = .ok (.aload_n 0, 1) := by decide +kernel
theorem dX4_thingNumbered_11 : decode cX4_thingNumbered 11 = .ok (.getfield 31, 3) := by decide +kernel
theorem dX4_thingNumbered_14 : decode cX4_thingNumbered 14 = .ok (.iload_n 1, 1) := by decide +kernel
theorem dX4_thingNumbered_15 : decode cX4_thingNumbered 15 = .ok (.aaload, 1) := by decide +kernel
theorem dX4_thingNumbered_16 : decode cX4_thingNumbered 16 = .ok (.goto 4, 3) := by decide +kernel
theorem dX4_thingNumbered_19 : decode cX4_thingNumbered 19 = .ok (.aconst_null, 1) := by decide +kernel
theorem dX4_thingNumbered_20 : decode cX4_thingNumbered 20 = .ok (.astore_n 2, 1) := by decide +kernel
theorem dX4_thingNumbered_21 : decode cX4_thingNumbered 21 = .ok (.aload_n 2, 1) := by decide +kernel
theorem dX4_thingNumbered_22 : decode cX4_thingNumbered 22 = .ok (.ifnonnull 13, 3) := by decide +kernel
theorem dX4_thingNumbered_25 : decode cX4_thingNumbered 25 = .ok (.new 157, 3) := by decide +kernel
theorem dX4_thingNumbered_28 : decode cX4_thingNumbered 28 = .ok (.dup, 1) := by decide +kernel
theorem dX4_thingNumbered_29 : decode cX4_thingNumbered 29 = .ok (.ldc 198, 2) := by decide +kernel
theorem dX4_thingNumbered_31 : decode cX4_thingNumbered 31 = .ok (.invokespecial 161, 3) := by decide +kernel
theorem dX4_thingNumbered_34 : decode cX4_thingNumbered 34 = .ok (.athrow, 1) := by decide +kernel
theorem dX4_thingNumbered_35 : decode cX4_thingNumbered 35 = .ok (.aload_n 2, 1) := by decide +kernel
theorem dX4_thingNumbered_36 : decode cX4_thingNumbered 36 = .ok (.areturn, 1) := by decide +kernel
set_option maxRecDepth 20000 in
theorem ggX4_stationNumbered_X4_thingNumbered : GoodIn wsX4_stationNumbered wsX4_thingNumbered := goodIn_ca (goodIn_r _ [8, 1, 2, 9, 16, 17, 18, 19, 20, 21, 22, 23] (by decide +kernel) (by decide +kernel)) (goodIn_sub (fun _ h => List.mem_cons_of_mem _ (List.mem_append_right _ h)) (by decide +kernel))
set_option maxRecDepth 20000 in
theorem gX4_stationNumbered_X4_thingNumbered : GoodIn wsX4_stationNumbered (wsV RX4 101 RX4 yX4_thingNumbered wsX4_thingNumbered) := goodIn_app (goodIn_of _ (by decide +kernel)) ggX4_stationNumbered_X4_thingNumbered
theorem dX4_stationNumbered_0 : decode cX4_stationNumbered 0 = .ok (.aload_n 0, 1) := by decide +kernel
theorem dX4_stationNumbered_1 : decode cX4_stationNumbered 1 = .ok (.iload_n 1, 1) := by decide +kernel
theorem dX4_stationNumbered_2 : decode cX4_stationNumbered 2 = .ok (.invokevirtual 101, 3) := by decide +kernel
theorem dX4_stationNumbered_5 : decode cX4_stationNumbered 5 = .ok (.astore_n 3, 1) := by decide +kernel
theorem dX4_stationNumbered_6 : decode cX4_stationNumbered 6 = .ok (.iload_n 2, 1) := by decide +kernel
theorem dX4_stationNumbered_7 : decode cX4_stationNumbered 7 = .ok (.ifCond .lt 18, 3) := by decide +kernel
theorem dX4_stationNumbered_10 : decode cX4_stationNumbered 10 = .ok (.iload_n 2, 1) := by decide +kernel
theorem dX4_stationNumbered_11 : decode cX4_stationNumbered 11 = .ok (.bipush 8, 2) := by decide +kernel
theorem dX4_stationNumbered_13 : decode cX4_stationNumbered 13 = .ok (.if_icmp .ge 12, 3) := by decide +kernel
theorem dX4_stationNumbered_16 : decode cX4_stationNumbered 16 = .ok (.aload_n 3, 1) := by decide +kernel
theorem dX4_stationNumbered_17 : decode cX4_stationNumbered 17 = .ok (.getfield 118, 3) := by decide +kernel
theorem dX4_stationNumbered_20 : decode cX4_stationNumbered 20 = .ok (.iload_n 2, 1) := by decide +kernel
theorem dX4_stationNumbered_21 : decode cX4_stationNumbered 21 = .ok (.aaload, 1) := by decide +kernel
theorem dX4_stationNumbered_22 : decode cX4_stationNumbered 22 = .ok (.goto 4, 3) := by decide +kernel
theorem dX4_stationNumbered_25 : decode cX4_stationNumbered 25 = .ok (.aconst_null, 1) := by decide +kernel
theorem dX4_stationNumbered_26 : decode cX4_stationNumbered 26 = .ok (.astore 4, 2) := by decide +kernel
theorem dX4_stationNumbered_28 : decode cX4_stationNumbered 28 = .ok (.aload 4, 2) := by decide +kernel
theorem dX4_stationNumbered_30 : decode cX4_stationNumbered 30 = .ok (.ifnonnull 13, 3) := by decide +kernel
theorem dX4_stationNumbered_33 : decode cX4_stationNumbered 33 = .ok (.new 157, 3) := by decide +kernel
theorem dX4_stationNumbered_36 : decode cX4_stationNumbered 36 = .ok (.dup, 1) := by decide +kernel
theorem dX4_stationNumbered_37 : decode cX4_stationNumbered 37 = .ok (.ldc 200, 2) := by decide +kernel
theorem dX4_stationNumbered_39 : decode cX4_stationNumbered 39 = .ok (.invokespecial 161, 3) := by decide +kernel
theorem dX4_stationNumbered_42 : decode cX4_stationNumbered 42 = .ok (.athrow, 1) := by decide +kernel
theorem dX4_stationNumbered_43 : decode cX4_stationNumbered 43 = .ok (.aload 4, 2) := by decide +kernel
theorem dX4_stationNumbered_45 : decode cX4_stationNumbered 45 = .ok (.areturn, 1) := by decide +kernel
theorem dX4_numberOf_0 : decode cX4_numberOf 0 = .ok (.aload_n 0, 1) := by decide +kernel
theorem dX4_numberOf_1 : decode cX4_numberOf 1 = .ok (.ifnonnull 7, 3) := by decide +kernel
theorem dX4_numberOf_4 : decode cX4_numberOf 4 = .ok (.iconst (-1), 1) := by decide +kernel
theorem dX4_numberOf_5 : decode cX4_numberOf 5 = .ok (.goto 7, 3) := by decide +kernel
theorem dX4_numberOf_8 : decode cX4_numberOf 8 = .ok (.aload_n 0, 1) := by decide +kernel
theorem dX4_numberOf_9 : decode cX4_numberOf 9 = .ok (.getfield 202, 3) := by decide +kernel
theorem dX4_numberOf_12 : decode cX4_numberOf 12 = .ok (.ireturn, 1) := by decide +kernel
set_option maxRecDepth 20000 in
theorem ggX4_isDarkFor_X0_strikes : GoodIn wsX4_isDarkFor wsX0_strikes := goodIn_r _ [7, 8, 9, 10, 11, 26, 27, 28, 29] (by decide +kernel) (by decide +kernel)
set_option maxRecDepth 20000 in
theorem gX4_isDarkFor_X0_strikes : GoodIn wsX4_isDarkFor (wsV RX4 206 RX0 yX0_strikes wsX0_strikes) := goodIn_app (goodIn_of _ (by decide +kernel)) ggX4_isDarkFor_X0_strikes
theorem dX4_isDarkFor_0 : decode cX4_isDarkFor 0 = .ok (.aload_n 0, 1) := by decide +kernel
theorem dX4_isDarkFor_1 : decode cX4_isDarkFor 1 = .ok (.getfield 17, 3) := by decide +kernel
theorem dX4_isDarkFor_4 : decode cX4_isDarkFor 4 = .ok (.astore 4, 2) := by decide +kernel
theorem dX4_isDarkFor_6 : decode cX4_isDarkFor 6 = .ok (.aload 4, 2) := by decide +kernel
theorem dX4_isDarkFor_8 : decode cX4_isDarkFor 8 = .ok (.arraylength, 1) := by decide +kernel
theorem dX4_isDarkFor_9 : decode cX4_isDarkFor 9 = .ok (.istore 5, 2) := by decide +kernel
theorem dX4_isDarkFor_11 : decode cX4_isDarkFor 11 = .ok (.iconst 0, 1) := by decide +kernel
theorem dX4_isDarkFor_12 : decode cX4_isDarkFor 12 = .ok (.istore 6, 2) := by decide +kernel
theorem dX4_isDarkFor_14 : decode cX4_isDarkFor 14 = .ok (.iload 6, 2) := by decide +kernel
theorem dX4_isDarkFor_16 : decode cX4_isDarkFor 16 = .ok (.iload 5, 2) := by decide +kernel
theorem dX4_isDarkFor_18 : decode cX4_isDarkFor 18 = .ok (.if_icmp .ge 37, 3) := by decide +kernel
theorem dX4_isDarkFor_21 : decode cX4_isDarkFor 21 = .ok (.aload 4, 2) := by decide +kernel
theorem dX4_isDarkFor_23 : decode cX4_isDarkFor 23 = .ok (.iload 6, 2) := by decide +kernel
theorem dX4_isDarkFor_25 : decode cX4_isDarkFor 25 = .ok (.aaload, 1) := by decide +kernel
theorem dX4_isDarkFor_26 : decode cX4_isDarkFor 26 = .ok (.astore 7, 2) := by decide +kernel
theorem dX4_isDarkFor_28 : decode cX4_isDarkFor 28 = .ok (.aload 7, 2) := by decide +kernel
theorem dX4_isDarkFor_30 : decode cX4_isDarkFor 30 = .ok (.ifnull 19, 3) := by decide +kernel
theorem dX4_isDarkFor_33 : decode cX4_isDarkFor 33 = .ok (.aload 7, 2) := by decide +kernel
theorem dX4_isDarkFor_35 : decode cX4_isDarkFor 35 = .ok (.aload_n 1, 1) := by decide +kernel
theorem dX4_isDarkFor_36 : decode cX4_isDarkFor 36 = .ok (.getfield 203, 3) := by decide +kernel
theorem dX4_isDarkFor_39 : decode cX4_isDarkFor 39 = .ok (.iload_n 2, 1) := by decide +kernel
theorem dX4_isDarkFor_40 : decode cX4_isDarkFor 40 = .ok (.iload_n 3, 1) := by decide +kernel
theorem dX4_isDarkFor_41 : decode cX4_isDarkFor 41 = .ok (.invokevirtual 206, 3) := by decide +kernel
theorem dX4_isDarkFor_44 : decode cX4_isDarkFor 44 = .ok (.ifCond .eq 5, 3) := by decide +kernel
theorem dX4_isDarkFor_47 : decode cX4_isDarkFor 47 = .ok (.iconst 1, 1) := by decide +kernel
theorem dX4_isDarkFor_48 : decode cX4_isDarkFor 48 = .ok (.ireturn, 1) := by decide +kernel
theorem dX4_isDarkFor_49 : decode cX4_isDarkFor 49 = .ok (.iinc 6 1, 3) := by decide +kernel
theorem dX4_isDarkFor_52 : decode cX4_isDarkFor 52 = .ok (.goto (-38), 3) := by decide +kernel
theorem dX4_isDarkFor_55 : decode cX4_isDarkFor 55 = .ok (.iconst 0, 1) := by decide +kernel
theorem dX4_isDarkFor_56 : decode cX4_isDarkFor 56 = .ok (.ireturn, 1) := by decide +kernel
set_option maxRecDepth 20000 in
theorem ggX4_livingHeir_X4_livingFor : GoodIn wsX4_livingHeir wsX4_livingFor := goodIn_r _ [5, 6, 7, 8, 4, 0, 1, 2, 3, 9, 10, 11, 12, 13, 14] (by decide +kernel) (by decide +kernel)
set_option maxRecDepth 20000 in
theorem gX4_livingHeir_X4_livingFor : GoodIn wsX4_livingHeir (va_wsS RX4 184 yX4_livingFor wsX4_livingFor) := goodIn_app (goodIn_of _ (by decide +kernel)) ggX4_livingHeir_X4_livingFor
theorem dX4_livingHeir_0 : decode cX4_livingHeir 0 = .ok (.iload_n 1, 1) := by decide +kernel
theorem dX4_livingHeir_1 : decode cX4_livingHeir 1 = .ok (.ifCond .gt 5, 3) := by decide +kernel
theorem dX4_livingHeir_4 : decode cX4_livingHeir 4 = .ok (.aconst_null, 1) := by decide +kernel
theorem dX4_livingHeir_5 : decode cX4_livingHeir 5 = .ok (.areturn, 1) := by decide +kernel
theorem dX4_livingHeir_6 : decode cX4_livingHeir 6 = .ok (.aload_n 0, 1) := by decide +kernel
theorem dX4_livingHeir_7 : decode cX4_livingHeir 7 = .ok (.getfield 74, 3) := by decide +kernel
theorem dX4_livingHeir_10 : decode cX4_livingHeir 10 = .ok (.astore_n 2, 1) := by decide +kernel
theorem dX4_livingHeir_11 : decode cX4_livingHeir 11 = .ok (.aload_n 2, 1) := by decide +kernel
theorem dX4_livingHeir_12 : decode cX4_livingHeir 12 = .ok (.arraylength, 1) := by decide +kernel
theorem dX4_livingHeir_13 : decode cX4_livingHeir 13 = .ok (.istore_n 3, 1) := by decide +kernel
theorem dX4_livingHeir_14 : decode cX4_livingHeir 14 = .ok (.iconst 0, 1) := by decide +kernel
theorem dX4_livingHeir_15 : decode cX4_livingHeir 15 = .ok (.istore 4, 2) := by decide +kernel
theorem dX4_livingHeir_17 : decode cX4_livingHeir 17 = .ok (.iload 4, 2) := by decide +kernel
theorem dX4_livingHeir_19 : decode cX4_livingHeir 19 = .ok (.iload_n 3, 1) := by decide +kernel
theorem dX4_livingHeir_20 : decode cX4_livingHeir 20 = .ok (.if_icmp .ge 33, 3) := by decide +kernel
theorem dX4_livingHeir_23 : decode cX4_livingHeir 23 = .ok (.aload_n 2, 1) := by decide +kernel
theorem dX4_livingHeir_24 : decode cX4_livingHeir 24 = .ok (.iload 4, 2) := by decide +kernel
theorem dX4_livingHeir_26 : decode cX4_livingHeir 26 = .ok (.aaload, 1) := by decide +kernel
theorem dX4_livingHeir_27 : decode cX4_livingHeir 27 = .ok (.astore 5, 2) := by decide +kernel
theorem dX4_livingHeir_29 : decode cX4_livingHeir 29 = .ok (.aload 5, 2) := by decide +kernel
theorem dX4_livingHeir_31 : decode cX4_livingHeir 31 = .ok (.iload_n 1, 1) := by decide +kernel
theorem dX4_livingHeir_32 : decode cX4_livingHeir 32 = .ok (.iconst 1, 1) := by decide +kernel
theorem dX4_livingHeir_33 : decode cX4_livingHeir 33 = .ok (.isub, 1) := by decide +kernel
theorem dX4_livingHeir_34 : decode cX4_livingHeir 34 = .ok (.invokestatic 184, 3) := by decide +kernel
theorem dX4_livingHeir_37 : decode cX4_livingHeir 37 = .ok (.astore 6, 2) := by decide +kernel
theorem dX4_livingHeir_39 : decode cX4_livingHeir 39 = .ok (.aload 6, 2) := by decide +kernel
theorem dX4_livingHeir_41 : decode cX4_livingHeir 41 = .ok (.ifnull 6, 3) := by decide +kernel
theorem dX4_livingHeir_44 : decode cX4_livingHeir 44 = .ok (.aload 6, 2) := by decide +kernel
theorem dX4_livingHeir_46 : decode cX4_livingHeir 46 = .ok (.areturn, 1) := by decide +kernel
theorem dX4_livingHeir_47 : decode cX4_livingHeir 47 = .ok (.iinc 4 1, 3) := by decide +kernel
theorem dX4_livingHeir_50 : decode cX4_livingHeir 50 = .ok (.goto (-33), 3) := by decide +kernel
theorem dX4_livingHeir_53 : decode cX4_livingHeir 53 = .ok (.aconst_null, 1) := by decide +kernel
theorem dX4_livingHeir_54 : decode cX4_livingHeir 54 = .ok (.areturn, 1) := by decide +kernel
set_option maxRecDepth 20000 in
theorem ggX4_livingFor_X4_livingHeir : GoodIn wsX4_livingFor wsX4_livingHeir := goodIn_r _ [5, 6, 7, 8, 4, 0, 1, 2, 3, 9, 10, 11, 12, 13, 14] (by decide +kernel) (by decide +kernel)
set_option maxRecDepth 20000 in
theorem gX4_livingFor_X4_livingHeir : GoodIn wsX4_livingFor (va_wsS RX4 145 yX4_livingHeir wsX4_livingHeir) := goodIn_app (goodIn_of _ (by decide +kernel)) ggX4_livingFor_X4_livingHeir
theorem dX4_livingFor_0 : decode cX4_livingFor 0 = .ok (.aload_n 0, 1) := by decide +kernel
theorem dX4_livingFor_1 : decode cX4_livingFor 1 = .ok (.ifnull 10, 3) := by decide +kernel
theorem dX4_livingFor_4 : decode cX4_livingFor 4 = .ok (.aload_n 0, 1) := by decide +kernel
theorem dX4_livingFor_5 : decode cX4_livingFor 5 = .ok (.getfield 56, 3) := by decide +kernel
theorem dX4_livingFor_8 : decode cX4_livingFor 8 = .ok (.ifCond .ne 5, 3) := by decide +kernel
theorem dX4_livingFor_11 : decode cX4_livingFor 11 = .ok (.aload_n 0, 1) := by decide +kernel
theorem dX4_livingFor_12 : decode cX4_livingFor 12 = .ok (.areturn, 1) := by decide +kernel
theorem dX4_livingFor_13 : decode cX4_livingFor 13 = .ok (.aload_n 0, 1) := by decide +kernel
theorem dX4_livingFor_14 : decode cX4_livingFor 14 = .ok (.iload_n 1, 1) := by decide +kernel
theorem dX4_livingFor_15 : decode cX4_livingFor 15 = .ok (.invokestatic 145, 3) := by decide +kernel
theorem dX4_livingFor_18 : decode cX4_livingFor 18 = .ok (.areturn, 1) := by decide +kernel
set_option maxRecDepth 20000 in
theorem ggX4_takesAway_X4_isDarkFor : GoodIn wsX4_takesAway wsX4_isDarkFor := goodIn_r _ [11, 12, 13, 14, 15, 16, 17, 18, 19, 20, 21, 22, 32, 33, 34, 35, 36, 37, 38, 39, 40, 41, 42, 43, 44, 45, 46, 47, 48, 49] (by decide +kernel) (by decide +kernel)
set_option maxRecDepth 20000 in
theorem gX4_takesAway_X4_isDarkFor : GoodIn wsX4_takesAway (wsV RX4 141 RX4 yX4_isDarkFor wsX4_isDarkFor) := goodIn_app (goodIn_of _ (by decide +kernel)) ggX4_takesAway_X4_isDarkFor
theorem dX4_takesAway_0 : decode cX4_takesAway 0 = .ok (.aload_n 1, 1) := by decide +kernel
theorem dX4_takesAway_1 : decode cX4_takesAway 1 = .ok (.getfield 210, 3) := by decide +kernel
theorem dX4_takesAway_4 : decode cX4_takesAway 4 = .ok (.astore_n 2, 1) := by decide +kernel
theorem dX4_takesAway_5 : decode cX4_takesAway 5 = .ok (.aload_n 2, 1) := by decide +kernel
theorem dX4_takesAway_6 : decode cX4_takesAway 6 = .ok (.ifnonnull 5, 3) := by decide +kernel
theorem dX4_takesAway_9 : decode cX4_takesAway 9 = .ok (.iconst 0, 1) := by decide +kernel
theorem dX4_takesAway_10 : decode cX4_takesAway 10 = .ok (.ireturn, 1) := by decide +kernel
theorem dX4_takesAway_11 : decode cX4_takesAway 11 = .ok (.aload_n 1, 1) := by decide +kernel
theorem dX4_takesAway_12 : decode cX4_takesAway 12 = .ok (.getfield 130, 3) := by decide +kernel
theorem dX4_takesAway_15 : decode cX4_takesAway 15 = .ok (.ifCond .ne 35, 3) := by decide +kernel
theorem dX4_takesAway_18 : decode cX4_takesAway 18 = .ok (.aload_n 1, 1) := by decide +kernel
theorem dX4_takesAway_19 : decode cX4_takesAway 19 = .ok (.getfield 135, 3) := by decide +kernel
theorem dX4_takesAway_22 : decode cX4_takesAway 22 = .ok (.ifCond .ne 26, 3) := by decide +kernel
theorem dX4_takesAway_25 : decode cX4_takesAway 25 = .ok (.aload_n 0, 1) := by decide +kernel
theorem dX4_takesAway_26 : decode cX4_takesAway 26 = .ok (.aload_n 2, 1) := by decide +kernel
theorem dX4_takesAway_27 : decode cX4_takesAway 27 = .ok (.getfield 213, 3) := by decide +kernel
theorem dX4_takesAway_30 : decode cX4_takesAway 30 = .ok (.aload_n 1, 1) := by decide +kernel
theorem dX4_takesAway_31 : decode cX4_takesAway 31 = .ok (.getfield 217, 3) := by decide +kernel
theorem dX4_takesAway_34 : decode cX4_takesAway 34 = .ok (.aload_n 1, 1) := by decide +kernel
theorem dX4_takesAway_35 : decode cX4_takesAway 35 = .ok (.getfield 220, 3) := by decide +kernel
theorem dX4_takesAway_38 : decode cX4_takesAway 38 = .ok (.invokevirtual 141, 3) := by decide +kernel
theorem dX4_takesAway_41 : decode cX4_takesAway 41 = .ok (.ifCond .eq 7, 3) := by decide +kernel
theorem dX4_takesAway_44 : decode cX4_takesAway 44 = .ok (.iconst 1, 1) := by decide +kernel
theorem dX4_takesAway_45 : decode cX4_takesAway 45 = .ok (.goto 4, 3) := by decide +kernel
theorem dX4_takesAway_48 : decode cX4_takesAway 48 = .ok (.iconst 0, 1) := by decide +kernel
theorem dX4_takesAway_49 : decode cX4_takesAway 49 = .ok (.ireturn, 1) := by decide +kernel
theorem dX4_takesAway_50 : decode cX4_takesAway 50 = .ok (.aload_n 1, 1) := by decide +kernel
theorem dX4_takesAway_51 : decode cX4_takesAway 51 = .ok (.getfield 130, 3) := by decide +kernel
theorem dX4_takesAway_54 : decode cX4_takesAway 54 = .ok (.iconst 3, 1) := by decide +kernel
theorem dX4_takesAway_55 : decode cX4_takesAway 55 = .ok (.if_icmp .eq 19, 3) := by decide +kernel
theorem dX4_takesAway_58 : decode cX4_takesAway 58 = .ok (.aload_n 1, 1) := by decide +kernel
theorem dX4_takesAway_59 : decode cX4_takesAway 59 = .ok (.getfield 130, 3) := by decide +kernel
theorem dX4_takesAway_62 : decode cX4_takesAway 62 = .ok (.iconst 4, 1) := by decide +kernel
theorem dX4_takesAway_63 : decode cX4_takesAway 63 = .ok (.if_icmp .eq 11, 3) := by decide +kernel
theorem dX4_takesAway_66 : decode cX4_takesAway 66 = .ok (.aload_n 1, 1) := by decide +kernel
theorem dX4_takesAway_67 : decode cX4_takesAway 67 = .ok (.getfield 130, 3) := by decide +kernel
theorem dX4_takesAway_70 : decode cX4_takesAway 70 = .ok (.iconst 5, 1) := by decide +kernel
theorem dX4_takesAway_71 : decode cX4_takesAway 71 = .ok (.if_icmp .ne 7, 3) := by decide +kernel
theorem dX4_takesAway_74 : decode cX4_takesAway 74 = .ok (.iconst 1, 1) := by decide +kernel
theorem dX4_takesAway_75 : decode cX4_takesAway 75 = .ok (.goto 4, 3) := by decide +kernel
theorem dX4_takesAway_78 : decode cX4_takesAway 78 = .ok (.iconst 0, 1) := by decide +kernel
theorem dX4_takesAway_79 : decode cX4_takesAway 79 = .ok (.ireturn, 1) := by decide +kernel
theorem dX4_isKeptInGoodFaith_0 : decode cX4_isKeptInGoodFaith 0 = .ok (.aload_n 0, 1) := by decide +kernel
theorem dX4_isKeptInGoodFaith_1 : decode cX4_isKeptInGoodFaith 1 = .ok (.getfield 21, 3) := by decide +kernel
theorem dX4_isKeptInGoodFaith_4 : decode cX4_isKeptInGoodFaith 4 = .ok (.aload_n 1, 1) := by decide +kernel
theorem dX4_isKeptInGoodFaith_5 : decode cX4_isKeptInGoodFaith 5 = .ok (.getfield 217, 3) := by decide +kernel
theorem dX4_isKeptInGoodFaith_8 : decode cX4_isKeptInGoodFaith 8 = .ok (.iaload, 1) := by decide +kernel
theorem dX4_isKeptInGoodFaith_9 : decode cX4_isKeptInGoodFaith 9 = .ok (.istore_n 2, 1) := by decide +kernel
theorem dX4_isKeptInGoodFaith_10 : decode cX4_isKeptInGoodFaith 10 = .ok (.aload_n 1, 1) := by decide +kernel
theorem dX4_isKeptInGoodFaith_11 : decode cX4_isKeptInGoodFaith 11 = .ok (.getfield 166, 3) := by decide +kernel
theorem dX4_isKeptInGoodFaith_14 : decode cX4_isKeptInGoodFaith 14 = .ok (.ifnonnull 10, 3) := by decide +kernel
theorem dX4_isKeptInGoodFaith_17 : decode cX4_isKeptInGoodFaith 17 = .ok (.aload_n 0, 1) := by decide +kernel
theorem dX4_isKeptInGoodFaith_18 : decode cX4_isKeptInGoodFaith 18 = .ok (.getfield 25, 3) := by decide +kernel
theorem dX4_isKeptInGoodFaith_21 : decode cX4_isKeptInGoodFaith 21 = .ok (.goto 10, 3) := by decide +kernel
theorem dX4_isKeptInGoodFaith_24 : decode cX4_isKeptInGoodFaith 24 = .ok (.aload_n 1, 1) := by decide +kernel
theorem dX4_isKeptInGoodFaith_25 : decode cX4_isKeptInGoodFaith 25 = .ok (.getfield 166, 3) := by decide +kernel
theorem dX4_isKeptInGoodFaith_28 : decode cX4_isKeptInGoodFaith 28 = .ok (.getfield 220, 3) := by decide +kernel
theorem dX4_isKeptInGoodFaith_31 : decode cX4_isKeptInGoodFaith 31 = .ok (.istore_n 3, 1) := by decide +kernel
theorem dX4_isKeptInGoodFaith_32 : decode cX4_isKeptInGoodFaith 32 = .ok (.aload_n 1, 1) := by decide +kernel
theorem dX4_isKeptInGoodFaith_33 : decode cX4_isKeptInGoodFaith 33 = .ok (.getfield 130, 3) := by decide +kernel
theorem dX4_isKeptInGoodFaith_36 : decode cX4_isKeptInGoodFaith 36 = .ok (.ifCond .ne 21, 3) := by decide +kernel
theorem dX4_isKeptInGoodFaith_39 : decode cX4_isKeptInGoodFaith 39 = .ok (.iload_n 2, 1) := by decide +kernel
theorem dX4_isKeptInGoodFaith_40 : decode cX4_isKeptInGoodFaith 40 = .ok (.ifCond .le 17, 3) := by decide +kernel
theorem dX4_isKeptInGoodFaith_43 : decode cX4_isKeptInGoodFaith 43 = .ok (.iload_n 3, 1) := by decide +kernel
theorem dX4_isKeptInGoodFaith_44 : decode cX4_isKeptInGoodFaith 44 = .ok (.aload_n 1, 1) := by decide +kernel
theorem dX4_isKeptInGoodFaith_45 : decode cX4_isKeptInGoodFaith 45 = .ok (.getfield 220, 3) := by decide +kernel
theorem dX4_isKeptInGoodFaith_48 : decode cX4_isKeptInGoodFaith 48 = .ok (.isub, 1) := by decide +kernel
theorem dX4_isKeptInGoodFaith_49 : decode cX4_isKeptInGoodFaith 49 = .ok (.iload_n 2, 1) := by decide +kernel
theorem dX4_isKeptInGoodFaith_50 : decode cX4_isKeptInGoodFaith 50 = .ok (.if_icmp .lt 7, 3) := by decide +kernel
theorem dX4_isKeptInGoodFaith_53 : decode cX4_isKeptInGoodFaith 53 = .ok (.iconst 1, 1) := by decide +kernel
theorem dX4_isKeptInGoodFaith_54 : decode cX4_isKeptInGoodFaith 54 = .ok (.goto 4, 3) := by decide +kernel
theorem dX4_isKeptInGoodFaith_57 : decode cX4_isKeptInGoodFaith 57 = .ok (.iconst 0, 1) := by decide +kernel
theorem dX4_isKeptInGoodFaith_58 : decode cX4_isKeptInGoodFaith 58 = .ok (.ireturn, 1) := by decide +kernel
set_option maxRecDepth 20000 in
theorem ggX4_titleFromFirst_X4_bringsTitle : GoodIn wsX4_titleFromFirst wsX4_bringsTitle := goodIn_r _ [8, 9, 10, 2, 11, 12, 13, 7, 14, 15, 16, 17, 18, 19, 20, 21, 22, 23, 24, 25, 26, 27, 28, 29, 30, 31, 32, 33, 34, 35, 36, 37, 38, 3, 39, 46, 47, 48, 49, 50, 51, 52, 53, 54, 55, 56, 57, 58, 59, 60, 61, 62, 63, 64, 65, 66, 67, 68, 69, 70, 71, 72] (by decide +kernel) (by decide +kernel)
set_option maxRecDepth 20000 in
theorem gX4_titleFromFirst_X4_bringsTitle : GoodIn wsX4_titleFromFirst (wsV RX4 223 RX4 yX4_bringsTitle wsX4_bringsTitle) := goodIn_app (goodIn_of _ (by decide +kernel)) ggX4_titleFromFirst_X4_bringsTitle
theorem dX4_titleFromFirst_0 : decode cX4_titleFromFirst 0 = .ok (.aload_n 1, 1) := by decide +kernel
theorem dX4_titleFromFirst_1 : decode cX4_titleFromFirst 1 = .ok (.getfield 162, 3) := by decide +kernel
theorem dX4_titleFromFirst_4 : decode cX4_titleFromFirst 4 = .ok (.ifnonnull 5, 3) := by decide +kernel
theorem dX4_titleFromFirst_7 : decode cX4_titleFromFirst 7 = .ok (.aconst_null, 1) := by decide +kernel
theorem dX4_titleFromFirst_8 : decode cX4_titleFromFirst 8 = .ok (.areturn, 1) := by decide +kernel
theorem dX4_titleFromFirst_9 : decode cX4_titleFromFirst 9 = .ok (.aload_n 1, 1) := by decide +kernel
theorem dX4_titleFromFirst_10 : decode cX4_titleFromFirst 10 = .ok (.getfield 162, 3) := by decide +kernel
theorem dX4_titleFromFirst_13 : decode cX4_titleFromFirst 13 = .ok (.getfield 213, 3) := by decide +kernel
theorem dX4_titleFromFirst_16 : decode cX4_titleFromFirst 16 = .ok (.astore_n 2, 1) := by decide +kernel
theorem dX4_titleFromFirst_17 : decode cX4_titleFromFirst 17 = .ok (.aload_n 1, 1) := by decide +kernel
theorem dX4_titleFromFirst_18 : decode cX4_titleFromFirst 18 = .ok (.getfield 162, 3) := by decide +kernel
theorem dX4_titleFromFirst_21 : decode cX4_titleFromFirst 21 = .ok (.getfield 166, 3) := by decide +kernel
theorem dX4_titleFromFirst_24 : decode cX4_titleFromFirst 24 = .ok (.astore_n 3, 1) := by decide +kernel
theorem dX4_titleFromFirst_25 : decode cX4_titleFromFirst 25 = .ok (.aload_n 3, 1) := by decide +kernel
theorem dX4_titleFromFirst_26 : decode cX4_titleFromFirst 26 = .ok (.ifnull 25, 3) := by decide +kernel
theorem dX4_titleFromFirst_29 : decode cX4_titleFromFirst 29 = .ok (.aload_n 0, 1) := by decide +kernel
theorem dX4_titleFromFirst_30 : decode cX4_titleFromFirst 30 = .ok (.aload_n 3, 1) := by decide +kernel
theorem dX4_titleFromFirst_31 : decode cX4_titleFromFirst 31 = .ok (.aload_n 2, 1) := by decide +kernel
theorem dX4_titleFromFirst_32 : decode cX4_titleFromFirst 32 = .ok (.invokevirtual 223, 3) := by decide +kernel
theorem dX4_titleFromFirst_35 : decode cX4_titleFromFirst 35 = .ok (.ifCond .eq 8, 3) := by decide +kernel
theorem dX4_titleFromFirst_38 : decode cX4_titleFromFirst 38 = .ok (.aload_n 3, 1) := by decide +kernel
theorem dX4_titleFromFirst_39 : decode cX4_titleFromFirst 39 = .ok (.getfield 213, 3) := by decide +kernel
theorem dX4_titleFromFirst_42 : decode cX4_titleFromFirst 42 = .ok (.astore_n 2, 1) := by decide +kernel
theorem dX4_titleFromFirst_43 : decode cX4_titleFromFirst 43 = .ok (.aload_n 3, 1) := by decide +kernel
theorem dX4_titleFromFirst_44 : decode cX4_titleFromFirst 44 = .ok (.getfield 166, 3) := by decide +kernel
theorem dX4_titleFromFirst_47 : decode cX4_titleFromFirst 47 = .ok (.astore_n 3, 1) := by decide +kernel
theorem dX4_titleFromFirst_48 : decode cX4_titleFromFirst 48 = .ok (.goto (-23), 3) := by decide +kernel
theorem dX4_titleFromFirst_51 : decode cX4_titleFromFirst 51 = .ok (.aload_n 2, 1) := by decide +kernel
theorem dX4_titleFromFirst_52 : decode cX4_titleFromFirst 52 = .ok (.areturn, 1) := by decide +kernel
set_option maxRecDepth 20000 in
theorem ggX4_bringsTitle_X4_takesAway : GoodIn wsX4_bringsTitle wsX4_takesAway := goodIn_r _ [8, 2, 9, 10, 3, 11, 12, 13, 14, 15, 7, 16, 17, 18, 19, 20, 21, 22, 23, 24, 25, 26, 27, 35, 36, 37, 38, 39, 40, 41, 42, 43, 44, 45, 46, 47, 48, 49, 50, 51, 52, 53, 54, 55, 56, 57, 58, 59, 60, 61] (by decide +kernel) (by decide +kernel)
set_option maxRecDepth 20000 in
theorem gX4_bringsTitle_X4_takesAway : GoodIn wsX4_bringsTitle (wsV RX4 172 RX4 yX4_takesAway wsX4_takesAway) := goodIn_app (goodIn_of _ (by decide +kernel)) ggX4_bringsTitle_X4_takesAway
set_option maxRecDepth 20000 in
theorem ggX4_bringsTitle_X4_isKeptInGoodFaith : GoodIn wsX4_bringsTitle wsX4_isKeptInGoodFaith := goodIn_r _ [31, 32, 11, 33, 34, 12, 9, 44, 45, 46, 47, 48, 49, 50, 51, 35, 36, 37, 38, 39, 40, 41, 42, 43] (by decide +kernel) (by decide +kernel)
set_option maxRecDepth 20000 in
theorem gX4_bringsTitle_X4_isKeptInGoodFaith : GoodIn wsX4_bringsTitle (wsV RX4 227 RX4 yX4_isKeptInGoodFaith wsX4_isKeptInGoodFaith) := goodIn_app (goodIn_of _ (by decide +kernel)) ggX4_bringsTitle_X4_isKeptInGoodFaith
theorem dX4_bringsTitle_0 : decode cX4_bringsTitle 0 = .ok (.aload_n 1, 1) := by decide +kernel
theorem dX4_bringsTitle_1 : decode cX4_bringsTitle 1 = .ok (.getfield 138, 3) := by decide +kernel
theorem dX4_bringsTitle_4 : decode cX4_bringsTitle 4 = .ok (.ifCond .eq 5, 3) := by decide +kernel
theorem dX4_bringsTitle_7 : decode cX4_bringsTitle 7 = .ok (.iconst 1, 1) := by decide +kernel
theorem dX4_bringsTitle_8 : decode cX4_bringsTitle 8 = .ok (.ireturn, 1) := by decide +kernel
theorem dX4_bringsTitle_9 : decode cX4_bringsTitle 9 = .ok (.aload_n 0, 1) := by decide +kernel
theorem dX4_bringsTitle_10 : decode cX4_bringsTitle 10 = .ok (.aload_n 1, 1) := by decide +kernel
theorem dX4_bringsTitle_11 : decode cX4_bringsTitle 11 = .ok (.invokevirtual 172, 3) := by decide +kernel
theorem dX4_bringsTitle_14 : decode cX4_bringsTitle 14 = .ok (.ifCond .eq 5, 3) := by decide +kernel
theorem dX4_bringsTitle_17 : decode cX4_bringsTitle 17 = .ok (.iconst 0, 1) := by decide +kernel
theorem dX4_bringsTitle_18 : decode cX4_bringsTitle 18 = .ok (.ireturn, 1) := by decide +kernel
theorem dX4_bringsTitle_19 : decode cX4_bringsTitle 19 = .ok (.aload_n 1, 1) := by decide +kernel
theorem dX4_bringsTitle_20 : decode cX4_bringsTitle 20 = .ok (.getfield 210, 3) := by decide +kernel
theorem dX4_bringsTitle_23 : decode cX4_bringsTitle 23 = .ok (.ifnull 18, 3) := by decide +kernel
theorem dX4_bringsTitle_26 : decode cX4_bringsTitle 26 = .ok (.aload_n 1, 1) := by decide +kernel
theorem dX4_bringsTitle_27 : decode cX4_bringsTitle 27 = .ok (.getfield 210, 3) := by decide +kernel
theorem dX4_bringsTitle_30 : decode cX4_bringsTitle 30 = .ok (.getfield 213, 3) := by decide +kernel
theorem dX4_bringsTitle_33 : decode cX4_bringsTitle 33 = .ok (.aload_n 2, 1) := by decide +kernel
theorem dX4_bringsTitle_34 : decode cX4_bringsTitle 34 = .ok (.if_acmp .ne 7, 3) := by decide +kernel
theorem dX4_bringsTitle_37 : decode cX4_bringsTitle 37 = .ok (.iconst 1, 1) := by decide +kernel
theorem dX4_bringsTitle_38 : decode cX4_bringsTitle 38 = .ok (.goto 4, 3) := by decide +kernel
theorem dX4_bringsTitle_41 : decode cX4_bringsTitle 41 = .ok (.iconst 0, 1) := by decide +kernel
theorem dX4_bringsTitle_42 : decode cX4_bringsTitle 42 = .ok (.istore_n 3, 1) := by decide +kernel
theorem dX4_bringsTitle_43 : decode cX4_bringsTitle 43 = .ok (.iload_n 3, 1) := by decide +kernel
theorem dX4_bringsTitle_44 : decode cX4_bringsTitle 44 = .ok (.ifCond .ne 11, 3) := by decide +kernel
theorem dX4_bringsTitle_47 : decode cX4_bringsTitle 47 = .ok (.aload_n 0, 1) := by decide +kernel
theorem dX4_bringsTitle_48 : decode cX4_bringsTitle 48 = .ok (.aload_n 1, 1) := by decide +kernel
theorem dX4_bringsTitle_49 : decode cX4_bringsTitle 49 = .ok (.invokevirtual 227, 3) := by decide +kernel
theorem dX4_bringsTitle_52 : decode cX4_bringsTitle 52 = .ok (.ifCond .eq 7, 3) := by decide +kernel
theorem dX4_bringsTitle_55 : decode cX4_bringsTitle 55 = .ok (.iconst 1, 1) := by decide +kernel
theorem dX4_bringsTitle_56 : decode cX4_bringsTitle 56 = .ok (.goto 4, 3) := by decide +kernel
theorem dX4_bringsTitle_59 : decode cX4_bringsTitle 59 = .ok (.iconst 0, 1) := by decide +kernel
theorem dX4_bringsTitle_60 : decode cX4_bringsTitle 60 = .ok (.ireturn, 1) := by decide +kernel
set_option maxRecDepth 20000 in
theorem ggX4_titleFromLast_X4_takesAway : GoodIn wsX4_titleFromLast wsX4_takesAway := goodIn_r _ [10, 4, 11, 12, 2, 13, 14, 15, 16, 17, 9, 18, 19, 20, 21, 22, 23, 24, 25, 26, 27, 28, 29, 43, 44, 45, 46, 47, 48, 49, 50, 51, 58, 59, 60, 61, 62, 63, 64, 65, 52, 53, 54, 55, 56, 57, 66, 67, 68, 69] (by decide +kernel) (by decide +kernel)
set_option maxRecDepth 20000 in
theorem gX4_titleFromLast_X4_takesAway : GoodIn wsX4_titleFromLast (wsV RX4 172 RX4 yX4_takesAway wsX4_takesAway) := goodIn_app (goodIn_of _ (by decide +kernel)) ggX4_titleFromLast_X4_takesAway
set_option maxRecDepth 20000 in
theorem ggX4_titleFromLast_X4_isKeptInGoodFaith : GoodIn wsX4_titleFromLast wsX4_isKeptInGoodFaith := goodIn_r _ [33, 34, 13, 35, 36, 14, 11, 58, 59, 60, 61, 62, 63, 64, 65, 43, 44, 45, 46, 47, 48, 49, 50, 51] (by decide +kernel) (by decide +kernel)
set_option maxRecDepth 20000 in
theorem gX4_titleFromLast_X4_isKeptInGoodFaith : GoodIn wsX4_titleFromLast (wsV RX4 227 RX4 yX4_isKeptInGoodFaith wsX4_isKeptInGoodFaith) := goodIn_app (goodIn_of _ (by decide +kernel)) ggX4_titleFromLast_X4_isKeptInGoodFaith
theorem dX4_titleFromLast_0 : decode cX4_titleFromLast 0 = .ok (.aload_n 1, 1) := by decide +kernel
theorem dX4_titleFromLast_1 : decode cX4_titleFromLast 1 = .ok (.getfield 230, 3) := by decide +kernel
theorem dX4_titleFromLast_4 : decode cX4_titleFromLast 4 = .ok (.astore_n 2, 1) := by decide +kernel
theorem dX4_titleFromLast_5 : decode cX4_titleFromLast 5 = .ok (.aload_n 2, 1) := by decide +kernel
theorem dX4_titleFromLast_6 : decode cX4_titleFromLast 6 = .ok (.ifnull 22, 3) := by decide +kernel
theorem dX4_titleFromLast_9 : decode cX4_titleFromLast 9 = .ok (.aload_n 2, 1) := by decide +kernel
theorem dX4_titleFromLast_10 : decode cX4_titleFromLast 10 = .ok (.getfield 213, 3) := by decide +kernel
theorem dX4_titleFromLast_13 : decode cX4_titleFromLast 13 = .ok (.aload_n 2, 1) := by decide +kernel
theorem dX4_titleFromLast_14 : decode cX4_titleFromLast 14 = .ok (.getfield 213, 3) := by decide +kernel
theorem dX4_titleFromLast_17 : decode cX4_titleFromLast 17 = .ok (.putfield 233, 3) := by decide +kernel
theorem dX4_titleFromLast_20 : decode cX4_titleFromLast 20 = .ok (.aload_n 2, 1) := by decide +kernel
theorem dX4_titleFromLast_21 : decode cX4_titleFromLast 21 = .ok (.getfield 210, 3) := by decide +kernel
theorem dX4_titleFromLast_24 : decode cX4_titleFromLast 24 = .ok (.astore_n 2, 1) := by decide +kernel
theorem dX4_titleFromLast_25 : decode cX4_titleFromLast 25 = .ok (.goto (-20), 3) := by decide +kernel
theorem dX4_titleFromLast_28 : decode cX4_titleFromLast 28 = .ok (.aload_n 1, 1) := by decide +kernel
theorem dX4_titleFromLast_29 : decode cX4_titleFromLast 29 = .ok (.getfield 230, 3) := by decide +kernel
theorem dX4_titleFromLast_32 : decode cX4_titleFromLast 32 = .ok (.astore_n 2, 1) := by decide +kernel
theorem dX4_titleFromLast_33 : decode cX4_titleFromLast 33 = .ok (.aload_n 2, 1) := by decide +kernel
theorem dX4_titleFromLast_34 : decode cX4_titleFromLast 34 = .ok (.ifnull 76, 3) := by decide +kernel
theorem dX4_titleFromLast_37 : decode cX4_titleFromLast 37 = .ok (.aload_n 2, 1) := by decide +kernel
theorem dX4_titleFromLast_38 : decode cX4_titleFromLast 38 = .ok (.getfield 210, 3) := by decide +kernel
theorem dX4_titleFromLast_41 : decode cX4_titleFromLast 41 = .ok (.astore_n 3, 1) := by decide +kernel
theorem dX4_titleFromLast_42 : decode cX4_titleFromLast 42 = .ok (.aload_n 3, 1) := by decide +kernel
theorem dX4_titleFromLast_43 : decode cX4_titleFromLast 43 = .ok (.ifnull 10, 3) := by decide +kernel
theorem dX4_titleFromLast_46 : decode cX4_titleFromLast 46 = .ok (.aload_n 2, 1) := by decide +kernel
theorem dX4_titleFromLast_47 : decode cX4_titleFromLast 47 = .ok (.getfield 138, 3) := by decide +kernel
theorem dX4_titleFromLast_50 : decode cX4_titleFromLast 50 = .ok (.ifCond .eq 11, 3) := by decide +kernel
theorem dX4_titleFromLast_53 : decode cX4_titleFromLast 53 = .ok (.aload_n 2, 1) := by decide +kernel
theorem dX4_titleFromLast_54 : decode cX4_titleFromLast 54 = .ok (.getfield 213, 3) := by decide +kernel
theorem dX4_titleFromLast_57 : decode cX4_titleFromLast 57 = .ok (.getfield 233, 3) := by decide +kernel
theorem dX4_titleFromLast_60 : decode cX4_titleFromLast 60 = .ok (.areturn, 1) := by decide +kernel
theorem dX4_titleFromLast_61 : decode cX4_titleFromLast 61 = .ok (.aload_n 0, 1) := by decide +kernel
theorem dX4_titleFromLast_62 : decode cX4_titleFromLast 62 = .ok (.aload_n 2, 1) := by decide +kernel
theorem dX4_titleFromLast_63 : decode cX4_titleFromLast 63 = .ok (.invokevirtual 172, 3) := by decide +kernel
theorem dX4_titleFromLast_66 : decode cX4_titleFromLast 66 = .ok (.ifCond .eq 6, 3) := by decide +kernel
theorem dX4_titleFromLast_69 : decode cX4_titleFromLast 69 = .ok (.goto 33, 3) := by decide +kernel
theorem dX4_titleFromLast_72 : decode cX4_titleFromLast 72 = .ok (.aload_n 0, 1) := by decide +kernel
theorem dX4_titleFromLast_73 : decode cX4_titleFromLast 73 = .ok (.aload_n 2, 1) := by decide +kernel
theorem dX4_titleFromLast_74 : decode cX4_titleFromLast 74 = .ok (.invokevirtual 227, 3) := by decide +kernel
theorem dX4_titleFromLast_77 : decode cX4_titleFromLast 77 = .ok (.ifCond .eq 11, 3) := by decide +kernel
theorem dX4_titleFromLast_80 : decode cX4_titleFromLast 80 = .ok (.aload_n 2, 1) := by decide +kernel
theorem dX4_titleFromLast_81 : decode cX4_titleFromLast 81 = .ok (.getfield 213, 3) := by decide +kernel
theorem dX4_titleFromLast_84 : decode cX4_titleFromLast 84 = .ok (.getfield 233, 3) := by decide +kernel
theorem dX4_titleFromLast_87 : decode cX4_titleFromLast 87 = .ok (.areturn, 1) := by decide +kernel
theorem dX4_titleFromLast_88 : decode cX4_titleFromLast 88 = .ok (.aload_n 3, 1) := by decide +kernel
theorem dX4_titleFromLast_89 : decode cX4_titleFromLast 89 = .ok (.getfield 213, 3) := by decide +kernel
theorem dX4_titleFromLast_92 : decode cX4_titleFromLast 92 = .ok (.aload_n 2, 1) := by decide +kernel
theorem dX4_titleFromLast_93 : decode cX4_titleFromLast 93 = .ok (.getfield 213, 3) := by decide +kernel
theorem dX4_titleFromLast_96 : decode cX4_titleFromLast 96 = .ok (.getfield 233, 3) := by decide +kernel
theorem dX4_titleFromLast_99 : decode cX4_titleFromLast 99 = .ok (.putfield 233, 3) := by decide +kernel
theorem dX4_titleFromLast_102 : decode cX4_titleFromLast 102 = .ok (.aload_n 2, 1) := by decide +kernel
theorem dX4_titleFromLast_103 : decode cX4_titleFromLast 103 = .ok (.getfield 210, 3) := by decide +kernel
theorem dX4_titleFromLast_106 : decode cX4_titleFromLast 106 = .ok (.astore_n 2, 1) := by decide +kernel
theorem dX4_titleFromLast_107 : decode cX4_titleFromLast 107 = .ok (.goto (-74), 3) := by decide +kernel
theorem dX4_titleFromLast_110 : decode cX4_titleFromLast 110 = .ok (.aconst_null, 1) := by decide +kernel
theorem dX4_titleFromLast_111 : decode cX4_titleFromLast 111 = .ok (.areturn, 1) := by decide +kernel
theorem dX5_init_0 : decode cX5_init 0 = .ok (.aload_n 0, 1) := by decide +kernel
theorem dX5_init_1 : decode cX5_init 1 = .ok (.invokespecial 1, 3) := by decide +kernel
theorem dX5_init_4 : decode cX5_init 4 = .ok (.aload_n 0, 1) := by decide +kernel
theorem dX5_init_5 : decode cX5_init 5 = .ok (.sipush 1900, 3) := by decide +kernel
theorem dX5_init_8 : decode cX5_init 8 = .ok (.putfield 7, 3) := by decide +kernel
theorem dX5_init_11 : decode cX5_init 11 = .ok (.aload_n 0, 1) := by decide +kernel
theorem dX5_init_12 : decode cX5_init 12 = .ok (.bipush 12, 2) := by decide +kernel
theorem dX5_init_14 : decode cX5_init 14 = .ok (.newarray .int, 2) := by decide +kernel
theorem dX5_init_16 : decode cX5_init 16 = .ok (.putfield 13, 3) := by decide +kernel
theorem dX5_init_19 : decode cX5_init 19 = .ok (.aload_n 0, 1) := by decide +kernel
theorem dX5_init_20 : decode cX5_init 20 = .ok (.bipush 12, 2) := by decide +kernel
theorem dX5_init_22 : decode cX5_init 22 = .ok (.newarray .boolean, 2) := by decide +kernel
theorem dX5_init_24 : decode cX5_init 24 = .ok (.putfield 17, 3) := by decide +kernel
theorem dX5_init_27 : decode cX5_init 27 = .ok (.aload_n 0, 1) := by decide +kernel
theorem dX5_init_28 : decode cX5_init 28 = .ok (.sipush 144, 3) := by decide +kernel
theorem dX5_init_31 : decode cX5_init 31 = .ok (.newarray .int, 2) := by decide +kernel
theorem dX5_init_33 : decode cX5_init 33 = .ok (.putfield 21, 3) := by decide +kernel
theorem dX5_init_36 : decode cX5_init 36 = .ok (.aload_n 0, 1) := by decide +kernel
theorem dX5_init_37 : decode cX5_init 37 = .ok (.bipush 12, 2) := by decide +kernel
theorem dX5_init_39 : decode cX5_init 39 = .ok (.newarray .int, 2) := by decide +kernel
theorem dX5_init_41 : decode cX5_init 41 = .ok (.putfield 24, 3) := by decide +kernel
theorem dX5_init_44 : decode cX5_init 44 = .ok (.aload_n 0, 1) := by decide +kernel
theorem dX5_init_45 : decode cX5_init 45 = .ok (.bipush 80, 2) := by decide +kernel
theorem dX5_init_47 : decode cX5_init 47 = .ok (.newarray .int, 2) := by decide +kernel
theorem dX5_init_49 : decode cX5_init 49 = .ok (.putfield 27, 3) := by decide +kernel
theorem dX5_init_52 : decode cX5_init 52 = .ok (.aload_n 0, 1) := by decide +kernel
theorem dX5_init_53 : decode cX5_init 53 = .ok (.iconst 5, 1) := by decide +kernel
theorem dX5_init_54 : decode cX5_init 54 = .ok (.newarray .int, 2) := by decide +kernel
theorem dX5_init_56 : decode cX5_init 56 = .ok (.putfield 30, 3) := by decide +kernel
theorem dX5_init_59 : decode cX5_init 59 = .ok (.aload_n 0, 1) := by decide +kernel
theorem dX5_init_60 : decode cX5_init 60 = .ok (.bipush 10, 2) := by decide +kernel
theorem dX5_init_62 : decode cX5_init 62 = .ok (.newarray .int, 2) := by decide +kernel
theorem dX5_init_64 : decode cX5_init 64 = .ok (.putfield 33, 3) := by decide +kernel
theorem dX5_init_67 : decode cX5_init 67 = .ok (.aload_n 0, 1) := by decide +kernel
theorem dX5_init_68 : decode cX5_init 68 = .ok (.bipush 10, 2) := by decide +kernel
theorem dX5_init_70 : decode cX5_init 70 = .ok (.newarray .int, 2) := by decide +kernel
theorem dX5_init_72 : decode cX5_init 72 = .ok (.putfield 36, 3) := by decide +kernel
theorem dX5_init_75 : decode cX5_init 75 = .ok (.aload_n 0, 1) := by decide +kernel
theorem dX5_init_76 : decode cX5_init 76 = .ok (.bipush 10, 2) := by decide +kernel
theorem dX5_init_78 : decode cX5_init 78 = .ok (.newarray .int, 2) := by decide +kernel
theorem dX5_init_80 : decode cX5_init 80 = .ok (.putfield 39, 3) := by decide +kernel
theorem dX5_init_83 : decode cX5_init 83 = .ok (.aload_n 0, 1) := by decide +kernel
theorem dX5_init_84 : decode cX5_init 84 = .ok (.bipush 80, 2) := by decide +kernel
theorem dX5_init_86 : decode cX5_init 86 = .ok (.newarray .int, 2) := by decide +kernel
theorem dX5_init_88 : decode cX5_init 88 = .ok (.putfield 42, 3) := by decide +kernel
theorem dX5_init_91 : decode cX5_init 91 = .ok (.aload_n 0, 1) := by decide +kernel
theorem dX5_init_92 : decode cX5_init 92 = .ok (.bipush 80, 2) := by decide +kernel
theorem dX5_init_94 : decode cX5_init 94 = .ok (.newarray .int, 2) := by decide +kernel
theorem dX5_init_96 : decode cX5_init 96 = .ok (.putfield 45, 3) := by decide +kernel
theorem dX5_init_99 : decode cX5_init 99 = .ok (.aload_n 0, 1) := by decide +kernel
theorem dX5_init_100 : decode cX5_init 100 = .ok (.bipush 80, 2) := by decide +kernel
theorem dX5_init_102 : decode cX5_init 102 = .ok (.newarray .int, 2) := by decide +kernel
theorem dX5_init_104 : decode cX5_init 104 = .ok (.putfield 48, 3) := by decide +kernel
theorem dX5_init_107 : decode cX5_init 107 = .ok (.aload_n 0, 1) := by decide +kernel
theorem dX5_init_108 : decode cX5_init 108 = .ok (.bipush 80, 2) := by decide +kernel
theorem dX5_init_110 : decode cX5_init 110 = .ok (.newarray .int, 2) := by decide +kernel
theorem dX5_init_112 : decode cX5_init 112 = .ok (.putfield 51, 3) := by decide +kernel
theorem dX5_init_115 : decode cX5_init 115 = .ok (.aload_n 0, 1) := by decide +kernel
theorem dX5_init_116 : decode cX5_init 116 = .ok (.bipush 80, 2) := by decide +kernel
theorem dX5_init_118 : decode cX5_init 118 = .ok (.newarray .boolean, 2) := by decide +kernel
theorem dX5_init_120 : decode cX5_init 120 = .ok (.putfield 54, 3) := by decide +kernel
theorem dX5_init_123 : decode cX5_init 123 = .ok (.aload_n 0, 1) := by decide +kernel
theorem dX5_init_124 : decode cX5_init 124 = .ok (.bipush 80, 2) := by decide +kernel
theorem dX5_init_126 : decode cX5_init 126 = .ok (.newarray .boolean, 2) := by decide +kernel
theorem dX5_init_128 : decode cX5_init 128 = .ok (.putfield 57, 3) := by decide +kernel
theorem dX5_init_131 : decode cX5_init 131 = .ok (.aload_n 0, 1) := by decide +kernel
theorem dX5_init_132 : decode cX5_init 132 = .ok (.bipush 8, 2) := by decide +kernel
theorem dX5_init_134 : decode cX5_init 134 = .ok (.newarray .int, 2) := by decide +kernel
theorem dX5_init_136 : decode cX5_init 136 = .ok (.putfield 60, 3) := by decide +kernel
theorem dX5_init_139 : decode cX5_init 139 = .ok (.return_, 1) := by decide +kernel
theorem dX5_thrown_0 : decode cX5_thrown 0 = .ok (.aload_n 0, 1) := by decide +kernel
theorem dX5_thrown_1 : decode cX5_thrown 1 = .ok (.getfield 63, 3) := by decide +kernel
theorem dX5_thrown_4 : decode cX5_thrown 4 = .ok (.ireturn, 1) := by decide +kernel
theorem dX5_in_0 : decode cX5_in 0 = .ok (.iload_n 0, 1) := by decide +kernel
theorem dX5_in_1 : decode cX5_in 1 = .ok (.iload_n 1, 1) := by decide +kernel
theorem dX5_in_2 : decode cX5_in 2 = .ok (.if_icmp .lt 12, 3) := by decide +kernel
theorem dX5_in_5 : decode cX5_in 5 = .ok (.iload_n 0, 1) := by decide +kernel
theorem dX5_in_6 : decode cX5_in 6 = .ok (.iload_n 2, 1) := by decide +kernel
theorem dX5_in_7 : decode cX5_in 7 = .ok (.if_icmp .gt 7, 3) := by decide +kernel
theorem dX5_in_10 : decode cX5_in 10 = .ok (.iconst 1, 1) := by decide +kernel
theorem dX5_in_11 : decode cX5_in 11 = .ok (.goto 4, 3) := by decide +kernel
theorem dX5_in_14 : decode cX5_in 14 = .ok (.iconst 0, 1) := by decide +kernel
theorem dX5_in_15 : decode cX5_in 15 = .ok (.ireturn, 1) := by decide +kernel
theorem dX5_goes_0 : decode cX5_goes 0 = .ok (.aload_n 0, 1) := by decide +kernel
theorem dX5_goes_1 : decode cX5_goes 1 = .ok (.iload_n 1, 1) := by decide +kernel
theorem dX5_goes_2 : decode cX5_goes 2 = .ok (.ifCond .ne 7, 3) := by decide +kernel
theorem dX5_goes_5 : decode cX5_goes 5 = .ok (.iconst 1, 1) := by decide +kernel
theorem dX5_goes_6 : decode cX5_goes 6 = .ok (.goto 20, 3) := by decide +kernel
theorem dX5_goes_9 : decode cX5_goes 9 = .ok (.iload_n 2, 1) := by decide +kernel
theorem dX5_goes_10 : decode cX5_goes 10 = .ok (.ifCond .ne 7, 3) := by decide +kernel
theorem dX5_goes_13 : decode cX5_goes 13 = .ok (.iconst 2, 1) := by decide +kernel
theorem dX5_goes_14 : decode cX5_goes 14 = .ok (.goto 12, 3) := by decide +kernel
theorem dX5_goes_17 : decode cX5_goes 17 = .ok (.iload_n 3, 1) := by decide +kernel
theorem dX5_goes_18 : decode cX5_goes 18 = .ok (.ifCond .eq 7, 3) := by decide +kernel
theorem dX5_goes_21 : decode cX5_goes 21 = .ok (.iconst 0, 1) := by decide +kernel
theorem dX5_goes_22 : decode cX5_goes 22 = .ok (.goto 4, 3) := by decide +kernel
theorem dX5_goes_25 : decode cX5_goes 25 = .ok (.iconst 3, 1) := by decide +kernel
theorem dX5_goes_26 : decode cX5_goes 26 = .ok (.putfield 63, 3) := by decide +kernel
theorem dX5_goes_29 : decode cX5_goes 29 = .ok (.aload_n 0, 1) := by decide +kernel
theorem dX5_goes_30 : decode cX5_goes 30 = .ok (.getfield 63, 3) := by decide +kernel
theorem dX5_goes_33 : decode cX5_goes 33 = .ok (.ifCond .ne 7, 3) := by decide +kernel
theorem dX5_goes_36 : decode cX5_goes 36 = .ok (.iconst 1, 1) := by decide +kernel
theorem dX5_goes_37 : decode cX5_goes 37 = .ok (.goto 4, 3) := by decide +kernel
theorem dX5_goes_40 : decode cX5_goes 40 = .ok (.iconst 0, 1) := by decide +kernel
theorem dX5_goes_41 : decode cX5_goes 41 = .ok (.ireturn, 1) := by decide +kernel
set_option maxRecDepth 20000 in
theorem ggX5_isPerson_X5_in : GoodIn wsX5_isPerson wsX5_in := goodIn_r _ [5] (by decide +kernel) (by decide +kernel)
set_option maxRecDepth 20000 in
theorem gX5_isPerson_X5_in : GoodIn wsX5_isPerson (va_wsS RX5 69 yX5_in wsX5_in) := goodIn_app (goodIn_of _ (by decide +kernel)) ggX5_isPerson_X5_in
theorem dX5_isPerson_0 : decode cX5_isPerson 0 = .ok (.iload_n 1, 1) := by decide +kernel
theorem dX5_isPerson_1 : decode cX5_isPerson 1 = .ok (.iconst 0, 1) := by decide +kernel
theorem dX5_isPerson_2 : decode cX5_isPerson 2 = .ok (.aload_n 0, 1) := by decide +kernel
theorem dX5_isPerson_3 : decode cX5_isPerson 3 = .ok (.getfield 66, 3) := by decide +kernel
theorem dX5_isPerson_6 : decode cX5_isPerson 6 = .ok (.iconst 1, 1) := by decide +kernel
theorem dX5_isPerson_7 : decode cX5_isPerson 7 = .ok (.isub, 1) := by decide +kernel
theorem dX5_isPerson_8 : decode cX5_isPerson 8 = .ok (.invokestatic 69, 3) := by decide +kernel
theorem dX5_isPerson_11 : decode cX5_isPerson 11 = .ok (.ireturn, 1) := by decide +kernel
set_option maxRecDepth 20000 in
theorem ggX5_isLand_X5_in : GoodIn wsX5_isLand wsX5_in := goodIn_r _ [4] (by decide +kernel) (by decide +kernel)
set_option maxRecDepth 20000 in
theorem gX5_isLand_X5_in : GoodIn wsX5_isLand (va_wsS RX5 69 yX5_in wsX5_in) := goodIn_app (goodIn_of _ (by decide +kernel)) ggX5_isLand_X5_in
theorem dX5_isLand_0 : decode cX5_isLand 0 = .ok (.iload_n 0, 1) := by decide +kernel
theorem dX5_isLand_1 : decode cX5_isLand 1 = .ok (.iconst 0, 1) := by decide +kernel
theorem dX5_isLand_2 : decode cX5_isLand 2 = .ok (.iconst 4, 1) := by decide +kernel
theorem dX5_isLand_3 : decode cX5_isLand 3 = .ok (.invokestatic 69, 3) := by decide +kernel
theorem dX5_isLand_6 : decode cX5_isLand 6 = .ok (.ireturn, 1) := by decide +kernel
set_option maxRecDepth 20000 in
theorem ggX5_isThing_X5_in : GoodIn wsX5_isThing wsX5_in := goodIn_r _ [5] (by decide +kernel) (by decide +kernel)
set_option maxRecDepth 20000 in
theorem gX5_isThing_X5_in : GoodIn wsX5_isThing (va_wsS RX5 69 yX5_in wsX5_in) := goodIn_app (goodIn_of _ (by decide +kernel)) ggX5_isThing_X5_in
theorem dX5_isThing_0 : decode cX5_isThing 0 = .ok (.iload_n 1, 1) := by decide +kernel
theorem dX5_isThing_1 : decode cX5_isThing 1 = .ok (.iconst 0, 1) := by decide +kernel
theorem dX5_isThing_2 : decode cX5_isThing 2 = .ok (.aload_n 0, 1) := by decide +kernel
theorem dX5_isThing_3 : decode cX5_isThing 3 = .ok (.getfield 73, 3) := by decide +kernel
theorem dX5_isThing_6 : decode cX5_isThing 6 = .ok (.iconst 1, 1) := by decide +kernel
theorem dX5_isThing_7 : decode cX5_isThing 7 = .ok (.isub, 1) := by decide +kernel
theorem dX5_isThing_8 : decode cX5_isThing 8 = .ok (.invokestatic 69, 3) := by decide +kernel
theorem dX5_isThing_11 : decode cX5_isThing 11 = .ok (.ireturn, 1) := by decide +kernel
set_option maxRecDepth 20000 in
theorem ggX5_isStation_X5_isThing : GoodIn wsX5_isStation wsX5_isThing := goodIn_r _ [6, 7, 8, 9, 5, 10, 11, 12, 13, 14, 15, 16, 17, 18, 19, 20, 21, 22, 23, 24, 25, 26, 27, 28, 29, 30, 31] (by decide +kernel) (by decide +kernel)
set_option maxRecDepth 20000 in
theorem gX5_isStation_X5_isThing : GoodIn wsX5_isStation (wsV RX5 76 RX5 yX5_isThing wsX5_isThing) := goodIn_app (goodIn_of _ (by decide +kernel)) ggX5_isStation_X5_isThing
set_option maxRecDepth 20000 in
theorem ggX5_isStation_X5_in : GoodIn wsX5_isStation wsX5_in := goodIn_r _ [10] (by decide +kernel) (by decide +kernel)
set_option maxRecDepth 20000 in
theorem gX5_isStation_X5_in : GoodIn wsX5_isStation (va_wsS RX5 69 yX5_in wsX5_in) := goodIn_app (goodIn_of _ (by decide +kernel)) ggX5_isStation_X5_in
theorem dX5_isStation_0 : decode cX5_isStation 0 = .ok (.aload_n 0, 1) := by decide +kernel
theorem dX5_isStation_1 : decode cX5_isStation 1 = .ok (.iload_n 1, 1) := by decide +kernel
theorem dX5_isStation_2 : decode cX5_isStation 2 = .ok (.invokevirtual 76, 3) := by decide +kernel
theorem dX5_isStation_5 : decode cX5_isStation 5 = .ok (.ifCond .eq 23, 3) := by decide +kernel
theorem dX5_isStation_8 : decode cX5_isStation 8 = .ok (.iload_n 2, 1) := by decide +kernel
theorem dX5_isStation_9 : decode cX5_isStation 9 = .ok (.iconst 0, 1) := by decide +kernel
theorem dX5_isStation_10 : decode cX5_isStation 10 = .ok (.aload_n 0, 1) := by decide +kernel
theorem dX5_isStation_11 : decode cX5_isStation 11 = .ok (.getfield 39, 3) := by decide +kernel
theorem dX5_isStation_14 : decode cX5_isStation 14 = .ok (.iload_n 1, 1) := by decide +kernel
theorem dX5_isStation_15 : decode cX5_isStation 15 = .ok (.iaload, 1) := by decide +kernel
theorem dX5_isStation_16 : decode cX5_isStation 16 = .ok (.iconst 1, 1) := by decide +kernel
theorem dX5_isStation_17 : decode cX5_isStation 17 = .ok (.isub, 1) := by decide +kernel
theorem dX5_isStation_18 : decode cX5_isStation 18 = .ok (.invokestatic 69, 3) := by decide +kernel
theorem dX5_isStation_21 : decode cX5_isStation 21 = .ok (.ifCond .eq 7, 3) := by decide +kernel
theorem dX5_isStation_24 : decode cX5_isStation 24 = .ok (.iconst 1, 1) := by decide +kernel
theorem dX5_isStation_25 : decode cX5_isStation 25 = .ok (.goto 4, 3) := by decide +kernel
theorem dX5_isStation_28 : decode cX5_isStation 28 = .ok (.iconst 0, 1) := by decide +kernel
theorem dX5_isStation_29 : decode cX5_isStation 29 = .ok (.ireturn, 1) := by decide +kernel
set_option maxRecDepth 20000 in
theorem ggX5_person_X5_in : GoodIn wsX5_person wsX5_in := goodIn_r _ [6] (by decide +kernel) (by decide +kernel)
set_option maxRecDepth 20000 in
theorem gX5_person_X5_in : GoodIn wsX5_person (va_wsS RX5 69 yX5_in wsX5_in) := goodIn_app (goodIn_of _ (by decide +kernel)) ggX5_person_X5_in
set_option maxRecDepth 20000 in
theorem ggX5_person_X5_goes : GoodIn wsX5_person wsX5_goes := goodIn_r _ [10, 11, 12, 13, 14, 15, 16, 17, 18, 19, 20, 21, 22, 23, 24, 25, 26, 27, 28, 29, 30, 31, 32] (by decide +kernel) (by decide +kernel)
set_option maxRecDepth 20000 in
theorem gX5_person_X5_goes : GoodIn wsX5_person (wsV RX5 80 RX5 yX5_goes wsX5_goes) := goodIn_app (goodIn_of _ (by decide +kernel)) ggX5_person_X5_goes
theorem dX5_person_0 : decode cX5_person 0 = .ok (.aload_n 0, 1) := by decide +kernel
theorem dX5_person_1 : decode cX5_person 1 = .ok (.iload_n 1, 1) := by decide +kernel
theorem dX5_person_2 : decode cX5_person 2 = .ok (.iconst 0, 1) := by decide +kernel
theorem dX5_person_3 : decode cX5_person 3 = .ok (.iconst 3, 1) := by decide +kernel
theorem dX5_person_4 : decode cX5_person 4 = .ok (.invokestatic 69, 3) := by decide +kernel
theorem dX5_person_7 : decode cX5_person 7 = .ok (.aload_n 0, 1) := by decide +kernel
theorem dX5_person_8 : decode cX5_person 8 = .ok (.getfield 66, 3) := by decide +kernel
theorem dX5_person_11 : decode cX5_person 11 = .ok (.bipush 12, 2) := by decide +kernel
theorem dX5_person_13 : decode cX5_person 13 = .ok (.if_icmp .ge 7, 3) := by decide +kernel
theorem dX5_person_16 : decode cX5_person 16 = .ok (.iconst 1, 1) := by decide +kernel
theorem dX5_person_17 : decode cX5_person 17 = .ok (.goto 4, 3) := by decide +kernel
theorem dX5_person_20 : decode cX5_person 20 = .ok (.iconst 0, 1) := by decide +kernel
theorem dX5_person_21 : decode cX5_person 21 = .ok (.iconst 1, 1) := by decide +kernel
theorem dX5_person_22 : decode cX5_person 22 = .ok (.invokevirtual 80, 3) := by decide +kernel
theorem dX5_person_25 : decode cX5_person 25 = .ok (.ifCond .ne 5, 3) := by decide +kernel
theorem dX5_person_28 : decode cX5_person 28 = .ok (.iconst 0, 1) := by decide +kernel
theorem dX5_person_29 : decode cX5_person 29 = .ok (.ireturn, 1) := by decide +kernel
theorem dX5_person_30 : decode cX5_person 30 = .ok (.aload_n 0, 1) := by decide +kernel
theorem dX5_person_31 : decode cX5_person 31 = .ok (.getfield 13, 3) := by decide +kernel
theorem dX5_person_34 : decode cX5_person 34 = .ok (.aload_n 0, 1) := by decide +kernel
theorem dX5_person_35 : decode cX5_person 35 = .ok (.getfield 66, 3) := by decide +kernel
theorem dX5_person_38 : decode cX5_person 38 = .ok (.iload_n 1, 1) := by decide +kernel
theorem dX5_person_39 : decode cX5_person 39 = .ok (.iastore, 1) := by decide +kernel
theorem dX5_person_40 : decode cX5_person 40 = .ok (.aload_n 0, 1) := by decide +kernel
theorem dX5_person_41 : decode cX5_person 41 = .ok (.dup, 1) := by decide +kernel
theorem dX5_person_42 : decode cX5_person 42 = .ok (.getfield 66, 3) := by decide +kernel
theorem dX5_person_45 : decode cX5_person 45 = .ok (.iconst 1, 1) := by decide +kernel
theorem dX5_person_46 : decode cX5_person 46 = .ok (.iadd, 1) := by decide +kernel
theorem dX5_person_47 : decode cX5_person 47 = .ok (.putfield 66, 3) := by decide +kernel
theorem dX5_person_50 : decode cX5_person 50 = .ok (.aload_n 0, 1) := by decide +kernel
theorem dX5_person_51 : decode cX5_person 51 = .ok (.getfield 66, 3) := by decide +kernel
theorem dX5_person_54 : decode cX5_person 54 = .ok (.iconst 1, 1) := by decide +kernel
theorem dX5_person_55 : decode cX5_person 55 = .ok (.isub, 1) := by decide +kernel
theorem dX5_person_56 : decode cX5_person 56 = .ok (.ireturn, 1) := by decide +kernel
set_option maxRecDepth 20000 in
theorem ggX5_die_X5_isPerson : GoodIn wsX5_die wsX5_isPerson := goodIn_r _ [6, 7, 8, 9, 5, 10, 16, 17, 18, 19, 20, 21, 22, 23, 24, 25, 26, 27, 28, 29, 30, 31, 32, 33, 34, 35, 36] (by decide +kernel) (by decide +kernel)
set_option maxRecDepth 20000 in
theorem gX5_die_X5_isPerson : GoodIn wsX5_die (wsV RX5 84 RX5 yX5_isPerson wsX5_isPerson) := goodIn_app (goodIn_of _ (by decide +kernel)) ggX5_die_X5_isPerson
set_option maxRecDepth 20000 in
theorem ggX5_die_X5_goes : GoodIn wsX5_die wsX5_goes := goodIn_r _ [14, 15, 16, 17, 18, 19, 20, 21, 22, 23, 24, 25, 26, 27, 28, 29, 30, 31, 32, 33, 34, 35, 36] (by decide +kernel) (by decide +kernel)
set_option maxRecDepth 20000 in
theorem gX5_die_X5_goes : GoodIn wsX5_die (wsV RX5 80 RX5 yX5_goes wsX5_goes) := goodIn_app (goodIn_of _ (by decide +kernel)) ggX5_die_X5_goes
theorem dX5_die_0 : decode cX5_die 0 = .ok (.aload_n 0, 1) := by decide +kernel
theorem dX5_die_1 : decode cX5_die 1 = .ok (.iload_n 1, 1) := by decide +kernel
theorem dX5_die_2 : decode cX5_die 2 = .ok (.invokevirtual 84, 3) := by decide +kernel
theorem dX5_die_5 : decode cX5_die 5 = .ok (.istore_n 2, 1) := by decide +kernel
theorem dX5_die_6 : decode cX5_die 6 = .ok (.aload_n 0, 1) := by decide +kernel
theorem dX5_die_7 : decode cX5_die 7 = .ok (.iload_n 2, 1) := by decide +kernel
theorem dX5_die_8 : decode cX5_die 8 = .ok (.iload_n 2, 1) := by decide +kernel
theorem dX5_die_9 : decode cX5_die 9 = .ok (.ifCond .eq 16, 3) := by decide +kernel
theorem dX5_die_12 : decode cX5_die 12 = .ok (.aload_n 0, 1) := by decide +kernel
theorem dX5_die_13 : decode cX5_die 13 = .ok (.getfield 17, 3) := by decide +kernel
theorem dX5_die_16 : decode cX5_die 16 = .ok (.iload_n 1, 1) := by decide +kernel
theorem dX5_die_17 : decode cX5_die 17 = .ok (.baload, 1) := by decide +kernel
theorem dX5_die_18 : decode cX5_die 18 = .ok (.ifCond .ne 7, 3) := by decide +kernel
theorem dX5_die_21 : decode cX5_die 21 = .ok (.iconst 1, 1) := by decide +kernel
theorem dX5_die_22 : decode cX5_die 22 = .ok (.goto 4, 3) := by decide +kernel
theorem dX5_die_25 : decode cX5_die 25 = .ok (.iconst 0, 1) := by decide +kernel
theorem dX5_die_26 : decode cX5_die 26 = .ok (.iconst 1, 1) := by decide +kernel
theorem dX5_die_27 : decode cX5_die 27 = .ok (.invokevirtual 80, 3) := by decide +kernel
theorem dX5_die_30 : decode cX5_die 30 = .ok (.ifCond .eq 10, 3) := by decide +kernel
theorem dX5_die_33 : decode cX5_die 33 = .ok (.aload_n 0, 1) := by decide +kernel
theorem dX5_die_34 : decode cX5_die 34 = .ok (.getfield 17, 3) := by decide +kernel
theorem dX5_die_37 : decode cX5_die 37 = .ok (.iload_n 1, 1) := by decide +kernel
theorem dX5_die_38 : decode cX5_die 38 = .ok (.iconst 1, 1) := by decide +kernel
theorem dX5_die_39 : decode cX5_die 39 = .ok (.bastore, 1) := by decide +kernel
theorem dX5_die_40 : decode cX5_die 40 = .ok (.return_, 1) := by decide +kernel
theorem dX5_isHeir_0 : decode cX5_isHeir 0 = .ok (.iconst 0, 1) := by decide +kernel
theorem dX5_isHeir_1 : decode cX5_isHeir 1 = .ok (.istore_n 3, 1) := by decide +kernel
theorem dX5_isHeir_2 : decode cX5_isHeir 2 = .ok (.iconst 0, 1) := by decide +kernel
theorem dX5_isHeir_3 : decode cX5_isHeir 3 = .ok (.istore 4, 2) := by decide +kernel
theorem dX5_isHeir_5 : decode cX5_isHeir 5 = .ok (.iload 4, 2) := by decide +kernel
theorem dX5_isHeir_7 : decode cX5_isHeir 7 = .ok (.aload_n 0, 1) := by decide +kernel
theorem dX5_isHeir_8 : decode cX5_isHeir 8 = .ok (.getfield 24, 3) := by decide +kernel
theorem dX5_isHeir_11 : decode cX5_isHeir 11 = .ok (.iload_n 1, 1) := by decide +kernel
theorem dX5_isHeir_12 : decode cX5_isHeir 12 = .ok (.iaload, 1) := by decide +kernel
theorem dX5_isHeir_13 : decode cX5_isHeir 13 = .ok (.if_icmp .ge 35, 3) := by decide +kernel
theorem dX5_isHeir_16 : decode cX5_isHeir 16 = .ok (.iload_n 3, 1) := by decide +kernel
theorem dX5_isHeir_17 : decode cX5_isHeir 17 = .ok (.ifCond .ne 19, 3) := by decide +kernel
theorem dX5_isHeir_20 : decode cX5_isHeir 20 = .ok (.aload_n 0, 1) := by decide +kernel
theorem dX5_isHeir_21 : decode cX5_isHeir 21 = .ok (.getfield 21, 3) := by decide +kernel
theorem dX5_isHeir_24 : decode cX5_isHeir 24 = .ok (.bipush 12, 2) := by decide +kernel
theorem dX5_isHeir_26 : decode cX5_isHeir 26 = .ok (.iload_n 1, 1) := by decide +kernel
theorem dX5_isHeir_27 : decode cX5_isHeir 27 = .ok (.imul, 1) := by decide +kernel
theorem dX5_isHeir_28 : decode cX5_isHeir 28 = .ok (.iload 4, 2) := by decide +kernel
theorem dX5_isHeir_30 : decode cX5_isHeir 30 = .ok (.iadd, 1) := by decide +kernel
theorem dX5_isHeir_31 : decode cX5_isHeir 31 = .ok (.iaload, 1) := by decide +kernel
theorem dX5_isHeir_32 : decode cX5_isHeir 32 = .ok (.iload_n 2, 1) := by decide +kernel
theorem dX5_isHeir_33 : decode cX5_isHeir 33 = .ok (.if_icmp .ne 7, 3) := by decide +kernel
theorem dX5_isHeir_36 : decode cX5_isHeir 36 = .ok (.iconst 1, 1) := by decide +kernel
theorem dX5_isHeir_37 : decode cX5_isHeir 37 = .ok (.goto 4, 3) := by decide +kernel
theorem dX5_isHeir_40 : decode cX5_isHeir 40 = .ok (.iconst 0, 1) := by decide +kernel
theorem dX5_isHeir_41 : decode cX5_isHeir 41 = .ok (.istore_n 3, 1) := by decide +kernel
theorem dX5_isHeir_42 : decode cX5_isHeir 42 = .ok (.iinc 4 1, 3) := by decide +kernel
theorem dX5_isHeir_45 : decode cX5_isHeir 45 = .ok (.goto (-40), 3) := by decide +kernel
theorem dX5_isHeir_48 : decode cX5_isHeir 48 = .ok (.iload_n 3, 1) := by decide +kernel
theorem dX5_isHeir_49 : decode cX5_isHeir 49 = .ok (.ireturn, 1) := by decide +kernel
set_option maxRecDepth 20000 in
theorem ggX5_heir_X5_isPerson : GoodIn wsX5_heir wsX5_isPerson := goodIn_r _ [7, 8, 9, 10, 6, 11, 21, 22, 23, 24, 25, 26, 27, 28, 29, 30, 31, 32, 33, 34, 35, 36, 37, 38, 39, 40, 41] (by decide +kernel) (by decide +kernel)
set_option maxRecDepth 20000 in
theorem gX5_heir_X5_isPerson : GoodIn wsX5_heir (wsV RX5 84 RX5 yX5_isPerson wsX5_isPerson) := goodIn_app (goodIn_of _ (by decide +kernel)) ggX5_heir_X5_isPerson
set_option maxRecDepth 20000 in
theorem ggX5_heir_X5_isHeir : GoodIn wsX5_heir wsX5_isHeir := goodIn_r _ [15, 2, 1, 21, 22, 23, 24, 25, 26, 27, 28, 29, 30, 31, 32, 33, 34, 35, 36, 37, 38, 39, 40, 41] (by decide +kernel) (by decide +kernel)
set_option maxRecDepth 20000 in
theorem gX5_heir_X5_isHeir : GoodIn wsX5_heir (wsV RX5 87 RX5 yX5_isHeir wsX5_isHeir) := goodIn_app (goodIn_of _ (by decide +kernel)) ggX5_heir_X5_isHeir
set_option maxRecDepth 20000 in
theorem ggX5_heir_X5_goes : GoodIn wsX5_heir wsX5_goes := goodIn_r _ [19, 20, 21, 22, 23, 24, 25, 26, 27, 28, 29, 30, 31, 32, 33, 34, 35, 36, 37, 38, 39, 40, 41] (by decide +kernel) (by decide +kernel)
set_option maxRecDepth 20000 in
theorem gX5_heir_X5_goes : GoodIn wsX5_heir (wsV RX5 80 RX5 yX5_goes wsX5_goes) := goodIn_app (goodIn_of _ (by decide +kernel)) ggX5_heir_X5_goes
theorem dX5_heir_0 : decode cX5_heir 0 = .ok (.aload_n 0, 1) := by decide +kernel
theorem dX5_heir_1 : decode cX5_heir 1 = .ok (.iload_n 1, 1) := by decide +kernel
theorem dX5_heir_2 : decode cX5_heir 2 = .ok (.invokevirtual 84, 3) := by decide +kernel
theorem dX5_heir_5 : decode cX5_heir 5 = .ok (.ifCond .eq 15, 3) := by decide +kernel
theorem dX5_heir_8 : decode cX5_heir 8 = .ok (.aload_n 0, 1) := by decide +kernel
theorem dX5_heir_9 : decode cX5_heir 9 = .ok (.iload_n 2, 1) := by decide +kernel
theorem dX5_heir_10 : decode cX5_heir 10 = .ok (.invokevirtual 84, 3) := by decide +kernel
theorem dX5_heir_13 : decode cX5_heir 13 = .ok (.ifCond .eq 7, 3) := by decide +kernel
theorem dX5_heir_16 : decode cX5_heir 16 = .ok (.iconst 1, 1) := by decide +kernel
theorem dX5_heir_17 : decode cX5_heir 17 = .ok (.goto 4, 3) := by decide +kernel
theorem dX5_heir_20 : decode cX5_heir 20 = .ok (.iconst 0, 1) := by decide +kernel
theorem dX5_heir_21 : decode cX5_heir 21 = .ok (.istore_n 3, 1) := by decide +kernel
theorem dX5_heir_22 : decode cX5_heir 22 = .ok (.aload_n 0, 1) := by decide +kernel
theorem dX5_heir_23 : decode cX5_heir 23 = .ok (.iload_n 3, 1) := by decide +kernel
theorem dX5_heir_24 : decode cX5_heir 24 = .ok (.iload_n 1, 1) := by decide +kernel
theorem dX5_heir_25 : decode cX5_heir 25 = .ok (.iload_n 2, 1) := by decide +kernel
theorem dX5_heir_26 : decode cX5_heir 26 = .ok (.if_icmp .eq 7, 3) := by decide +kernel
theorem dX5_heir_29 : decode cX5_heir 29 = .ok (.iconst 1, 1) := by decide +kernel
theorem dX5_heir_30 : decode cX5_heir 30 = .ok (.goto 4, 3) := by decide +kernel
theorem dX5_heir_33 : decode cX5_heir 33 = .ok (.iconst 0, 1) := by decide +kernel
theorem dX5_heir_34 : decode cX5_heir 34 = .ok (.iload_n 3, 1) := by decide +kernel
theorem dX5_heir_35 : decode cX5_heir 35 = .ok (.ifCond .eq 16, 3) := by decide +kernel
theorem dX5_heir_38 : decode cX5_heir 38 = .ok (.aload_n 0, 1) := by decide +kernel
theorem dX5_heir_39 : decode cX5_heir 39 = .ok (.iload_n 1, 1) := by decide +kernel
theorem dX5_heir_40 : decode cX5_heir 40 = .ok (.iload_n 2, 1) := by decide +kernel
theorem dX5_heir_41 : decode cX5_heir 41 = .ok (.invokevirtual 87, 3) := by decide +kernel
theorem dX5_heir_44 : decode cX5_heir 44 = .ok (.ifCond .ne 7, 3) := by decide +kernel
theorem dX5_heir_47 : decode cX5_heir 47 = .ok (.iconst 1, 1) := by decide +kernel
theorem dX5_heir_48 : decode cX5_heir 48 = .ok (.goto 4, 3) := by decide +kernel
theorem dX5_heir_51 : decode cX5_heir 51 = .ok (.iconst 0, 1) := by decide +kernel
theorem dX5_heir_52 : decode cX5_heir 52 = .ok (.invokevirtual 80, 3) := by decide +kernel
theorem dX5_heir_55 : decode cX5_heir 55 = .ok (.ifCond .ne 5, 3) := by decide +kernel
theorem dX5_heir_58 : decode cX5_heir 58 = .ok (.iconst 0, 1) := by decide +kernel
theorem dX5_heir_59 : decode cX5_heir 59 = .ok (.ireturn, 1) := by decide +kernel
theorem dX5_heir_60 : decode cX5_heir 60 = .ok (.aload_n 0, 1) := by decide +kernel
theorem dX5_heir_61 : decode cX5_heir 61 = .ok (.getfield 21, 3) := by decide +kernel
theorem dX5_heir_64 : decode cX5_heir 64 = .ok (.bipush 12, 2) := by decide +kernel
theorem dX5_heir_66 : decode cX5_heir 66 = .ok (.iload_n 1, 1) := by decide +kernel
theorem dX5_heir_67 : decode cX5_heir 67 = .ok (.imul, 1) := by decide +kernel
theorem dX5_heir_68 : decode cX5_heir 68 = .ok (.aload_n 0, 1) := by decide +kernel
theorem dX5_heir_69 : decode cX5_heir 69 = .ok (.getfield 24, 3) := by decide +kernel
theorem dX5_heir_72 : decode cX5_heir 72 = .ok (.iload_n 1, 1) := by decide +kernel
theorem dX5_heir_73 : decode cX5_heir 73 = .ok (.iaload, 1) := by decide +kernel
theorem dX5_heir_74 : decode cX5_heir 74 = .ok (.iadd, 1) := by decide +kernel
theorem dX5_heir_75 : decode cX5_heir 75 = .ok (.iload_n 2, 1) := by decide +kernel
theorem dX5_heir_76 : decode cX5_heir 76 = .ok (.iastore, 1) := by decide +kernel
theorem dX5_heir_77 : decode cX5_heir 77 = .ok (.aload_n 0, 1) := by decide +kernel
theorem dX5_heir_78 : decode cX5_heir 78 = .ok (.getfield 24, 3) := by decide +kernel
theorem dX5_heir_81 : decode cX5_heir 81 = .ok (.iload_n 1, 1) := by decide +kernel
theorem dX5_heir_82 : decode cX5_heir 82 = .ok (.dup2, 1) := by decide +kernel
theorem dX5_heir_83 : decode cX5_heir 83 = .ok (.iaload, 1) := by decide +kernel
theorem dX5_heir_84 : decode cX5_heir 84 = .ok (.iconst 1, 1) := by decide +kernel
theorem dX5_heir_85 : decode cX5_heir 85 = .ok (.iadd, 1) := by decide +kernel
theorem dX5_heir_86 : decode cX5_heir 86 = .ok (.iastore, 1) := by decide +kernel
theorem dX5_heir_87 : decode cX5_heir 87 = .ok (.aload_n 0, 1) := by decide +kernel
theorem dX5_heir_88 : decode cX5_heir 88 = .ok (.getfield 24, 3) := by decide +kernel
theorem dX5_heir_91 : decode cX5_heir 91 = .ok (.iload_n 1, 1) := by decide +kernel
theorem dX5_heir_92 : decode cX5_heir 92 = .ok (.iaload, 1) := by decide +kernel
theorem dX5_heir_93 : decode cX5_heir 93 = .ok (.ireturn, 1) := by decide +kernel
set_option maxRecDepth 20000 in
theorem ggX5_persecution_X5_in : GoodIn wsX5_persecution wsX5_in := goodIn_r _ [6] (by decide +kernel) (by decide +kernel)
set_option maxRecDepth 20000 in
theorem gX5_persecution_X5_in : GoodIn wsX5_persecution (va_wsS RX5 69 yX5_in wsX5_in) := goodIn_app (goodIn_of _ (by decide +kernel)) ggX5_persecution_X5_in
set_option maxRecDepth 20000 in
theorem ggX5_persecution_X5_isLand : GoodIn wsX5_persecution wsX5_isLand := goodIn_r _ [9, 3, 4, 5, 6] (by decide +kernel) (by decide +kernel)
set_option maxRecDepth 20000 in
theorem gX5_persecution_X5_isLand : GoodIn wsX5_persecution (va_wsS RX5 91 yX5_isLand wsX5_isLand) := goodIn_app (goodIn_of _ (by decide +kernel)) ggX5_persecution_X5_isLand
set_option maxRecDepth 20000 in
theorem ggX5_persecution_X5_goes : GoodIn wsX5_persecution wsX5_goes := goodIn_r _ [13, 14, 15, 16, 17, 18, 19, 20, 21, 22, 23, 24, 25, 26, 27, 28, 29, 30, 31, 32, 33, 34, 35] (by decide +kernel) (by decide +kernel)
set_option maxRecDepth 20000 in
theorem gX5_persecution_X5_goes : GoodIn wsX5_persecution (wsV RX5 80 RX5 yX5_goes wsX5_goes) := goodIn_app (goodIn_of _ (by decide +kernel)) ggX5_persecution_X5_goes
theorem dX5_persecution_0 : decode cX5_persecution 0 = .ok (.iload_n 1, 1) := by decide +kernel
theorem dX5_persecution_1 : decode cX5_persecution 1 = .ok (.iconst 0, 1) := by decide +kernel
theorem dX5_persecution_2 : decode cX5_persecution 2 = .ok (.iconst 3, 1) := by decide +kernel
theorem dX5_persecution_3 : decode cX5_persecution 3 = .ok (.invokestatic 69, 3) := by decide +kernel
theorem dX5_persecution_6 : decode cX5_persecution 6 = .ok (.ifCond .eq 14, 3) := by decide +kernel
theorem dX5_persecution_9 : decode cX5_persecution 9 = .ok (.iload_n 2, 1) := by decide +kernel
theorem dX5_persecution_10 : decode cX5_persecution 10 = .ok (.invokestatic 91, 3) := by decide +kernel
theorem dX5_persecution_13 : decode cX5_persecution 13 = .ok (.ifCond .eq 7, 3) := by decide +kernel
theorem dX5_persecution_16 : decode cX5_persecution 16 = .ok (.iconst 1, 1) := by decide +kernel
theorem dX5_persecution_17 : decode cX5_persecution 17 = .ok (.goto 4, 3) := by decide +kernel
theorem dX5_persecution_20 : decode cX5_persecution 20 = .ok (.iconst 0, 1) := by decide +kernel
theorem dX5_persecution_21 : decode cX5_persecution 21 = .ok (.istore 5, 2) := by decide +kernel
theorem dX5_persecution_23 : decode cX5_persecution 23 = .ok (.aload_n 0, 1) := by decide +kernel
theorem dX5_persecution_24 : decode cX5_persecution 24 = .ok (.iload 5, 2) := by decide +kernel
theorem dX5_persecution_26 : decode cX5_persecution 26 = .ok (.iload_n 3, 1) := by decide +kernel
theorem dX5_persecution_27 : decode cX5_persecution 27 = .ok (.sipush 1900, 3) := by decide +kernel
theorem dX5_persecution_30 : decode cX5_persecution 30 = .ok (.sipush 2100, 3) := by decide +kernel
theorem dX5_persecution_33 : decode cX5_persecution 33 = .ok (.invokestatic 69, 3) := by decide +kernel
theorem dX5_persecution_36 : decode cX5_persecution 36 = .ok (.ifCond .eq 19, 3) := by decide +kernel
theorem dX5_persecution_39 : decode cX5_persecution 39 = .ok (.iload 4, 2) := by decide +kernel
theorem dX5_persecution_41 : decode cX5_persecution 41 = .ok (.iload_n 3, 1) := by decide +kernel
theorem dX5_persecution_42 : decode cX5_persecution 42 = .ok (.sipush 2100, 3) := by decide +kernel
theorem dX5_persecution_45 : decode cX5_persecution 45 = .ok (.invokestatic 69, 3) := by decide +kernel
theorem dX5_persecution_48 : decode cX5_persecution 48 = .ok (.ifCond .eq 7, 3) := by decide +kernel
theorem dX5_persecution_51 : decode cX5_persecution 51 = .ok (.iconst 1, 1) := by decide +kernel
theorem dX5_persecution_52 : decode cX5_persecution 52 = .ok (.goto 4, 3) := by decide +kernel
theorem dX5_persecution_55 : decode cX5_persecution 55 = .ok (.iconst 0, 1) := by decide +kernel
theorem dX5_persecution_56 : decode cX5_persecution 56 = .ok (.aload_n 0, 1) := by decide +kernel
theorem dX5_persecution_57 : decode cX5_persecution 57 = .ok (.getfield 94, 3) := by decide +kernel
theorem dX5_persecution_60 : decode cX5_persecution 60 = .ok (.bipush 20, 2) := by decide +kernel
theorem dX5_persecution_62 : decode cX5_persecution 62 = .ok (.if_icmp .ge 7, 3) := by decide +kernel
theorem dX5_persecution_65 : decode cX5_persecution 65 = .ok (.iconst 1, 1) := by decide +kernel
theorem dX5_persecution_66 : decode cX5_persecution 66 = .ok (.goto 4, 3) := by decide +kernel
theorem dX5_persecution_69 : decode cX5_persecution 69 = .ok (.iconst 0, 1) := by decide +kernel
theorem dX5_persecution_70 : decode cX5_persecution 70 = .ok (.invokevirtual 80, 3) := by decide +kernel
theorem dX5_persecution_73 : decode cX5_persecution 73 = .ok (.ifCond .ne 5, 3) := by decide +kernel
theorem dX5_persecution_76 : decode cX5_persecution 76 = .ok (.iconst 0, 1) := by decide +kernel
theorem dX5_persecution_77 : decode cX5_persecution 77 = .ok (.ireturn, 1) := by decide +kernel
theorem dX5_persecution_78 : decode cX5_persecution 78 = .ok (.iconst 4, 1) := by decide +kernel
theorem dX5_persecution_79 : decode cX5_persecution 79 = .ok (.aload_n 0, 1) := by decide +kernel
theorem dX5_persecution_80 : decode cX5_persecution 80 = .ok (.getfield 94, 3) := by decide +kernel
theorem dX5_persecution_83 : decode cX5_persecution 83 = .ok (.imul, 1) := by decide +kernel
theorem dX5_persecution_84 : decode cX5_persecution 84 = .ok (.istore 6, 2) := by decide +kernel
theorem dX5_persecution_86 : decode cX5_persecution 86 = .ok (.aload_n 0, 1) := by decide +kernel
theorem dX5_persecution_87 : decode cX5_persecution 87 = .ok (.getfield 27, 3) := by decide +kernel
theorem dX5_persecution_90 : decode cX5_persecution 90 = .ok (.iload 6, 2) := by decide +kernel
theorem dX5_persecution_92 : decode cX5_persecution 92 = .ok (.iload_n 1, 1) := by decide +kernel
theorem dX5_persecution_93 : decode cX5_persecution 93 = .ok (.iastore, 1) := by decide +kernel
theorem dX5_persecution_94 : decode cX5_persecution 94 = .ok (.aload_n 0, 1) := by decide +kernel
theorem dX5_persecution_95 : decode cX5_persecution 95 = .ok (.getfield 27, 3) := by decide +kernel
theorem dX5_persecution_98 : decode cX5_persecution 98 = .ok (.iload 6, 2) := by decide +kernel
theorem dX5_persecution_100 : decode cX5_persecution 100 = .ok (.iconst 1, 1) := by decide +kernel
theorem dX5_persecution_101 : decode cX5_persecution 101 = .ok (.iadd, 1) := by decide +kernel
theorem dX5_persecution_102 : decode cX5_persecution 102 = .ok (.iload_n 2, 1) := by decide +kernel
theorem dX5_persecution_103 : decode cX5_persecution 103 = .ok (.iastore, 1) := by decide +kernel
theorem dX5_persecution_104 : decode cX5_persecution 104 = .ok (.aload_n 0, 1) := by decide +kernel
theorem dX5_persecution_105 : decode cX5_persecution 105 = .ok (.getfield 27, 3) := by decide +kernel
theorem dX5_persecution_108 : decode cX5_persecution 108 = .ok (.iload 6, 2) := by decide +kernel
theorem dX5_persecution_110 : decode cX5_persecution 110 = .ok (.iconst 2, 1) := by decide +kernel
theorem dX5_persecution_111 : decode cX5_persecution 111 = .ok (.iadd, 1) := by decide +kernel
theorem dX5_persecution_112 : decode cX5_persecution 112 = .ok (.iload_n 3, 1) := by decide +kernel
theorem dX5_persecution_113 : decode cX5_persecution 113 = .ok (.iastore, 1) := by decide +kernel
theorem dX5_persecution_114 : decode cX5_persecution 114 = .ok (.aload_n 0, 1) := by decide +kernel
theorem dX5_persecution_115 : decode cX5_persecution 115 = .ok (.getfield 27, 3) := by decide +kernel
theorem dX5_persecution_118 : decode cX5_persecution 118 = .ok (.iload 6, 2) := by decide +kernel
theorem dX5_persecution_120 : decode cX5_persecution 120 = .ok (.iconst 3, 1) := by decide +kernel
theorem dX5_persecution_121 : decode cX5_persecution 121 = .ok (.iadd, 1) := by decide +kernel
theorem dX5_persecution_122 : decode cX5_persecution 122 = .ok (.iload 4, 2) := by decide +kernel
theorem dX5_persecution_124 : decode cX5_persecution 124 = .ok (.iastore, 1) := by decide +kernel
theorem dX5_persecution_125 : decode cX5_persecution 125 = .ok (.aload_n 0, 1) := by decide +kernel
theorem dX5_persecution_126 : decode cX5_persecution 126 = .ok (.dup, 1) := by decide +kernel
theorem dX5_persecution_127 : decode cX5_persecution 127 = .ok (.getfield 94, 3) := by decide +kernel
theorem dX5_persecution_130 : decode cX5_persecution 130 = .ok (.iconst 1, 1) := by decide +kernel
theorem dX5_persecution_131 : decode cX5_persecution 131 = .ok (.iadd, 1) := by decide +kernel
theorem dX5_persecution_132 : decode cX5_persecution 132 = .ok (.putfield 94, 3) := by decide +kernel
theorem dX5_persecution_135 : decode cX5_persecution 135 = .ok (.aload_n 0, 1) := by decide +kernel
theorem dX5_persecution_136 : decode cX5_persecution 136 = .ok (.getfield 94, 3) := by decide +kernel
theorem dX5_persecution_139 : decode cX5_persecution 139 = .ok (.ireturn, 1) := by decide +kernel
set_option maxRecDepth 20000 in
theorem ggX5_faith_X5_isLand : GoodIn wsX5_faith wsX5_isLand := goodIn_r _ [5, 6, 7, 4, 8] (by decide +kernel) (by decide +kernel)
set_option maxRecDepth 20000 in
theorem gX5_faith_X5_isLand : GoodIn wsX5_faith (va_wsS RX5 91 yX5_isLand wsX5_isLand) := goodIn_app (goodIn_of _ (by decide +kernel)) ggX5_faith_X5_isLand
set_option maxRecDepth 20000 in
theorem ggX5_faith_X5_in : GoodIn wsX5_faith wsX5_in := goodIn_r _ [8] (by decide +kernel) (by decide +kernel)
set_option maxRecDepth 20000 in
theorem gX5_faith_X5_in : GoodIn wsX5_faith (va_wsS RX5 69 yX5_in wsX5_in) := goodIn_app (goodIn_of _ (by decide +kernel)) ggX5_faith_X5_in
set_option maxRecDepth 20000 in
theorem ggX5_faith_X5_goes : GoodIn wsX5_faith wsX5_goes := goodIn_r _ [12, 13, 14, 15, 16, 17, 18, 19, 20, 21, 22, 23, 24, 25, 26, 27, 28, 29, 30, 31, 32, 33, 34] (by decide +kernel) (by decide +kernel)
set_option maxRecDepth 20000 in
theorem gX5_faith_X5_goes : GoodIn wsX5_faith (wsV RX5 80 RX5 yX5_goes wsX5_goes) := goodIn_app (goodIn_of _ (by decide +kernel)) ggX5_faith_X5_goes
theorem dX5_faith_0 : decode cX5_faith 0 = .ok (.aload_n 0, 1) := by decide +kernel
theorem dX5_faith_1 : decode cX5_faith 1 = .ok (.iload_n 1, 1) := by decide +kernel
theorem dX5_faith_2 : decode cX5_faith 2 = .ok (.invokestatic 91, 3) := by decide +kernel
theorem dX5_faith_5 : decode cX5_faith 5 = .ok (.iload_n 2, 1) := by decide +kernel
theorem dX5_faith_6 : decode cX5_faith 6 = .ok (.iconst 0, 1) := by decide +kernel
theorem dX5_faith_7 : decode cX5_faith 7 = .ok (.bipush 60, 2) := by decide +kernel
theorem dX5_faith_9 : decode cX5_faith 9 = .ok (.invokestatic 69, 3) := by decide +kernel
theorem dX5_faith_12 : decode cX5_faith 12 = .ok (.iconst 1, 1) := by decide +kernel
theorem dX5_faith_13 : decode cX5_faith 13 = .ok (.invokevirtual 80, 3) := by decide +kernel
theorem dX5_faith_16 : decode cX5_faith 16 = .ok (.ifCond .ne 5, 3) := by decide +kernel
theorem dX5_faith_19 : decode cX5_faith 19 = .ok (.iconst 0, 1) := by decide +kernel
theorem dX5_faith_20 : decode cX5_faith 20 = .ok (.ireturn, 1) := by decide +kernel
theorem dX5_faith_21 : decode cX5_faith 21 = .ok (.aload_n 0, 1) := by decide +kernel
theorem dX5_faith_22 : decode cX5_faith 22 = .ok (.getfield 30, 3) := by decide +kernel
theorem dX5_faith_25 : decode cX5_faith 25 = .ok (.iload_n 1, 1) := by decide +kernel
theorem dX5_faith_26 : decode cX5_faith 26 = .ok (.iaload, 1) := by decide +kernel
theorem dX5_faith_27 : decode cX5_faith 27 = .ok (.istore_n 3, 1) := by decide +kernel
theorem dX5_faith_28 : decode cX5_faith 28 = .ok (.aload_n 0, 1) := by decide +kernel
theorem dX5_faith_29 : decode cX5_faith 29 = .ok (.getfield 30, 3) := by decide +kernel
theorem dX5_faith_32 : decode cX5_faith 32 = .ok (.iload_n 1, 1) := by decide +kernel
theorem dX5_faith_33 : decode cX5_faith 33 = .ok (.iload_n 2, 1) := by decide +kernel
theorem dX5_faith_34 : decode cX5_faith 34 = .ok (.iastore, 1) := by decide +kernel
theorem dX5_faith_35 : decode cX5_faith 35 = .ok (.iload_n 3, 1) := by decide +kernel
theorem dX5_faith_36 : decode cX5_faith 36 = .ok (.ireturn, 1) := by decide +kernel
set_option maxRecDepth 20000 in
theorem ggX5_now_X5_in : GoodIn wsX5_now wsX5_in := goodIn_r _ [5] (by decide +kernel) (by decide +kernel)
set_option maxRecDepth 20000 in
theorem gX5_now_X5_in : GoodIn wsX5_now (va_wsS RX5 69 yX5_in wsX5_in) := goodIn_app (goodIn_of _ (by decide +kernel)) ggX5_now_X5_in
set_option maxRecDepth 20000 in
theorem ggX5_now_X5_goes : GoodIn wsX5_now wsX5_goes := goodIn_r _ [9, 10, 11, 12, 13, 14, 15, 16, 17, 18, 19, 20, 21, 22, 23, 24, 25, 26, 27, 28, 29, 30, 31] (by decide +kernel) (by decide +kernel)
set_option maxRecDepth 20000 in
theorem gX5_now_X5_goes : GoodIn wsX5_now (wsV RX5 80 RX5 yX5_goes wsX5_goes) := goodIn_app (goodIn_of _ (by decide +kernel)) ggX5_now_X5_goes
theorem dX5_now_0 : decode cX5_now 0 = .ok (.aload_n 0, 1) := by decide +kernel
theorem dX5_now_1 : decode cX5_now 1 = .ok (.iload_n 1, 1) := by decide +kernel
theorem dX5_now_2 : decode cX5_now 2 = .ok (.aload_n 0, 1) := by decide +kernel
theorem dX5_now_3 : decode cX5_now 3 = .ok (.getfield 7, 3) := by decide +kernel
theorem dX5_now_6 : decode cX5_now 6 = .ok (.sipush 2100, 3) := by decide +kernel
theorem dX5_now_9 : decode cX5_now 9 = .ok (.invokestatic 69, 3) := by decide +kernel
theorem dX5_now_12 : decode cX5_now 12 = .ok (.iconst 1, 1) := by decide +kernel
theorem dX5_now_13 : decode cX5_now 13 = .ok (.iconst 1, 1) := by decide +kernel
theorem dX5_now_14 : decode cX5_now 14 = .ok (.invokevirtual 80, 3) := by decide +kernel
theorem dX5_now_17 : decode cX5_now 17 = .ok (.ifCond .ne 5, 3) := by decide +kernel
theorem dX5_now_20 : decode cX5_now 20 = .ok (.iconst 0, 1) := by decide +kernel
theorem dX5_now_21 : decode cX5_now 21 = .ok (.ireturn, 1) := by decide +kernel
theorem dX5_now_22 : decode cX5_now 22 = .ok (.aload_n 0, 1) := by decide +kernel
theorem dX5_now_23 : decode cX5_now 23 = .ok (.getfield 7, 3) := by decide +kernel
theorem dX5_now_26 : decode cX5_now 26 = .ok (.istore_n 2, 1) := by decide +kernel
theorem dX5_now_27 : decode cX5_now 27 = .ok (.aload_n 0, 1) := by decide +kernel
theorem dX5_now_28 : decode cX5_now 28 = .ok (.iload_n 1, 1) := by decide +kernel
theorem dX5_now_29 : decode cX5_now 29 = .ok (.putfield 7, 3) := by decide +kernel
theorem dX5_now_32 : decode cX5_now 32 = .ok (.iload_n 2, 1) := by decide +kernel
theorem dX5_now_33 : decode cX5_now 33 = .ok (.ireturn, 1) := by decide +kernel
set_option maxRecDepth 20000 in
theorem ggX5_persecutes_X5_in : GoodIn wsX5_persecutes wsX5_in := goodIn_r _ [6] (by decide +kernel) (by decide +kernel)
set_option maxRecDepth 20000 in
theorem gX5_persecutes_X5_in : GoodIn wsX5_persecutes (va_wsS RX5 69 yX5_in wsX5_in) := goodIn_app (goodIn_of _ (by decide +kernel)) ggX5_persecutes_X5_in
theorem dX5_persecutes_0 : decode cX5_persecutes 0 = .ok (.iconst 0, 1) := by decide +kernel
theorem dX5_persecutes_1 : decode cX5_persecutes 1 = .ok (.istore 4, 2) := by decide +kernel
theorem dX5_persecutes_3 : decode cX5_persecutes 3 = .ok (.iconst 0, 1) := by decide +kernel
theorem dX5_persecutes_4 : decode cX5_persecutes 4 = .ok (.istore 5, 2) := by decide +kernel
theorem dX5_persecutes_6 : decode cX5_persecutes 6 = .ok (.iload 5, 2) := by decide +kernel
theorem dX5_persecutes_8 : decode cX5_persecutes 8 = .ok (.aload_n 0, 1) := by decide +kernel
theorem dX5_persecutes_9 : decode cX5_persecutes 9 = .ok (.getfield 94, 3) := by decide +kernel
theorem dX5_persecutes_12 : decode cX5_persecutes 12 = .ok (.if_icmp .ge 78, 3) := by decide +kernel
theorem dX5_persecutes_15 : decode cX5_persecutes 15 = .ok (.iload 4, 2) := by decide +kernel
theorem dX5_persecutes_17 : decode cX5_persecutes 17 = .ok (.ifCond .ne 60, 3) := by decide +kernel
theorem dX5_persecutes_20 : decode cX5_persecutes 20 = .ok (.aload_n 0, 1) := by decide +kernel
theorem dX5_persecutes_21 : decode cX5_persecutes 21 = .ok (.getfield 27, 3) := by decide +kernel
theorem dX5_persecutes_24 : decode cX5_persecutes 24 = .ok (.iconst 4, 1) := by decide +kernel
theorem dX5_persecutes_25 : decode cX5_persecutes 25 = .ok (.iload 5, 2) := by decide +kernel
theorem dX5_persecutes_27 : decode cX5_persecutes 27 = .ok (.imul, 1) := by decide +kernel
theorem dX5_persecutes_28 : decode cX5_persecutes 28 = .ok (.iaload, 1) := by decide +kernel
theorem dX5_persecutes_29 : decode cX5_persecutes 29 = .ok (.iload_n 1, 1) := by decide +kernel
theorem dX5_persecutes_30 : decode cX5_persecutes 30 = .ok (.if_icmp .ne 51, 3) := by decide +kernel
theorem dX5_persecutes_33 : decode cX5_persecutes 33 = .ok (.aload_n 0, 1) := by decide +kernel
theorem dX5_persecutes_34 : decode cX5_persecutes 34 = .ok (.getfield 27, 3) := by decide +kernel
theorem dX5_persecutes_37 : decode cX5_persecutes 37 = .ok (.iconst 4, 1) := by decide +kernel
theorem dX5_persecutes_38 : decode cX5_persecutes 38 = .ok (.iload 5, 2) := by decide +kernel
theorem dX5_persecutes_40 : decode cX5_persecutes 40 = .ok (.imul, 1) := by decide +kernel
theorem dX5_persecutes_41 : decode cX5_persecutes 41 = .ok (.iconst 1, 1) := by decide +kernel
theorem dX5_persecutes_42 : decode cX5_persecutes 42 = .ok (.iadd, 1) := by decide +kernel
theorem dX5_persecutes_43 : decode cX5_persecutes 43 = .ok (.iaload, 1) := by decide +kernel
theorem dX5_persecutes_44 : decode cX5_persecutes 44 = .ok (.iload_n 2, 1) := by decide +kernel
theorem dX5_persecutes_45 : decode cX5_persecutes 45 = .ok (.if_icmp .ne 36, 3) := by decide +kernel
theorem dX5_persecutes_48 : decode cX5_persecutes 48 = .ok (.iload_n 3, 1) := by decide +kernel
theorem dX5_persecutes_49 : decode cX5_persecutes 49 = .ok (.aload_n 0, 1) := by decide +kernel
theorem dX5_persecutes_50 : decode cX5_persecutes 50 = .ok (.getfield 27, 3) := by decide +kernel
theorem dX5_persecutes_53 : decode cX5_persecutes 53 = .ok (.iconst 4, 1) := by decide +kernel
theorem dX5_persecutes_54 : decode cX5_persecutes 54 = .ok (.iload 5, 2) := by decide +kernel
theorem dX5_persecutes_56 : decode cX5_persecutes 56 = .ok (.imul, 1) := by decide +kernel
theorem dX5_persecutes_57 : decode cX5_persecutes 57 = .ok (.iconst 2, 1) := by decide +kernel
theorem dX5_persecutes_58 : decode cX5_persecutes 58 = .ok (.iadd, 1) := by decide +kernel
theorem dX5_persecutes_59 : decode cX5_persecutes 59 = .ok (.iaload, 1) := by decide +kernel
theorem dX5_persecutes_60 : decode cX5_persecutes 60 = .ok (.aload_n 0, 1) := by decide +kernel
theorem dX5_persecutes_61 : decode cX5_persecutes 61 = .ok (.getfield 27, 3) := by decide +kernel
