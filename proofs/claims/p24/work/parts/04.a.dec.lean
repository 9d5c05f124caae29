theorem dX0_init_0 : decode cX0_init 0 = .ok (.aload_n 0, 1) := by decide +kernel
theorem dX0_init_1 : decode cX0_init 1 = .ok (.invokespecial 1, 3) := by decide +kernel
theorem dX0_init_4 : decode cX0_init 4 = .ok (.aload_n 0, 1) := by decide +kernel
theorem dX0_init_5 : decode cX0_init 5 = .ok (.iload_n 1, 1) := by decide +kernel
theorem dX0_init_6 : decode cX0_init 6 = .ok (.putfield 7, 3) := by decide +kernel
theorem dX0_init_9 : decode cX0_init 9 = .ok (.aload_n 0, 1) := by decide +kernel
theorem dX0_init_10 : decode cX0_init 10 = .ok (.iload_n 2, 1) := by decide +kernel
theorem dX0_init_11 : decode cX0_init 11 = .ok (.putfield 13, 3) := by decide +kernel
theorem dX0_init_14 : decode cX0_init 14 = .ok (.aload_n 0, 1) := by decide +kernel
theorem dX0_init_15 : decode cX0_init 15 = .ok (.iload_n 3, 1) := by decide +kernel
theorem dX0_init_16 : decode cX0_init 16 = .ok (.putfield 16, 3) := by decide +kernel
theorem dX0_init_19 : decode cX0_init 19 = .ok (.aload_n 0, 1) := by decide +kernel
theorem dX0_init_20 : decode cX0_init 20 = .ok (.iload 4, 2) := by decide +kernel
theorem dX0_init_22 : decode cX0_init 22 = .ok (.putfield 19, 3) := by decide +kernel
theorem dX0_init_25 : decode cX0_init 25 = .ok (.return_, 1) := by decide +kernel
theorem dX0_strikes_0 : decode cX0_strikes 0 = .ok (.aload_n 0, 1) := by decide +kernel
theorem dX0_strikes_1 : decode cX0_strikes 1 = .ok (.getfield 7, 3) := by decide +kernel
theorem dX0_strikes_4 : decode cX0_strikes 4 = .ok (.iload_n 1, 1) := by decide +kernel
theorem dX0_strikes_5 : decode cX0_strikes 5 = .ok (.if_icmp .ne 31, 3) := by decide +kernel
theorem dX0_strikes_8 : decode cX0_strikes 8 = .ok (.aload_n 0, 1) := by decide +kernel
theorem dX0_strikes_9 : decode cX0_strikes 9 = .ok (.getfield 13, 3) := by decide +kernel
theorem dX0_strikes_12 : decode cX0_strikes 12 = .ok (.iload_n 2, 1) := by decide +kernel
theorem dX0_strikes_13 : decode cX0_strikes 13 = .ok (.if_icmp .ne 23, 3) := by decide +kernel
theorem dX0_strikes_16 : decode cX0_strikes 16 = .ok (.aload_n 0, 1) := by decide +kernel
theorem dX0_strikes_17 : decode cX0_strikes 17 = .ok (.getfield 16, 3) := by decide +kernel
theorem dX0_strikes_20 : decode cX0_strikes 20 = .ok (.iload_n 3, 1) := by decide +kernel
theorem dX0_strikes_21 : decode cX0_strikes 21 = .ok (.if_icmp .gt 15, 3) := by decide +kernel
theorem dX0_strikes_24 : decode cX0_strikes 24 = .ok (.iload_n 3, 1) := by decide +kernel
theorem dX0_strikes_25 : decode cX0_strikes 25 = .ok (.aload_n 0, 1) := by decide +kernel
theorem dX0_strikes_26 : decode cX0_strikes 26 = .ok (.getfield 19, 3) := by decide +kernel
theorem dX0_strikes_29 : decode cX0_strikes 29 = .ok (.if_icmp .gt 7, 3) := by decide +kernel
theorem dX0_strikes_32 : decode cX0_strikes 32 = .ok (.iconst 1, 1) := by decide +kernel
theorem dX0_strikes_33 : decode cX0_strikes 33 = .ok (.goto 4, 3) := by decide +kernel
theorem dX0_strikes_36 : decode cX0_strikes 36 = .ok (.iconst 0, 1) := by decide +kernel
theorem dX0_strikes_37 : decode cX0_strikes 37 = .ok (.ireturn, 1) := by decide +kernel
theorem dX1_init_0 : decode cX1_init 0 = .ok (.aload_n 0, 1) := by decide +kernel
theorem dX1_init_1 : decode cX1_init 1 = .ok (.invokespecial 3, 3) := by decide +kernel
theorem dX1_init_4 : decode cX1_init 4 = .ok (.aload_n 0, 1) := by decide +kernel
theorem dX1_init_5 : decode cX1_init 5 = .ok (.bipush 11, 2) := by decide +kernel
theorem dX1_init_7 : decode cX1_init 7 = .ok (.anewarray 9, 3) := by decide +kernel
theorem dX1_init_10 : decode cX1_init 10 = .ok (.putfield 11, 3) := by decide +kernel
theorem dX1_init_13 : decode cX1_init 13 = .ok (.aload_n 0, 1) := by decide +kernel
theorem dX1_init_14 : decode cX1_init 14 = .ok (.iload_n 1, 1) := by decide +kernel
theorem dX1_init_15 : decode cX1_init 15 = .ok (.putfield 15, 3) := by decide +kernel
theorem dX1_init_18 : decode cX1_init 18 = .ok (.aload_n 0, 1) := by decide +kernel
theorem dX1_init_19 : decode cX1_init 19 = .ok (.iload_n 2, 1) := by decide +kernel
theorem dX1_init_20 : decode cX1_init 20 = .ok (.putfield 19, 3) := by decide +kernel
theorem dX1_init_23 : decode cX1_init 23 = .ok (.return_, 1) := by decide +kernel
theorem dX1_hasToldHeir_0 : decode cX1_hasToldHeir 0 = .ok (.aload_n 0, 1) := by decide +kernel
theorem dX1_hasToldHeir_1 : decode cX1_hasToldHeir 1 = .ok (.getfield 11, 3) := by decide +kernel
theorem dX1_hasToldHeir_4 : decode cX1_hasToldHeir 4 = .ok (.astore_n 2, 1) := by decide +kernel
theorem dX1_hasToldHeir_5 : decode cX1_hasToldHeir 5 = .ok (.aload_n 2, 1) := by decide +kernel
theorem dX1_hasToldHeir_6 : decode cX1_hasToldHeir 6 = .ok (.arraylength, 1) := by decide +kernel
theorem dX1_hasToldHeir_7 : decode cX1_hasToldHeir 7 = .ok (.istore_n 3, 1) := by decide +kernel
theorem dX1_hasToldHeir_8 : decode cX1_hasToldHeir 8 = .ok (.iconst 0, 1) := by decide +kernel
theorem dX1_hasToldHeir_9 : decode cX1_hasToldHeir 9 = .ok (.istore 4, 2) := by decide +kernel
theorem dX1_hasToldHeir_11 : decode cX1_hasToldHeir 11 = .ok (.iload 4, 2) := by decide +kernel
theorem dX1_hasToldHeir_13 : decode cX1_hasToldHeir 13 = .ok (.iload_n 3, 1) := by decide +kernel
theorem dX1_hasToldHeir_14 : decode cX1_hasToldHeir 14 = .ok (.if_icmp .ge 23, 3) := by decide +kernel
theorem dX1_hasToldHeir_17 : decode cX1_hasToldHeir 17 = .ok (.aload_n 2, 1) := by decide +kernel
theorem dX1_hasToldHeir_18 : decode cX1_hasToldHeir 18 = .ok (.iload 4, 2) := by decide +kernel
theorem dX1_hasToldHeir_20 : decode cX1_hasToldHeir 20 = .ok (.aaload, 1) := by decide +kernel
theorem dX1_hasToldHeir_21 : decode cX1_hasToldHeir 21 = .ok (.astore 5, 2) := by decide +kernel
theorem dX1_hasToldHeir_23 : decode cX1_hasToldHeir 23 = .ok (.aload 5, 2) := by decide +kernel
theorem dX1_hasToldHeir_25 : decode cX1_hasToldHeir 25 = .ok (.aload_n 1, 1) := by decide +kernel
theorem dX1_hasToldHeir_26 : decode cX1_hasToldHeir 26 = .ok (.if_acmp .ne 5, 3) := by decide +kernel
theorem dX1_hasToldHeir_29 : decode cX1_hasToldHeir 29 = .ok (.iconst 1, 1) := by decide +kernel
theorem dX1_hasToldHeir_30 : decode cX1_hasToldHeir 30 = .ok (.ireturn, 1) := by decide +kernel
theorem dX1_hasToldHeir_31 : decode cX1_hasToldHeir 31 = .ok (.iinc 4 1, 3) := by decide +kernel
theorem dX1_hasToldHeir_34 : decode cX1_hasToldHeir 34 = .ok (.goto (-23), 3) := by decide +kernel
theorem dX1_hasToldHeir_37 : decode cX1_hasToldHeir 37 = .ok (.iconst 0, 1) := by decide +kernel
theorem dX1_hasToldHeir_38 : decode cX1_hasToldHeir 38 = .ok (.ireturn, 1) := by decide +kernel
theorem dX2_init_0 : decode cX2_init 0 = .ok (.aload_n 0, 1) := by decide +kernel
theorem dX2_init_1 : decode cX2_init 1 = .ok (.invokespecial 1, 3) := by decide +kernel
theorem dX2_init_4 : decode cX2_init 4 = .ok (.aload_n 0, 1) := by decide +kernel
theorem dX2_init_5 : decode cX2_init 5 = .ok (.iload_n 1, 1) := by decide +kernel
theorem dX2_init_6 : decode cX2_init 6 = .ok (.putfield 7, 3) := by decide +kernel
theorem dX2_init_9 : decode cX2_init 9 = .ok (.aload_n 0, 1) := by decide +kernel
theorem dX2_init_10 : decode cX2_init 10 = .ok (.aload_n 2, 1) := by decide +kernel
theorem dX2_init_11 : decode cX2_init 11 = .ok (.putfield 13, 3) := by decide +kernel
theorem dX2_init_14 : decode cX2_init 14 = .ok (.aload_n 0, 1) := by decide +kernel
theorem dX2_init_15 : decode cX2_init 15 = .ok (.iload_n 3, 1) := by decide +kernel
theorem dX2_init_16 : decode cX2_init 16 = .ok (.putfield 17, 3) := by decide +kernel
theorem dX2_init_19 : decode cX2_init 19 = .ok (.aload_n 0, 1) := by decide +kernel
theorem dX2_init_20 : decode cX2_init 20 = .ok (.iload 4, 2) := by decide +kernel
theorem dX2_init_22 : decode cX2_init 22 = .ok (.putfield 20, 3) := by decide +kernel
theorem dX2_init_25 : decode cX2_init 25 = .ok (.aload_n 0, 1) := by decide +kernel
theorem dX2_init_26 : decode cX2_init 26 = .ok (.iload 5, 2) := by decide +kernel
theorem dX2_init_28 : decode cX2_init 28 = .ok (.putfield 23, 3) := by decide +kernel
theorem dX2_init_31 : decode cX2_init 31 = .ok (.return_, 1) := by decide +kernel
theorem dX3_init_0 : decode cX3_init 0 = .ok (.aload_n 0, 1) := by decide +kernel
theorem dX3_init_1 : decode cX3_init 1 = .ok (.invokespecial 3, 3) := by decide +kernel
theorem dX3_init_4 : decode cX3_init 4 = .ok (.aload_n 0, 1) := by decide +kernel
theorem dX3_init_5 : decode cX3_init 5 = .ok (.bipush 8, 2) := by decide +kernel
theorem dX3_init_7 : decode cX3_init 7 = .ok (.anewarray 9, 3) := by decide +kernel
theorem dX3_init_10 : decode cX3_init 10 = .ok (.putfield 11, 3) := by decide +kernel
theorem dX3_init_13 : decode cX3_init 13 = .ok (.aload_n 0, 1) := by decide +kernel
theorem dX3_init_14 : decode cX3_init 14 = .ok (.iload_n 1, 1) := by decide +kernel
theorem dX3_init_15 : decode cX3_init 15 = .ok (.putfield 17, 3) := by decide +kernel
theorem dX3_init_18 : decode cX3_init 18 = .ok (.aload_n 0, 1) := by decide +kernel
theorem dX3_init_19 : decode cX3_init 19 = .ok (.iload_n 2, 1) := by decide +kernel
theorem dX3_init_20 : decode cX3_init 20 = .ok (.putfield 21, 3) := by decide +kernel
theorem dX3_init_23 : decode cX3_init 23 = .ok (.return_, 1) := by decide +kernel
set_option maxRecDepth 20000 in
theorem ggX3_likenessTo_J6_bitCount_0f7a4 : GoodIn wsX3_likenessTo wsJ6_bitCount_0f7a4 := goodIn_r _ [10, 11, 12, 13] (by decide +kernel) (by decide +kernel)
set_option maxRecDepth 20000 in
theorem gX3_likenessTo_J6_bitCount_0f7a4 : GoodIn wsX3_likenessTo (va_wsS RX3 24 yJ6_bitCount_0f7a4 wsJ6_bitCount_0f7a4) := goodIn_app (goodIn_of _ (by decide +kernel)) ggX3_likenessTo_J6_bitCount_0f7a4
theorem dX3_likenessTo_0 : decode cX3_likenessTo 0 = .ok (.aload_n 0, 1) := by decide +kernel
theorem dX3_likenessTo_1 : decode cX3_likenessTo 1 = .ok (.getfield 17, 3) := by decide +kernel
theorem dX3_likenessTo_4 : decode cX3_likenessTo 4 = .ok (.aload_n 1, 1) := by decide +kernel
theorem dX3_likenessTo_5 : decode cX3_likenessTo 5 = .ok (.getfield 17, 3) := by decide +kernel
theorem dX3_likenessTo_8 : decode cX3_likenessTo 8 = .ok (.iand, 1) := by decide +kernel
theorem dX3_likenessTo_9 : decode cX3_likenessTo 9 = .ok (.invokestatic 24, 3) := by decide +kernel
theorem dX3_likenessTo_12 : decode cX3_likenessTo 12 = .ok (.istore_n 2, 1) := by decide +kernel
theorem dX3_likenessTo_13 : decode cX3_likenessTo 13 = .ok (.aload_n 0, 1) := by decide +kernel
theorem dX3_likenessTo_14 : decode cX3_likenessTo 14 = .ok (.getfield 17, 3) := by decide +kernel
theorem dX3_likenessTo_17 : decode cX3_likenessTo 17 = .ok (.aload_n 1, 1) := by decide +kernel
theorem dX3_likenessTo_18 : decode cX3_likenessTo 18 = .ok (.getfield 17, 3) := by decide +kernel
theorem dX3_likenessTo_21 : decode cX3_likenessTo 21 = .ok (.ixor, 1) := by decide +kernel
theorem dX3_likenessTo_22 : decode cX3_likenessTo 22 = .ok (.invokestatic 24, 3) := by decide +kernel
theorem dX3_likenessTo_25 : decode cX3_likenessTo 25 = .ok (.istore_n 3, 1) := by decide +kernel
theorem dX3_likenessTo_26 : decode cX3_likenessTo 26 = .ok (.bipush 10, 2) := by decide +kernel
theorem dX3_likenessTo_28 : decode cX3_likenessTo 28 = .ok (.iload_n 2, 1) := by decide +kernel
theorem dX3_likenessTo_29 : decode cX3_likenessTo 29 = .ok (.imul, 1) := by decide +kernel
theorem dX3_likenessTo_30 : decode cX3_likenessTo 30 = .ok (.iconst 5, 1) := by decide +kernel
theorem dX3_likenessTo_31 : decode cX3_likenessTo 31 = .ok (.iload_n 3, 1) := by decide +kernel
theorem dX3_likenessTo_32 : decode cX3_likenessTo 32 = .ok (.imul, 1) := by decide +kernel
theorem dX3_likenessTo_33 : decode cX3_likenessTo 33 = .ok (.isub, 1) := by decide +kernel
theorem dX3_likenessTo_34 : decode cX3_likenessTo 34 = .ok (.aload_n 0, 1) := by decide +kernel
theorem dX3_likenessTo_35 : decode cX3_likenessTo 35 = .ok (.getfield 21, 3) := by decide +kernel
theorem dX3_likenessTo_38 : decode cX3_likenessTo 38 = .ok (.aload_n 1, 1) := by decide +kernel
theorem dX3_likenessTo_39 : decode cX3_likenessTo 39 = .ok (.getfield 21, 3) := by decide +kernel
theorem dX3_likenessTo_42 : decode cX3_likenessTo 42 = .ok (.isub, 1) := by decide +kernel
theorem dX3_likenessTo_43 : decode cX3_likenessTo 43 = .ok (.invokestatic 30, 3) := by decide +kernel
theorem dX3_likenessTo_46 : decode cX3_likenessTo 46 = .ok (.isub, 1) := by decide +kernel
theorem dX3_likenessTo_47 : decode cX3_likenessTo 47 = .ok (.ireturn, 1) := by decide +kernel
theorem dX3_lastParty_0 : decode cX3_lastParty 0 = .ok (.aload_n 0, 1) := by decide +kernel
theorem dX3_lastParty_1 : decode cX3_lastParty 1 = .ok (.getfield 35, 3) := by decide +kernel
theorem dX3_lastParty_4 : decode cX3_lastParty 4 = .ok (.ifnonnull 7, 3) := by decide +kernel
theorem dX3_lastParty_7 : decode cX3_lastParty 7 = .ok (.aconst_null, 1) := by decide +kernel
theorem dX3_lastParty_8 : decode cX3_lastParty 8 = .ok (.goto 10, 3) := by decide +kernel
theorem dX3_lastParty_11 : decode cX3_lastParty 11 = .ok (.aload_n 0, 1) := by decide +kernel
theorem dX3_lastParty_12 : decode cX3_lastParty 12 = .ok (.getfield 35, 3) := by decide +kernel
theorem dX3_lastParty_15 : decode cX3_lastParty 15 = .ok (.getfield 39, 3) := by decide +kernel
theorem dX3_lastParty_18 : decode cX3_lastParty 18 = .ok (.areturn, 1) := by decide +kernel
theorem dX3_putInOrder_0 : decode cX3_putInOrder 0 = .ok (.aload_n 0, 1) := by decide +kernel
theorem dX3_putInOrder_1 : decode cX3_putInOrder 1 = .ok (.getfield 35, 3) := by decide +kernel
theorem dX3_putInOrder_4 : decode cX3_putInOrder 4 = .ok (.astore_n 2, 1) := by decide +kernel
theorem dX3_putInOrder_5 : decode cX3_putInOrder 5 = .ok (.aload_n 2, 1) := by decide +kernel
theorem dX3_putInOrder_6 : decode cX3_putInOrder 6 = .ok (.ifnull 22, 3) := by decide +kernel
theorem dX3_putInOrder_9 : decode cX3_putInOrder 9 = .ok (.aload_n 2, 1) := by decide +kernel
theorem dX3_putInOrder_10 : decode cX3_putInOrder 10 = .ok (.getfield 43, 3) := by decide +kernel
theorem dX3_putInOrder_13 : decode cX3_putInOrder 13 = .ok (.aload_n 1, 1) := by decide +kernel
theorem dX3_putInOrder_14 : decode cX3_putInOrder 14 = .ok (.getfield 43, 3) := by decide +kernel
theorem dX3_putInOrder_17 : decode cX3_putInOrder 17 = .ok (.if_icmp .le 11, 3) := by decide +kernel
theorem dX3_putInOrder_20 : decode cX3_putInOrder 20 = .ok (.aload_n 2, 1) := by decide +kernel
theorem dX3_putInOrder_21 : decode cX3_putInOrder 21 = .ok (.getfield 46, 3) := by decide +kernel
theorem dX3_putInOrder_24 : decode cX3_putInOrder 24 = .ok (.astore_n 2, 1) := by decide +kernel
theorem dX3_putInOrder_25 : decode cX3_putInOrder 25 = .ok (.goto (-20), 3) := by decide +kernel
theorem dX3_putInOrder_28 : decode cX3_putInOrder 28 = .ok (.aload_n 2, 1) := by decide +kernel
theorem dX3_putInOrder_29 : decode cX3_putInOrder 29 = .ok (.ifnonnull 10, 3) := by decide +kernel
theorem dX3_putInOrder_32 : decode cX3_putInOrder 32 = .ok (.aload_n 0, 1) := by decide +kernel
theorem dX3_putInOrder_33 : decode cX3_putInOrder 33 = .ok (.getfield 49, 3) := by decide +kernel
theorem dX3_putInOrder_36 : decode cX3_putInOrder 36 = .ok (.goto 7, 3) := by decide +kernel
theorem dX3_putInOrder_39 : decode cX3_putInOrder 39 = .ok (.aload_n 2, 1) := by decide +kernel
theorem dX3_putInOrder_40 : decode cX3_putInOrder 40 = .ok (.getfield 52, 3) := by decide +kernel
theorem dX3_putInOrder_43 : decode cX3_putInOrder 43 = .ok (.astore_n 3, 1) := by decide +kernel
theorem dX3_putInOrder_44 : decode cX3_putInOrder 44 = .ok (.aload_n 1, 1) := by decide +kernel
theorem dX3_putInOrder_45 : decode cX3_putInOrder 45 = .ok (.aload_n 2, 1) := by decide +kernel
theorem dX3_putInOrder_46 : decode cX3_putInOrder 46 = .ok (.putfield 46, 3) := by decide +kernel
theorem dX3_putInOrder_49 : decode cX3_putInOrder 49 = .ok (.aload_n 1, 1) := by decide +kernel
theorem dX3_putInOrder_50 : decode cX3_putInOrder 50 = .ok (.aload_n 3, 1) := by decide +kernel
theorem dX3_putInOrder_51 : decode cX3_putInOrder 51 = .ok (.putfield 52, 3) := by decide +kernel
theorem dX3_putInOrder_54 : decode cX3_putInOrder 54 = .ok (.aload_n 2, 1) := by decide +kernel
theorem dX3_putInOrder_55 : decode cX3_putInOrder 55 = .ok (.ifnonnull 11, 3) := by decide +kernel
theorem dX3_putInOrder_58 : decode cX3_putInOrder 58 = .ok (.aload_n 0, 1) := by decide +kernel
theorem dX3_putInOrder_59 : decode cX3_putInOrder 59 = .ok (.aload_n 1, 1) := by decide +kernel
theorem dX3_putInOrder_60 : decode cX3_putInOrder 60 = .ok (.putfield 49, 3) := by decide +kernel
theorem dX3_putInOrder_63 : decode cX3_putInOrder 63 = .ok (.goto 8, 3) := by decide +kernel
theorem dX3_putInOrder_66 : decode cX3_putInOrder 66 = .ok (.aload_n 2, 1) := by decide +kernel
theorem dX3_putInOrder_67 : decode cX3_putInOrder 67 = .ok (.aload_n 1, 1) := by decide +kernel
theorem dX3_putInOrder_68 : decode cX3_putInOrder 68 = .ok (.putfield 52, 3) := by decide +kernel
theorem dX3_putInOrder_71 : decode cX3_putInOrder 71 = .ok (.aload_n 3, 1) := by decide +kernel
theorem dX3_putInOrder_72 : decode cX3_putInOrder 72 = .ok (.ifnonnull 11, 3) := by decide +kernel
theorem dX3_putInOrder_75 : decode cX3_putInOrder 75 = .ok (.aload_n 0, 1) := by decide +kernel
theorem dX3_putInOrder_76 : decode cX3_putInOrder 76 = .ok (.aload_n 1, 1) := by decide +kernel
theorem dX3_putInOrder_77 : decode cX3_putInOrder 77 = .ok (.putfield 35, 3) := by decide +kernel
theorem dX3_putInOrder_80 : decode cX3_putInOrder 80 = .ok (.goto 8, 3) := by decide +kernel
theorem dX3_putInOrder_83 : decode cX3_putInOrder 83 = .ok (.aload_n 3, 1) := by decide +kernel
theorem dX3_putInOrder_84 : decode cX3_putInOrder 84 = .ok (.aload_n 1, 1) := by decide +kernel
theorem dX3_putInOrder_85 : decode cX3_putInOrder 85 = .ok (.putfield 46, 3) := by decide +kernel
theorem dX3_putInOrder_88 : decode cX3_putInOrder 88 = .ok (.return_, 1) := by decide +kernel
theorem dX4_init_0 : decode cX4_init 0 = .ok (.aload_n 0, 1) := by decide +kernel
theorem dX4_init_1 : decode cX4_init 1 = .ok (.invokespecial 1, 3) := by decide +kernel
theorem dX4_init_4 : decode cX4_init 4 = .ok (.aload_n 0, 1) := by decide +kernel
theorem dX4_init_5 : decode cX4_init 5 = .ok (.bipush 12, 2) := by decide +kernel
theorem dX4_init_7 : decode cX4_init 7 = .ok (.anewarray 9, 3) := by decide +kernel
theorem dX4_init_10 : decode cX4_init 10 = .ok (.putfield 11, 3) := by decide +kernel
theorem dX4_init_13 : decode cX4_init 13 = .ok (.aload_n 0, 1) := by decide +kernel
theorem dX4_init_14 : decode cX4_init 14 = .ok (.bipush 20, 2) := by decide +kernel
theorem dX4_init_16 : decode cX4_init 16 = .ok (.anewarray 15, 3) := by decide +kernel
theorem dX4_init_19 : decode cX4_init 19 = .ok (.putfield 17, 3) := by decide +kernel
theorem dX4_init_22 : decode cX4_init 22 = .ok (.aload_n 0, 1) := by decide +kernel
theorem dX4_init_23 : decode cX4_init 23 = .ok (.iconst 5, 1) := by decide +kernel
theorem dX4_init_24 : decode cX4_init 24 = .ok (.newarray .int, 2) := by decide +kernel
theorem dX4_init_26 : decode cX4_init 26 = .ok (.putfield 21, 3) := by decide +kernel
theorem dX4_init_29 : decode cX4_init 29 = .ok (.aload_n 0, 1) := by decide +kernel
theorem dX4_init_30 : decode cX4_init 30 = .ok (.sipush 1900, 3) := by decide +kernel
theorem dX4_init_33 : decode cX4_init 33 = .ok (.putfield 25, 3) := by decide +kernel
theorem dX4_init_36 : decode cX4_init 36 = .ok (.aload_n 0, 1) := by decide +kernel
theorem dX4_init_37 : decode cX4_init 37 = .ok (.bipush 10, 2) := by decide +kernel
theorem dX4_init_39 : decode cX4_init 39 = .ok (.anewarray 29, 3) := by decide +kernel
theorem dX4_init_42 : decode cX4_init 42 = .ok (.putfield 31, 3) := by decide +kernel
theorem dX4_init_45 : decode cX4_init 45 = .ok (.return_, 1) := by decide +kernel
set_option maxRecDepth 20000 in
theorem ggX4_person_X4_requireGroup : GoodIn wsX4_person wsX4_requireGroup := goodIn_ca (goodIn_r _ [11, 12, 13] (by decide +kernel) (by decide +kernel)) (goodIn_sub (fun _ h => List.mem_cons_of_mem _ (List.mem_append_right _ h)) (by decide +kernel))
set_option maxRecDepth 20000 in
theorem gX4_person_X4_requireGroup : GoodIn wsX4_person (va_wsS RX4 35 yX4_requireGroup wsX4_requireGroup) := goodIn_app (goodIn_of _ (by decide +kernel)) ggX4_person_X4_requireGroup
set_option maxRecDepth 20000 in
theorem ggX4_person_X1_init : GoodIn wsX4_person wsX1_init := goodIn_r _ [16, 17, 18, 19, 20, 21, 22, 23, 32, 33, 34, 35, 36, 37] (by decide +kernel) (by decide +kernel)
set_option maxRecDepth 20000 in
theorem gX4_person_X1_init : GoodIn wsX4_person (wsX1_init) := ggX4_person_X1_init
theorem dX4_person_0 : decode cX4_person 0 = .ok (.iload_n 1, 1) := by decide +kernel
theorem dX4_person_1 : decode cX4_person 1 = .ok (.invokestatic 35, 3) := by decide +kernel
theorem dX4_person_4 : decode cX4_person 4 = .ok (.aload_n 0, 1) := by decide +kernel
theorem dX4_person_5 : decode cX4_person 5 = .ok (.getfield 39, 3) := by decide +kernel
theorem dX4_person_8 : decode cX4_person 8 = .ok (.bipush 12, 2) := by decide +kernel
theorem dX4_person_10 : decode cX4_person 10 = .ok (.if_icmp .lt 13, 3) := by decide +kernel
theorem dX4_person_13 : decode cX4_person 13 = .ok (.new 42, 3) := by decide +kernel
theorem dX4_person_16 : decode cX4_person 16 = .ok (.dup, 1) := by decide +kernel
theorem dX4_person_17 : decode cX4_person 17 = .ok (.ldc 44, 2) := by decide +kernel
theorem dX4_person_19 : decode cX4_person 19 = .ok (.invokespecial 46, 3) := by decide +kernel
theorem dX4_person_22 : decode cX4_person 22 = .ok (.athrow, 1) := by decide +kernel
theorem dX4_person_23 : decode cX4_person 23 = .ok (.aload_n 0, 1) := by decide +kernel
theorem dX4_person_24 : decode cX4_person 24 = .ok (.getfield 39, 3) := by decide +kernel
theorem dX4_person_27 : decode cX4_person 27 = .ok (.istore_n 2, 1) := by decide +kernel
theorem dX4_person_28 : decode cX4_person 28 = .ok (.aload_n 0, 1) := by decide +kernel
theorem dX4_person_29 : decode cX4_person 29 = .ok (.getfield 11, 3) := by decide +kernel
theorem dX4_person_32 : decode cX4_person 32 = .ok (.iload_n 2, 1) := by decide +kernel
theorem dX4_person_33 : decode cX4_person 33 = .ok (.new 9, 3) := by decide +kernel
theorem dX4_person_36 : decode cX4_person 36 = .ok (.dup, 1) := by decide +kernel
theorem dX4_person_37 : decode cX4_person 37 = .ok (.iload_n 2, 1) := by decide +kernel
theorem dX4_person_38 : decode cX4_person 38 = .ok (.iload_n 1, 1) := by decide +kernel
theorem dX4_person_39 : decode cX4_person 39 = .ok (.invokespecial 49, 3) := by decide +kernel
theorem dX4_person_42 : decode cX4_person 42 = .ok (.aastore, 1) := by decide +kernel
theorem dX4_person_43 : decode cX4_person 43 = .ok (.aload_n 0, 1) := by decide +kernel
theorem dX4_person_44 : decode cX4_person 44 = .ok (.iload_n 2, 1) := by decide +kernel
theorem dX4_person_45 : decode cX4_person 45 = .ok (.iconst 1, 1) := by decide +kernel
theorem dX4_person_46 : decode cX4_person 46 = .ok (.iadd, 1) := by decide +kernel
theorem dX4_person_47 : decode cX4_person 47 = .ok (.putfield 39, 3) := by decide +kernel
theorem dX4_person_50 : decode cX4_person 50 = .ok (.iload_n 2, 1) := by decide +kernel
theorem dX4_person_51 : decode cX4_person 51 = .ok (.ireturn, 1) := by decide +kernel
set_option maxRecDepth 20000 in
theorem ggX4_die_X4_personNumbered : GoodIn wsX4_die wsX4_personNumbered := goodIn_ca (goodIn_r _ [8, 9, 10, 11, 18, 19, 20, 21, 22, 23, 24, 25] (by decide +kernel) (by decide +kernel)) (goodIn_sub (fun _ h => List.mem_cons_of_mem _ (List.mem_append_right _ h)) (by decide +kernel))
set_option maxRecDepth 20000 in
theorem gX4_die_X4_personNumbered : GoodIn wsX4_die (wsV RX4 52 RX4 yX4_personNumbered wsX4_personNumbered) := goodIn_app (goodIn_of _ (by decide +kernel)) ggX4_die_X4_personNumbered
theorem dX4_die_0 : decode cX4_die 0 = .ok (.aload_n 0, 1) := by decide +kernel
theorem dX4_die_1 : decode cX4_die 1 = .ok (.iload_n 1, 1) := by decide +kernel
theorem dX4_die_2 : decode cX4_die 2 = .ok (.invokevirtual 52, 3) := by decide +kernel
theorem dX4_die_5 : decode cX4_die 5 = .ok (.astore_n 2, 1) := by decide +kernel
theorem dX4_die_6 : decode cX4_die 6 = .ok (.aload_n 2, 1) := by decide +kernel
theorem dX4_die_7 : decode cX4_die 7 = .ok (.getfield 56, 3) := by decide +kernel
theorem dX4_die_10 : decode cX4_die 10 = .ok (.ifCond .eq 13, 3) := by decide +kernel
theorem dX4_die_13 : decode cX4_die 13 = .ok (.new 42, 3) := by decide +kernel
theorem dX4_die_16 : decode cX4_die 16 = .ok (.dup, 1) := by decide +kernel
theorem dX4_die_17 : decode cX4_die 17 = .ok (.ldc 60, 2) := by decide +kernel
theorem dX4_die_19 : decode cX4_die 19 = .ok (.invokespecial 46, 3) := by decide +kernel
theorem dX4_die_22 : decode cX4_die 22 = .ok (.athrow, 1) := by decide +kernel
theorem dX4_die_23 : decode cX4_die 23 = .ok (.aload_n 2, 1) := by decide +kernel
theorem dX4_die_24 : decode cX4_die 24 = .ok (.iconst 1, 1) := by decide +kernel
theorem dX4_die_25 : decode cX4_die 25 = .ok (.putfield 56, 3) := by decide +kernel
theorem dX4_die_28 : decode cX4_die 28 = .ok (.return_, 1) := by decide +kernel
set_option maxRecDepth 20000 in
theorem ggX4_heir_X4_personNumbered : GoodIn wsX4_heir wsX4_personNumbered := goodIn_ca (goodIn_r _ [11, 12, 13, 14, 27, 28, 29, 30, 31, 32, 33, 34] (by decide +kernel) (by decide +kernel)) (goodIn_sub (fun _ h => List.mem_cons_of_mem _ (List.mem_append_right _ h)) (by decide +kernel))
set_option maxRecDepth 20000 in
theorem gX4_heir_X4_personNumbered : GoodIn wsX4_heir (wsV RX4 52 RX4 yX4_personNumbered wsX4_personNumbered) := goodIn_app (goodIn_of _ (by decide +kernel)) ggX4_heir_X4_personNumbered
set_option maxRecDepth 20000 in
theorem ggX4_heir_X1_hasToldHeir : GoodIn wsX4_heir wsX1_hasToldHeir := goodIn_r _ [19, 20, 21, 22, 23, 24, 25, 26] (by decide +kernel) (by decide +kernel)
set_option maxRecDepth 20000 in
theorem gX4_heir_X1_hasToldHeir : GoodIn wsX4_heir (wsV RX4 67 RX1 yX1_hasToldHeir wsX1_hasToldHeir) := goodIn_app (goodIn_of _ (by decide +kernel)) ggX4_heir_X1_hasToldHeir
theorem dX4_heir_0 : decode cX4_heir 0 = .ok (.aload_n 0, 1) := by decide +kernel
theorem dX4_heir_1 : decode cX4_heir 1 = .ok (.iload_n 1, 1) := by decide +kernel
theorem dX4_heir_2 : decode cX4_heir 2 = .ok (.invokevirtual 52, 3) := by decide +kernel
theorem dX4_heir_5 : decode cX4_heir 5 = .ok (.astore_n 3, 1) := by decide +kernel
theorem dX4_heir_6 : decode cX4_heir 6 = .ok (.aload_n 0, 1) := by decide +kernel
theorem dX4_heir_7 : decode cX4_heir 7 = .ok (.iload_n 2, 1) := by decide +kernel
theorem dX4_heir_8 : decode cX4_heir 8 = .ok (.invokevirtual 52, 3) := by decide +kernel
theorem dX4_heir_11 : decode cX4_heir 11 = .ok (.astore 4, 2) := by decide +kernel
theorem dX4_heir_13 : decode cX4_heir 13 = .ok (.aload_n 3, 1) := by decide +kernel
theorem dX4_heir_14 : decode cX4_heir 14 = .ok (.aload 4, 2) := by decide +kernel
theorem dX4_heir_16 : decode cX4_heir 16 = .ok (.if_acmp .ne 13, 3) := by decide +kernel
theorem dX4_heir_19 : decode cX4_heir 19 = .ok (.new 62, 3) := by decide +kernel
theorem dX4_heir_22 : decode cX4_heir 22 = .ok (.dup, 1) := by decide +kernel
theorem dX4_heir_23 : decode cX4_heir 23 = .ok (.ldc 64, 2) := by decide +kernel
theorem dX4_heir_25 : decode cX4_heir 25 = .ok (.invokespecial 66, 3) := by decide +kernel
theorem dX4_heir_28 : decode cX4_heir 28 = .ok (.athrow, 1) := by decide +kernel
theorem dX4_heir_29 : decode cX4_heir 29 = .ok (.aload_n 3, 1) := by decide +kernel
theorem dX4_heir_30 : decode cX4_heir 30 = .ok (.aload 4, 2) := by decide +kernel
theorem dX4_heir_32 : decode cX4_heir 32 = .ok (.invokevirtual 67, 3) := by decide +kernel
theorem dX4_heir_35 : decode cX4_heir 35 = .ok (.ifCond .ne 15, 3) := by decide +kernel
theorem dX4_heir_38 : decode cX4_heir 38 = .ok (.aload_n 3, 1) := by decide +kernel
theorem dX4_heir_39 : decode cX4_heir 39 = .ok (.getfield 71, 3) := by decide +kernel
theorem dX4_heir_42 : decode cX4_heir 42 = .ok (.aload_n 3, 1) := by decide +kernel
theorem dX4_heir_43 : decode cX4_heir 43 = .ok (.getfield 74, 3) := by decide +kernel
theorem dX4_heir_46 : decode cX4_heir 46 = .ok (.arraylength, 1) := by decide +kernel
theorem dX4_heir_47 : decode cX4_heir 47 = .ok (.if_icmp .lt 13, 3) := by decide +kernel
theorem dX4_heir_50 : decode cX4_heir 50 = .ok (.new 42, 3) := by decide +kernel
theorem dX4_heir_53 : decode cX4_heir 53 = .ok (.dup, 1) := by decide +kernel
theorem dX4_heir_54 : decode cX4_heir 54 = .ok (.ldc 77, 2) := by decide +kernel
theorem dX4_heir_56 : decode cX4_heir 56 = .ok (.invokespecial 46, 3) := by decide +kernel
theorem dX4_heir_59 : decode cX4_heir 59 = .ok (.athrow, 1) := by decide +kernel
theorem dX4_heir_60 : decode cX4_heir 60 = .ok (.aload_n 3, 1) := by decide +kernel
theorem dX4_heir_61 : decode cX4_heir 61 = .ok (.getfield 74, 3) := by decide +kernel
theorem dX4_heir_64 : decode cX4_heir 64 = .ok (.aload_n 3, 1) := by decide +kernel
theorem dX4_heir_65 : decode cX4_heir 65 = .ok (.getfield 71, 3) := by decide +kernel
theorem dX4_heir_68 : decode cX4_heir 68 = .ok (.aload 4, 2) := by decide +kernel
theorem dX4_heir_70 : decode cX4_heir 70 = .ok (.aastore, 1) := by decide +kernel
theorem dX4_heir_71 : decode cX4_heir 71 = .ok (.aload_n 3, 1) := by decide +kernel
theorem dX4_heir_72 : decode cX4_heir 72 = .ok (.dup, 1) := by decide +kernel
theorem dX4_heir_73 : decode cX4_heir 73 = .ok (.getfield 71, 3) := by decide +kernel
theorem dX4_heir_76 : decode cX4_heir 76 = .ok (.iconst 1, 1) := by decide +kernel
theorem dX4_heir_77 : decode cX4_heir 77 = .ok (.iadd, 1) := by decide +kernel
theorem dX4_heir_78 : decode cX4_heir 78 = .ok (.putfield 71, 3) := by decide +kernel
theorem dX4_heir_81 : decode cX4_heir 81 = .ok (.aload_n 3, 1) := by decide +kernel
theorem dX4_heir_82 : decode cX4_heir 82 = .ok (.getfield 71, 3) := by decide +kernel
theorem dX4_heir_85 : decode cX4_heir 85 = .ok (.ireturn, 1) := by decide +kernel
set_option maxRecDepth 20000 in
theorem ggX4_persecution_X4_requireGroup : GoodIn wsX4_persecution wsX4_requireGroup := goodIn_ca (goodIn_r _ [11, 12, 13] (by decide +kernel) (by decide +kernel)) (goodIn_sub (fun _ h => List.mem_cons_of_mem _ (List.mem_append_left _ (List.mem_append_right _ h))) (by decide +kernel))
set_option maxRecDepth 20000 in
theorem gX4_persecution_X4_requireGroup : GoodIn wsX4_persecution (va_wsS RX4 35 yX4_requireGroup wsX4_requireGroup) := goodIn_app (goodIn_of _ (by decide +kernel)) ggX4_persecution_X4_requireGroup
set_option maxRecDepth 20000 in
theorem ggX4_persecution_X4_requireLand : GoodIn wsX4_persecution wsX4_requireLand := goodIn_ca (goodIn_r _ [16, 12, 13] (by decide +kernel) (by decide +kernel)) (goodIn_sub (fun _ h => List.mem_cons_of_mem _ (List.mem_append_left _ (List.mem_append_right _ h))) (by decide +kernel))
set_option maxRecDepth 20000 in
theorem gX4_persecution_X4_requireLand : GoodIn wsX4_persecution (va_wsS RX4 79 yX4_requireLand wsX4_requireLand) := goodIn_app (goodIn_of _ (by decide +kernel)) ggX4_persecution_X4_requireLand
set_option maxRecDepth 20000 in
theorem ggX4_persecution_X4_requireRange : GoodIn wsX4_persecution wsX4_requireRange := goodIn_ca (goodIn_r _ [19, 20, 21] (by decide +kernel) (by decide +kernel)) (goodIn_sub (fun _ h => List.mem_cons_of_mem _ (List.mem_append_right _ h)) (by decide +kernel))
set_option maxRecDepth 20000 in
theorem gX4_persecution_X4_requireRange : GoodIn wsX4_persecution (va_wsS RX4 82 yX4_requireRange wsX4_requireRange) := goodIn_app (goodIn_of _ (by decide +kernel)) ggX4_persecution_X4_requireRange
set_option maxRecDepth 20000 in
theorem ggX4_persecution_X0_init : GoodIn wsX4_persecution wsX0_init := goodIn_r _ [24, 25, 26, 27, 28, 29, 30, 31, 40, 41, 42, 43] (by decide +kernel) (by decide +kernel)
set_option maxRecDepth 20000 in
theorem gX4_persecution_X0_init : GoodIn wsX4_persecution (wsX0_init) := ggX4_persecution_X0_init
theorem dX4_persecution_0 : decode cX4_persecution 0 = .ok (.iload_n 1, 1) := by decide +kernel
theorem dX4_persecution_1 : decode cX4_persecution 1 = .ok (.invokestatic 35, 3) := by decide +kernel
theorem dX4_persecution_4 : decode cX4_persecution 4 = .ok (.iload_n 2, 1) := by decide +kernel
theorem dX4_persecution_5 : decode cX4_persecution 5 = .ok (.invokestatic 79, 3) := by decide +kernel
theorem dX4_persecution_8 : decode cX4_persecution 8 = .ok (.iload_n 3, 1) := by decide +kernel
theorem dX4_persecution_9 : decode cX4_persecution 9 = .ok (.sipush 1900, 3) := by decide +kernel
theorem dX4_persecution_12 : decode cX4_persecution 12 = .ok (.sipush 2100, 3) := by decide +kernel
theorem dX4_persecution_15 : decode cX4_persecution 15 = .ok (.invokestatic 82, 3) := by decide +kernel
theorem dX4_persecution_18 : decode cX4_persecution 18 = .ok (.iload 4, 2) := by decide +kernel
theorem dX4_persecution_20 : decode cX4_persecution 20 = .ok (.iload_n 3, 1) := by decide +kernel
theorem dX4_persecution_21 : decode cX4_persecution 21 = .ok (.sipush 2100, 3) := by decide +kernel
theorem dX4_persecution_24 : decode cX4_persecution 24 = .ok (.invokestatic 82, 3) := by decide +kernel
theorem dX4_persecution_27 : decode cX4_persecution 27 = .ok (.aload_n 0, 1) := by decide +kernel
theorem dX4_persecution_28 : decode cX4_persecution 28 = .ok (.getfield 86, 3) := by decide +kernel
theorem dX4_persecution_31 : decode cX4_persecution 31 = .ok (.bipush 20, 2) := by decide +kernel
theorem dX4_persecution_33 : decode cX4_persecution 33 = .ok (.if_icmp .lt 13, 3) := by decide +kernel
theorem dX4_persecution_36 : decode cX4_persecution 36 = .ok (.new 42, 3) := by decide +kernel
theorem dX4_persecution_39 : decode cX4_persecution 39 = .ok (.dup, 1) := by decide +kernel
theorem dX4_persecution_40 : decode cX4_persecution 40 = .ok (.ldc 89, 2) := by decide +kernel
theorem dX4_persecution_42 : decode cX4_persecution 42 = .ok (.invokespecial 46, 3) := by decide +kernel
theorem dX4_persecution_45 : decode cX4_persecution 45 = .ok (.athrow, 1) := by decide +kernel
theorem dX4_persecution_46 : decode cX4_persecution 46 = .ok (.aload_n 0, 1) := by decide +kernel
theorem dX4_persecution_47 : decode cX4_persecution 47 = .ok (.getfield 17, 3) := by decide +kernel
theorem dX4_persecution_50 : decode cX4_persecution 50 = .ok (.aload_n 0, 1) := by decide +kernel
theorem dX4_persecution_51 : decode cX4_persecution 51 = .ok (.getfield 86, 3) := by decide +kernel
theorem dX4_persecution_54 : decode cX4_persecution 54 = .ok (.new 15, 3) := by decide +kernel
theorem dX4_persecution_57 : decode cX4_persecution 57 = .ok (.dup, 1) := by decide +kernel
theorem dX4_persecution_58 : decode cX4_persecution 58 = .ok (.iload_n 1, 1) := by decide +kernel
theorem dX4_persecution_59 : decode cX4_persecution 59 = .ok (.iload_n 2, 1) := by decide +kernel
theorem dX4_persecution_60 : decode cX4_persecution 60 = .ok (.iload_n 3, 1) := by decide +kernel
theorem dX4_persecution_61 : decode cX4_persecution 61 = .ok (.iload 4, 2) := by decide +kernel
theorem dX4_persecution_63 : decode cX4_persecution 63 = .ok (.invokespecial 91, 3) := by decide +kernel
theorem dX4_persecution_66 : decode cX4_persecution 66 = .ok (.aastore, 1) := by decide +kernel
theorem dX4_persecution_67 : decode cX4_persecution 67 = .ok (.aload_n 0, 1) := by decide +kernel
theorem dX4_persecution_68 : decode cX4_persecution 68 = .ok (.dup, 1) := by decide +kernel
theorem dX4_persecution_69 : decode cX4_persecution 69 = .ok (.getfield 86, 3) := by decide +kernel
theorem dX4_persecution_72 : decode cX4_persecution 72 = .ok (.iconst 1, 1) := by decide +kernel
theorem dX4_persecution_73 : decode cX4_persecution 73 = .ok (.iadd, 1) := by decide +kernel
theorem dX4_persecution_74 : decode cX4_persecution 74 = .ok (.putfield 86, 3) := by decide +kernel
theorem dX4_persecution_77 : decode cX4_persecution 77 = .ok (.aload_n 0, 1) := by decide +kernel
theorem dX4_persecution_78 : decode cX4_persecution 78 = .ok (.getfield 86, 3) := by decide +kernel
theorem dX4_persecution_81 : decode cX4_persecution 81 = .ok (.ireturn, 1) := by decide +kernel
set_option maxRecDepth 20000 in
theorem ggX4_faith_X4_requireLand : GoodIn wsX4_faith wsX4_requireLand := goodIn_ca (goodIn_r _ [5, 6, 7] (by decide +kernel) (by decide +kernel)) (goodIn_sub (fun _ h => List.mem_cons_of_mem _ (List.mem_append_left _ (List.mem_append_right _ h))) (by decide +kernel))
set_option maxRecDepth 20000 in
theorem gX4_faith_X4_requireLand : GoodIn wsX4_faith (va_wsS RX4 79 yX4_requireLand wsX4_requireLand) := goodIn_app (goodIn_of _ (by decide +kernel)) ggX4_faith_X4_requireLand
set_option maxRecDepth 20000 in
theorem ggX4_faith_X4_requireRange : GoodIn wsX4_faith wsX4_requireRange := goodIn_ca (goodIn_r _ [10, 11, 12] (by decide +kernel) (by decide +kernel)) (goodIn_sub (fun _ h => List.mem_cons_of_mem _ (List.mem_append_right _ h)) (by decide +kernel))
set_option maxRecDepth 20000 in
theorem gX4_faith_X4_requireRange : GoodIn wsX4_faith (va_wsS RX4 82 yX4_requireRange wsX4_requireRange) := goodIn_app (goodIn_of _ (by decide +kernel)) ggX4_faith_X4_requireRange
theorem dX4_faith_0 : decode cX4_faith 0 = .ok (.iload_n 1, 1) := by decide +kernel
theorem dX4_faith_1 : decode cX4_faith 1 = .ok (.invokestatic 79, 3) := by decide +kernel
theorem dX4_faith_4 : decode cX4_faith 4 = .ok (.iload_n 2, 1) := by decide +kernel
theorem dX4_faith_5 : decode cX4_faith 5 = .ok (.iconst 0, 1) := by decide +kernel
theorem dX4_faith_6 : decode cX4_faith 6 = .ok (.bipush 60, 2) := by decide +kernel
theorem dX4_faith_8 : decode cX4_faith 8 = .ok (.invokestatic 82, 3) := by decide +kernel
theorem dX4_faith_11 : decode cX4_faith 11 = .ok (.aload_n 0, 1) := by decide +kernel
theorem dX4_faith_12 : decode cX4_faith 12 = .ok (.getfield 21, 3) := by decide +kernel
theorem dX4_faith_15 : decode cX4_faith 15 = .ok (.iload_n 1, 1) := by decide +kernel
theorem dX4_faith_16 : decode cX4_faith 16 = .ok (.iaload, 1) := by decide +kernel
theorem dX4_faith_17 : decode cX4_faith 17 = .ok (.istore_n 3, 1) := by decide +kernel
theorem dX4_faith_18 : decode cX4_faith 18 = .ok (.aload_n 0, 1) := by decide +kernel
theorem dX4_faith_19 : decode cX4_faith 19 = .ok (.getfield 21, 3) := by decide +kernel
theorem dX4_faith_22 : decode cX4_faith 22 = .ok (.iload_n 1, 1) := by decide +kernel
theorem dX4_faith_23 : decode cX4_faith 23 = .ok (.iload_n 2, 1) := by decide +kernel
theorem dX4_faith_24 : decode cX4_faith 24 = .ok (.iastore, 1) := by decide +kernel
theorem dX4_faith_25 : decode cX4_faith 25 = .ok (.iload_n 3, 1) := by decide +kernel
theorem dX4_faith_26 : decode cX4_faith 26 = .ok (.ireturn, 1) := by decide +kernel
set_option maxRecDepth 20000 in
theorem ggX4_now_X4_requireRange : GoodIn wsX4_now wsX4_requireRange := goodIn_ca (goodIn_r _ [5, 6, 7] (by decide +kernel) (by decide +kernel)) (goodIn_sub (fun _ h => List.mem_cons_of_mem _ (List.mem_append_right _ h)) (by decide +kernel))
set_option maxRecDepth 20000 in
theorem gX4_now_X4_requireRange : GoodIn wsX4_now (va_wsS RX4 82 yX4_requireRange wsX4_requireRange) := goodIn_app (goodIn_of _ (by decide +kernel)) ggX4_now_X4_requireRange
theorem dX4_now_0 : decode cX4_now 0 = .ok (.iload_n 1, 1) := by decide +kernel
theorem dX4_now_1 : decode cX4_now 1 = .ok (.aload_n 0, 1) := by decide +kernel
theorem dX4_now_2 : decode cX4_now 2 = .ok (.getfield 25, 3) := by decide +kernel
theorem dX4_now_5 : decode cX4_now 5 = .ok (.sipush 2100, 3) := by decide +kernel
theorem dX4_now_8 : decode cX4_now 8 = .ok (.invokestatic 82, 3) := by decide +kernel
theorem dX4_now_11 : decode cX4_now 11 = .ok (.aload_n 0, 1) := by decide +kernel
theorem dX4_now_12 : decode cX4_now 12 = .ok (.getfield 25, 3) := by decide +kernel
theorem dX4_now_15 : decode cX4_now 15 = .ok (.istore_n 2, 1) := by decide +kernel
theorem dX4_now_16 : decode cX4_now 16 = .ok (.aload_n 0, 1) := by decide +kernel
theorem dX4_now_17 : decode cX4_now 17 = .ok (.iload_n 1, 1) := by decide +kernel
theorem dX4_now_18 : decode cX4_now 18 = .ok (.putfield 25, 3) := by decide +kernel
theorem dX4_now_21 : decode cX4_now 21 = .ok (.iload_n 2, 1) := by decide +kernel
theorem dX4_now_22 : decode cX4_now 22 = .ok (.ireturn, 1) := by decide +kernel
set_option maxRecDepth 20000 in
theorem ggX4_thing_X4_requireRange : GoodIn wsX4_thing wsX4_requireRange := goodIn_ca (goodIn_r _ [12, 13, 14] (by decide +kernel) (by decide +kernel)) (goodIn_sub (fun _ h => List.mem_cons_of_mem _ (List.mem_append_right _ h)) (by decide +kernel))
set_option maxRecDepth 20000 in
theorem gX4_thing_X4_requireRange : GoodIn wsX4_thing (va_wsS RX4 82 yX4_requireRange wsX4_requireRange) := goodIn_app (goodIn_of _ (by decide +kernel)) ggX4_thing_X4_requireRange
set_option maxRecDepth 20000 in
theorem ggX4_thing_X3_init : GoodIn wsX4_thing wsX3_init := goodIn_r _ [17, 18, 19, 20, 21, 22, 23, 24, 33, 34, 35, 36, 37, 38] (by decide +kernel) (by decide +kernel)
set_option maxRecDepth 20000 in
theorem gX4_thing_X3_init : GoodIn wsX4_thing (wsX3_init) := ggX4_thing_X3_init
theorem dX4_thing_0 : decode cX4_thing 0 = .ok (.iload_n 1, 1) := by decide +kernel
theorem dX4_thing_1 : decode cX4_thing 1 = .ok (.iconst 0, 1) := by decide +kernel
theorem dX4_thing_2 : decode cX4_thing 2 = .ok (.ldc 94, 2) := by decide +kernel
theorem dX4_thing_4 : decode cX4_thing 4 = .ok (.invokestatic 82, 3) := by decide +kernel
theorem dX4_thing_7 : decode cX4_thing 7 = .ok (.iload_n 2, 1) := by decide +kernel
theorem dX4_thing_8 : decode cX4_thing 8 = .ok (.iconst 0, 1) := by decide +kernel
theorem dX4_thing_9 : decode cX4_thing 9 = .ok (.sipush 1000, 3) := by decide +kernel
theorem dX4_thing_12 : decode cX4_thing 12 = .ok (.invokestatic 82, 3) := by decide +kernel
theorem dX4_thing_15 : decode cX4_thing 15 = .ok (.aload_n 0, 1) := by decide +kernel
theorem dX4_thing_16 : decode cX4_thing 16 = .ok (.getfield 95, 3) := by decide +kernel
theorem dX4_thing_19 : decode cX4_thing 19 = .ok (.bipush 10, 2) := by decide +kernel
theorem dX4_thing_21 : decode cX4_thing 21 = .ok (.if_icmp .lt 13, 3) := by decide +kernel
theorem dX4_thing_24 : decode cX4_thing 24 = .ok (.new 42, 3) := by decide +kernel
theorem dX4_thing_27 : decode cX4_thing 27 = .ok (.dup, 1) := by decide +kernel
theorem dX4_thing_28 : decode cX4_thing 28 = .ok (.ldc 98, 2) := by decide +kernel
theorem dX4_thing_30 : decode cX4_thing 30 = .ok (.invokespecial 46, 3) := by decide +kernel
theorem dX4_thing_33 : decode cX4_thing 33 = .ok (.athrow, 1) := by decide +kernel
theorem dX4_thing_34 : decode cX4_thing 34 = .ok (.aload_n 0, 1) := by decide +kernel
theorem dX4_thing_35 : decode cX4_thing 35 = .ok (.getfield 95, 3) := by decide +kernel
theorem dX4_thing_38 : decode cX4_thing 38 = .ok (.istore_n 3, 1) := by decide +kernel
theorem dX4_thing_39 : decode cX4_thing 39 = .ok (.aload_n 0, 1) := by decide +kernel
theorem dX4_thing_40 : decode cX4_thing 40 = .ok (.getfield 31, 3) := by decide +kernel
theorem dX4_thing_43 : decode cX4_thing 43 = .ok (.iload_n 3, 1) := by decide +kernel
theorem dX4_thing_44 : decode cX4_thing 44 = .ok (.new 29, 3) := by decide +kernel
theorem dX4_thing_47 : decode cX4_thing 47 = .ok (.dup, 1) := by decide +kernel
theorem dX4_thing_48 : decode cX4_thing 48 = .ok (.iload_n 1, 1) := by decide +kernel
theorem dX4_thing_49 : decode cX4_thing 49 = .ok (.iload_n 2, 1) := by decide +kernel
theorem dX4_thing_50 : decode cX4_thing 50 = .ok (.invokespecial 100, 3) := by decide +kernel
theorem dX4_thing_53 : decode cX4_thing 53 = .ok (.aastore, 1) := by decide +kernel
theorem dX4_thing_54 : decode cX4_thing 54 = .ok (.aload_n 0, 1) := by decide +kernel
theorem dX4_thing_55 : decode cX4_thing 55 = .ok (.iload_n 3, 1) := by decide +kernel
theorem dX4_thing_56 : decode cX4_thing 56 = .ok (.iconst 1, 1) := by decide +kernel
theorem dX4_thing_57 : decode cX4_thing 57 = .ok (.iadd, 1) := by decide +kernel
theorem dX4_thing_58 : decode cX4_thing 58 = .ok (.putfield 95, 3) := by decide +kernel
theorem dX4_thing_61 : decode cX4_thing 61 = .ok (.iload_n 3, 1) := by decide +kernel
theorem dX4_thing_62 : decode cX4_thing 62 = .ok (.ireturn, 1) := by decide +kernel
set_option maxRecDepth 20000 in
theorem ggX4_mark_X4_thingNumbered : GoodIn wsX4_mark wsX4_thingNumbered := goodIn_ca (goodIn_r _ [6, 7, 8, 9, 21, 22, 23, 24, 25, 26, 27, 28] (by decide +kernel) (by decide +kernel)) (goodIn_sub (fun _ h => List.mem_cons_of_mem _ (List.mem_append_left _ (List.mem_append_right _ h))) (by decide +kernel))
set_option maxRecDepth 20000 in
theorem gX4_mark_X4_thingNumbered : GoodIn wsX4_mark (wsV RX4 101 RX4 yX4_thingNumbered wsX4_thingNumbered) := goodIn_app (goodIn_of _ (by decide +kernel)) ggX4_mark_X4_thingNumbered
set_option maxRecDepth 20000 in
theorem ggX4_mark_X4_requireRange : GoodIn wsX4_mark wsX4_requireRange := goodIn_ca (goodIn_r _ [12, 13, 14] (by decide +kernel) (by decide +kernel)) (goodIn_sub (fun _ h => List.mem_cons_of_mem _ (List.mem_append_right _ h)) (by decide +kernel))
set_option maxRecDepth 20000 in
theorem gX4_mark_X4_requireRange : GoodIn wsX4_mark (va_wsS RX4 82 yX4_requireRange wsX4_requireRange) := goodIn_app (goodIn_of _ (by decide +kernel)) ggX4_mark_X4_requireRange
theorem dX4_mark_0 : decode cX4_mark 0 = .ok (.aload_n 0, 1) := by decide +kernel
theorem dX4_mark_1 : decode cX4_mark 1 = .ok (.iload_n 1, 1) := by decide +kernel
theorem dX4_mark_2 : decode cX4_mark 2 = .ok (.invokevirtual 101, 3) := by decide +kernel
theorem dX4_mark_5 : decode cX4_mark 5 = .ok (.astore 4, 2) := by decide +kernel
theorem dX4_mark_7 : decode cX4_mark 7 = .ok (.iload_n 2, 1) := by decide +kernel
theorem dX4_mark_8 : decode cX4_mark 8 = .ok (.iconst 0, 1) := by decide +kernel
theorem dX4_mark_9 : decode cX4_mark 9 = .ok (.bipush 15, 2) := by decide +kernel
theorem dX4_mark_11 : decode cX4_mark 11 = .ok (.invokestatic 82, 3) := by decide +kernel
theorem dX4_mark_14 : decode cX4_mark 14 = .ok (.iconst 1, 1) := by decide +kernel
theorem dX4_mark_15 : decode cX4_mark 15 = .ok (.iload_n 2, 1) := by decide +kernel
theorem dX4_mark_16 : decode cX4_mark 16 = .ok (.ishl, 1) := by decide +kernel
theorem dX4_mark_17 : decode cX4_mark 17 = .ok (.istore 5, 2) := by decide +kernel
theorem dX4_mark_19 : decode cX4_mark 19 = .ok (.aload 4, 2) := by decide +kernel
theorem dX4_mark_21 : decode cX4_mark 21 = .ok (.getfield 105, 3) := by decide +kernel
theorem dX4_mark_24 : decode cX4_mark 24 = .ok (.iload 5, 2) := by decide +kernel
theorem dX4_mark_26 : decode cX4_mark 26 = .ok (.iand, 1) := by decide +kernel
theorem dX4_mark_27 : decode cX4_mark 27 = .ok (.ifCond .eq 7, 3) := by decide +kernel
theorem dX4_mark_30 : decode cX4_mark 30 = .ok (.iconst 1, 1) := by decide +kernel
theorem dX4_mark_31 : decode cX4_mark 31 = .ok (.goto 4, 3) := by decide +kernel
theorem dX4_mark_34 : decode cX4_mark 34 = .ok (.iconst 0, 1) := by decide +kernel
theorem dX4_mark_35 : decode cX4_mark 35 = .ok (.istore 6, 2) := by decide +kernel
theorem dX4_mark_37 : decode cX4_mark 37 = .ok (.aload 4, 2) := by decide +kernel
theorem dX4_mark_39 : decode cX4_mark 39 = .ok (.iload_n 3, 1) := by decide +kernel
theorem dX4_mark_40 : decode cX4_mark 40 = .ok (.ifCond .eq 14, 3) := by decide +kernel
theorem dX4_mark_43 : decode cX4_mark 43 = .ok (.aload 4, 2) := by decide +kernel
theorem dX4_mark_45 : decode cX4_mark 45 = .ok (.getfield 105, 3) := by decide +kernel
theorem dX4_mark_48 : decode cX4_mark 48 = .ok (.iload 5, 2) := by decide +kernel
theorem dX4_mark_50 : decode cX4_mark 50 = .ok (.ior, 1) := by decide +kernel
theorem dX4_mark_51 : decode cX4_mark 51 = .ok (.goto 13, 3) := by decide +kernel
theorem dX4_mark_54 : decode cX4_mark 54 = .ok (.aload 4, 2) := by decide +kernel
theorem dX4_mark_56 : decode cX4_mark 56 = .ok (.getfield 105, 3) := by decide +kernel
theorem dX4_mark_59 : decode cX4_mark 59 = .ok (.iload 5, 2) := by decide +kernel
theorem dX4_mark_61 : decode cX4_mark 61 = .ok (.iconst (-1), 1) := by decide +kernel
theorem dX4_mark_62 : decode cX4_mark 62 = .ok (.ixor, 1) := by decide +kernel
theorem dX4_mark_63 : decode cX4_mark 63 = .ok (.iand, 1) := by decide +kernel
theorem dX4_mark_64 : decode cX4_mark 64 = .ok (.putfield 105, 3) := by decide +kernel
theorem dX4_mark_67 : decode cX4_mark 67 = .ok (.iload 6, 2) := by decide +kernel
theorem dX4_mark_69 : decode cX4_mark 69 = .ok (.ireturn, 1) := by decide +kernel
set_option maxRecDepth 20000 in
theorem ggX4_station_X4_thingNumbered : GoodIn wsX4_station wsX4_thingNumbered := goodIn_ca (goodIn_r _ [13, 14, 15, 16, 51, 52, 53, 54, 55, 56, 57, 58] (by decide +kernel) (by decide +kernel)) (goodIn_sub (fun _ h => List.mem_cons_of_mem _ (List.mem_append_left _ (List.mem_append_right _ h))) (by decide +kernel))
set_option maxRecDepth 20000 in
theorem gX4_station_X4_thingNumbered : GoodIn wsX4_station (wsV RX4 101 RX4 yX4_thingNumbered wsX4_thingNumbered) := goodIn_app (goodIn_of _ (by decide +kernel)) ggX4_station_X4_thingNumbered
set_option maxRecDepth 20000 in
theorem ggX4_station_X4_personNumbered : GoodIn wsX4_station wsX4_personNumbered := goodIn_ca (goodIn_r _ [20, 14, 15, 21, 51, 52, 53, 54, 55, 56, 57, 58] (by decide +kernel) (by decide +kernel)) (goodIn_sub (fun _ h => List.mem_cons_of_mem _ (List.mem_append_left _ (List.mem_append_right _ h))) (by decide +kernel))
set_option maxRecDepth 20000 in
theorem gX4_station_X4_personNumbered : GoodIn wsX4_station (wsV RX4 52 RX4 yX4_personNumbered wsX4_personNumbered) := goodIn_app (goodIn_of _ (by decide +kernel)) ggX4_station_X4_personNumbered
set_option maxRecDepth 20000 in
theorem ggX4_station_X4_requireLand : GoodIn wsX4_station wsX4_requireLand := goodIn_ca (goodIn_r _ [24, 14, 15] (by decide +kernel) (by decide +kernel)) (goodIn_sub (fun _ h => List.mem_cons_of_mem _ (List.mem_append_left _ (List.mem_append_right _ h))) (by decide +kernel))
set_option maxRecDepth 20000 in
theorem gX4_station_X4_requireLand : GoodIn wsX4_station (va_wsS RX4 79 yX4_requireLand wsX4_requireLand) := goodIn_app (goodIn_of _ (by decide +kernel)) ggX4_station_X4_requireLand
set_option maxRecDepth 20000 in
theorem ggX4_station_X4_requireRange : GoodIn wsX4_station wsX4_requireRange := goodIn_ca (goodIn_r _ [27, 28, 29] (by decide +kernel) (by decide +kernel)) (goodIn_sub (fun _ h => List.mem_cons_of_mem _ (List.mem_append_right _ h)) (by decide +kernel))
set_option maxRecDepth 20000 in
theorem gX4_station_X4_requireRange : GoodIn wsX4_station (va_wsS RX4 82 yX4_requireRange wsX4_requireRange) := goodIn_app (goodIn_of _ (by decide +kernel)) ggX4_station_X4_requireRange
set_option maxRecDepth 20000 in
theorem ggX4_station_X2_init : GoodIn wsX4_station wsX2_init := goodIn_r _ [32, 33, 34, 35, 36, 37, 38, 39, 40, 65, 66, 67, 68, 69, 70, 71, 72, 73] (by decide +kernel) (by decide +kernel)
set_option maxRecDepth 20000 in
theorem gX4_station_X2_init : GoodIn wsX4_station (wsX2_init) := ggX4_station_X2_init
set_option maxRecDepth 20000 in
theorem ggX4_station_X3_putInOrder : GoodIn wsX4_station wsX3_putInOrder := goodIn_r _ [45, 46, 47, 48, 49, 50, 59, 60, 61, 62, 63, 64, 65, 66, 67, 68, 69, 70, 71, 72, 73] (by decide +kernel) (by decide +kernel)
set_option maxRecDepth 20000 in
theorem gX4_station_X3_putInOrder : GoodIn wsX4_station (wsV RX4 122 RX3 yX3_putInOrder wsX3_putInOrder) := goodIn_app (goodIn_of _ (by decide +kernel)) ggX4_station_X3_putInOrder
theorem dX4_station_0 : decode cX4_station 0 = .ok (.aload_n 0, 1) := by decide +kernel
theorem dX4_station_1 : decode cX4_station 1 = .ok (.iload_n 1, 1) := by decide +kernel
theorem dX4_station_2 : decode cX4_station 2 = .ok (.invokevirtual 101, 3) := by decide +kernel
theorem dX4_station_5 : decode cX4_station 5 = .ok (.astore 6, 2) := by decide +kernel
theorem dX4_station_7 : decode cX4_station 7 = .ok (.aload_n 0, 1) := by decide +kernel
theorem dX4_station_8 : decode cX4_station 8 = .ok (.iload_n 2, 1) := by decide +kernel
theorem dX4_station_9 : decode cX4_station 9 = .ok (.invokevirtual 52, 3) := by decide +kernel
theorem dX4_station_12 : decode cX4_station 12 = .ok (.astore 7, 2) := by decide +kernel
theorem dX4_station_14 : decode cX4_station 14 = .ok (.iload 4, 2) := by decide +kernel
theorem dX4_station_16 : decode cX4_station 16 = .ok (.invokestatic 79, 3) := by decide +kernel
theorem dX4_station_19 : decode cX4_station 19 = .ok (.iload_n 3, 1) := by decide +kernel
theorem dX4_station_20 : decode cX4_station 20 = .ok (.iconst 0, 1) := by decide +kernel
theorem dX4_station_21 : decode cX4_station 21 = .ok (.iconst 5, 1) := by decide +kernel
theorem dX4_station_22 : decode cX4_station 22 = .ok (.invokestatic 82, 3) := by decide +kernel
theorem dX4_station_25 : decode cX4_station 25 = .ok (.iload 5, 2) := by decide +kernel
theorem dX4_station_27 : decode cX4_station 27 = .ok (.sipush 1900, 3) := by decide +kernel
theorem dX4_station_30 : decode cX4_station 30 = .ok (.aload_n 0, 1) := by decide +kernel
theorem dX4_station_31 : decode cX4_station 31 = .ok (.getfield 25, 3) := by decide +kernel
theorem dX4_station_34 : decode cX4_station 34 = .ok (.invokestatic 82, 3) := by decide +kernel
theorem dX4_station_37 : decode cX4_station 37 = .ok (.aload 6, 2) := by decide +kernel
theorem dX4_station_39 : decode cX4_station 39 = .ok (.getfield 108, 3) := by decide +kernel
theorem dX4_station_42 : decode cX4_station 42 = .ok (.istore 8, 2) := by decide +kernel
theorem dX4_station_44 : decode cX4_station 44 = .ok (.iload 8, 2) := by decide +kernel
theorem dX4_station_46 : decode cX4_station 46 = .ok (.bipush 8, 2) := by decide +kernel
theorem dX4_station_48 : decode cX4_station 48 = .ok (.if_icmp .lt 13, 3) := by decide +kernel
theorem dX4_station_51 : decode cX4_station 51 = .ok (.new 42, 3) := by decide +kernel
theorem dX4_station_54 : decode cX4_station 54 = .ok (.dup, 1) := by decide +kernel
theorem dX4_station_55 : decode cX4_station 55 = .ok (.ldc 111, 2) := by decide +kernel
theorem dX4_station_57 : decode cX4_station 57 = .ok (.invokespecial 46, 3) := by decide +kernel
theorem dX4_station_60 : decode cX4_station 60 = .ok (.athrow, 1) := by decide +kernel
theorem dX4_station_61 : decode cX4_station 61 = .ok (.new 113, 3) := by decide +kernel
theorem dX4_station_64 : decode cX4_station 64 = .ok (.dup, 1) := by decide +kernel
theorem dX4_station_65 : decode cX4_station 65 = .ok (.iload 8, 2) := by decide +kernel
theorem dX4_station_67 : decode cX4_station 67 = .ok (.aload 7, 2) := by decide +kernel
theorem dX4_station_69 : decode cX4_station 69 = .ok (.iload_n 3, 1) := by decide +kernel
theorem dX4_station_70 : decode cX4_station 70 = .ok (.iload 4, 2) := by decide +kernel
theorem dX4_station_72 : decode cX4_station 72 = .ok (.iload 5, 2) := by decide +kernel
theorem dX4_station_74 : decode cX4_station 74 = .ok (.invokespecial 115, 3) := by decide +kernel
theorem dX4_station_77 : decode cX4_station 77 = .ok (.astore 9, 2) := by decide +kernel
theorem dX4_station_79 : decode cX4_station 79 = .ok (.aload 6, 2) := by decide +kernel
theorem dX4_station_81 : decode cX4_station 81 = .ok (.getfield 118, 3) := by decide +kernel
theorem dX4_station_84 : decode cX4_station 84 = .ok (.iload 8, 2) := by decide +kernel
theorem dX4_station_86 : decode cX4_station 86 = .ok (.aload 9, 2) := by decide +kernel
theorem dX4_station_88 : decode cX4_station 88 = .ok (.aastore, 1) := by decide +kernel
theorem dX4_station_89 : decode cX4_station 89 = .ok (.aload 6, 2) := by decide +kernel
theorem dX4_station_91 : decode cX4_station 91 = .ok (.iload 8, 2) := by decide +kernel
theorem dX4_station_93 : decode cX4_station 93 = .ok (.iconst 1, 1) := by decide +kernel
theorem dX4_station_94 : decode cX4_station 94 = .ok (.iadd, 1) := by decide +kernel
theorem dX4_station_95 : decode cX4_station 95 = .ok (.putfield 108, 3) := by decide +kernel
theorem dX4_station_98 : decode cX4_station 98 = .ok (.aload 6, 2) := by decide +kernel
theorem dX4_station_100 : decode cX4_station 100 = .ok (.aload 9, 2) := by decide +kernel
theorem dX4_station_102 : decode cX4_station 102 = .ok (.invokevirtual 122, 3) := by decide +kernel
theorem dX4_station_105 : decode cX4_station 105 = .ok (.iload 8, 2) := by decide +kernel
theorem dX4_station_107 : decode cX4_station 107 = .ok (.ireturn, 1) := by decide +kernel
set_option maxRecDepth 20000 in
theorem ggX4_rebut_X4_stationNumbered : GoodIn wsX4_rebut wsX4_stationNumbered := goodIn_ca (goodIn_r _ [9, 10, 11, 12, 13, 14, 15, 8, 16, 17, 27, 28, 29, 30, 31, 32, 33, 34, 35, 36, 37, 38, 39, 40] (by decide +kernel) (by decide +kernel)) (goodIn_sub (fun _ h => List.mem_cons_of_mem _ (List.mem_append_right _ h)) (by decide +kernel))
set_option maxRecDepth 20000 in
theorem gX4_rebut_X4_stationNumbered : GoodIn wsX4_rebut (wsV RX4 126 RX4 yX4_stationNumbered wsX4_stationNumbered) := goodIn_app (goodIn_of _ (by decide +kernel)) ggX4_rebut_X4_stationNumbered
theorem dX4_rebut_0 : decode cX4_rebut 0 = .ok (.aload_n 0, 1) := by decide +kernel
theorem dX4_rebut_1 : decode cX4_rebut 1 = .ok (.iload_n 1, 1) := by decide +kernel
theorem dX4_rebut_2 : decode cX4_rebut 2 = .ok (.iload_n 2, 1) := by decide +kernel
theorem dX4_rebut_3 : decode cX4_rebut 3 = .ok (.invokevirtual 126, 3) := by decide +kernel
theorem dX4_rebut_6 : decode cX4_rebut 6 = .ok (.astore 4, 2) := by decide +kernel
theorem dX4_rebut_8 : decode cX4_rebut 8 = .ok (.aload 4, 2) := by decide +kernel
theorem dX4_rebut_10 : decode cX4_rebut 10 = .ok (.getfield 130, 3) := by decide +kernel
theorem dX4_rebut_13 : decode cX4_rebut 13 = .ok (.ifCond .eq 13, 3) := by decide +kernel
theorem dX4_rebut_16 : decode cX4_rebut 16 = .ok (.new 62, 3) := by decide +kernel
theorem dX4_rebut_19 : decode cX4_rebut 19 = .ok (.dup, 1) := by decide +kernel
theorem dX4_rebut_20 : decode cX4_rebut 20 = .ok (.ldc 133, 2) := by decide +kernel
theorem dX4_rebut_22 : decode cX4_rebut 22 = .ok (.invokespecial 66, 3) := by decide +kernel
theorem dX4_rebut_25 : decode cX4_rebut 25 = .ok (.athrow, 1) := by decide +kernel
theorem dX4_rebut_26 : decode cX4_rebut 26 = .ok (.aload 4, 2) := by decide +kernel
theorem dX4_rebut_28 : decode cX4_rebut 28 = .ok (.getfield 135, 3) := by decide +kernel
theorem dX4_rebut_31 : decode cX4_rebut 31 = .ok (.istore 5, 2) := by decide +kernel
theorem dX4_rebut_33 : decode cX4_rebut 33 = .ok (.aload 4, 2) := by decide +kernel
theorem dX4_rebut_35 : decode cX4_rebut 35 = .ok (.iload_n 3, 1) := by decide +kernel
theorem dX4_rebut_36 : decode cX4_rebut 36 = .ok (.putfield 135, 3) := by decide +kernel
theorem dX4_rebut_39 : decode cX4_rebut 39 = .ok (.iload 5, 2) := by decide +kernel
theorem dX4_rebut_41 : decode cX4_rebut 41 = .ok (.ireturn, 1) := by decide +kernel
set_option maxRecDepth 20000 in
theorem ggX4_settle_X4_stationNumbered : GoodIn wsX4_settle wsX4_stationNumbered := goodIn_ca (goodIn_r _ [6, 7, 8, 9, 10, 11, 12, 5, 13, 14, 24, 25, 26, 27, 28, 29, 30, 31, 32, 33, 34, 35, 36, 37] (by decide +kernel) (by decide +kernel)) (goodIn_sub (fun _ h => List.mem_cons_of_mem _ (List.mem_append_right _ h)) (by decide +kernel))
set_option maxRecDepth 20000 in
theorem gX4_settle_X4_stationNumbered : GoodIn wsX4_settle (wsV RX4 126 RX4 yX4_stationNumbered wsX4_stationNumbered) := goodIn_app (goodIn_of _ (by decide +kernel)) ggX4_settle_X4_stationNumbered
theorem dX4_settle_0 : decode cX4_settle 0 = .ok (.aload_n 0, 1) := by decide +kernel
theorem dX4_settle_1 : decode cX4_settle 1 = .ok (.iload_n 1, 1) := by decide +kernel
theorem dX4_settle_2 : decode cX4_settle 2 = .ok (.iload_n 2, 1) := by decide +kernel
theorem dX4_settle_3 : decode cX4_settle 3 = .ok (.invokevirtual 126, 3) := by decide +kernel
theorem dX4_settle_6 : decode cX4_settle 6 = .ok (.astore 4, 2) := by decide +kernel
theorem dX4_settle_8 : decode cX4_settle 8 = .ok (.aload 4, 2) := by decide +kernel
theorem dX4_settle_10 : decode cX4_settle 10 = .ok (.getfield 138, 3) := by decide +kernel
theorem dX4_settle_13 : decode cX4_settle 13 = .ok (.istore 5, 2) := by decide +kernel
theorem dX4_settle_15 : decode cX4_settle 15 = .ok (.aload 4, 2) := by decide +kernel
theorem dX4_settle_17 : decode cX4_settle 17 = .ok (.iload_n 3, 1) := by decide +kernel
theorem dX4_settle_18 : decode cX4_settle 18 = .ok (.putfield 138, 3) := by decide +kernel
theorem dX4_settle_21 : decode cX4_settle 21 = .ok (.iload 5, 2) := by decide +kernel
theorem dX4_settle_23 : decode cX4_settle 23 = .ok (.ireturn, 1) := by decide +kernel
set_option maxRecDepth 20000 in
theorem ggX4_isPersecuted_X4_personNumbered : GoodIn wsX4_isPersecuted wsX4_personNumbered := goodIn_ca (goodIn_r _ [5, 6, 7, 8, 32, 33, 34, 35, 36, 37, 38, 39] (by decide +kernel) (by decide +kernel)) (goodIn_sub (fun _ h => List.mem_cons_of_mem _ (List.mem_append_left _ (List.mem_append_right _ h))) (by decide +kernel))
set_option maxRecDepth 20000 in
theorem gX4_isPersecuted_X4_personNumbered : GoodIn wsX4_isPersecuted (wsV RX4 52 RX4 yX4_personNumbered wsX4_personNumbered) := goodIn_app (goodIn_of _ (by decide +kernel)) ggX4_isPersecuted_X4_personNumbered
set_option maxRecDepth 20000 in
theorem ggX4_isPersecuted_X4_requireLand : GoodIn wsX4_isPersecuted wsX4_requireLand := goodIn_ca (goodIn_r _ [11, 6, 7] (by decide +kernel) (by decide +kernel)) (goodIn_sub (fun _ h => List.mem_cons_of_mem _ (List.mem_append_left _ (List.mem_append_right _ h))) (by decide +kernel))
set_option maxRecDepth 20000 in
theorem gX4_isPersecuted_X4_requireLand : GoodIn wsX4_isPersecuted (va_wsS RX4 79 yX4_requireLand wsX4_requireLand) := goodIn_app (goodIn_of _ (by decide +kernel)) ggX4_isPersecuted_X4_requireLand
set_option maxRecDepth 20000 in
theorem ggX4_isPersecuted_X4_requireRange : GoodIn wsX4_isPersecuted wsX4_requireRange := goodIn_ca (goodIn_r _ [14, 15, 16] (by decide +kernel) (by decide +kernel)) (goodIn_sub (fun _ h => List.mem_cons_of_mem _ (List.mem_append_right _ h)) (by decide +kernel))
set_option maxRecDepth 20000 in
theorem gX4_isPersecuted_X4_requireRange : GoodIn wsX4_isPersecuted (va_wsS RX4 82 yX4_requireRange wsX4_requireRange) := goodIn_app (goodIn_of _ (by decide +kernel)) ggX4_isPersecuted_X4_requireRange
set_option maxRecDepth 20000 in
theorem ggX4_isPersecuted_X4_isDarkFor : GoodIn wsX4_isPersecuted wsX4_isDarkFor := goodIn_r _ [20, 21, 22, 23, 24, 25, 26, 27, 28, 29, 30, 31, 32, 33, 34, 35, 36, 37, 38, 39, 40, 41, 42, 43, 44, 45, 46, 47, 48, 49] (by decide +kernel) (by decide +kernel)
set_option maxRecDepth 20000 in
theorem gX4_isPersecuted_X4_isDarkFor : GoodIn wsX4_isPersecuted (wsV RX4 141 RX4 yX4_isDarkFor wsX4_isDarkFor) := goodIn_app (goodIn_of _ (by decide +kernel)) ggX4_isPersecuted_X4_isDarkFor
theorem dX4_isPersecuted_0 : decode cX4_isPersecuted 0 = .ok (.aload_n 0, 1) := by decide +kernel
theorem dX4_isPersecuted_1 : decode cX4_isPersecuted 1 = .ok (.iload_n 1, 1) := by decide +kernel
theorem dX4_isPersecuted_2 : decode cX4_isPersecuted 2 = .ok (.invokevirtual 52, 3) := by decide +kernel
theorem dX4_isPersecuted_5 : decode cX4_isPersecuted 5 = .ok (.astore 4, 2) := by decide +kernel
theorem dX4_isPersecuted_7 : decode cX4_isPersecuted 7 = .ok (.iload_n 2, 1) := by decide +kernel
theorem dX4_isPersecuted_8 : decode cX4_isPersecuted 8 = .ok (.invokestatic 79, 3) := by decide +kernel
theorem dX4_isPersecuted_11 : decode cX4_isPersecuted 11 = .ok (.iload_n 3, 1) := by decide +kernel
theorem dX4_isPersecuted_12 : decode cX4_isPersecuted 12 = .ok (.sipush 1900, 3) := by decide +kernel
theorem dX4_isPersecuted_15 : decode cX4_isPersecuted 15 = .ok (.sipush 2100, 3) := by decide +kernel
theorem dX4_isPersecuted_18 : decode cX4_isPersecuted 18 = .ok (.invokestatic 82, 3) := by decide +kernel
theorem dX4_isPersecuted_21 : decode cX4_isPersecuted 21 = .ok (.aload_n 0, 1) := by decide +kernel
theorem dX4_isPersecuted_22 : decode cX4_isPersecuted 22 = .ok (.aload 4, 2) := by decide +kernel
theorem dX4_isPersecuted_24 : decode cX4_isPersecuted 24 = .ok (.iload_n 2, 1) := by decide +kernel
theorem dX4_isPersecuted_25 : decode cX4_isPersecuted 25 = .ok (.iload_n 3, 1) := by decide +kernel
theorem dX4_isPersecuted_26 : decode cX4_isPersecuted 26 = .ok (.invokevirtual 141, 3) := by decide +kernel
theorem dX4_isPersecuted_29 : decode cX4_isPersecuted 29 = .ok (.ireturn, 1) := by decide +kernel
set_option maxRecDepth 20000 in
theorem ggX4_heirOf_X4_personNumbered : GoodIn wsX4_heirOf wsX4_personNumbered := goodIn_ca (goodIn_r _ [5, 6, 7, 8, 21, 22, 23, 24, 25, 26, 27, 28] (by decide +kernel) (by decide +kernel)) (goodIn_sub (fun _ h => List.mem_cons_of_mem _ (List.mem_append_right _ h)) (by decide +kernel))
set_option maxRecDepth 20000 in
theorem gX4_heirOf_X4_personNumbered : GoodIn wsX4_heirOf (wsV RX4 52 RX4 yX4_personNumbered wsX4_personNumbered) := goodIn_app (goodIn_of _ (by decide +kernel)) ggX4_heirOf_X4_personNumbered
set_option maxRecDepth 20000 in
theorem ggX4_heirOf_X4_livingHeir : GoodIn wsX4_heirOf wsX4_livingHeir := goodIn_r _ [11, 12, 13, 14, 4, 15, 16, 9, 10, 29, 30, 31, 32, 33, 34] (by decide +kernel) (by decide +kernel)
set_option maxRecDepth 20000 in
theorem gX4_heirOf_X4_livingHeir : GoodIn wsX4_heirOf (va_wsS RX4 145 yX4_livingHeir wsX4_livingHeir) := goodIn_app (goodIn_of _ (by decide +kernel)) ggX4_heirOf_X4_livingHeir
set_option maxRecDepth 20000 in
theorem ggX4_heirOf_X4_numberOf : GoodIn wsX4_heirOf wsX4_numberOf := goodIn_r _ [19, 20, 29, 30, 31, 32, 33, 34] (by decide +kernel) (by decide +kernel)
set_option maxRecDepth 20000 in
theorem gX4_heirOf_X4_numberOf : GoodIn wsX4_heirOf (va_wsS RX4 149 yX4_numberOf wsX4_numberOf) := goodIn_app (goodIn_of _ (by decide +kernel)) ggX4_heirOf_X4_numberOf
theorem dX4_heirOf_0 : decode cX4_heirOf 0 = .ok (.aload_n 0, 1) := by decide +kernel
theorem dX4_heirOf_1 : decode cX4_heirOf 1 = .ok (.iload_n 1, 1) := by decide +kernel
theorem dX4_heirOf_2 : decode cX4_heirOf 2 = .ok (.invokevirtual 52, 3) := by decide +kernel
theorem dX4_heirOf_5 : decode cX4_heirOf 5 = .ok (.iconst 3, 1) := by decide +kernel
theorem dX4_heirOf_6 : decode cX4_heirOf 6 = .ok (.invokestatic 145, 3) := by decide +kernel
theorem dX4_heirOf_9 : decode cX4_heirOf 9 = .ok (.invokestatic 149, 3) := by decide +kernel
theorem dX4_heirOf_12 : decode cX4_heirOf 12 = .ok (.ireturn, 1) := by decide +kernel
set_option maxRecDepth 20000 in
theorem ggX4_likeness_X4_thingNumbered : GoodIn wsX4_likeness wsX4_thingNumbered := goodIn_ca (goodIn_r _ [5, 6, 7, 8, 27, 28, 29, 30, 31, 32, 33, 34] (by decide +kernel) (by decide +kernel)) (goodIn_sub (fun _ h => List.mem_cons_of_mem _ (List.mem_append_right _ h)) (by decide +kernel))
set_option maxRecDepth 20000 in
theorem gX4_likeness_X4_thingNumbered : GoodIn wsX4_likeness (wsV RX4 101 RX4 yX4_thingNumbered wsX4_thingNumbered) := goodIn_app (goodIn_of _ (by decide +kernel)) ggX4_likeness_X4_thingNumbered
set_option maxRecDepth 20000 in
theorem ggX4_likeness_X3_likenessTo : GoodIn wsX4_likeness wsX3_likenessTo := goodIn_r _ [13, 14, 15, 16, 17, 18, 19, 20, 21, 22, 23, 24, 25, 26, 35, 36, 37, 38, 39, 40] (by decide +kernel) (by decide +kernel)
set_option maxRecDepth 20000 in
theorem gX4_likeness_X3_likenessTo : GoodIn wsX4_likeness (wsV RX4 153 RX3 yX3_likenessTo wsX3_likenessTo) := goodIn_app (goodIn_of _ (by decide +kernel)) ggX4_likeness_X3_likenessTo
theorem dX4_likeness_0 : decode cX4_likeness 0 = .ok (.aload_n 0, 1) := by decide +kernel
theorem dX4_likeness_1 : decode cX4_likeness 1 = .ok (.iload_n 1, 1) := by decide +kernel
theorem dX4_likeness_2 : decode cX4_likeness 2 = .ok (.invokevirtual 101, 3) := by decide +kernel
theorem dX4_likeness_5 : decode cX4_likeness 5 = .ok (.aload_n 0, 1) := by decide +kernel
theorem dX4_likeness_6 : decode cX4_likeness 6 = .ok (.iload_n 2, 1) := by decide +kernel
theorem dX4_likeness_7 : decode cX4_likeness 7 = .ok (.invokevirtual 101, 3) := by decide +kernel
theorem dX4_likeness_10 : decode cX4_likeness 10 = .ok (.invokevirtual 153, 3) := by decide +kernel
theorem dX4_likeness_13 : decode cX4_likeness 13 = .ok (.ireturn, 1) := by decide +kernel
set_option maxRecDepth 20000 in
theorem ggX4_likest_X4_thingNumbered : GoodIn wsX4_likest wsX4_thingNumbered := goodIn_ca (goodIn_r _ [6, 7, 8, 1, 27, 28, 29, 30, 31, 32, 33, 34] (by decide +kernel) (by decide +kernel)) (goodIn_sub (fun _ h => List.mem_cons_of_mem _ (List.mem_append_right _ h)) (by decide +kernel))
set_option maxRecDepth 20000 in
theorem gX4_likest_X4_thingNumbered : GoodIn wsX4_likest (wsV RX4 101 RX4 yX4_thingNumbered wsX4_thingNumbered) := goodIn_app (goodIn_of _ (by decide +kernel)) ggX4_likest_X4_thingNumbered
set_option maxRecDepth 20000 in
theorem ggX4_likest_X3_likenessTo : GoodIn wsX4_likest wsX3_likenessTo := goodIn_r _ [13, 14, 15, 16, 17, 18, 19, 20, 21, 22, 23, 24, 25, 26, 35, 36, 37, 38, 39, 40] (by decide +kernel) (by decide +kernel)
set_option maxRecDepth 20000 in
theorem gX4_likest_X3_likenessTo : GoodIn wsX4_likest (wsV RX4 153 RX3 yX3_likenessTo wsX3_likenessTo) := goodIn_app (goodIn_of _ (by decide +kernel)) ggX4_likest_X3_likenessTo
theorem dX4_likest_0 : decode cX4_likest 0 = .ok (.aload_n 0, 1) := by decide +kernel
theorem dX4_likest_1 : decode cX4_likest 1 = .ok (.iload_n 1, 1) := by decide +kernel
theorem dX4_likest_2 : decode cX4_likest 2 = .ok (.invokevirtual 101, 3) := by decide +kernel
theorem dX4_likest_5 : decode cX4_likest 5 = .ok (.astore_n 2, 1) := by decide +kernel
theorem dX4_likest_6 : decode cX4_likest 6 = .ok (.iconst (-1), 1) := by decide +kernel
theorem dX4_likest_7 : decode cX4_likest 7 = .ok (.istore_n 3, 1) := by decide +kernel
theorem dX4_likest_8 : decode cX4_likest 8 = .ok (.iconst 0, 1) := by decide +kernel
theorem dX4_likest_9 : decode cX4_likest 9 = .ok (.istore 4, 2) := by decide +kernel
theorem dX4_likest_11 : decode cX4_likest 11 = .ok (.iconst 0, 1) := by decide +kernel
theorem dX4_likest_12 : decode cX4_likest 12 = .ok (.istore 5, 2) := by decide +kernel
theorem dX4_likest_14 : decode cX4_likest 14 = .ok (.iload 5, 2) := by decide +kernel
theorem dX4_likest_16 : decode cX4_likest 16 = .ok (.bipush 10, 2) := by decide +kernel
theorem dX4_likest_18 : decode cX4_likest 18 = .ok (.if_icmp .ge 59, 3) := by decide +kernel
theorem dX4_likest_21 : decode cX4_likest 21 = .ok (.aload_n 0, 1) := by decide +kernel
theorem dX4_likest_22 : decode cX4_likest 22 = .ok (.getfield 31, 3) := by decide +kernel
theorem dX4_likest_25 : decode cX4_likest 25 = .ok (.iload 5, 2) := by decide +kernel
theorem dX4_likest_27 : decode cX4_likest 27 = .ok (.aaload, 1) := by decide +kernel
theorem dX4_likest_28 : decode cX4_likest 28 = .ok (.astore 6, 2) := by decide +kernel
theorem dX4_likest_30 : decode cX4_likest 30 = .ok (.aload 6, 2) := by decide +kernel
theorem dX4_likest_32 : decode cX4_likest 32 = .ok (.ifnull 39, 3) := by decide +kernel
theorem dX4_likest_35 : decode cX4_likest 35 = .ok (.aload 6, 2) := by decide +kernel
theorem dX4_likest_37 : decode cX4_likest 37 = .ok (.aload_n 2, 1) := by decide +kernel
theorem dX4_likest_38 : decode cX4_likest 38 = .ok (.if_acmp .ne 6, 3) := by decide +kernel
theorem dX4_likest_41 : decode cX4_likest 41 = .ok (.goto 30, 3) := by decide +kernel
theorem dX4_likest_44 : decode cX4_likest 44 = .ok (.aload_n 2, 1) := by decide +kernel
theorem dX4_likest_45 : decode cX4_likest 45 = .ok (.aload 6, 2) := by decide +kernel
theorem dX4_likest_47 : decode cX4_likest 47 = .ok (.invokevirtual 153, 3) := by decide +kernel
theorem dX4_likest_50 : decode cX4_likest 50 = .ok (.istore 7, 2) := by decide +kernel
theorem dX4_likest_52 : decode cX4_likest 52 = .ok (.iload_n 3, 1) := by decide +kernel
theorem dX4_likest_53 : decode cX4_likest 53 = .ok (.iconst (-1), 1) := by decide +kernel
theorem dX4_likest_54 : decode cX4_likest 54 = .ok (.if_icmp .eq 10, 3) := by decide +kernel
theorem dX4_likest_57 : decode cX4_likest 57 = .ok (.iload 7, 2) := by decide +kernel
theorem dX4_likest_59 : decode cX4_likest 59 = .ok (.iload 4, 2) := by decide +kernel
theorem dX4_likest_61 : decode cX4_likest 61 = .ok (.if_icmp .le 10, 3) := by decide +kernel
theorem dX4_likest_64 : decode cX4_likest 64 = .ok (.iload 5, 2) := by decide +kernel
theorem dX4_likest_66 : decode cX4_likest 66 = .ok (.istore_n 3, 1) := by decide +kernel
theorem dX4_likest_67 : decode cX4_likest 67 = .ok (.iload 7, 2) := by decide +kernel
theorem dX4_likest_69 : decode cX4_likest 69 = .ok (.istore 4, 2) := by decide +kernel
theorem dX4_likest_71 : decode cX4_likest 71 = .ok (.iinc 5 1, 3) := by decide +kernel
theorem dX4_likest_74 : decode cX4_likest 74 = .ok (.goto (-60), 3) := by decide +kernel
theorem dX4_likest_77 : decode cX4_likest 77 = .ok (.iload_n 3, 1) := by decide +kernel
theorem dX4_likest_78 : decode cX4_likest 78 = .ok (.ireturn, 1) := by decide +kernel
set_option maxRecDepth 20000 in
theorem ggX4_stationAt_X4_thingNumbered : GoodIn wsX4_stationAt wsX4_thingNumbered := goodIn_ca (goodIn_r _ [10, 1, 2, 11, 27, 28, 29, 30, 31, 32, 33, 34] (by decide +kernel) (by decide +kernel)) (goodIn_sub (fun _ h => List.mem_cons_of_mem _ (List.mem_append_right _ h)) (by decide +kernel))
set_option maxRecDepth 20000 in
theorem gX4_stationAt_X4_thingNumbered : GoodIn wsX4_stationAt (wsV RX4 101 RX4 yX4_thingNumbered wsX4_thingNumbered) := goodIn_app (goodIn_of _ (by decide +kernel)) ggX4_stationAt_X4_thingNumbered
theorem dX4_stationAt_0 : decode cX4_stationAt 0 = .ok (.aload_n 0, 1) := by decide +kernel
theorem dX4_stationAt_1 : decode cX4_stationAt 1 = .ok (.iload_n 1, 1) := by decide +kernel
theorem dX4_stationAt_2 : decode cX4_stationAt 2 = .ok (.invokevirtual 101, 3) := by decide +kernel
theorem dX4_stationAt_5 : decode cX4_stationAt 5 = .ok (.astore_n 3, 1) := by decide +kernel
theorem dX4_stationAt_6 : decode cX4_stationAt 6 = .ok (.iload_n 2, 1) := by decide +kernel
theorem dX4_stationAt_7 : decode cX4_stationAt 7 = .ok (.ifCond .ge 13, 3) := by decide +kernel
theorem dX4_stationAt_10 : decode cX4_stationAt 10 = .ok (.new 157, 3) := by decide +kernel
theorem dX4_stationAt_13 : decode cX4_stationAt 13 = .ok (.dup, 1) := by decide +kernel
theorem dX4_stationAt_14 : decode cX4_stationAt 14 = .ok (.ldc 159, 2) := by decide +kernel
theorem dX4_stationAt_16 : decode cX4_stationAt 16 = .ok (.invokespecial 161, 3) := by decide +kernel
theorem dX4_stationAt_19 : decode cX4_stationAt 19 = .ok (.athrow, 1) := by decide +kernel
theorem dX4_stationAt_20 : decode cX4_stationAt 20 = .ok (.aload_n 3, 1) := by decide +kernel
theorem dX4_stationAt_21 : decode cX4_stationAt 21 = .ok (.getfield 162, 3) := by decide +kernel
theorem dX4_stationAt_24 : decode cX4_stationAt 24 = .ok (.astore 4, 2) := by decide +kernel
theorem dX4_stationAt_26 : decode cX4_stationAt 26 = .ok (.iconst 0, 1) := by decide +kernel
theorem dX4_stationAt_27 : decode cX4_stationAt 27 = .ok (.istore 5, 2) := by decide +kernel
theorem dX4_stationAt_29 : decode cX4_stationAt 29 = .ok (.iload 5, 2) := by decide +kernel
theorem dX4_stationAt_31 : decode cX4_stationAt 31 = .ok (.iload_n 2, 1) := by decide +kernel
theorem dX4_stationAt_32 : decode cX4_stationAt 32 = .ok (.if_icmp .ge 21, 3) := by decide +kernel
theorem dX4_stationAt_35 : decode cX4_stationAt 35 = .ok (.aload 4, 2) := by decide +kernel
theorem dX4_stationAt_37 : decode cX4_stationAt 37 = .ok (.ifnull 16, 3) := by decide +kernel
theorem dX4_stationAt_40 : decode cX4_stationAt 40 = .ok (.aload 4, 2) := by decide +kernel
theorem dX4_stationAt_42 : decode cX4_stationAt 42 = .ok (.getfield 166, 3) := by decide +kernel
theorem dX4_stationAt_45 : decode cX4_stationAt 45 = .ok (.astore 4, 2) := by decide +kernel
theorem dX4_stationAt_47 : decode cX4_stationAt 47 = .ok (.iinc 5 1, 3) := by decide +kernel
theorem dX4_stationAt_50 : decode cX4_stationAt 50 = .ok (.goto (-21), 3) := by decide +kernel
theorem dX4_stationAt_53 : decode cX4_stationAt 53 = .ok (.aload 4, 2) := by decide +kernel
theorem dX4_stationAt_55 : decode cX4_stationAt 55 = .ok (.ifnonnull 7, 3) := by decide +kernel
theorem dX4_stationAt_58 : decode cX4_stationAt 58 = .ok (.iconst (-1), 1) := by decide +kernel
theorem dX4_stationAt_59 : decode cX4_stationAt 59 = .ok (.goto 8, 3) := by decide +kernel
theorem dX4_stationAt_62 : decode cX4_stationAt 62 = .ok (.aload 4, 2) := by decide +kernel
theorem dX4_stationAt_64 : decode cX4_stationAt 64 = .ok (.getfield 169, 3) := by decide +kernel
theorem dX4_stationAt_67 : decode cX4_stationAt 67 = .ok (.ireturn, 1) := by decide +kernel
set_option maxRecDepth 20000 in
theorem ggX4_isLoss_X4_stationNumbered : GoodIn wsX4_isLoss wsX4_stationNumbered := goodIn_ca (goodIn_r _ [5, 6, 7, 8, 9, 10, 11, 4, 12, 13, 39, 40, 41, 42, 43, 44, 45, 46, 47, 48, 49, 50, 51, 52] (by decide +kernel) (by decide +kernel)) (goodIn_sub (fun _ h => List.mem_cons_of_mem _ (List.mem_append_right _ h)) (by decide +kernel))
set_option maxRecDepth 20000 in
theorem gX4_isLoss_X4_stationNumbered : GoodIn wsX4_isLoss (wsV RX4 126 RX4 yX4_stationNumbered wsX4_stationNumbered) := goodIn_app (goodIn_of _ (by decide +kernel)) ggX4_isLoss_X4_stationNumbered
set_option maxRecDepth 20000 in
theorem ggX4_isLoss_X4_takesAway : GoodIn wsX4_isLoss wsX4_takesAway := goodIn_r _ [17, 18, 19, 20, 21, 22, 23, 24, 25, 26, 4, 27, 28, 29, 30, 31, 32, 33, 34, 35, 36, 37, 38, 53, 54, 55, 56, 57, 58, 59, 60, 61, 45, 46, 47, 48, 49, 50, 51, 52, 62, 63, 64, 65, 66, 67, 68, 69, 70, 71] (by decide +kernel) (by decide +kernel)
set_option maxRecDepth 20000 in
theorem gX4_isLoss_X4_takesAway : GoodIn wsX4_isLoss (wsV RX4 172 RX4 yX4_takesAway wsX4_takesAway) := goodIn_app (goodIn_of _ (by decide +kernel)) ggX4_isLoss_X4_takesAway
theorem dX4_isLoss_0 : decode cX4_isLoss 0 = .ok (.aload_n 0, 1) := by decide +kernel
theorem dX4_isLoss_1 : decode cX4_isLoss 1 = .ok (.aload_n 0, 1) := by decide +kernel
theorem dX4_isLoss_2 : decode cX4_isLoss 2 = .ok (.iload_n 1, 1) := by decide +kernel
theorem dX4_isLoss_3 : decode cX4_isLoss 3 = .ok (.iload_n 2, 1) := by decide +kernel
theorem dX4_isLoss_4 : decode cX4_isLoss 4 = .ok (.invokevirtual 126, 3) := by decide +kernel
theorem dX4_isLoss_7 : decode cX4_isLoss 7 = .ok (.invokevirtual 172, 3) := by decide +kernel
theorem dX4_isLoss_10 : decode cX4_isLoss 10 = .ok (.ireturn, 1) := by decide +kernel
set_option maxRecDepth 20000 in
theorem ggX4_holder_X4_thingNumbered : GoodIn wsX4_holder wsX4_thingNumbered := goodIn_ca (goodIn_r _ [5, 6, 7, 8, 20, 21, 22, 23, 24, 25, 26, 27] (by decide +kernel) (by decide +kernel)) (goodIn_sub (fun _ h => List.mem_cons_of_mem _ (List.mem_append_right _ h)) (by decide +kernel))
set_option maxRecDepth 20000 in
theorem gX4_holder_X4_thingNumbered : GoodIn wsX4_holder (wsV RX4 101 RX4 yX4_thingNumbered wsX4_thingNumbered) := goodIn_app (goodIn_of _ (by decide +kernel)) ggX4_holder_X4_thingNumbered
set_option maxRecDepth 20000 in
theorem ggX4_holder_X3_lastParty : GoodIn wsX4_holder wsX3_lastParty := goodIn_r _ [13, 14, 15, 28, 29, 30, 31, 32, 33, 34, 35, 36, 37, 38, 39, 40, 41, 42] (by decide +kernel) (by decide +kernel)
set_option maxRecDepth 20000 in
theorem gX4_holder_X3_lastParty : GoodIn wsX4_holder (wsV RX4 176 RX3 yX3_lastParty wsX3_lastParty) := goodIn_app (goodIn_of _ (by decide +kernel)) ggX4_holder_X3_lastParty
set_option maxRecDepth 20000 in
theorem ggX4_holder_X4_numberOf : GoodIn wsX4_holder wsX4_numberOf := goodIn_r _ [18, 19, 43, 44, 45, 46, 47, 48] (by decide +kernel) (by decide +kernel)
set_option maxRecDepth 20000 in
theorem gX4_holder_X4_numberOf : GoodIn wsX4_holder (va_wsS RX4 149 yX4_numberOf wsX4_numberOf) := goodIn_app (goodIn_of _ (by decide +kernel)) ggX4_holder_X4_numberOf
theorem dX4_holder_0 : decode cX4_holder 0 = .ok (.aload_n 0, 1) := by decide +kernel
theorem dX4_holder_1 : decode cX4_holder 1 = .ok (.iload_n 1, 1) := by decide +kernel
theorem dX4_holder_2 : decode cX4_holder 2 = .ok (.invokevirtual 101, 3) := by decide +kernel
theorem dX4_holder_5 : decode cX4_holder 5 = .ok (.invokevirtual 176, 3) := by decide +kernel
theorem dX4_holder_8 : decode cX4_holder 8 = .ok (.invokestatic 149, 3) := by decide +kernel
theorem dX4_holder_11 : decode cX4_holder 11 = .ok (.ireturn, 1) := by decide +kernel
set_option maxRecDepth 20000 in
theorem ggX4_owner_X4_thingNumbered : GoodIn wsX4_owner wsX4_thingNumbered := goodIn_ca (goodIn_r _ [5, 6, 7, 8, 63, 64, 65, 66, 67, 68, 69, 70] (by decide +kernel) (by decide +kernel)) (goodIn_sub (fun _ h => List.mem_cons_of_mem _ (List.mem_append_right _ h)) (by decide +kernel))
set_option maxRecDepth 20000 in
theorem gX4_owner_X4_thingNumbered : GoodIn wsX4_owner (wsV RX4 101 RX4 yX4_thingNumbered wsX4_thingNumbered) := goodIn_app (goodIn_of _ (by decide +kernel)) ggX4_owner_X4_thingNumbered
set_option maxRecDepth 20000 in
theorem ggX4_owner_X4_titleFromFirst : GoodIn wsX4_owner wsX4_titleFromFirst := goodIn_r _ [12, 13, 14, 15, 16, 17, 18, 4, 19, 20, 21, 22, 23, 24, 25, 26, 27, 28, 29, 30, 31, 32, 33, 34, 35, 36, 37, 38, 39, 40, 41, 42, 43, 44, 45, 46, 47, 48, 49, 50, 71, 72, 73, 74, 75, 76, 77, 78, 79, 80, 81, 82, 83, 84, 85, 63, 64, 65, 66, 67, 68, 69, 70, 86, 87, 88, 89, 90, 91, 92, 93, 94, 95] (by decide +kernel) (by decide +kernel)
set_option maxRecDepth 20000 in
theorem gX4_owner_X4_titleFromFirst : GoodIn wsX4_owner (wsV RX4 180 RX4 yX4_titleFromFirst wsX4_titleFromFirst) := goodIn_app (goodIn_of _ (by decide +kernel)) ggX4_owner_X4_titleFromFirst
set_option maxRecDepth 20000 in
theorem ggX4_owner_X4_livingFor : GoodIn wsX4_owner wsX4_livingFor := goodIn_r _ [53, 54, 55, 56, 4, 57, 58, 51, 52, 86, 87, 88, 89, 90, 91] (by decide +kernel) (by decide +kernel)
set_option maxRecDepth 20000 in
theorem gX4_owner_X4_livingFor : GoodIn wsX4_owner (va_wsS RX4 184 yX4_livingFor wsX4_livingFor) := goodIn_app (goodIn_of _ (by decide +kernel)) ggX4_owner_X4_livingFor
set_option maxRecDepth 20000 in
theorem ggX4_owner_X4_numberOf : GoodIn wsX4_owner wsX4_numberOf := goodIn_r _ [61, 62, 86, 87, 88, 89, 90, 91] (by decide +kernel) (by decide +kernel)
set_option maxRecDepth 20000 in
theorem gX4_owner_X4_numberOf : GoodIn wsX4_owner (va_wsS RX4 149 yX4_numberOf wsX4_numberOf) := goodIn_app (goodIn_of _ (by decide +kernel)) ggX4_owner_X4_numberOf
theorem dX4_owner_0 : decode cX4_owner 0 = .ok (.aload_n 0, 1) := by decide +kernel
theorem dX4_owner_1 : decode cX4_owner 1 = .ok (.aload_n 0, 1) := by decide +kernel
theorem dX4_owner_2 : decode cX4_owner 2 = .ok (.iload_n 1, 1) := by decide +kernel
theorem dX4_owner_3 : decode cX4_owner 3 = .ok (.invokevirtual 101, 3) := by decide +kernel
theorem dX4_owner_6 : decode cX4_owner 6 = .ok (.invokevirtual 180, 3) := by decide +kernel
theorem dX4_owner_9 : decode cX4_owner 9 = .ok (.iconst 3, 1) := by decide +kernel
theorem dX4_owner_10 : decode cX4_owner 10 = .ok (.invokestatic 184, 3) := by decide +kernel
theorem dX4_owner_13 : decode cX4_owner 13 = .ok (.invokestatic 149, 3) := by decide +kernel
theorem dX4_owner_16 : decode cX4_owner 16 = .ok (.ireturn, 1) := by decide +kernel
set_option maxRecDepth 20000 in
theorem ggX4_ownerAnew_X4_thingNumbered : GoodIn wsX4_ownerAnew wsX4_thingNumbered := goodIn_ca (goodIn_r _ [5, 6, 7, 8, 60, 61, 62, 63, 64, 65, 66, 67] (by decide +kernel) (by decide +kernel)) (goodIn_sub (fun _ h => List.mem_cons_of_mem _ (List.mem_append_right _ h)) (by decide +kernel))
set_option maxRecDepth 20000 in
theorem gX4_ownerAnew_X4_thingNumbered : GoodIn wsX4_ownerAnew (wsV RX4 101 RX4 yX4_thingNumbered wsX4_thingNumbered) := goodIn_app (goodIn_of _ (by decide +kernel)) ggX4_ownerAnew_X4_thingNumbered
set_option maxRecDepth 20000 in
theorem ggX4_ownerAnew_X4_titleFromLast : GoodIn wsX4_ownerAnew wsX4_titleFromLast := goodIn_r _ [12, 13, 14, 15, 16, 17, 18, 19, 20, 4, 21, 22, 23, 24, 25, 26, 27, 28, 29, 30, 31, 32, 33, 34, 35, 36, 37, 38, 39, 40, 41, 42, 43, 44, 45, 46, 47, 68, 69, 70, 71, 72, 73, 74, 75, 76, 77, 78, 79, 80, 81, 82, 83, 84, 85, 86, 87, 88, 60, 61, 62, 63, 64, 65, 66, 67, 89, 90, 91, 92] (by decide +kernel) (by decide +kernel)
set_option maxRecDepth 20000 in
theorem gX4_ownerAnew_X4_titleFromLast : GoodIn wsX4_ownerAnew (wsV RX4 187 RX4 yX4_titleFromLast wsX4_titleFromLast) := goodIn_app (goodIn_of _ (by decide +kernel)) ggX4_ownerAnew_X4_titleFromLast
set_option maxRecDepth 20000 in
theorem ggX4_ownerAnew_X4_livingFor : GoodIn wsX4_ownerAnew wsX4_livingFor := goodIn_r _ [50, 51, 52, 53, 4, 54, 55, 48, 49, 83, 84, 85, 86, 87, 88] (by decide +kernel) (by decide +kernel)
set_option maxRecDepth 20000 in
theorem gX4_ownerAnew_X4_livingFor : GoodIn wsX4_ownerAnew (va_wsS RX4 184 yX4_livingFor wsX4_livingFor) := goodIn_app (goodIn_of _ (by decide +kernel)) ggX4_ownerAnew_X4_livingFor
set_option maxRecDepth 20000 in
theorem ggX4_ownerAnew_X4_numberOf : GoodIn wsX4_ownerAnew wsX4_numberOf := goodIn_r _ [58, 59, 83, 84, 85, 86, 87, 88] (by decide +kernel) (by decide +kernel)
set_option maxRecDepth 20000 in
theorem gX4_ownerAnew_X4_numberOf : GoodIn wsX4_ownerAnew (va_wsS RX4 149 yX4_numberOf wsX4_numberOf) := goodIn_app (goodIn_of _ (by decide +kernel)) ggX4_ownerAnew_X4_numberOf
theorem dX4_ownerAnew_0 : decode cX4_ownerAnew 0 = .ok (.aload_n 0, 1) := by decide +kernel
theorem dX4_ownerAnew_1 : decode cX4_ownerAnew 1 = .ok (.aload_n 0, 1) := by decide +kernel
theorem dX4_ownerAnew_2 : decode cX4_ownerAnew 2 = .ok (.iload_n 1, 1) := by decide +kernel
theorem dX4_ownerAnew_3 : decode cX4_ownerAnew 3 = .ok (.invokevirtual 101, 3) := by decide +kernel
theorem dX4_ownerAnew_6 : decode cX4_ownerAnew 6 = .ok (.invokevirtual 187, 3) := by decide +kernel
theorem dX4_ownerAnew_9 : decode cX4_ownerAnew 9 = .ok (.iconst 3, 1) := by decide +kernel
theorem dX4_ownerAnew_10 : decode cX4_ownerAnew 10 = .ok (.invokestatic 184, 3) := by decide +kernel
theorem dX4_ownerAnew_13 : decode cX4_ownerAnew 13 = .ok (.invokestatic 149, 3) := by decide +kernel
theorem dX4_ownerAnew_16 : decode cX4_ownerAnew 16 = .ok (.ireturn, 1) := by decide +kernel
set_option maxRecDepth 20000 in
theorem ggX4_asks_X4_personNumbered : GoodIn wsX4_asks wsX4_personNumbered := goodIn_ca (goodIn_r _ [6, 7, 8, 9, 67, 68, 69, 70, 71, 72, 73, 74] (by decide +kernel) (by decide +kernel)) (goodIn_sub (fun _ h => List.mem_cons_of_mem _ (List.mem_append_right _ h)) (by decide +kernel))
set_option maxRecDepth 20000 in
theorem gX4_asks_X4_personNumbered : GoodIn wsX4_asks (wsV RX4 52 RX4 yX4_personNumbered wsX4_personNumbered) := goodIn_app (goodIn_of _ (by decide +kernel)) ggX4_asks_X4_personNumbered
set_option maxRecDepth 20000 in
theorem ggX4_asks_X3_lastParty : GoodIn wsX4_asks wsX3_lastParty := goodIn_r _ [14, 15, 16, 75, 76, 77, 78, 79, 80, 81, 82, 83, 84, 85, 86, 87, 88, 89] (by decide +kernel) (by decide +kernel)
set_option maxRecDepth 20000 in
theorem gX4_asks_X3_lastParty : GoodIn wsX4_asks (wsV RX4 176 RX3 yX3_lastParty wsX3_lastParty) := goodIn_app (goodIn_of _ (by decide +kernel)) ggX4_asks_X3_lastParty
set_option maxRecDepth 20000 in
theorem ggX4_asks_X4_titleFromFirst : GoodIn wsX4_asks wsX4_titleFromFirst := goodIn_r _ [20, 21, 22, 23, 24, 25, 26, 5, 27, 28, 29, 30, 31, 32, 33, 34, 35, 36, 37, 38, 39, 40, 41, 42, 43, 44, 45, 46, 47, 48, 49, 50, 51, 52, 53, 54, 55, 56, 57, 58, 75, 76, 77, 78, 79, 80, 81, 82, 83, 84, 85, 86, 87, 88, 89, 67, 68, 69, 70, 71, 72, 73, 74, 90, 91, 92, 93, 94, 95, 96, 97, 98, 99] (by decide +kernel) (by decide +kernel)
set_option maxRecDepth 20000 in
theorem gX4_asks_X4_titleFromFirst : GoodIn wsX4_asks (wsV RX4 180 RX4 yX4_titleFromFirst wsX4_titleFromFirst) := goodIn_app (goodIn_of _ (by decide +kernel)) ggX4_asks_X4_titleFromFirst
set_option maxRecDepth 20000 in
theorem ggX4_asks_X4_livingFor : GoodIn wsX4_asks wsX4_livingFor := goodIn_r _ [61, 62, 63, 64, 5, 65, 66, 59, 60, 90, 91, 92, 93, 94, 95] (by decide +kernel) (by decide +kernel)
set_option maxRecDepth 20000 in
theorem gX4_asks_X4_livingFor : GoodIn wsX4_asks (va_wsS RX4 184 yX4_livingFor wsX4_livingFor) := goodIn_app (goodIn_of _ (by decide +kernel)) ggX4_asks_X4_livingFor
theorem dX4_asks_0 : decode cX4_asks 0 = .ok (.aload_n 0, 1) := by decide +kernel
theorem dX4_asks_1 : decode cX4_asks 1 = .ok (.iload_n 1, 1) := by decide +kernel
theorem dX4_asks_2 : decode cX4_asks 2 = .ok (.invokevirtual 52, 3) := by decide +kernel
theorem dX4_asks_5 : decode cX4_asks 5 = .ok (.astore_n 2, 1) := by decide +kernel
theorem dX4_asks_6 : decode cX4_asks 6 = .ok (.iconst 0, 1) := by decide +kernel
theorem dX4_asks_7 : decode cX4_asks 7 = .ok (.istore_n 3, 1) := by decide +kernel
theorem dX4_asks_8 : decode cX4_asks 8 = .ok (.aload_n 0, 1) := by decide +kernel
theorem dX4_asks_9 : decode cX4_asks 9 = .ok (.getfield 31, 3) := by decide +kernel
theorem dX4_asks_12 : decode cX4_asks 12 = .ok (.astore 4, 2) := by decide +kernel
theorem dX4_asks_14 : decode cX4_asks 14 = .ok (.aload 4, 2) := by decide +kernel
theorem dX4_asks_16 : decode cX4_asks 16 = .ok (.arraylength, 1) := by decide +kernel
theorem dX4_asks_17 : decode cX4_asks 17 = .ok (.istore 5, 2) := by decide +kernel
theorem dX4_asks_19 : decode cX4_asks 19 = .ok (.iconst 0, 1) := by decide +kernel
theorem dX4_asks_20 : decode cX4_asks 20 = .ok (.istore 6, 2) := by decide +kernel
theorem dX4_asks_22 : decode cX4_asks 22 = .ok (.iload 6, 2) := by decide +kernel
theorem dX4_asks_24 : decode cX4_asks 24 = .ok (.iload 5, 2) := by decide +kernel
theorem dX4_asks_26 : decode cX4_asks 26 = .ok (.if_icmp .ge 47, 3) := by decide +kernel
theorem dX4_asks_29 : decode cX4_asks 29 = .ok (.aload 4, 2) := by decide +kernel
theorem dX4_asks_31 : decode cX4_asks 31 = .ok (.iload 6, 2) := by decide +kernel
theorem dX4_asks_33 : decode cX4_asks 33 = .ok (.aaload, 1) := by decide +kernel
theorem dX4_asks_34 : decode cX4_asks 34 = .ok (.astore 7, 2) := by decide +kernel
theorem dX4_asks_36 : decode cX4_asks 36 = .ok (.aload 7, 2) := by decide +kernel
theorem dX4_asks_38 : decode cX4_asks 38 = .ok (.ifnull 29, 3) := by decide +kernel
theorem dX4_asks_41 : decode cX4_asks 41 = .ok (.aload 7, 2) := by decide +kernel
theorem dX4_asks_43 : decode cX4_asks 43 = .ok (.invokevirtual 176, 3) := by decide +kernel
theorem dX4_asks_46 : decode cX4_asks 46 = .ok (.aload_n 2, 1) := by decide +kernel
theorem dX4_asks_47 : decode cX4_asks 47 = .ok (.if_acmp .eq 20, 3) := by decide +kernel
theorem dX4_asks_50 : decode cX4_asks 50 = .ok (.aload_n 0, 1) := by decide +kernel
theorem dX4_asks_51 : decode cX4_asks 51 = .ok (.aload 7, 2) := by decide +kernel
theorem dX4_asks_53 : decode cX4_asks 53 = .ok (.invokevirtual 180, 3) := by decide +kernel
theorem dX4_asks_56 : decode cX4_asks 56 = .ok (.iconst 3, 1) := by decide +kernel
theorem dX4_asks_57 : decode cX4_asks 57 = .ok (.invokestatic 184, 3) := by decide +kernel
theorem dX4_asks_60 : decode cX4_asks 60 = .ok (.aload_n 2, 1) := by decide +kernel
theorem dX4_asks_61 : decode cX4_asks 61 = .ok (.if_acmp .ne 6, 3) := by decide +kernel
theorem dX4_asks_64 : decode cX4_asks 64 = .ok (.iinc 3 1, 3) := by decide +kernel
theorem dX4_asks_67 : decode cX4_asks 67 = .ok (.iinc 6 1, 3) := by decide +kernel
theorem dX4_asks_70 : decode cX4_asks 70 = .ok (.goto (-48), 3) := by decide +kernel
theorem dX4_asks_73 : decode cX4_asks 73 = .ok (.iload_n 3, 1) := by decide +kernel
theorem dX4_asks_74 : decode cX4_asks 74 = .ok (.ireturn, 1) := by decide +kernel
theorem dX4_requireGroup_0 : decode cX4_requireGroup 0 = .ok (.iload_n 0, 1) := by decide +kernel
theorem dX4_requireGroup_1 : decode cX4_requireGroup 1 = .ok (.ifCond .lt 8, 3) := by decide +kernel
theorem dX4_requireGroup_4 : decode cX4_requireGroup 4 = .ok (.iload_n 0, 1) := by decide +kernel
theorem dX4_requireGroup_5 : decode cX4_requireGroup 5 = .ok (.iconst 4, 1) := by decide +kernel
theorem dX4_requireGroup_6 : decode cX4_requireGroup 6 = .ok (.if_icmp .lt 13, 3) := by decide +kernel
theorem dX4_requireGroup_9 : decode cX4_requireGroup 9 = .ok (.new 157, 3) := by decide +kernel
theorem dX4_requireGroup_12 : decode cX4_requireGroup 12 = .ok (.dup, 1) := by decide +kernel
theorem dX4_requireGroup_13 : decode cX4_requireGroup 13 = .ok (.ldc 190, 2) := by decide +kernel
theorem dX4_requireGroup_15 : decode cX4_requireGroup 15 = .ok (.invokespecial 161, 3) := by decide +kernel
theorem dX4_requireGroup_18 : decode cX4_requireGroup 18 = .ok (.athrow, 1) := by decide +kernel
theorem dX4_requireGroup_19 : decode cX4_requireGroup 19 = .ok (.return_, 1) := by decide +kernel
theorem dX4_requireLand_0 : decode cX4_requireLand 0 = .ok (.iload_n 0, 1) := by decide +kernel
theorem dX4_requireLand_1 : decode cX4_requireLand 1 = .ok (.ifCond .lt 8, 3) := by decide +kernel
theorem dX4_requireLand_4 : decode cX4_requireLand 4 = .ok (.iload_n 0, 1) := by decide +kernel
theorem dX4_requireLand_5 : decode cX4_requireLand 5 = .ok (.iconst 5, 1) := by decide +kernel
theorem dX4_requireLand_6 : decode cX4_requireLand 6 = .ok (.if_icmp .lt 13, 3) := by decide +kernel
theorem dX4_requireLand_9 : decode cX4_requireLand 9 = .ok (.new 157, 3) := by decide +kernel
theorem dX4_requireLand_12 : decode cX4_requireLand 12 = .ok (.dup, 1) := by decide +kernel
theorem dX4_requireLand_13 : decode cX4_requireLand 13 = .ok (.ldc 192, 2) := by decide +kernel
theorem dX4_requireLand_15 : decode cX4_requireLand 15 = .ok (.invokespecial 161, 3) := by decide +kernel
theorem dX4_requireLand_18 : decode cX4_requireLand 18 = .ok (.athrow, 1) := by decide +kernel
theorem dX4_requireLand_19 : decode cX4_requireLand 19 = .ok (.return_, 1) := by decide +kernel
theorem dX4_requireRange_0 : decode cX4_requireRange 0 = .ok (.iload_n 0, 1) := by decide +kernel
theorem dX4_requireRange_1 : decode cX4_requireRange 1 = .ok (.iload_n 1, 1) := by decide +kernel
theorem dX4_requireRange_2 : decode cX4_requireRange 2 = .ok (.if_icmp .lt 8, 3) := by decide +kernel
theorem dX4_requireRange_5 : decode cX4_requireRange 5 = .ok (.iload_n 0, 1) := by decide +kernel
theorem dX4_requireRange_6 : decode cX4_requireRange 6 = .ok (.iload_n 2, 1) := by decide +kernel
theorem dX4_requireRange_7 : decode cX4_requireRange 7 = .ok (.if_icmp .le 13, 3) := by decide +kernel
theorem dX4_requireRange_10 : decode cX4_requireRange 10 = .ok (.new 62, 3) := by decide +kernel
theorem dX4_requireRange_13 : decode cX4_requireRange 13 = .ok (.dup, 1) := by decide +kernel
theorem dX4_requireRange_14 : decode cX4_requireRange 14 = .ok (.ldc 194, 2) := by decide +kernel
theorem dX4_requireRange_16 : decode cX4_requireRange 16 = .ok (.invokespecial 66, 3) := by decide +kernel
theorem dX4_requireRange_19 : decode cX4_requireRange 19 = .ok (.athrow, 1) := by decide +kernel
theorem dX4_requireRange_20 : decode cX4_requireRange 20 = .ok (.return_, 1) := by decide +kernel
theorem dX4_personNumbered_0 : decode cX4_personNumbered 0 = .ok (.iload_n 1, 1) := by decide +kernel
theorem dX4_personNumbered_1 : decode cX4_personNumbered 1 = .ok (.ifCond .lt 18, 3) := by decide +kernel
theorem dX4_personNumbered_4 : decode cX4_personNumbered 4 = .ok (.iload_n 1, 1) := by decide +kernel
theorem dX4_personNumbered_5 : decode cX4_personNumbered 5 = .ok (.bipush 12, 2) := by decide +kernel
theorem dX4_personNumbered_7 : decode cX4_personNumbered 7 = .ok (.if_icmp .ge 12, 3) := by decide +kernel
theorem dX4_personNumbered_10 : decode cX4_personNumbered 10 = .ok (.aload_n 0, 1) := by decide +kernel
theorem dX4_personNumbered_11 : decode cX4_personNumbered 11 = .ok (.getfield 11, 3) := by decide +kernel
theorem dX4_personNumbered_14 : decode cX4_personNumbered 14 = .ok (.iload_n 1, 1) := by decide +kernel
theorem dX4_personNumbered_15 : decode cX4_personNumbered 15 = .ok (.aaload, 1) := by decide +kernel
theorem dX4_personNumbered_16 : decode cX4_personNumbered 16 = .ok (.goto 4, 3) := by decide +kernel
theorem dX4_personNumbered_19 : decode cX4_personNumbered 19 = .ok (.aconst_null, 1) := by decide +kernel
theorem dX4_personNumbered_20 : decode cX4_personNumbered 20 = .ok (.astore_n 2, 1) := by decide +kernel
theorem dX4_personNumbered_21 : decode cX4_personNumbered 21 = .ok (.aload_n 2, 1) := by decide +kernel
theorem dX4_personNumbered_22 : decode cX4_personNumbered 22 = .ok (.ifnonnull 13, 3) := by decide +kernel
theorem dX4_personNumbered_25 : decode cX4_personNumbered 25 = .ok (.new 157, 3) := by decide +kernel
theorem dX4_personNumbered_28 : decode cX4_personNumbered 28 = .ok (.dup, 1) := by decide +kernel
theorem dX4_personNumbered_29 : decode cX4_personNumbered 29 = .ok (.ldc 196, 2) := by decide +kernel
theorem dX4_personNumbered_31 : decode cX4_personNumbered 31 = .ok (.invokespecial 161, 3) := by decide +kernel
theorem dX4_personNumbered_34 : decode cX4_personNumbered 34 = .ok (.athrow, 1) := by decide +kernel
theorem dX4_personNumbered_35 : decode cX4_personNumbered 35 = .ok (.aload_n 2, 1) := by decide +kernel
theorem dX4_personNumbered_36 : decode cX4_personNumbered 36 = .ok (.areturn, 1) := by decide +kernel
theorem dX4_thingNumbered_0 : decode cX4_thingNumbered 0 = .ok (.iload_n 1, 1) := by decide +kernel
theorem dX4_thingNumbered_1 : decode cX4_thingNumbered 1 = .ok (.ifCond .lt 18, 3) := by decide +kernel
theorem dX4_thingNumbered_4 : decode cX4_thingNumbered 4 = .ok (.iload_n 1, 1) := by decide +kernel
theorem dX4_thingNumbered_5 : decode cX4_thingNumbered 5 = .ok (.bipush 10, 2) := by decide +kernel
theorem dX4_thingNumbered_7 : decode cX4_thingNumbered 7 = .ok (.if_icmp .ge 12, 3) := by decide +kernel
theorem dX4_thingNumbered_10 : decode cX4_thingNumbered 10 = .ok (.aload_n 0, 1) := by decide +kernel
theorem dX4_thingNumbered_11 : decode cX4_thingNumbered 11 = .ok (.getfield 31, 3) := by decide +kernel
theorem dX4_thingNumbered_14 : decode cX4_thingNumbered 14 = .ok (.iload_n 1, 1) := by decide +kernel
theorem dX4_thingNumbered_15 : decode cX4_thingNumbered 15 = .ok (.aaload, 1) := by decide +kernel
theorem dX4_thingNumbered_16 : decode cX4_thingNumbered 16 = .ok (.goto 4, 3) := by decide +kernel
theorem dX4_thingNumbered_19 : decode cX4_thingNumbered 19 = .ok (.aconst_null, 1) := by decide +kernel
theorem dX4_thingNumbered_20 : decode cX4_thingNumbered 20 = .ok (.astore_n 2, 1) := by decide +kernel
theorem dX4_thingNumbered_21 : decode cX4_thingNumbered 21 = .ok (.aload_n 2, 1) := by decide +kernel
theorem dX4_thingNumbered_22 : decode cX4_thingNumbered 22 = .ok (.ifnonnull 13, 3) := by decide +kernel
theorem dX4_thingNumbered_25 : decode cX4_thingNumbered 25 = .ok (.new 157, 3) := by decide +kernel
theorem dX4_thingNumbered_28 : decode cX4_thingNumbered 28 = .ok (.dup, 1) := by decide +kernel
theorem dX4_thingNumbered_29 : decode cX4_thingNumbered 29 = .ok (.ldc 198, 2) := by decide +kernel
theorem dX4_thingNumbered_31 : decode cX4_thingNumbered 31 = .ok (.invokespecial 161, 3) := by decide +kernel
theorem dX4_thingNumbered_34 : decode cX4_thingNumbered 34 = .ok (.athrow, 1) := by decide +kernel
theorem dX4_thingNumbered_35 : decode cX4_thingNumbered 35 = .ok (.aload_n 2, 1) := by decide +kernel
theorem dX4_thingNumbered_36 : decode cX4_thingNumbered 36 = .ok (.areturn, 1) := by decide +kernel
set_option maxRecDepth 20000 in
theorem ggX4_stationNumbered_X4_thingNumbered : GoodIn wsX4_stationNumbered wsX4_thingNumbered := goodIn_ca (goodIn_r _ [8, 1, 2, 9, 16, 17, 18, 19, 20, 21, 22, 23] (by decide +kernel) (by decide +kernel)) (goodIn_sub (fun _ h => List.mem_cons_of_mem _ (List.mem_append_right _ h)) (by decide +kernel))
set_option maxRecDepth 20000 in
theorem gX4_stationNumbered_X4_thingNumbered : GoodIn wsX4_stationNumbered (wsV RX4 101 RX4 yX4_thingNumbered wsX4_thingNumbered) := goodIn_app (goodIn_of _ (by decide +kernel)) ggX4_stationNumbered_X4_thingNumbered
theorem dX4_stationNumbered_0 : decode cX4_stationNumbered 0 = .ok (.aload_n 0, 1) := by decide +kernel
