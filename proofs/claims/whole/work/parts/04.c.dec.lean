theorem dX5_persecutes_64 : decode cX5_persecutes 64 = .ok (.iconst 4, 1) := by decide +kernel
theorem dX5_persecutes_65 : decode cX5_persecutes 65 = .ok (.iload 5, 2) := by decide +kernel
theorem dX5_persecutes_67 : decode cX5_persecutes 67 = .ok (.imul, 1) := by decide +kernel
theorem dX5_persecutes_68 : decode cX5_persecutes 68 = .ok (.iconst 3, 1) := by decide +kernel
theorem dX5_persecutes_69 : decode cX5_persecutes 69 = .ok (.iadd, 1) := by decide +kernel
theorem dX5_persecutes_70 : decode cX5_persecutes 70 = .ok (.iaload, 1) := by decide +kernel
theorem dX5_persecutes_71 : decode cX5_persecutes 71 = .ok (.invokestatic 69, 3) := by decide +kernel
theorem dX5_persecutes_74 : decode cX5_persecutes 74 = .ok (.ifCond .eq 7, 3) := by decide +kernel
theorem dX5_persecutes_77 : decode cX5_persecutes 77 = .ok (.iconst 1, 1) := by decide +kernel
theorem dX5_persecutes_78 : decode cX5_persecutes 78 = .ok (.goto 4, 3) := by decide +kernel
theorem dX5_persecutes_81 : decode cX5_persecutes 81 = .ok (.iconst 0, 1) := by decide +kernel
theorem dX5_persecutes_82 : decode cX5_persecutes 82 = .ok (.istore 4, 2) := by decide +kernel
theorem dX5_persecutes_84 : decode cX5_persecutes 84 = .ok (.iinc 5 1, 3) := by decide +kernel
theorem dX5_persecutes_87 : decode cX5_persecutes 87 = .ok (.goto (-81), 3) := by decide +kernel
theorem dX5_persecutes_90 : decode cX5_persecutes 90 = .ok (.iload 4, 2) := by decide +kernel
theorem dX5_persecutes_92 : decode cX5_persecutes 92 = .ok (.ireturn, 1) := by decide +kernel
set_option maxRecDepth 20000 in
theorem ggX5_thing_X5_in : GoodIn wsX5_thing wsX5_in := goodIn_r _ [8] (by decide +kernel) (by decide +kernel)
set_option maxRecDepth 20000 in
theorem gX5_thing_X5_in : GoodIn wsX5_thing (va_wsS RX5 69 yX5_in wsX5_in) := goodIn_app (goodIn_of _ (by decide +kernel)) ggX5_thing_X5_in
set_option maxRecDepth 20000 in
theorem ggX5_thing_X5_goes : GoodIn wsX5_thing wsX5_goes := goodIn_r _ [12, 13, 14, 15, 16, 17, 18, 19, 20, 21, 22, 23, 24, 25, 26, 27, 28, 29, 30, 31, 32, 33, 34] (by decide +kernel) (by decide +kernel)
set_option maxRecDepth 20000 in
theorem gX5_thing_X5_goes : GoodIn wsX5_thing (wsV RX5 80 RX5 yX5_goes wsX5_goes) := goodIn_app (goodIn_of _ (by decide +kernel)) ggX5_thing_X5_goes
theorem dX5_thing_0 : decode cX5_thing 0 = .ok (.aload_n 0, 1) := by decide +kernel
theorem dX5_thing_1 : decode cX5_thing 1 = .ok (.iload_n 1, 1) := by decide +kernel
theorem dX5_thing_2 : decode cX5_thing 2 = .ok (.iconst 0, 1) := by decide +kernel
theorem dX5_thing_3 : decode cX5_thing 3 = .ok (.ldc 97, 2) := by decide +kernel
theorem dX5_thing_5 : decode cX5_thing 5 = .ok (.invokestatic 69, 3) := by decide +kernel
theorem dX5_thing_8 : decode cX5_thing 8 = .ok (.ifCond .eq 18, 3) := by decide +kernel
theorem dX5_thing_11 : decode cX5_thing 11 = .ok (.iload_n 2, 1) := by decide +kernel
theorem dX5_thing_12 : decode cX5_thing 12 = .ok (.iconst 0, 1) := by decide +kernel
theorem dX5_thing_13 : decode cX5_thing 13 = .ok (.sipush 1000, 3) := by decide +kernel
theorem dX5_thing_16 : decode cX5_thing 16 = .ok (.invokestatic 69, 3) := by decide +kernel
theorem dX5_thing_19 : decode cX5_thing 19 = .ok (.ifCond .eq 7, 3) := by decide +kernel
theorem dX5_thing_22 : decode cX5_thing 22 = .ok (.iconst 1, 1) := by decide +kernel
theorem dX5_thing_23 : decode cX5_thing 23 = .ok (.goto 4, 3) := by decide +kernel
theorem dX5_thing_26 : decode cX5_thing 26 = .ok (.iconst 0, 1) := by decide +kernel
theorem dX5_thing_27 : decode cX5_thing 27 = .ok (.aload_n 0, 1) := by decide +kernel
theorem dX5_thing_28 : decode cX5_thing 28 = .ok (.getfield 73, 3) := by decide +kernel
theorem dX5_thing_31 : decode cX5_thing 31 = .ok (.bipush 10, 2) := by decide +kernel
theorem dX5_thing_33 : decode cX5_thing 33 = .ok (.if_icmp .ge 7, 3) := by decide +kernel
theorem dX5_thing_36 : decode cX5_thing 36 = .ok (.iconst 1, 1) := by decide +kernel
theorem dX5_thing_37 : decode cX5_thing 37 = .ok (.goto 4, 3) := by decide +kernel
theorem dX5_thing_40 : decode cX5_thing 40 = .ok (.iconst 0, 1) := by decide +kernel
theorem dX5_thing_41 : decode cX5_thing 41 = .ok (.iconst 1, 1) := by decide +kernel
theorem dX5_thing_42 : decode cX5_thing 42 = .ok (.invokevirtual 80, 3) := by decide +kernel
theorem dX5_thing_45 : decode cX5_thing 45 = .ok (.ifCond .ne 5, 3) := by decide +kernel
theorem dX5_thing_48 : decode cX5_thing 48 = .ok (.iconst 0, 1) := by decide +kernel
theorem dX5_thing_49 : decode cX5_thing 49 = .ok (.ireturn, 1) := by decide +kernel
theorem dX5_thing_50 : decode cX5_thing 50 = .ok (.aload_n 0, 1) := by decide +kernel
theorem dX5_thing_51 : decode cX5_thing 51 = .ok (.getfield 33, 3) := by decide +kernel
theorem dX5_thing_54 : decode cX5_thing 54 = .ok (.aload_n 0, 1) := by decide +kernel
theorem dX5_thing_55 : decode cX5_thing 55 = .ok (.getfield 73, 3) := by decide +kernel
theorem dX5_thing_58 : decode cX5_thing 58 = .ok (.iload_n 1, 1) := by decide +kernel
theorem dX5_thing_59 : decode cX5_thing 59 = .ok (.iastore, 1) := by decide +kernel
theorem dX5_thing_60 : decode cX5_thing 60 = .ok (.aload_n 0, 1) := by decide +kernel
theorem dX5_thing_61 : decode cX5_thing 61 = .ok (.getfield 36, 3) := by decide +kernel
theorem dX5_thing_64 : decode cX5_thing 64 = .ok (.aload_n 0, 1) := by decide +kernel
theorem dX5_thing_65 : decode cX5_thing 65 = .ok (.getfield 73, 3) := by decide +kernel
theorem dX5_thing_68 : decode cX5_thing 68 = .ok (.iload_n 2, 1) := by decide +kernel
theorem dX5_thing_69 : decode cX5_thing 69 = .ok (.iastore, 1) := by decide +kernel
theorem dX5_thing_70 : decode cX5_thing 70 = .ok (.aload_n 0, 1) := by decide +kernel
theorem dX5_thing_71 : decode cX5_thing 71 = .ok (.dup, 1) := by decide +kernel
theorem dX5_thing_72 : decode cX5_thing 72 = .ok (.getfield 73, 3) := by decide +kernel
theorem dX5_thing_75 : decode cX5_thing 75 = .ok (.iconst 1, 1) := by decide +kernel
theorem dX5_thing_76 : decode cX5_thing 76 = .ok (.iadd, 1) := by decide +kernel
theorem dX5_thing_77 : decode cX5_thing 77 = .ok (.putfield 73, 3) := by decide +kernel
theorem dX5_thing_80 : decode cX5_thing 80 = .ok (.aload_n 0, 1) := by decide +kernel
theorem dX5_thing_81 : decode cX5_thing 81 = .ok (.getfield 73, 3) := by decide +kernel
theorem dX5_thing_84 : decode cX5_thing 84 = .ok (.iconst 1, 1) := by decide +kernel
theorem dX5_thing_85 : decode cX5_thing 85 = .ok (.isub, 1) := by decide +kernel
theorem dX5_thing_86 : decode cX5_thing 86 = .ok (.ireturn, 1) := by decide +kernel
set_option maxRecDepth 20000 in
theorem ggX5_mark_X5_isThing : GoodIn wsX5_mark wsX5_isThing := goodIn_r _ [6, 7, 8, 9, 5, 10, 16, 17, 18, 19, 20, 21, 22, 23, 24, 25, 26, 27, 28, 29, 30, 31, 32, 33, 34, 35, 36] (by decide +kernel) (by decide +kernel)
set_option maxRecDepth 20000 in
theorem gX5_mark_X5_isThing : GoodIn wsX5_mark (wsV RX5 76 RX5 yX5_isThing wsX5_isThing) := goodIn_app (goodIn_of _ (by decide +kernel)) ggX5_mark_X5_isThing
set_option maxRecDepth 20000 in
theorem ggX5_mark_X5_in : GoodIn wsX5_mark wsX5_in := goodIn_r _ [10] (by decide +kernel) (by decide +kernel)
set_option maxRecDepth 20000 in
theorem gX5_mark_X5_in : GoodIn wsX5_mark (va_wsS RX5 69 yX5_in wsX5_in) := goodIn_app (goodIn_of _ (by decide +kernel)) ggX5_mark_X5_in
set_option maxRecDepth 20000 in
theorem ggX5_mark_X5_goes : GoodIn wsX5_mark wsX5_goes := goodIn_r _ [14, 15, 16, 17, 18, 19, 20, 21, 22, 23, 24, 25, 26, 27, 28, 29, 30, 31, 32, 33, 34, 35, 36] (by decide +kernel) (by decide +kernel)
set_option maxRecDepth 20000 in
theorem gX5_mark_X5_goes : GoodIn wsX5_mark (wsV RX5 80 RX5 yX5_goes wsX5_goes) := goodIn_app (goodIn_of _ (by decide +kernel)) ggX5_mark_X5_goes
theorem dX5_mark_0 : decode cX5_mark 0 = .ok (.aload_n 0, 1) := by decide +kernel
theorem dX5_mark_1 : decode cX5_mark 1 = .ok (.aload_n 0, 1) := by decide +kernel
theorem dX5_mark_2 : decode cX5_mark 2 = .ok (.iload_n 1, 1) := by decide +kernel
theorem dX5_mark_3 : decode cX5_mark 3 = .ok (.invokevirtual 76, 3) := by decide +kernel
theorem dX5_mark_6 : decode cX5_mark 6 = .ok (.iload_n 2, 1) := by decide +kernel
theorem dX5_mark_7 : decode cX5_mark 7 = .ok (.iconst 0, 1) := by decide +kernel
theorem dX5_mark_8 : decode cX5_mark 8 = .ok (.bipush 15, 2) := by decide +kernel
theorem dX5_mark_10 : decode cX5_mark 10 = .ok (.invokestatic 69, 3) := by decide +kernel
theorem dX5_mark_13 : decode cX5_mark 13 = .ok (.iconst 1, 1) := by decide +kernel
theorem dX5_mark_14 : decode cX5_mark 14 = .ok (.invokevirtual 80, 3) := by decide +kernel
theorem dX5_mark_17 : decode cX5_mark 17 = .ok (.ifCond .ne 5, 3) := by decide +kernel
theorem dX5_mark_20 : decode cX5_mark 20 = .ok (.iconst 0, 1) := by decide +kernel
theorem dX5_mark_21 : decode cX5_mark 21 = .ok (.ireturn, 1) := by decide +kernel
theorem dX5_mark_22 : decode cX5_mark 22 = .ok (.aload_n 0, 1) := by decide +kernel
theorem dX5_mark_23 : decode cX5_mark 23 = .ok (.getfield 33, 3) := by decide +kernel
theorem dX5_mark_26 : decode cX5_mark 26 = .ok (.iload_n 1, 1) := by decide +kernel
theorem dX5_mark_27 : decode cX5_mark 27 = .ok (.iaload, 1) := by decide +kernel
theorem dX5_mark_28 : decode cX5_mark 28 = .ok (.iload_n 2, 1) := by decide +kernel
theorem dX5_mark_29 : decode cX5_mark 29 = .ok (.ishr, 1) := by decide +kernel
theorem dX5_mark_30 : decode cX5_mark 30 = .ok (.iconst 1, 1) := by decide +kernel
theorem dX5_mark_31 : decode cX5_mark 31 = .ok (.iand, 1) := by decide +kernel
theorem dX5_mark_32 : decode cX5_mark 32 = .ok (.iconst 1, 1) := by decide +kernel
theorem dX5_mark_33 : decode cX5_mark 33 = .ok (.if_icmp .ne 7, 3) := by decide +kernel
theorem dX5_mark_36 : decode cX5_mark 36 = .ok (.iconst 1, 1) := by decide +kernel
theorem dX5_mark_37 : decode cX5_mark 37 = .ok (.goto 4, 3) := by decide +kernel
theorem dX5_mark_40 : decode cX5_mark 40 = .ok (.iconst 0, 1) := by decide +kernel
theorem dX5_mark_41 : decode cX5_mark 41 = .ok (.istore 4, 2) := by decide +kernel
theorem dX5_mark_43 : decode cX5_mark 43 = .ok (.aload_n 0, 1) := by decide +kernel
theorem dX5_mark_44 : decode cX5_mark 44 = .ok (.getfield 33, 3) := by decide +kernel
theorem dX5_mark_47 : decode cX5_mark 47 = .ok (.iload_n 1, 1) := by decide +kernel
theorem dX5_mark_48 : decode cX5_mark 48 = .ok (.iload_n 3, 1) := by decide +kernel
theorem dX5_mark_49 : decode cX5_mark 49 = .ok (.ifCond .eq 16, 3) := by decide +kernel
theorem dX5_mark_52 : decode cX5_mark 52 = .ok (.aload_n 0, 1) := by decide +kernel
theorem dX5_mark_53 : decode cX5_mark 53 = .ok (.getfield 33, 3) := by decide +kernel
theorem dX5_mark_56 : decode cX5_mark 56 = .ok (.iload_n 1, 1) := by decide +kernel
theorem dX5_mark_57 : decode cX5_mark 57 = .ok (.iaload, 1) := by decide +kernel
theorem dX5_mark_58 : decode cX5_mark 58 = .ok (.iconst 1, 1) := by decide +kernel
theorem dX5_mark_59 : decode cX5_mark 59 = .ok (.iload_n 2, 1) := by decide +kernel
theorem dX5_mark_60 : decode cX5_mark 60 = .ok (.ishl, 1) := by decide +kernel
theorem dX5_mark_61 : decode cX5_mark 61 = .ok (.ior, 1) := by decide +kernel
theorem dX5_mark_62 : decode cX5_mark 62 = .ok (.goto 15, 3) := by decide +kernel
theorem dX5_mark_65 : decode cX5_mark 65 = .ok (.aload_n 0, 1) := by decide +kernel
theorem dX5_mark_66 : decode cX5_mark 66 = .ok (.getfield 33, 3) := by decide +kernel
theorem dX5_mark_69 : decode cX5_mark 69 = .ok (.iload_n 1, 1) := by decide +kernel
theorem dX5_mark_70 : decode cX5_mark 70 = .ok (.iaload, 1) := by decide +kernel
theorem dX5_mark_71 : decode cX5_mark 71 = .ok (.iconst 1, 1) := by decide +kernel
theorem dX5_mark_72 : decode cX5_mark 72 = .ok (.iload_n 2, 1) := by decide +kernel
theorem dX5_mark_73 : decode cX5_mark 73 = .ok (.ishl, 1) := by decide +kernel
theorem dX5_mark_74 : decode cX5_mark 74 = .ok (.iconst (-1), 1) := by decide +kernel
theorem dX5_mark_75 : decode cX5_mark 75 = .ok (.ixor, 1) := by decide +kernel
theorem dX5_mark_76 : decode cX5_mark 76 = .ok (.iand, 1) := by decide +kernel
theorem dX5_mark_77 : decode cX5_mark 77 = .ok (.iastore, 1) := by decide +kernel
theorem dX5_mark_78 : decode cX5_mark 78 = .ok (.iload 4, 2) := by decide +kernel
theorem dX5_mark_80 : decode cX5_mark 80 = .ok (.ireturn, 1) := by decide +kernel
set_option maxRecDepth 20000 in
theorem ggX5_station_X5_isThing : GoodIn wsX5_station wsX5_isThing := goodIn_r _ [11, 12, 13, 14, 10, 15, 29, 30, 31, 32, 33, 34, 35, 36, 37, 38, 39, 40, 41, 42, 43, 44, 45, 46, 47, 48, 49] (by decide +kernel) (by decide +kernel)
set_option maxRecDepth 20000 in
theorem gX5_station_X5_isThing : GoodIn wsX5_station (wsV RX5 76 RX5 yX5_isThing wsX5_isThing) := goodIn_app (goodIn_of _ (by decide +kernel)) ggX5_station_X5_isThing
set_option maxRecDepth 20000 in
theorem ggX5_station_X5_isPerson : GoodIn wsX5_station wsX5_isPerson := goodIn_r _ [19, 20, 13, 14, 10, 15, 29, 30, 31, 32, 33, 34, 35, 36, 37, 38, 39, 40, 41, 42, 43, 44, 45, 46, 47, 48, 49] (by decide +kernel) (by decide +kernel)
set_option maxRecDepth 20000 in
theorem gX5_station_X5_isPerson : GoodIn wsX5_station (wsV RX5 84 RX5 yX5_isPerson wsX5_isPerson) := goodIn_app (goodIn_of _ (by decide +kernel)) ggX5_station_X5_isPerson
set_option maxRecDepth 20000 in
theorem ggX5_station_X5_isLand : GoodIn wsX5_station wsX5_isLand := goodIn_r _ [23, 13, 14, 10, 15] (by decide +kernel) (by decide +kernel)
set_option maxRecDepth 20000 in
theorem gX5_station_X5_isLand : GoodIn wsX5_station (va_wsS RX5 91 yX5_isLand wsX5_isLand) := goodIn_app (goodIn_of _ (by decide +kernel)) ggX5_station_X5_isLand
set_option maxRecDepth 20000 in
theorem ggX5_station_X5_in : GoodIn wsX5_station wsX5_in := goodIn_r _ [15] (by decide +kernel) (by decide +kernel)
set_option maxRecDepth 20000 in
theorem gX5_station_X5_in : GoodIn wsX5_station (va_wsS RX5 69 yX5_in wsX5_in) := goodIn_app (goodIn_of _ (by decide +kernel)) ggX5_station_X5_in
set_option maxRecDepth 20000 in
theorem ggX5_station_X5_goes : GoodIn wsX5_station wsX5_goes := goodIn_r _ [27, 28, 29, 30, 31, 32, 33, 34, 35, 36, 37, 38, 39, 40, 41, 42, 43, 44, 45, 46, 47, 48, 49] (by decide +kernel) (by decide +kernel)
set_option maxRecDepth 20000 in
theorem gX5_station_X5_goes : GoodIn wsX5_station (wsV RX5 80 RX5 yX5_goes wsX5_goes) := goodIn_app (goodIn_of _ (by decide +kernel)) ggX5_station_X5_goes
theorem dX5_station_0 : decode cX5_station 0 = .ok (.aload_n 0, 1) := by decide +kernel
theorem dX5_station_1 : decode cX5_station 1 = .ok (.iload_n 1, 1) := by decide +kernel
theorem dX5_station_2 : decode cX5_station 2 = .ok (.invokevirtual 76, 3) := by decide +kernel
theorem dX5_station_5 : decode cX5_station 5 = .ok (.ifCond .eq 23, 3) := by decide +kernel
theorem dX5_station_8 : decode cX5_station 8 = .ok (.aload_n 0, 1) := by decide +kernel
theorem dX5_station_9 : decode cX5_station 9 = .ok (.iload_n 2, 1) := by decide +kernel
theorem dX5_station_10 : decode cX5_station 10 = .ok (.invokevirtual 84, 3) := by decide +kernel
theorem dX5_station_13 : decode cX5_station 13 = .ok (.ifCond .eq 15, 3) := by decide +kernel
theorem dX5_station_16 : decode cX5_station 16 = .ok (.iload 4, 2) := by decide +kernel
theorem dX5_station_18 : decode cX5_station 18 = .ok (.invokestatic 91, 3) := by decide +kernel
theorem dX5_station_21 : decode cX5_station 21 = .ok (.ifCond .eq 7, 3) := by decide +kernel
theorem dX5_station_24 : decode cX5_station 24 = .ok (.iconst 1, 1) := by decide +kernel
theorem dX5_station_25 : decode cX5_station 25 = .ok (.goto 4, 3) := by decide +kernel
theorem dX5_station_28 : decode cX5_station 28 = .ok (.iconst 0, 1) := by decide +kernel
theorem dX5_station_29 : decode cX5_station 29 = .ok (.istore 6, 2) := by decide +kernel
theorem dX5_station_31 : decode cX5_station 31 = .ok (.aload_n 0, 1) := by decide +kernel
theorem dX5_station_32 : decode cX5_station 32 = .ok (.iload 6, 2) := by decide +kernel
theorem dX5_station_34 : decode cX5_station 34 = .ok (.iload_n 3, 1) := by decide +kernel
theorem dX5_station_35 : decode cX5_station 35 = .ok (.iconst 0, 1) := by decide +kernel
theorem dX5_station_36 : decode cX5_station 36 = .ok (.iconst 5, 1) := by decide +kernel
theorem dX5_station_37 : decode cX5_station 37 = .ok (.invokestatic 69, 3) := by decide +kernel
theorem dX5_station_40 : decode cX5_station 40 = .ok (.ifCond .eq 22, 3) := by decide +kernel
theorem dX5_station_43 : decode cX5_station 43 = .ok (.iload 5, 2) := by decide +kernel
theorem dX5_station_45 : decode cX5_station 45 = .ok (.sipush 1900, 3) := by decide +kernel
theorem dX5_station_48 : decode cX5_station 48 = .ok (.aload_n 0, 1) := by decide +kernel
theorem dX5_station_49 : decode cX5_station 49 = .ok (.getfield 7, 3) := by decide +kernel
theorem dX5_station_52 : decode cX5_station 52 = .ok (.invokestatic 69, 3) := by decide +kernel
theorem dX5_station_55 : decode cX5_station 55 = .ok (.ifCond .eq 7, 3) := by decide +kernel
theorem dX5_station_58 : decode cX5_station 58 = .ok (.iconst 1, 1) := by decide +kernel
theorem dX5_station_59 : decode cX5_station 59 = .ok (.goto 4, 3) := by decide +kernel
theorem dX5_station_62 : decode cX5_station 62 = .ok (.iconst 0, 1) := by decide +kernel
theorem dX5_station_63 : decode cX5_station 63 = .ok (.iload 6, 2) := by decide +kernel
theorem dX5_station_65 : decode cX5_station 65 = .ok (.ifCond .eq 18, 3) := by decide +kernel
theorem dX5_station_68 : decode cX5_station 68 = .ok (.aload_n 0, 1) := by decide +kernel
theorem dX5_station_69 : decode cX5_station 69 = .ok (.getfield 39, 3) := by decide +kernel
theorem dX5_station_72 : decode cX5_station 72 = .ok (.iload_n 1, 1) := by decide +kernel
theorem dX5_station_73 : decode cX5_station 73 = .ok (.iaload, 1) := by decide +kernel
theorem dX5_station_74 : decode cX5_station 74 = .ok (.bipush 8, 2) := by decide +kernel
theorem dX5_station_76 : decode cX5_station 76 = .ok (.if_icmp .ge 7, 3) := by decide +kernel
theorem dX5_station_79 : decode cX5_station 79 = .ok (.iconst 1, 1) := by decide +kernel
theorem dX5_station_80 : decode cX5_station 80 = .ok (.goto 4, 3) := by decide +kernel
theorem dX5_station_83 : decode cX5_station 83 = .ok (.iconst 0, 1) := by decide +kernel
theorem dX5_station_84 : decode cX5_station 84 = .ok (.invokevirtual 80, 3) := by decide +kernel
theorem dX5_station_87 : decode cX5_station 87 = .ok (.ifCond .ne 5, 3) := by decide +kernel
theorem dX5_station_90 : decode cX5_station 90 = .ok (.iconst 0, 1) := by decide +kernel
theorem dX5_station_91 : decode cX5_station 91 = .ok (.ireturn, 1) := by decide +kernel
theorem dX5_station_92 : decode cX5_station 92 = .ok (.bipush 8, 2) := by decide +kernel
theorem dX5_station_94 : decode cX5_station 94 = .ok (.iload_n 1, 1) := by decide +kernel
theorem dX5_station_95 : decode cX5_station 95 = .ok (.imul, 1) := by decide +kernel
theorem dX5_station_96 : decode cX5_station 96 = .ok (.aload_n 0, 1) := by decide +kernel
theorem dX5_station_97 : decode cX5_station 97 = .ok (.getfield 39, 3) := by decide +kernel
theorem dX5_station_100 : decode cX5_station 100 = .ok (.iload_n 1, 1) := by decide +kernel
theorem dX5_station_101 : decode cX5_station 101 = .ok (.iaload, 1) := by decide +kernel
theorem dX5_station_102 : decode cX5_station 102 = .ok (.iadd, 1) := by decide +kernel
theorem dX5_station_103 : decode cX5_station 103 = .ok (.istore 7, 2) := by decide +kernel
theorem dX5_station_105 : decode cX5_station 105 = .ok (.aload_n 0, 1) := by decide +kernel
theorem dX5_station_106 : decode cX5_station 106 = .ok (.getfield 42, 3) := by decide +kernel
theorem dX5_station_109 : decode cX5_station 109 = .ok (.iload 7, 2) := by decide +kernel
theorem dX5_station_111 : decode cX5_station 111 = .ok (.iload_n 2, 1) := by decide +kernel
theorem dX5_station_112 : decode cX5_station 112 = .ok (.iastore, 1) := by decide +kernel
theorem dX5_station_113 : decode cX5_station 113 = .ok (.aload_n 0, 1) := by decide +kernel
theorem dX5_station_114 : decode cX5_station 114 = .ok (.getfield 45, 3) := by decide +kernel
theorem dX5_station_117 : decode cX5_station 117 = .ok (.iload 7, 2) := by decide +kernel
theorem dX5_station_119 : decode cX5_station 119 = .ok (.iload_n 3, 1) := by decide +kernel
theorem dX5_station_120 : decode cX5_station 120 = .ok (.iastore, 1) := by decide +kernel
theorem dX5_station_121 : decode cX5_station 121 = .ok (.aload_n 0, 1) := by decide +kernel
theorem dX5_station_122 : decode cX5_station 122 = .ok (.getfield 48, 3) := by decide +kernel
theorem dX5_station_125 : decode cX5_station 125 = .ok (.iload 7, 2) := by decide +kernel
theorem dX5_station_127 : decode cX5_station 127 = .ok (.iload 4, 2) := by decide +kernel
theorem dX5_station_129 : decode cX5_station 129 = .ok (.iastore, 1) := by decide +kernel
theorem dX5_station_130 : decode cX5_station 130 = .ok (.aload_n 0, 1) := by decide +kernel
theorem dX5_station_131 : decode cX5_station 131 = .ok (.getfield 51, 3) := by decide +kernel
theorem dX5_station_134 : decode cX5_station 134 = .ok (.iload 7, 2) := by decide +kernel
theorem dX5_station_136 : decode cX5_station 136 = .ok (.iload 5, 2) := by decide +kernel
theorem dX5_station_138 : decode cX5_station 138 = .ok (.iastore, 1) := by decide +kernel
theorem dX5_station_139 : decode cX5_station 139 = .ok (.aload_n 0, 1) := by decide +kernel
theorem dX5_station_140 : decode cX5_station 140 = .ok (.getfield 39, 3) := by decide +kernel
theorem dX5_station_143 : decode cX5_station 143 = .ok (.iload_n 1, 1) := by decide +kernel
theorem dX5_station_144 : decode cX5_station 144 = .ok (.dup2, 1) := by decide +kernel
theorem dX5_station_145 : decode cX5_station 145 = .ok (.iaload, 1) := by decide +kernel
theorem dX5_station_146 : decode cX5_station 146 = .ok (.iconst 1, 1) := by decide +kernel
theorem dX5_station_147 : decode cX5_station 147 = .ok (.iadd, 1) := by decide +kernel
theorem dX5_station_148 : decode cX5_station 148 = .ok (.iastore, 1) := by decide +kernel
theorem dX5_station_149 : decode cX5_station 149 = .ok (.aload_n 0, 1) := by decide +kernel
theorem dX5_station_150 : decode cX5_station 150 = .ok (.getfield 39, 3) := by decide +kernel
theorem dX5_station_153 : decode cX5_station 153 = .ok (.iload_n 1, 1) := by decide +kernel
theorem dX5_station_154 : decode cX5_station 154 = .ok (.iaload, 1) := by decide +kernel
theorem dX5_station_155 : decode cX5_station 155 = .ok (.iconst 1, 1) := by decide +kernel
theorem dX5_station_156 : decode cX5_station 156 = .ok (.isub, 1) := by decide +kernel
theorem dX5_station_157 : decode cX5_station 157 = .ok (.ireturn, 1) := by decide +kernel
set_option maxRecDepth 20000 in
theorem ggX5_rebut_X5_isStation : GoodIn wsX5_rebut wsX5_isStation := goodIn_r _ [7, 8, 9, 10, 11, 6, 12, 13, 14, 15, 16, 22, 23, 24, 25, 26, 27, 28, 29, 30, 31, 32, 33, 34, 35, 36, 37, 38, 39, 40, 41, 42] (by decide +kernel) (by decide +kernel)
set_option maxRecDepth 20000 in
theorem gX5_rebut_X5_isStation : GoodIn wsX5_rebut (wsV RX5 98 RX5 yX5_isStation wsX5_isStation) := goodIn_app (goodIn_of _ (by decide +kernel)) ggX5_rebut_X5_isStation
set_option maxRecDepth 20000 in
theorem ggX5_rebut_X5_goes : GoodIn wsX5_rebut wsX5_goes := goodIn_r _ [20, 21, 22, 23, 24, 25, 26, 27, 28, 29, 30, 31, 32, 33, 34, 35, 36, 37, 38, 39, 40, 41, 42] (by decide +kernel) (by decide +kernel)
set_option maxRecDepth 20000 in
theorem gX5_rebut_X5_goes : GoodIn wsX5_rebut (wsV RX5 80 RX5 yX5_goes wsX5_goes) := goodIn_app (goodIn_of _ (by decide +kernel)) ggX5_rebut_X5_goes
theorem dX5_rebut_0 : decode cX5_rebut 0 = .ok (.aload_n 0, 1) := by decide +kernel
theorem dX5_rebut_1 : decode cX5_rebut 1 = .ok (.iload_n 1, 1) := by decide +kernel
theorem dX5_rebut_2 : decode cX5_rebut 2 = .ok (.iload_n 2, 1) := by decide +kernel
theorem dX5_rebut_3 : decode cX5_rebut 3 = .ok (.invokevirtual 98, 3) := by decide +kernel
theorem dX5_rebut_6 : decode cX5_rebut 6 = .ok (.istore 4, 2) := by decide +kernel
theorem dX5_rebut_8 : decode cX5_rebut 8 = .ok (.iload 4, 2) := by decide +kernel
theorem dX5_rebut_10 : decode cX5_rebut 10 = .ok (.ifCond .eq 12, 3) := by decide +kernel
theorem dX5_rebut_13 : decode cX5_rebut 13 = .ok (.bipush 8, 2) := by decide +kernel
theorem dX5_rebut_15 : decode cX5_rebut 15 = .ok (.iload_n 1, 1) := by decide +kernel
theorem dX5_rebut_16 : decode cX5_rebut 16 = .ok (.imul, 1) := by decide +kernel
theorem dX5_rebut_17 : decode cX5_rebut 17 = .ok (.iload_n 2, 1) := by decide +kernel
theorem dX5_rebut_18 : decode cX5_rebut 18 = .ok (.iadd, 1) := by decide +kernel
theorem dX5_rebut_19 : decode cX5_rebut 19 = .ok (.goto 4, 3) := by decide +kernel
theorem dX5_rebut_22 : decode cX5_rebut 22 = .ok (.iconst 0, 1) := by decide +kernel
theorem dX5_rebut_23 : decode cX5_rebut 23 = .ok (.istore 5, 2) := by decide +kernel
theorem dX5_rebut_25 : decode cX5_rebut 25 = .ok (.aload_n 0, 1) := by decide +kernel
theorem dX5_rebut_26 : decode cX5_rebut 26 = .ok (.iload 4, 2) := by decide +kernel
theorem dX5_rebut_28 : decode cX5_rebut 28 = .ok (.aload_n 0, 1) := by decide +kernel
theorem dX5_rebut_29 : decode cX5_rebut 29 = .ok (.getfield 45, 3) := by decide +kernel
theorem dX5_rebut_32 : decode cX5_rebut 32 = .ok (.iload 5, 2) := by decide +kernel
theorem dX5_rebut_34 : decode cX5_rebut 34 = .ok (.iaload, 1) := by decide +kernel
theorem dX5_rebut_35 : decode cX5_rebut 35 = .ok (.ifCond .ne 7, 3) := by decide +kernel
theorem dX5_rebut_38 : decode cX5_rebut 38 = .ok (.iconst 1, 1) := by decide +kernel
theorem dX5_rebut_39 : decode cX5_rebut 39 = .ok (.goto 4, 3) := by decide +kernel
theorem dX5_rebut_42 : decode cX5_rebut 42 = .ok (.iconst 0, 1) := by decide +kernel
theorem dX5_rebut_43 : decode cX5_rebut 43 = .ok (.iconst 1, 1) := by decide +kernel
theorem dX5_rebut_44 : decode cX5_rebut 44 = .ok (.invokevirtual 80, 3) := by decide +kernel
theorem dX5_rebut_47 : decode cX5_rebut 47 = .ok (.ifCond .ne 5, 3) := by decide +kernel
theorem dX5_rebut_50 : decode cX5_rebut 50 = .ok (.iconst 0, 1) := by decide +kernel
theorem dX5_rebut_51 : decode cX5_rebut 51 = .ok (.ireturn, 1) := by decide +kernel
theorem dX5_rebut_52 : decode cX5_rebut 52 = .ok (.aload_n 0, 1) := by decide +kernel
theorem dX5_rebut_53 : decode cX5_rebut 53 = .ok (.getfield 54, 3) := by decide +kernel
theorem dX5_rebut_56 : decode cX5_rebut 56 = .ok (.iload 5, 2) := by decide +kernel
theorem dX5_rebut_58 : decode cX5_rebut 58 = .ok (.baload, 1) := by decide +kernel
theorem dX5_rebut_59 : decode cX5_rebut 59 = .ok (.istore 6, 2) := by decide +kernel
theorem dX5_rebut_61 : decode cX5_rebut 61 = .ok (.aload_n 0, 1) := by decide +kernel
theorem dX5_rebut_62 : decode cX5_rebut 62 = .ok (.getfield 54, 3) := by decide +kernel
theorem dX5_rebut_65 : decode cX5_rebut 65 = .ok (.iload 5, 2) := by decide +kernel
theorem dX5_rebut_67 : decode cX5_rebut 67 = .ok (.iload_n 3, 1) := by decide +kernel
theorem dX5_rebut_68 : decode cX5_rebut 68 = .ok (.bastore, 1) := by decide +kernel
theorem dX5_rebut_69 : decode cX5_rebut 69 = .ok (.iload 6, 2) := by decide +kernel
theorem dX5_rebut_71 : decode cX5_rebut 71 = .ok (.ireturn, 1) := by decide +kernel
set_option maxRecDepth 20000 in
theorem ggX5_settle_X5_isStation : GoodIn wsX5_settle wsX5_isStation := goodIn_r _ [6, 7, 8, 9, 10, 5, 11, 12, 13, 14, 15, 21, 22, 23, 24, 25, 26, 27, 28, 29, 30, 31, 32, 33, 34, 35, 36, 37, 38, 39, 40, 41] (by decide +kernel) (by decide +kernel)
set_option maxRecDepth 20000 in
theorem gX5_settle_X5_isStation : GoodIn wsX5_settle (wsV RX5 98 RX5 yX5_isStation wsX5_isStation) := goodIn_app (goodIn_of _ (by decide +kernel)) ggX5_settle_X5_isStation
set_option maxRecDepth 20000 in
theorem ggX5_settle_X5_goes : GoodIn wsX5_settle wsX5_goes := goodIn_r _ [19, 20, 21, 22, 23, 24, 25, 26, 27, 28, 29, 30, 31, 32, 33, 34, 35, 36, 37, 38, 39, 40, 41] (by decide +kernel) (by decide +kernel)
set_option maxRecDepth 20000 in
theorem gX5_settle_X5_goes : GoodIn wsX5_settle (wsV RX5 80 RX5 yX5_goes wsX5_goes) := goodIn_app (goodIn_of _ (by decide +kernel)) ggX5_settle_X5_goes
theorem dX5_settle_0 : decode cX5_settle 0 = .ok (.aload_n 0, 1) := by decide +kernel
theorem dX5_settle_1 : decode cX5_settle 1 = .ok (.aload_n 0, 1) := by decide +kernel
theorem dX5_settle_2 : decode cX5_settle 2 = .ok (.iload_n 1, 1) := by decide +kernel
theorem dX5_settle_3 : decode cX5_settle 3 = .ok (.iload_n 2, 1) := by decide +kernel
theorem dX5_settle_4 : decode cX5_settle 4 = .ok (.invokevirtual 98, 3) := by decide +kernel
theorem dX5_settle_7 : decode cX5_settle 7 = .ok (.iconst 1, 1) := by decide +kernel
theorem dX5_settle_8 : decode cX5_settle 8 = .ok (.iconst 1, 1) := by decide +kernel
theorem dX5_settle_9 : decode cX5_settle 9 = .ok (.invokevirtual 80, 3) := by decide +kernel
theorem dX5_settle_12 : decode cX5_settle 12 = .ok (.ifCond .ne 5, 3) := by decide +kernel
theorem dX5_settle_15 : decode cX5_settle 15 = .ok (.iconst 0, 1) := by decide +kernel
theorem dX5_settle_16 : decode cX5_settle 16 = .ok (.ireturn, 1) := by decide +kernel
theorem dX5_settle_17 : decode cX5_settle 17 = .ok (.aload_n 0, 1) := by decide +kernel
theorem dX5_settle_18 : decode cX5_settle 18 = .ok (.getfield 57, 3) := by decide +kernel
theorem dX5_settle_21 : decode cX5_settle 21 = .ok (.bipush 8, 2) := by decide +kernel
theorem dX5_settle_23 : decode cX5_settle 23 = .ok (.iload_n 1, 1) := by decide +kernel
theorem dX5_settle_24 : decode cX5_settle 24 = .ok (.imul, 1) := by decide +kernel
theorem dX5_settle_25 : decode cX5_settle 25 = .ok (.iload_n 2, 1) := by decide +kernel
theorem dX5_settle_26 : decode cX5_settle 26 = .ok (.iadd, 1) := by decide +kernel
theorem dX5_settle_27 : decode cX5_settle 27 = .ok (.baload, 1) := by decide +kernel
theorem dX5_settle_28 : decode cX5_settle 28 = .ok (.istore 4, 2) := by decide +kernel
theorem dX5_settle_30 : decode cX5_settle 30 = .ok (.aload_n 0, 1) := by decide +kernel
theorem dX5_settle_31 : decode cX5_settle 31 = .ok (.getfield 57, 3) := by decide +kernel
theorem dX5_settle_34 : decode cX5_settle 34 = .ok (.bipush 8, 2) := by decide +kernel
theorem dX5_settle_36 : decode cX5_settle 36 = .ok (.iload_n 1, 1) := by decide +kernel
theorem dX5_settle_37 : decode cX5_settle 37 = .ok (.imul, 1) := by decide +kernel
theorem dX5_settle_38 : decode cX5_settle 38 = .ok (.iload_n 2, 1) := by decide +kernel
theorem dX5_settle_39 : decode cX5_settle 39 = .ok (.iadd, 1) := by decide +kernel
theorem dX5_settle_40 : decode cX5_settle 40 = .ok (.iload_n 3, 1) := by decide +kernel
theorem dX5_settle_41 : decode cX5_settle 41 = .ok (.bastore, 1) := by decide +kernel
theorem dX5_settle_42 : decode cX5_settle 42 = .ok (.iload 4, 2) := by decide +kernel
theorem dX5_settle_44 : decode cX5_settle 44 = .ok (.ireturn, 1) := by decide +kernel
set_option maxRecDepth 20000 in
theorem ggX5_isPersecuted_X5_isPerson : GoodIn wsX5_isPersecuted wsX5_isPerson := goodIn_r _ [6, 7, 8, 9, 5, 10, 25, 26, 27, 28, 29, 30, 31, 32, 33, 34, 35, 36, 37, 38, 39, 40, 41, 42, 43, 44, 45] (by decide +kernel) (by decide +kernel)
set_option maxRecDepth 20000 in
theorem gX5_isPersecuted_X5_isPerson : GoodIn wsX5_isPersecuted (wsV RX5 84 RX5 yX5_isPerson wsX5_isPerson) := goodIn_app (goodIn_of _ (by decide +kernel)) ggX5_isPersecuted_X5_isPerson
set_option maxRecDepth 20000 in
theorem ggX5_isPersecuted_X5_isLand : GoodIn wsX5_isPersecuted wsX5_isLand := goodIn_r _ [13, 8, 9, 5, 10] (by decide +kernel) (by decide +kernel)
set_option maxRecDepth 20000 in
theorem gX5_isPersecuted_X5_isLand : GoodIn wsX5_isPersecuted (va_wsS RX5 91 yX5_isLand wsX5_isLand) := goodIn_app (goodIn_of _ (by decide +kernel)) ggX5_isPersecuted_X5_isLand
set_option maxRecDepth 20000 in
theorem ggX5_isPersecuted_X5_in : GoodIn wsX5_isPersecuted wsX5_in := goodIn_r _ [10] (by decide +kernel) (by decide +kernel)
set_option maxRecDepth 20000 in
theorem gX5_isPersecuted_X5_in : GoodIn wsX5_isPersecuted (va_wsS RX5 69 yX5_in wsX5_in) := goodIn_app (goodIn_of _ (by decide +kernel)) ggX5_isPersecuted_X5_in
set_option maxRecDepth 20000 in
theorem ggX5_isPersecuted_X5_goes : GoodIn wsX5_isPersecuted wsX5_goes := goodIn_r _ [17, 18, 25, 26, 27, 28, 29, 30, 31, 32, 33, 34, 35, 36, 37, 38, 39, 40, 41, 42, 43, 44, 45] (by decide +kernel) (by decide +kernel)
set_option maxRecDepth 20000 in
theorem gX5_isPersecuted_X5_goes : GoodIn wsX5_isPersecuted (wsV RX5 80 RX5 yX5_goes wsX5_goes) := goodIn_app (goodIn_of _ (by decide +kernel)) ggX5_isPersecuted_X5_goes
set_option maxRecDepth 20000 in
theorem ggX5_isPersecuted_X5_persecutes : GoodIn wsX5_isPersecuted wsX5_persecutes := goodIn_r _ [22, 23, 24, 8, 9, 5, 10, 25, 26, 27, 28, 29, 30, 31, 32, 33, 34, 35, 36, 37, 38, 39, 40, 41, 42, 43, 44, 45] (by decide +kernel) (by decide +kernel)
set_option maxRecDepth 20000 in
theorem gX5_isPersecuted_X5_persecutes : GoodIn wsX5_isPersecuted (wsV RX5 101 RX5 yX5_persecutes wsX5_persecutes) := goodIn_app (goodIn_of _ (by decide +kernel)) ggX5_isPersecuted_X5_persecutes
theorem dX5_isPersecuted_0 : decode cX5_isPersecuted 0 = .ok (.aload_n 0, 1) := by decide +kernel
theorem dX5_isPersecuted_1 : decode cX5_isPersecuted 1 = .ok (.aload_n 0, 1) := by decide +kernel
theorem dX5_isPersecuted_2 : decode cX5_isPersecuted 2 = .ok (.iload_n 1, 1) := by decide +kernel
theorem dX5_isPersecuted_3 : decode cX5_isPersecuted 3 = .ok (.invokevirtual 84, 3) := by decide +kernel
theorem dX5_isPersecuted_6 : decode cX5_isPersecuted 6 = .ok (.ifCond .eq 14, 3) := by decide +kernel
theorem dX5_isPersecuted_9 : decode cX5_isPersecuted 9 = .ok (.iload_n 2, 1) := by decide +kernel
theorem dX5_isPersecuted_10 : decode cX5_isPersecuted 10 = .ok (.invokestatic 91, 3) := by decide +kernel
theorem dX5_isPersecuted_13 : decode cX5_isPersecuted 13 = .ok (.ifCond .eq 7, 3) := by decide +kernel
theorem dX5_isPersecuted_16 : decode cX5_isPersecuted 16 = .ok (.iconst 1, 1) := by decide +kernel
theorem dX5_isPersecuted_17 : decode cX5_isPersecuted 17 = .ok (.goto 4, 3) := by decide +kernel
theorem dX5_isPersecuted_20 : decode cX5_isPersecuted 20 = .ok (.iconst 0, 1) := by decide +kernel
theorem dX5_isPersecuted_21 : decode cX5_isPersecuted 21 = .ok (.iload_n 3, 1) := by decide +kernel
theorem dX5_isPersecuted_22 : decode cX5_isPersecuted 22 = .ok (.sipush 1900, 3) := by decide +kernel
theorem dX5_isPersecuted_25 : decode cX5_isPersecuted 25 = .ok (.sipush 2100, 3) := by decide +kernel
theorem dX5_isPersecuted_28 : decode cX5_isPersecuted 28 = .ok (.invokestatic 69, 3) := by decide +kernel
theorem dX5_isPersecuted_31 : decode cX5_isPersecuted 31 = .ok (.iconst 1, 1) := by decide +kernel
theorem dX5_isPersecuted_32 : decode cX5_isPersecuted 32 = .ok (.invokevirtual 80, 3) := by decide +kernel
theorem dX5_isPersecuted_35 : decode cX5_isPersecuted 35 = .ok (.ifCond .eq 22, 3) := by decide +kernel
theorem dX5_isPersecuted_38 : decode cX5_isPersecuted 38 = .ok (.aload_n 0, 1) := by decide +kernel
theorem dX5_isPersecuted_39 : decode cX5_isPersecuted 39 = .ok (.aload_n 0, 1) := by decide +kernel
theorem dX5_isPersecuted_40 : decode cX5_isPersecuted 40 = .ok (.getfield 13, 3) := by decide +kernel
theorem dX5_isPersecuted_43 : decode cX5_isPersecuted 43 = .ok (.iload_n 1, 1) := by decide +kernel
theorem dX5_isPersecuted_44 : decode cX5_isPersecuted 44 = .ok (.iaload, 1) := by decide +kernel
theorem dX5_isPersecuted_45 : decode cX5_isPersecuted 45 = .ok (.iload_n 2, 1) := by decide +kernel
theorem dX5_isPersecuted_46 : decode cX5_isPersecuted 46 = .ok (.iload_n 3, 1) := by decide +kernel
theorem dX5_isPersecuted_47 : decode cX5_isPersecuted 47 = .ok (.invokevirtual 101, 3) := by decide +kernel
theorem dX5_isPersecuted_50 : decode cX5_isPersecuted 50 = .ok (.ifCond .eq 7, 3) := by decide +kernel
theorem dX5_isPersecuted_53 : decode cX5_isPersecuted 53 = .ok (.iconst 1, 1) := by decide +kernel
theorem dX5_isPersecuted_54 : decode cX5_isPersecuted 54 = .ok (.goto 4, 3) := by decide +kernel
theorem dX5_isPersecuted_57 : decode cX5_isPersecuted 57 = .ok (.iconst 0, 1) := by decide +kernel
theorem dX5_isPersecuted_58 : decode cX5_isPersecuted 58 = .ok (.ireturn, 1) := by decide +kernel
theorem dX5_livingOf_0 : decode cX5_livingOf 0 = .ok (.iconst 0, 1) := by decide +kernel
theorem dX5_livingOf_1 : decode cX5_livingOf 1 = .ok (.istore_n 2, 1) := by decide +kernel
theorem dX5_livingOf_2 : decode cX5_livingOf 2 = .ok (.iload_n 2, 1) := by decide +kernel
theorem dX5_livingOf_3 : decode cX5_livingOf 3 = .ok (.aload_n 0, 1) := by decide +kernel
theorem dX5_livingOf_4 : decode cX5_livingOf 4 = .ok (.getfield 24, 3) := by decide +kernel
theorem dX5_livingOf_7 : decode cX5_livingOf 7 = .ok (.iload_n 1, 1) := by decide +kernel
theorem dX5_livingOf_8 : decode cX5_livingOf 8 = .ok (.iaload, 1) := by decide +kernel
theorem dX5_livingOf_9 : decode cX5_livingOf 9 = .ok (.if_icmp .ge 40, 3) := by decide +kernel
theorem dX5_livingOf_12 : decode cX5_livingOf 12 = .ok (.aload_n 0, 1) := by decide +kernel
theorem dX5_livingOf_13 : decode cX5_livingOf 13 = .ok (.getfield 17, 3) := by decide +kernel
theorem dX5_livingOf_16 : decode cX5_livingOf 16 = .ok (.aload_n 0, 1) := by decide +kernel
theorem dX5_livingOf_17 : decode cX5_livingOf 17 = .ok (.getfield 21, 3) := by decide +kernel
theorem dX5_livingOf_20 : decode cX5_livingOf 20 = .ok (.bipush 12, 2) := by decide +kernel
theorem dX5_livingOf_22 : decode cX5_livingOf 22 = .ok (.iload_n 1, 1) := by decide +kernel
theorem dX5_livingOf_23 : decode cX5_livingOf 23 = .ok (.imul, 1) := by decide +kernel
theorem dX5_livingOf_24 : decode cX5_livingOf 24 = .ok (.iload_n 2, 1) := by decide +kernel
theorem dX5_livingOf_25 : decode cX5_livingOf 25 = .ok (.iadd, 1) := by decide +kernel
theorem dX5_livingOf_26 : decode cX5_livingOf 26 = .ok (.iaload, 1) := by decide +kernel
theorem dX5_livingOf_27 : decode cX5_livingOf 27 = .ok (.baload, 1) := by decide +kernel
theorem dX5_livingOf_28 : decode cX5_livingOf 28 = .ok (.ifCond .ne 15, 3) := by decide +kernel
theorem dX5_livingOf_31 : decode cX5_livingOf 31 = .ok (.aload_n 0, 1) := by decide +kernel
theorem dX5_livingOf_32 : decode cX5_livingOf 32 = .ok (.getfield 21, 3) := by decide +kernel
theorem dX5_livingOf_35 : decode cX5_livingOf 35 = .ok (.bipush 12, 2) := by decide +kernel
theorem dX5_livingOf_37 : decode cX5_livingOf 37 = .ok (.iload_n 1, 1) := by decide +kernel
theorem dX5_livingOf_38 : decode cX5_livingOf 38 = .ok (.imul, 1) := by decide +kernel
theorem dX5_livingOf_39 : decode cX5_livingOf 39 = .ok (.iload_n 2, 1) := by decide +kernel
theorem dX5_livingOf_40 : decode cX5_livingOf 40 = .ok (.iadd, 1) := by decide +kernel
theorem dX5_livingOf_41 : decode cX5_livingOf 41 = .ok (.iaload, 1) := by decide +kernel
theorem dX5_livingOf_42 : decode cX5_livingOf 42 = .ok (.ireturn, 1) := by decide +kernel
theorem dX5_livingOf_43 : decode cX5_livingOf 43 = .ok (.iinc 2 1, 3) := by decide +kernel
theorem dX5_livingOf_46 : decode cX5_livingOf 46 = .ok (.goto (-44), 3) := by decide +kernel
theorem dX5_livingOf_49 : decode cX5_livingOf 49 = .ok (.iconst (-1), 1) := by decide +kernel
theorem dX5_livingOf_50 : decode cX5_livingOf 50 = .ok (.ireturn, 1) := by decide +kernel
set_option maxRecDepth 20000 in
theorem ggX5_nearOf_X5_livingOf : GoodIn wsX5_nearOf wsX5_livingOf := goodIn_r _ [8, 1, 3, 2, 9, 10, 11, 12, 13, 14, 15, 16, 17, 18, 19, 20, 21, 22, 23, 24, 25, 26, 27, 28, 29] (by decide +kernel) (by decide +kernel)
set_option maxRecDepth 20000 in
theorem gX5_nearOf_X5_livingOf : GoodIn wsX5_nearOf (wsV RX5 104 RX5 yX5_livingOf wsX5_livingOf) := goodIn_app (goodIn_of _ (by decide +kernel)) ggX5_nearOf_X5_livingOf
theorem dX5_nearOf_0 : decode cX5_nearOf 0 = .ok (.iconst 0, 1) := by decide +kernel
theorem dX5_nearOf_1 : decode cX5_nearOf 1 = .ok (.istore_n 2, 1) := by decide +kernel
theorem dX5_nearOf_2 : decode cX5_nearOf 2 = .ok (.iload_n 2, 1) := by decide +kernel
theorem dX5_nearOf_3 : decode cX5_nearOf 3 = .ok (.aload_n 0, 1) := by decide +kernel
theorem dX5_nearOf_4 : decode cX5_nearOf 4 = .ok (.getfield 24, 3) := by decide +kernel
theorem dX5_nearOf_7 : decode cX5_nearOf 7 = .ok (.iload_n 1, 1) := by decide +kernel
theorem dX5_nearOf_8 : decode cX5_nearOf 8 = .ok (.iaload, 1) := by decide +kernel
theorem dX5_nearOf_9 : decode cX5_nearOf 9 = .ok (.if_icmp .ge 50, 3) := by decide +kernel
theorem dX5_nearOf_12 : decode cX5_nearOf 12 = .ok (.aload_n 0, 1) := by decide +kernel
theorem dX5_nearOf_13 : decode cX5_nearOf 13 = .ok (.getfield 21, 3) := by decide +kernel
theorem dX5_nearOf_16 : decode cX5_nearOf 16 = .ok (.bipush 12, 2) := by decide +kernel
theorem dX5_nearOf_18 : decode cX5_nearOf 18 = .ok (.iload_n 1, 1) := by decide +kernel
theorem dX5_nearOf_19 : decode cX5_nearOf 19 = .ok (.imul, 1) := by decide +kernel
theorem dX5_nearOf_20 : decode cX5_nearOf 20 = .ok (.iload_n 2, 1) := by decide +kernel
theorem dX5_nearOf_21 : decode cX5_nearOf 21 = .ok (.iadd, 1) := by decide +kernel
theorem dX5_nearOf_22 : decode cX5_nearOf 22 = .ok (.iaload, 1) := by decide +kernel
theorem dX5_nearOf_23 : decode cX5_nearOf 23 = .ok (.istore_n 3, 1) := by decide +kernel
theorem dX5_nearOf_24 : decode cX5_nearOf 24 = .ok (.aload_n 0, 1) := by decide +kernel
theorem dX5_nearOf_25 : decode cX5_nearOf 25 = .ok (.getfield 17, 3) := by decide +kernel
theorem dX5_nearOf_28 : decode cX5_nearOf 28 = .ok (.iload_n 3, 1) := by decide +kernel
theorem dX5_nearOf_29 : decode cX5_nearOf 29 = .ok (.baload, 1) := by decide +kernel
theorem dX5_nearOf_30 : decode cX5_nearOf 30 = .ok (.ifCond .eq 11, 3) := by decide +kernel
theorem dX5_nearOf_33 : decode cX5_nearOf 33 = .ok (.aload_n 0, 1) := by decide +kernel
theorem dX5_nearOf_34 : decode cX5_nearOf 34 = .ok (.iload_n 3, 1) := by decide +kernel
theorem dX5_nearOf_35 : decode cX5_nearOf 35 = .ok (.invokevirtual 104, 3) := by decide +kernel
theorem dX5_nearOf_38 : decode cX5_nearOf 38 = .ok (.goto 4, 3) := by decide +kernel
theorem dX5_nearOf_41 : decode cX5_nearOf 41 = .ok (.iload_n 3, 1) := by decide +kernel
theorem dX5_nearOf_42 : decode cX5_nearOf 42 = .ok (.istore 4, 2) := by decide +kernel
theorem dX5_nearOf_44 : decode cX5_nearOf 44 = .ok (.iload 4, 2) := by decide +kernel
theorem dX5_nearOf_46 : decode cX5_nearOf 46 = .ok (.iconst (-1), 1) := by decide +kernel
theorem dX5_nearOf_47 : decode cX5_nearOf 47 = .ok (.if_icmp .eq 6, 3) := by decide +kernel
theorem dX5_nearOf_50 : decode cX5_nearOf 50 = .ok (.iload 4, 2) := by decide +kernel
theorem dX5_nearOf_52 : decode cX5_nearOf 52 = .ok (.ireturn, 1) := by decide +kernel
theorem dX5_nearOf_53 : decode cX5_nearOf 53 = .ok (.iinc 2 1, 3) := by decide +kernel
theorem dX5_nearOf_56 : decode cX5_nearOf 56 = .ok (.goto (-54), 3) := by decide +kernel
theorem dX5_nearOf_59 : decode cX5_nearOf 59 = .ok (.iconst (-1), 1) := by decide +kernel
theorem dX5_nearOf_60 : decode cX5_nearOf 60 = .ok (.ireturn, 1) := by decide +kernel
set_option maxRecDepth 20000 in
theorem ggX5_findsHeir_X5_nearOf : GoodIn wsX5_findsHeir wsX5_nearOf := goodIn_r _ [8, 1, 2, 3, 9, 10, 11, 7, 12, 13, 14, 15, 16, 17, 18, 19, 20, 21, 22, 23, 24, 25, 26, 27, 28, 29, 30, 31, 32, 33] (by decide +kernel) (by decide +kernel)
set_option maxRecDepth 20000 in
theorem gX5_findsHeir_X5_nearOf : GoodIn wsX5_findsHeir (wsV RX5 108 RX5 yX5_nearOf wsX5_nearOf) := goodIn_app (goodIn_of _ (by decide +kernel)) ggX5_findsHeir_X5_nearOf
theorem dX5_findsHeir_0 : decode cX5_findsHeir 0 = .ok (.iconst 0, 1) := by decide +kernel
theorem dX5_findsHeir_1 : decode cX5_findsHeir 1 = .ok (.istore_n 2, 1) := by decide +kernel
theorem dX5_findsHeir_2 : decode cX5_findsHeir 2 = .ok (.iload_n 2, 1) := by decide +kernel
theorem dX5_findsHeir_3 : decode cX5_findsHeir 3 = .ok (.aload_n 0, 1) := by decide +kernel
theorem dX5_findsHeir_4 : decode cX5_findsHeir 4 = .ok (.getfield 24, 3) := by decide +kernel
theorem dX5_findsHeir_7 : decode cX5_findsHeir 7 = .ok (.iload_n 1, 1) := by decide +kernel
theorem dX5_findsHeir_8 : decode cX5_findsHeir 8 = .ok (.iaload, 1) := by decide +kernel
theorem dX5_findsHeir_9 : decode cX5_findsHeir 9 = .ok (.if_icmp .ge 50, 3) := by decide +kernel
theorem dX5_findsHeir_12 : decode cX5_findsHeir 12 = .ok (.aload_n 0, 1) := by decide +kernel
theorem dX5_findsHeir_13 : decode cX5_findsHeir 13 = .ok (.getfield 21, 3) := by decide +kernel
theorem dX5_findsHeir_16 : decode cX5_findsHeir 16 = .ok (.bipush 12, 2) := by decide +kernel
theorem dX5_findsHeir_18 : decode cX5_findsHeir 18 = .ok (.iload_n 1, 1) := by decide +kernel
theorem dX5_findsHeir_19 : decode cX5_findsHeir 19 = .ok (.imul, 1) := by decide +kernel
theorem dX5_findsHeir_20 : decode cX5_findsHeir 20 = .ok (.iload_n 2, 1) := by decide +kernel
theorem dX5_findsHeir_21 : decode cX5_findsHeir 21 = .ok (.iadd, 1) := by decide +kernel
theorem dX5_findsHeir_22 : decode cX5_findsHeir 22 = .ok (.iaload, 1) := by decide +kernel
theorem dX5_findsHeir_23 : decode cX5_findsHeir 23 = .ok (.istore_n 3, 1) := by decide +kernel
theorem dX5_findsHeir_24 : decode cX5_findsHeir 24 = .ok (.aload_n 0, 1) := by decide +kernel
theorem dX5_findsHeir_25 : decode cX5_findsHeir 25 = .ok (.getfield 17, 3) := by decide +kernel
theorem dX5_findsHeir_28 : decode cX5_findsHeir 28 = .ok (.iload_n 3, 1) := by decide +kernel
theorem dX5_findsHeir_29 : decode cX5_findsHeir 29 = .ok (.baload, 1) := by decide +kernel
theorem dX5_findsHeir_30 : decode cX5_findsHeir 30 = .ok (.ifCond .eq 11, 3) := by decide +kernel
theorem dX5_findsHeir_33 : decode cX5_findsHeir 33 = .ok (.aload_n 0, 1) := by decide +kernel
theorem dX5_findsHeir_34 : decode cX5_findsHeir 34 = .ok (.iload_n 3, 1) := by decide +kernel
theorem dX5_findsHeir_35 : decode cX5_findsHeir 35 = .ok (.invokevirtual 108, 3) := by decide +kernel
theorem dX5_findsHeir_38 : decode cX5_findsHeir 38 = .ok (.goto 4, 3) := by decide +kernel
theorem dX5_findsHeir_41 : decode cX5_findsHeir 41 = .ok (.iload_n 3, 1) := by decide +kernel
theorem dX5_findsHeir_42 : decode cX5_findsHeir 42 = .ok (.istore 4, 2) := by decide +kernel
theorem dX5_findsHeir_44 : decode cX5_findsHeir 44 = .ok (.iload 4, 2) := by decide +kernel
theorem dX5_findsHeir_46 : decode cX5_findsHeir 46 = .ok (.iconst (-1), 1) := by decide +kernel
theorem dX5_findsHeir_47 : decode cX5_findsHeir 47 = .ok (.if_icmp .eq 6, 3) := by decide +kernel
theorem dX5_findsHeir_50 : decode cX5_findsHeir 50 = .ok (.iload 4, 2) := by decide +kernel
theorem dX5_findsHeir_52 : decode cX5_findsHeir 52 = .ok (.ireturn, 1) := by decide +kernel
theorem dX5_findsHeir_53 : decode cX5_findsHeir 53 = .ok (.iinc 2 1, 3) := by decide +kernel
theorem dX5_findsHeir_56 : decode cX5_findsHeir 56 = .ok (.goto (-54), 3) := by decide +kernel
theorem dX5_findsHeir_59 : decode cX5_findsHeir 59 = .ok (.iconst (-1), 1) := by decide +kernel
theorem dX5_findsHeir_60 : decode cX5_findsHeir 60 = .ok (.ireturn, 1) := by decide +kernel
set_option maxRecDepth 20000 in
theorem ggX5_heirOf_X5_isPerson : GoodIn wsX5_heirOf wsX5_isPerson := goodIn_r _ [5, 6, 7, 8, 4, 9, 30, 31, 32, 33, 34, 35, 36, 37, 38, 39, 40, 41, 42, 43, 44, 45, 46, 47, 48, 49, 50] (by decide +kernel) (by decide +kernel)
set_option maxRecDepth 20000 in
theorem gX5_heirOf_X5_isPerson : GoodIn wsX5_heirOf (wsV RX5 84 RX5 yX5_isPerson wsX5_isPerson) := goodIn_app (goodIn_of _ (by decide +kernel)) ggX5_heirOf_X5_isPerson
set_option maxRecDepth 20000 in
theorem ggX5_heirOf_X5_goes : GoodIn wsX5_heirOf wsX5_goes := goodIn_r _ [13, 14, 30, 31, 32, 33, 34, 35, 36, 37, 38, 39, 40, 41, 42, 43, 44, 45, 46, 47, 48, 49, 50] (by decide +kernel) (by decide +kernel)
set_option maxRecDepth 20000 in
theorem gX5_heirOf_X5_goes : GoodIn wsX5_heirOf (wsV RX5 80 RX5 yX5_goes wsX5_goes) := goodIn_app (goodIn_of _ (by decide +kernel)) ggX5_heirOf_X5_goes
set_option maxRecDepth 20000 in
theorem ggX5_heirOf_X5_findsHeir : GoodIn wsX5_heirOf wsX5_findsHeir := goodIn_r _ [18, 19, 20, 21, 22, 23, 24, 4, 25, 26, 27, 28, 29, 30, 31, 32, 33, 34, 35, 36, 37, 38, 39, 40, 41, 42, 43, 44, 45, 46, 47, 48, 49, 50] (by decide +kernel) (by decide +kernel)
set_option maxRecDepth 20000 in
theorem gX5_heirOf_X5_findsHeir : GoodIn wsX5_heirOf (wsV RX5 111 RX5 yX5_findsHeir wsX5_findsHeir) := goodIn_app (goodIn_of _ (by decide +kernel)) ggX5_heirOf_X5_findsHeir
theorem dX5_heirOf_0 : decode cX5_heirOf 0 = .ok (.aload_n 0, 1) := by decide +kernel
theorem dX5_heirOf_1 : decode cX5_heirOf 1 = .ok (.aload_n 0, 1) := by decide +kernel
theorem dX5_heirOf_2 : decode cX5_heirOf 2 = .ok (.iload_n 1, 1) := by decide +kernel
theorem dX5_heirOf_3 : decode cX5_heirOf 3 = .ok (.invokevirtual 84, 3) := by decide +kernel
theorem dX5_heirOf_6 : decode cX5_heirOf 6 = .ok (.iconst 1, 1) := by decide +kernel
theorem dX5_heirOf_7 : decode cX5_heirOf 7 = .ok (.iconst 1, 1) := by decide +kernel
theorem dX5_heirOf_8 : decode cX5_heirOf 8 = .ok (.invokevirtual 80, 3) := by decide +kernel
theorem dX5_heirOf_11 : decode cX5_heirOf 11 = .ok (.ifCond .eq 11, 3) := by decide +kernel
theorem dX5_heirOf_14 : decode cX5_heirOf 14 = .ok (.aload_n 0, 1) := by decide +kernel
theorem dX5_heirOf_15 : decode cX5_heirOf 15 = .ok (.iload_n 1, 1) := by decide +kernel
theorem dX5_heirOf_16 : decode cX5_heirOf 16 = .ok (.invokevirtual 111, 3) := by decide +kernel
theorem dX5_heirOf_19 : decode cX5_heirOf 19 = .ok (.goto 4, 3) := by decide +kernel
theorem dX5_heirOf_22 : decode cX5_heirOf 22 = .ok (.iconst 0, 1) := by decide +kernel
theorem dX5_heirOf_23 : decode cX5_heirOf 23 = .ok (.ireturn, 1) := by decide +kernel
theorem dX5_bits_0 : decode cX5_bits 0 = .ok (.iconst 0, 1) := by decide +kernel
theorem dX5_bits_1 : decode cX5_bits 1 = .ok (.istore_n 1, 1) := by decide +kernel
theorem dX5_bits_2 : decode cX5_bits 2 = .ok (.iconst 0, 1) := by decide +kernel
theorem dX5_bits_3 : decode cX5_bits 3 = .ok (.istore_n 2, 1) := by decide +kernel
theorem dX5_bits_4 : decode cX5_bits 4 = .ok (.iload_n 2, 1) := by decide +kernel
theorem dX5_bits_5 : decode cX5_bits 5 = .ok (.bipush 16, 2) := by decide +kernel
theorem dX5_bits_7 : decode cX5_bits 7 = .ok (.if_icmp .ge 17, 3) := by decide +kernel
theorem dX5_bits_10 : decode cX5_bits 10 = .ok (.iload_n 1, 1) := by decide +kernel
theorem dX5_bits_11 : decode cX5_bits 11 = .ok (.iload_n 0, 1) := by decide +kernel
theorem dX5_bits_12 : decode cX5_bits 12 = .ok (.iload_n 2, 1) := by decide +kernel
theorem dX5_bits_13 : decode cX5_bits 13 = .ok (.ishr, 1) := by decide +kernel
theorem dX5_bits_14 : decode cX5_bits 14 = .ok (.iconst 1, 1) := by decide +kernel
theorem dX5_bits_15 : decode cX5_bits 15 = .ok (.iand, 1) := by decide +kernel
theorem dX5_bits_16 : decode cX5_bits 16 = .ok (.iadd, 1) := by decide +kernel
theorem dX5_bits_17 : decode cX5_bits 17 = .ok (.istore_n 1, 1) := by decide +kernel
theorem dX5_bits_18 : decode cX5_bits 18 = .ok (.iinc 2 1, 3) := by decide +kernel
theorem dX5_bits_21 : decode cX5_bits 21 = .ok (.goto (-17), 3) := by decide +kernel
theorem dX5_bits_24 : decode cX5_bits 24 = .ok (.iload_n 1, 1) := by decide +kernel
theorem dX5_bits_25 : decode cX5_bits 25 = .ok (.ireturn, 1) := by decide +kernel
set_option maxRecDepth 20000 in
theorem ggX5_likes_X5_bits : GoodIn wsX5_likes wsX5_bits := goodIn_r _ [6] (by decide +kernel) (by decide +kernel)
set_option maxRecDepth 20000 in
theorem gX5_likes_X5_bits : GoodIn wsX5_likes (va_wsS RX5 114 yX5_bits wsX5_bits) := goodIn_app (goodIn_of _ (by decide +kernel)) ggX5_likes_X5_bits
theorem dX5_likes_0 : decode cX5_likes 0 = .ok (.aload_n 0, 1) := by decide +kernel
theorem dX5_likes_1 : decode cX5_likes 1 = .ok (.getfield 36, 3) := by decide +kernel
theorem dX5_likes_4 : decode cX5_likes 4 = .ok (.iload_n 1, 1) := by decide +kernel
theorem dX5_likes_5 : decode cX5_likes 5 = .ok (.iaload, 1) := by decide +kernel
theorem dX5_likes_6 : decode cX5_likes 6 = .ok (.aload_n 0, 1) := by decide +kernel
theorem dX5_likes_7 : decode cX5_likes 7 = .ok (.getfield 36, 3) := by decide +kernel
theorem dX5_likes_10 : decode cX5_likes 10 = .ok (.iload_n 2, 1) := by decide +kernel
theorem dX5_likes_11 : decode cX5_likes 11 = .ok (.iaload, 1) := by decide +kernel
theorem dX5_likes_12 : decode cX5_likes 12 = .ok (.isub, 1) := by decide +kernel
theorem dX5_likes_13 : decode cX5_likes 13 = .ok (.istore_n 3, 1) := by decide +kernel
theorem dX5_likes_14 : decode cX5_likes 14 = .ok (.bipush 10, 2) := by decide +kernel
theorem dX5_likes_16 : decode cX5_likes 16 = .ok (.aload_n 0, 1) := by decide +kernel
theorem dX5_likes_17 : decode cX5_likes 17 = .ok (.getfield 33, 3) := by decide +kernel
theorem dX5_likes_20 : decode cX5_likes 20 = .ok (.iload_n 1, 1) := by decide +kernel
theorem dX5_likes_21 : decode cX5_likes 21 = .ok (.iaload, 1) := by decide +kernel
theorem dX5_likes_22 : decode cX5_likes 22 = .ok (.aload_n 0, 1) := by decide +kernel
theorem dX5_likes_23 : decode cX5_likes 23 = .ok (.getfield 33, 3) := by decide +kernel
theorem dX5_likes_26 : decode cX5_likes 26 = .ok (.iload_n 2, 1) := by decide +kernel
theorem dX5_likes_27 : decode cX5_likes 27 = .ok (.iaload, 1) := by decide +kernel
theorem dX5_likes_28 : decode cX5_likes 28 = .ok (.iand, 1) := by decide +kernel
theorem dX5_likes_29 : decode cX5_likes 29 = .ok (.invokestatic 114, 3) := by decide +kernel
theorem dX5_likes_32 : decode cX5_likes 32 = .ok (.imul, 1) := by decide +kernel
theorem dX5_likes_33 : decode cX5_likes 33 = .ok (.iconst 5, 1) := by decide +kernel
theorem dX5_likes_34 : decode cX5_likes 34 = .ok (.aload_n 0, 1) := by decide +kernel
theorem dX5_likes_35 : decode cX5_likes 35 = .ok (.getfield 33, 3) := by decide +kernel
theorem dX5_likes_38 : decode cX5_likes 38 = .ok (.iload_n 1, 1) := by decide +kernel
theorem dX5_likes_39 : decode cX5_likes 39 = .ok (.iaload, 1) := by decide +kernel
theorem dX5_likes_40 : decode cX5_likes 40 = .ok (.aload_n 0, 1) := by decide +kernel
theorem dX5_likes_41 : decode cX5_likes 41 = .ok (.getfield 33, 3) := by decide +kernel
theorem dX5_likes_44 : decode cX5_likes 44 = .ok (.iload_n 2, 1) := by decide +kernel
theorem dX5_likes_45 : decode cX5_likes 45 = .ok (.iaload, 1) := by decide +kernel
theorem dX5_likes_46 : decode cX5_likes 46 = .ok (.ixor, 1) := by decide +kernel
theorem dX5_likes_47 : decode cX5_likes 47 = .ok (.invokestatic 114, 3) := by decide +kernel
theorem dX5_likes_50 : decode cX5_likes 50 = .ok (.imul, 1) := by decide +kernel
theorem dX5_likes_51 : decode cX5_likes 51 = .ok (.isub, 1) := by decide +kernel
theorem dX5_likes_52 : decode cX5_likes 52 = .ok (.iload_n 3, 1) := by decide +kernel
theorem dX5_likes_53 : decode cX5_likes 53 = .ok (.ifCond .ge 8, 3) := by decide +kernel
theorem dX5_likes_56 : decode cX5_likes 56 = .ok (.iload_n 3, 1) := by decide +kernel
theorem dX5_likes_57 : decode cX5_likes 57 = .ok (.ineg, 1) := by decide +kernel
theorem dX5_likes_58 : decode cX5_likes 58 = .ok (.goto 4, 3) := by decide +kernel
theorem dX5_likes_61 : decode cX5_likes 61 = .ok (.iload_n 3, 1) := by decide +kernel
theorem dX5_likes_62 : decode cX5_likes 62 = .ok (.isub, 1) := by decide +kernel
theorem dX5_likes_63 : decode cX5_likes 63 = .ok (.ireturn, 1) := by decide +kernel
set_option maxRecDepth 20000 in
theorem ggX5_likeness_X5_isThing : GoodIn wsX5_likeness wsX5_isThing := goodIn_r _ [5, 6, 7, 8, 4, 9, 24, 25, 26, 27, 28, 29, 30, 31, 32, 33, 34, 35, 36, 37, 38, 39, 40, 41, 42, 43, 44] (by decide +kernel) (by decide +kernel)
set_option maxRecDepth 20000 in
theorem gX5_likeness_X5_isThing : GoodIn wsX5_likeness (wsV RX5 76 RX5 yX5_isThing wsX5_isThing) := goodIn_app (goodIn_of _ (by decide +kernel)) ggX5_likeness_X5_isThing
set_option maxRecDepth 20000 in
theorem ggX5_likeness_X5_goes : GoodIn wsX5_likeness wsX5_goes := goodIn_r _ [13, 14, 24, 25, 26, 27, 28, 29, 30, 31, 32, 33, 34, 35, 36, 37, 38, 39, 40, 41, 42, 43, 44] (by decide +kernel) (by decide +kernel)
set_option maxRecDepth 20000 in
theorem gX5_likeness_X5_goes : GoodIn wsX5_likeness (wsV RX5 80 RX5 yX5_goes wsX5_goes) := goodIn_app (goodIn_of _ (by decide +kernel)) ggX5_likeness_X5_goes
set_option maxRecDepth 20000 in
theorem ggX5_likeness_X5_likes : GoodIn wsX5_likeness wsX5_likes := goodIn_r _ [18, 19, 20, 21, 22, 4, 23, 24, 25, 26, 27, 28, 29, 30, 31, 32, 33, 34, 35, 36, 37, 38, 39, 40, 41, 42, 43, 44] (by decide +kernel) (by decide +kernel)
set_option maxRecDepth 20000 in
theorem gX5_likeness_X5_likes : GoodIn wsX5_likeness (wsV RX5 117 RX5 yX5_likes wsX5_likes) := goodIn_app (goodIn_of _ (by decide +kernel)) ggX5_likeness_X5_likes
theorem dX5_likeness_0 : decode cX5_likeness 0 = .ok (.aload_n 0, 1) := by decide +kernel
theorem dX5_likeness_1 : decode cX5_likeness 1 = .ok (.aload_n 0, 1) := by decide +kernel
theorem dX5_likeness_2 : decode cX5_likeness 2 = .ok (.iload_n 1, 1) := by decide +kernel
theorem dX5_likeness_3 : decode cX5_likeness 3 = .ok (.invokevirtual 76, 3) := by decide +kernel
theorem dX5_likeness_6 : decode cX5_likeness 6 = .ok (.ifCond .eq 15, 3) := by decide +kernel
theorem dX5_likeness_9 : decode cX5_likeness 9 = .ok (.aload_n 0, 1) := by decide +kernel
theorem dX5_likeness_10 : decode cX5_likeness 10 = .ok (.iload_n 2, 1) := by decide +kernel
theorem dX5_likeness_11 : decode cX5_likeness 11 = .ok (.invokevirtual 76, 3) := by decide +kernel
theorem dX5_likeness_14 : decode cX5_likeness 14 = .ok (.ifCond .eq 7, 3) := by decide +kernel
theorem dX5_likeness_17 : decode cX5_likeness 17 = .ok (.iconst 1, 1) := by decide +kernel
theorem dX5_likeness_18 : decode cX5_likeness 18 = .ok (.goto 4, 3) := by decide +kernel
theorem dX5_likeness_21 : decode cX5_likeness 21 = .ok (.iconst 0, 1) := by decide +kernel
theorem dX5_likeness_22 : decode cX5_likeness 22 = .ok (.iconst 1, 1) := by decide +kernel
theorem dX5_likeness_23 : decode cX5_likeness 23 = .ok (.iconst 1, 1) := by decide +kernel
theorem dX5_likeness_24 : decode cX5_likeness 24 = .ok (.invokevirtual 80, 3) := by decide +kernel
theorem dX5_likeness_27 : decode cX5_likeness 27 = .ok (.ifCond .eq 12, 3) := by decide +kernel
theorem dX5_likeness_30 : decode cX5_likeness 30 = .ok (.aload_n 0, 1) := by decide +kernel
theorem dX5_likeness_31 : decode cX5_likeness 31 = .ok (.iload_n 1, 1) := by decide +kernel
theorem dX5_likeness_32 : decode cX5_likeness 32 = .ok (.iload_n 2, 1) := by decide +kernel
theorem dX5_likeness_33 : decode cX5_likeness 33 = .ok (.invokevirtual 117, 3) := by decide +kernel
theorem dX5_likeness_36 : decode cX5_likeness 36 = .ok (.goto 4, 3) := by decide +kernel
theorem dX5_likeness_39 : decode cX5_likeness 39 = .ok (.iconst 0, 1) := by decide +kernel
theorem dX5_likeness_40 : decode cX5_likeness 40 = .ok (.ireturn, 1) := by decide +kernel
set_option maxRecDepth 20000 in
theorem ggX5_likest_X5_isThing : GoodIn wsX5_likest wsX5_isThing := goodIn_r _ [6, 1, 7, 8, 5, 9, 24, 25, 26, 27, 28, 29, 30, 31, 32, 33, 34, 35, 36, 37, 38, 39, 40, 41, 42, 43, 44] (by decide +kernel) (by decide +kernel)
set_option maxRecDepth 20000 in
theorem gX5_likest_X5_isThing : GoodIn wsX5_likest (wsV RX5 76 RX5 yX5_isThing wsX5_isThing) := goodIn_app (goodIn_of _ (by decide +kernel)) ggX5_likest_X5_isThing
set_option maxRecDepth 20000 in
theorem ggX5_likest_X5_goes : GoodIn wsX5_likest wsX5_goes := goodIn_r _ [13, 14, 24, 25, 26, 27, 28, 29, 30, 31, 32, 33, 34, 35, 36, 37, 38, 39, 40, 41, 42, 43, 44] (by decide +kernel) (by decide +kernel)
set_option maxRecDepth 20000 in
theorem gX5_likest_X5_goes : GoodIn wsX5_likest (wsV RX5 80 RX5 yX5_goes wsX5_goes) := goodIn_app (goodIn_of _ (by decide +kernel)) ggX5_likest_X5_goes
set_option maxRecDepth 20000 in
theorem ggX5_likest_X5_likes : GoodIn wsX5_likest wsX5_likes := goodIn_r _ [18, 19, 20, 21, 22, 5, 23, 24, 25, 26, 27, 28, 29, 30, 31, 32, 33, 34, 35, 36, 37, 38, 39, 40, 41, 42, 43, 44] (by decide +kernel) (by decide +kernel)
set_option maxRecDepth 20000 in
theorem gX5_likest_X5_likes : GoodIn wsX5_likest (wsV RX5 117 RX5 yX5_likes wsX5_likes) := goodIn_app (goodIn_of _ (by decide +kernel)) ggX5_likest_X5_likes
theorem dX5_likest_0 : decode cX5_likest 0 = .ok (.aload_n 0, 1) := by decide +kernel
theorem dX5_likest_1 : decode cX5_likest 1 = .ok (.aload_n 0, 1) := by decide +kernel
theorem dX5_likest_2 : decode cX5_likest 2 = .ok (.iload_n 1, 1) := by decide +kernel
theorem dX5_likest_3 : decode cX5_likest 3 = .ok (.invokevirtual 76, 3) := by decide +kernel
theorem dX5_likest_6 : decode cX5_likest 6 = .ok (.iconst 1, 1) := by decide +kernel
theorem dX5_likest_7 : decode cX5_likest 7 = .ok (.iconst 1, 1) := by decide +kernel
theorem dX5_likest_8 : decode cX5_likest 8 = .ok (.invokevirtual 80, 3) := by decide +kernel
theorem dX5_likest_11 : decode cX5_likest 11 = .ok (.ifCond .ne 5, 3) := by decide +kernel
theorem dX5_likest_14 : decode cX5_likest 14 = .ok (.iconst 0, 1) := by decide +kernel
theorem dX5_likest_15 : decode cX5_likest 15 = .ok (.ireturn, 1) := by decide +kernel
theorem dX5_likest_16 : decode cX5_likest 16 = .ok (.iconst (-1), 1) := by decide +kernel
theorem dX5_likest_17 : decode cX5_likest 17 = .ok (.istore_n 2, 1) := by decide +kernel
theorem dX5_likest_18 : decode cX5_likest 18 = .ok (.iconst 0, 1) := by decide +kernel
theorem dX5_likest_19 : decode cX5_likest 19 = .ok (.istore_n 3, 1) := by decide +kernel
theorem dX5_likest_20 : decode cX5_likest 20 = .ok (.iload_n 3, 1) := by decide +kernel
theorem dX5_likest_21 : decode cX5_likest 21 = .ok (.aload_n 0, 1) := by decide +kernel
theorem dX5_likest_22 : decode cX5_likest 22 = .ok (.getfield 73, 3) := by decide +kernel
theorem dX5_likest_25 : decode cX5_likest 25 = .ok (.if_icmp .ge 40, 3) := by decide +kernel
theorem dX5_likest_28 : decode cX5_likest 28 = .ok (.iload_n 3, 1) := by decide +kernel
theorem dX5_likest_29 : decode cX5_likest 29 = .ok (.iload_n 1, 1) := by decide +kernel
theorem dX5_likest_30 : decode cX5_likest 30 = .ok (.if_icmp .eq 27, 3) := by decide +kernel
theorem dX5_likest_33 : decode cX5_likest 33 = .ok (.iload_n 2, 1) := by decide +kernel
theorem dX5_likest_34 : decode cX5_likest 34 = .ok (.iconst (-1), 1) := by decide +kernel
theorem dX5_likest_35 : decode cX5_likest 35 = .ok (.if_icmp .eq 18, 3) := by decide +kernel
theorem dX5_likest_38 : decode cX5_likest 38 = .ok (.aload_n 0, 1) := by decide +kernel
theorem dX5_likest_39 : decode cX5_likest 39 = .ok (.iload_n 1, 1) := by decide +kernel
theorem dX5_likest_40 : decode cX5_likest 40 = .ok (.iload_n 3, 1) := by decide +kernel
theorem dX5_likest_41 : decode cX5_likest 41 = .ok (.invokevirtual 117, 3) := by decide +kernel
theorem dX5_likest_44 : decode cX5_likest 44 = .ok (.aload_n 0, 1) := by decide +kernel
theorem dX5_likest_45 : decode cX5_likest 45 = .ok (.iload_n 1, 1) := by decide +kernel
theorem dX5_likest_46 : decode cX5_likest 46 = .ok (.iload_n 2, 1) := by decide +kernel
theorem dX5_likest_47 : decode cX5_likest 47 = .ok (.invokevirtual 117, 3) := by decide +kernel
theorem dX5_likest_50 : decode cX5_likest 50 = .ok (.if_icmp .le 7, 3) := by decide +kernel
theorem dX5_likest_53 : decode cX5_likest 53 = .ok (.iload_n 3, 1) := by decide +kernel
theorem dX5_likest_54 : decode cX5_likest 54 = .ok (.goto 4, 3) := by decide +kernel
theorem dX5_likest_57 : decode cX5_likest 57 = .ok (.iload_n 2, 1) := by decide +kernel
theorem dX5_likest_58 : decode cX5_likest 58 = .ok (.istore_n 2, 1) := by decide +kernel
theorem dX5_likest_59 : decode cX5_likest 59 = .ok (.iinc 3 1, 3) := by decide +kernel
theorem dX5_likest_62 : decode cX5_likest 62 = .ok (.goto (-42), 3) := by decide +kernel
theorem dX5_likest_65 : decode cX5_likest 65 = .ok (.iload_n 2, 1) := by decide +kernel
theorem dX5_likest_66 : decode cX5_likest 66 = .ok (.ireturn, 1) := by decide +kernel
theorem dX5_lays_0 : decode cX5_lays 0 = .ok (.bipush 8, 2) := by decide +kernel
theorem dX5_lays_2 : decode cX5_lays 2 = .ok (.iload_n 1, 1) := by decide +kernel
theorem dX5_lays_3 : decode cX5_lays 3 = .ok (.imul, 1) := by decide +kernel
theorem dX5_lays_4 : decode cX5_lays 4 = .ok (.istore_n 2, 1) := by decide +kernel
theorem dX5_lays_5 : decode cX5_lays 5 = .ok (.iconst 0, 1) := by decide +kernel
theorem dX5_lays_6 : decode cX5_lays 6 = .ok (.istore_n 3, 1) := by decide +kernel
theorem dX5_lays_7 : decode cX5_lays 7 = .ok (.iload_n 3, 1) := by decide +kernel
theorem dX5_lays_8 : decode cX5_lays 8 = .ok (.aload_n 0, 1) := by decide +kernel
theorem dX5_lays_9 : decode cX5_lays 9 = .ok (.getfield 39, 3) := by decide +kernel
theorem dX5_lays_12 : decode cX5_lays 12 = .ok (.iload_n 1, 1) := by decide +kernel
theorem dX5_lays_13 : decode cX5_lays 13 = .ok (.iaload, 1) := by decide +kernel
theorem dX5_lays_14 : decode cX5_lays 14 = .ok (.if_icmp .ge 74, 3) := by decide +kernel
theorem dX5_lays_17 : decode cX5_lays 17 = .ok (.iload_n 3, 1) := by decide +kernel
theorem dX5_lays_18 : decode cX5_lays 18 = .ok (.istore 4, 2) := by decide +kernel
theorem dX5_lays_20 : decode cX5_lays 20 = .ok (.iload 4, 2) := by decide +kernel
theorem dX5_lays_22 : decode cX5_lays 22 = .ok (.ifCond .le 52, 3) := by decide +kernel
theorem dX5_lays_25 : decode cX5_lays 25 = .ok (.aload_n 0, 1) := by decide +kernel
theorem dX5_lays_26 : decode cX5_lays 26 = .ok (.getfield 51, 3) := by decide +kernel
theorem dX5_lays_29 : decode cX5_lays 29 = .ok (.iload_n 2, 1) := by decide +kernel
theorem dX5_lays_30 : decode cX5_lays 30 = .ok (.aload_n 0, 1) := by decide +kernel
theorem dX5_lays_31 : decode cX5_lays 31 = .ok (.getfield 60, 3) := by decide +kernel
theorem dX5_lays_34 : decode cX5_lays 34 = .ok (.iload 4, 2) := by decide +kernel
theorem dX5_lays_36 : decode cX5_lays 36 = .ok (.iconst 1, 1) := by decide +kernel
theorem dX5_lays_37 : decode cX5_lays 37 = .ok (.isub, 1) := by decide +kernel
theorem dX5_lays_38 : decode cX5_lays 38 = .ok (.iaload, 1) := by decide +kernel
theorem dX5_lays_39 : decode cX5_lays 39 = .ok (.iadd, 1) := by decide +kernel
theorem dX5_lays_40 : decode cX5_lays 40 = .ok (.iaload, 1) := by decide +kernel
theorem dX5_lays_41 : decode cX5_lays 41 = .ok (.aload_n 0, 1) := by decide +kernel
theorem dX5_lays_42 : decode cX5_lays 42 = .ok (.getfield 51, 3) := by decide +kernel
theorem dX5_lays_45 : decode cX5_lays 45 = .ok (.iload_n 2, 1) := by decide +kernel
theorem dX5_lays_46 : decode cX5_lays 46 = .ok (.iload_n 3, 1) := by decide +kernel
theorem dX5_lays_47 : decode cX5_lays 47 = .ok (.iadd, 1) := by decide +kernel
theorem dX5_lays_48 : decode cX5_lays 48 = .ok (.iaload, 1) := by decide +kernel
theorem dX5_lays_49 : decode cX5_lays 49 = .ok (.if_icmp .le 25, 3) := by decide +kernel
theorem dX5_lays_52 : decode cX5_lays 52 = .ok (.aload_n 0, 1) := by decide +kernel
theorem dX5_lays_53 : decode cX5_lays 53 = .ok (.getfield 60, 3) := by decide +kernel
theorem dX5_lays_56 : decode cX5_lays 56 = .ok (.iload 4, 2) := by decide +kernel
theorem dX5_lays_58 : decode cX5_lays 58 = .ok (.aload_n 0, 1) := by decide +kernel
theorem dX5_lays_59 : decode cX5_lays 59 = .ok (.getfield 60, 3) := by decide +kernel
theorem dX5_lays_62 : decode cX5_lays 62 = .ok (.iload 4, 2) := by decide +kernel
theorem dX5_lays_64 : decode cX5_lays 64 = .ok (.iconst 1, 1) := by decide +kernel
theorem dX5_lays_65 : decode cX5_lays 65 = .ok (.isub, 1) := by decide +kernel
theorem dX5_lays_66 : decode cX5_lays 66 = .ok (.iaload, 1) := by decide +kernel
theorem dX5_lays_67 : decode cX5_lays 67 = .ok (.iastore, 1) := by decide +kernel
theorem dX5_lays_68 : decode cX5_lays 68 = .ok (.iinc 4 (-1), 3) := by decide +kernel
theorem dX5_lays_71 : decode cX5_lays 71 = .ok (.goto (-51), 3) := by decide +kernel
theorem dX5_lays_74 : decode cX5_lays 74 = .ok (.aload_n 0, 1) := by decide +kernel
theorem dX5_lays_75 : decode cX5_lays 75 = .ok (.getfield 60, 3) := by decide +kernel
theorem dX5_lays_78 : decode cX5_lays 78 = .ok (.iload 4, 2) := by decide +kernel
theorem dX5_lays_80 : decode cX5_lays 80 = .ok (.iload_n 3, 1) := by decide +kernel
theorem dX5_lays_81 : decode cX5_lays 81 = .ok (.iastore, 1) := by decide +kernel
theorem dX5_lays_82 : decode cX5_lays 82 = .ok (.iinc 3 1, 3) := by decide +kernel
theorem dX5_lays_85 : decode cX5_lays 85 = .ok (.goto (-78), 3) := by decide +kernel
theorem dX5_lays_88 : decode cX5_lays 88 = .ok (.aload_n 0, 1) := by decide +kernel
theorem dX5_lays_89 : decode cX5_lays 89 = .ok (.getfield 39, 3) := by decide +kernel
theorem dX5_lays_92 : decode cX5_lays 92 = .ok (.iload_n 1, 1) := by decide +kernel
theorem dX5_lays_93 : decode cX5_lays 93 = .ok (.iaload, 1) := by decide +kernel
theorem dX5_lays_94 : decode cX5_lays 94 = .ok (.ireturn, 1) := by decide +kernel
set_option maxRecDepth 20000 in
theorem ggX5_stationAt_X5_isThing : GoodIn wsX5_stationAt wsX5_isThing := goodIn_r _ [6, 7, 8, 9, 5, 10, 22, 23, 24, 25, 26, 27, 28, 29, 30, 31, 32, 33, 34, 35, 36, 37, 38, 39, 40, 41, 42] (by decide +kernel) (by decide +kernel)
set_option maxRecDepth 20000 in
theorem gX5_stationAt_X5_isThing : GoodIn wsX5_stationAt (wsV RX5 76 RX5 yX5_isThing wsX5_isThing) := goodIn_app (goodIn_of _ (by decide +kernel)) ggX5_stationAt_X5_isThing
set_option maxRecDepth 20000 in
theorem ggX5_stationAt_X5_goes : GoodIn wsX5_stationAt wsX5_goes := goodIn_r _ [14, 15, 22, 23, 24, 25, 26, 27, 28, 29, 30, 31, 32, 33, 34, 35, 36, 37, 38, 39, 40, 41, 42] (by decide +kernel) (by decide +kernel)
set_option maxRecDepth 20000 in
theorem gX5_stationAt_X5_goes : GoodIn wsX5_stationAt (wsV RX5 80 RX5 yX5_goes wsX5_goes) := goodIn_app (goodIn_of _ (by decide +kernel)) ggX5_stationAt_X5_goes
set_option maxRecDepth 20000 in
theorem ggX5_stationAt_X5_lays : GoodIn wsX5_stationAt wsX5_lays := goodIn_r _ [19, 20, 21, 1, 22, 23, 24, 25, 26, 27, 28, 29, 30, 31, 32, 33, 34, 35, 36, 37, 38, 39, 40, 41, 42] (by decide +kernel) (by decide +kernel)
set_option maxRecDepth 20000 in
theorem gX5_stationAt_X5_lays : GoodIn wsX5_stationAt (wsV RX5 121 RX5 yX5_lays wsX5_lays) := goodIn_app (goodIn_of _ (by decide +kernel)) ggX5_stationAt_X5_lays
theorem dX5_stationAt_0 : decode cX5_stationAt 0 = .ok (.aload_n 0, 1) := by decide +kernel
theorem dX5_stationAt_1 : decode cX5_stationAt 1 = .ok (.aload_n 0, 1) := by decide +kernel
theorem dX5_stationAt_2 : decode cX5_stationAt 2 = .ok (.iload_n 1, 1) := by decide +kernel
theorem dX5_stationAt_3 : decode cX5_stationAt 3 = .ok (.invokevirtual 76, 3) := by decide +kernel
theorem dX5_stationAt_6 : decode cX5_stationAt 6 = .ok (.ifCond .eq 11, 3) := by decide +kernel
theorem dX5_stationAt_9 : decode cX5_stationAt 9 = .ok (.iload_n 2, 1) := by decide +kernel
theorem dX5_stationAt_10 : decode cX5_stationAt 10 = .ok (.ifCond .lt 7, 3) := by decide +kernel
theorem dX5_stationAt_13 : decode cX5_stationAt 13 = .ok (.iconst 1, 1) := by decide +kernel
theorem dX5_stationAt_14 : decode cX5_stationAt 14 = .ok (.goto 4, 3) := by decide +kernel
theorem dX5_stationAt_17 : decode cX5_stationAt 17 = .ok (.iconst 0, 1) := by decide +kernel
theorem dX5_stationAt_18 : decode cX5_stationAt 18 = .ok (.iconst 1, 1) := by decide +kernel
theorem dX5_stationAt_19 : decode cX5_stationAt 19 = .ok (.iconst 1, 1) := by decide +kernel
theorem dX5_stationAt_20 : decode cX5_stationAt 20 = .ok (.invokevirtual 80, 3) := by decide +kernel
theorem dX5_stationAt_23 : decode cX5_stationAt 23 = .ok (.ifCond .ne 5, 3) := by decide +kernel
theorem dX5_stationAt_26 : decode cX5_stationAt 26 = .ok (.iconst 0, 1) := by decide +kernel
theorem dX5_stationAt_27 : decode cX5_stationAt 27 = .ok (.ireturn, 1) := by decide +kernel
theorem dX5_stationAt_28 : decode cX5_stationAt 28 = .ok (.iload_n 2, 1) := by decide +kernel
theorem dX5_stationAt_29 : decode cX5_stationAt 29 = .ok (.aload_n 0, 1) := by decide +kernel
theorem dX5_stationAt_30 : decode cX5_stationAt 30 = .ok (.iload_n 1, 1) := by decide +kernel
theorem dX5_stationAt_31 : decode cX5_stationAt 31 = .ok (.invokevirtual 121, 3) := by decide +kernel
theorem dX5_stationAt_34 : decode cX5_stationAt 34 = .ok (.if_icmp .ge 12, 3) := by decide +kernel
theorem dX5_stationAt_37 : decode cX5_stationAt 37 = .ok (.aload_n 0, 1) := by decide +kernel
theorem dX5_stationAt_38 : decode cX5_stationAt 38 = .ok (.getfield 60, 3) := by decide +kernel
theorem dX5_stationAt_41 : decode cX5_stationAt 41 = .ok (.iload_n 2, 1) := by decide +kernel
theorem dX5_stationAt_42 : decode cX5_stationAt 42 = .ok (.iaload, 1) := by decide +kernel
theorem dX5_stationAt_43 : decode cX5_stationAt 43 = .ok (.goto 4, 3) := by decide +kernel
theorem dX5_stationAt_46 : decode cX5_stationAt 46 = .ok (.iconst (-1), 1) := by decide +kernel
theorem dX5_stationAt_47 : decode cX5_stationAt 47 = .ok (.ireturn, 1) := by decide +kernel
set_option maxRecDepth 20000 in
theorem ggX5_loses_X5_persecutes : GoodIn wsX5_loses wsX5_persecutes := goodIn_r _ [12, 13, 14, 15, 16, 11, 17, 18, 19, 20, 21, 22, 23, 24, 25, 26, 27, 28, 29, 30, 31, 32, 33, 34, 35, 36, 37, 38] (by decide +kernel) (by decide +kernel)
set_option maxRecDepth 20000 in
theorem gX5_loses_X5_persecutes : GoodIn wsX5_loses (wsV RX5 101 RX5 yX5_persecutes wsX5_persecutes) := goodIn_app (goodIn_of _ (by decide +kernel)) ggX5_loses_X5_persecutes
theorem dX5_loses_0 : decode cX5_loses 0 = .ok (.iload_n 2, 1) := by decide +kernel
theorem dX5_loses_1 : decode cX5_loses 1 = .ok (.ifCond .ne 5, 3) := by decide +kernel
theorem dX5_loses_4 : decode cX5_loses 4 = .ok (.iconst 0, 1) := by decide +kernel
theorem dX5_loses_5 : decode cX5_loses 5 = .ok (.ireturn, 1) := by decide +kernel
theorem dX5_loses_6 : decode cX5_loses 6 = .ok (.bipush 8, 2) := by decide +kernel
theorem dX5_loses_8 : decode cX5_loses 8 = .ok (.iload_n 1, 1) := by decide +kernel
theorem dX5_loses_9 : decode cX5_loses 9 = .ok (.imul, 1) := by decide +kernel
theorem dX5_loses_10 : decode cX5_loses 10 = .ok (.aload_n 0, 1) := by decide +kernel
theorem dX5_loses_11 : decode cX5_loses 11 = .ok (.getfield 60, 3) := by decide +kernel
theorem dX5_loses_14 : decode cX5_loses 14 = .ok (.iload_n 2, 1) := by decide +kernel
theorem dX5_loses_15 : decode cX5_loses 15 = .ok (.iaload, 1) := by decide +kernel
theorem dX5_loses_16 : decode cX5_loses 16 = .ok (.iadd, 1) := by decide +kernel
theorem dX5_loses_17 : decode cX5_loses 17 = .ok (.istore_n 3, 1) := by decide +kernel
theorem dX5_loses_18 : decode cX5_loses 18 = .ok (.aload_n 0, 1) := by decide +kernel
theorem dX5_loses_19 : decode cX5_loses 19 = .ok (.getfield 42, 3) := by decide +kernel
theorem dX5_loses_22 : decode cX5_loses 22 = .ok (.bipush 8, 2) := by decide +kernel
theorem dX5_loses_24 : decode cX5_loses 24 = .ok (.iload_n 1, 1) := by decide +kernel
theorem dX5_loses_25 : decode cX5_loses 25 = .ok (.imul, 1) := by decide +kernel
theorem dX5_loses_26 : decode cX5_loses 26 = .ok (.aload_n 0, 1) := by decide +kernel
theorem dX5_loses_27 : decode cX5_loses 27 = .ok (.getfield 60, 3) := by decide +kernel
theorem dX5_loses_30 : decode cX5_loses 30 = .ok (.iload_n 2, 1) := by decide +kernel
theorem dX5_loses_31 : decode cX5_loses 31 = .ok (.iconst 1, 1) := by decide +kernel
theorem dX5_loses_32 : decode cX5_loses 32 = .ok (.isub, 1) := by decide +kernel
theorem dX5_loses_33 : decode cX5_loses 33 = .ok (.iaload, 1) := by decide +kernel
theorem dX5_loses_34 : decode cX5_loses 34 = .ok (.iadd, 1) := by decide +kernel
theorem dX5_loses_35 : decode cX5_loses 35 = .ok (.iaload, 1) := by decide +kernel
theorem dX5_loses_36 : decode cX5_loses 36 = .ok (.istore 4, 2) := by decide +kernel
theorem dX5_loses_38 : decode cX5_loses 38 = .ok (.aload_n 0, 1) := by decide +kernel
theorem dX5_loses_39 : decode cX5_loses 39 = .ok (.getfield 45, 3) := by decide +kernel
theorem dX5_loses_42 : decode cX5_loses 42 = .ok (.iload_n 3, 1) := by decide +kernel
theorem dX5_loses_43 : decode cX5_loses 43 = .ok (.iaload, 1) := by decide +kernel
theorem dX5_loses_44 : decode cX5_loses 44 = .ok (.iconst 3, 1) := by decide +kernel
theorem dX5_loses_45 : decode cX5_loses 45 = .ok (.if_icmp .ge 47, 3) := by decide +kernel
theorem dX5_loses_48 : decode cX5_loses 48 = .ok (.aload_n 0, 1) := by decide +kernel
theorem dX5_loses_49 : decode cX5_loses 49 = .ok (.getfield 45, 3) := by decide +kernel
theorem dX5_loses_52 : decode cX5_loses 52 = .ok (.iload_n 3, 1) := by decide +kernel
theorem dX5_loses_53 : decode cX5_loses 53 = .ok (.iaload, 1) := by decide +kernel
theorem dX5_loses_54 : decode cX5_loses 54 = .ok (.ifCond .ne 42, 3) := by decide +kernel
theorem dX5_loses_57 : decode cX5_loses 57 = .ok (.aload_n 0, 1) := by decide +kernel
theorem dX5_loses_58 : decode cX5_loses 58 = .ok (.getfield 54, 3) := by decide +kernel
theorem dX5_loses_61 : decode cX5_loses 61 = .ok (.iload_n 3, 1) := by decide +kernel
theorem dX5_loses_62 : decode cX5_loses 62 = .ok (.baload, 1) := by decide +kernel
theorem dX5_loses_63 : decode cX5_loses 63 = .ok (.ifCond .ne 33, 3) := by decide +kernel
theorem dX5_loses_66 : decode cX5_loses 66 = .ok (.aload_n 0, 1) := by decide +kernel
theorem dX5_loses_67 : decode cX5_loses 67 = .ok (.aload_n 0, 1) := by decide +kernel
theorem dX5_loses_68 : decode cX5_loses 68 = .ok (.getfield 13, 3) := by decide +kernel
theorem dX5_loses_71 : decode cX5_loses 71 = .ok (.iload 4, 2) := by decide +kernel
theorem dX5_loses_73 : decode cX5_loses 73 = .ok (.iaload, 1) := by decide +kernel
theorem dX5_loses_74 : decode cX5_loses 74 = .ok (.aload_n 0, 1) := by decide +kernel
theorem dX5_loses_75 : decode cX5_loses 75 = .ok (.getfield 48, 3) := by decide +kernel
theorem dX5_loses_78 : decode cX5_loses 78 = .ok (.iload_n 3, 1) := by decide +kernel
theorem dX5_loses_79 : decode cX5_loses 79 = .ok (.iaload, 1) := by decide +kernel
theorem dX5_loses_80 : decode cX5_loses 80 = .ok (.aload_n 0, 1) := by decide +kernel
theorem dX5_loses_81 : decode cX5_loses 81 = .ok (.getfield 51, 3) := by decide +kernel
theorem dX5_loses_84 : decode cX5_loses 84 = .ok (.iload_n 3, 1) := by decide +kernel
theorem dX5_loses_85 : decode cX5_loses 85 = .ok (.iaload, 1) := by decide +kernel
theorem dX5_loses_86 : decode cX5_loses 86 = .ok (.invokevirtual 101, 3) := by decide +kernel
theorem dX5_loses_89 : decode cX5_loses 89 = .ok (.ifCond .eq 7, 3) := by decide +kernel
theorem dX5_loses_92 : decode cX5_loses 92 = .ok (.iconst 1, 1) := by decide +kernel
theorem dX5_loses_93 : decode cX5_loses 93 = .ok (.goto 4, 3) := by decide +kernel
theorem dX5_loses_96 : decode cX5_loses 96 = .ok (.iconst 0, 1) := by decide +kernel
theorem dX5_loses_97 : decode cX5_loses 97 = .ok (.ireturn, 1) := by decide +kernel
set_option maxRecDepth 20000 in
theorem ggX5_isLoss_X5_isStation : GoodIn wsX5_isLoss wsX5_isStation := goodIn_r _ [6, 7, 8, 9, 10, 5, 11, 12, 13, 14, 15, 41, 42, 43, 44, 45, 46, 47, 48, 49, 50, 51, 52, 53, 54, 55, 56, 57, 58, 59, 60, 61] (by decide +kernel) (by decide +kernel)
set_option maxRecDepth 20000 in
theorem gX5_isLoss_X5_isStation : GoodIn wsX5_isLoss (wsV RX5 98 RX5 yX5_isStation wsX5_isStation) := goodIn_app (goodIn_of _ (by decide +kernel)) ggX5_isLoss_X5_isStation
set_option maxRecDepth 20000 in
theorem ggX5_isLoss_X5_goes : GoodIn wsX5_isLoss wsX5_goes := goodIn_r _ [19, 20, 41, 42, 43, 44, 45, 46, 47, 48, 49, 50, 51, 52, 53, 54, 55, 56, 57, 58, 59, 60, 61] (by decide +kernel) (by decide +kernel)
set_option maxRecDepth 20000 in
theorem gX5_isLoss_X5_goes : GoodIn wsX5_isLoss (wsV RX5 80 RX5 yX5_goes wsX5_goes) := goodIn_app (goodIn_of _ (by decide +kernel)) ggX5_isLoss_X5_goes
set_option maxRecDepth 20000 in
theorem ggX5_isLoss_X5_lays : GoodIn wsX5_isLoss wsX5_lays := goodIn_r _ [24, 7, 25, 1, 41, 42, 43, 44, 45, 46, 47, 48, 49, 50, 51, 52, 53, 54, 55, 56, 57, 58, 59, 60, 61] (by decide +kernel) (by decide +kernel)
set_option maxRecDepth 20000 in
theorem gX5_isLoss_X5_lays : GoodIn wsX5_isLoss (wsV RX5 121 RX5 yX5_lays wsX5_lays) := goodIn_app (goodIn_of _ (by decide +kernel)) ggX5_isLoss_X5_lays
set_option maxRecDepth 20000 in
theorem ggX5_isLoss_X5_loses : GoodIn wsX5_isLoss wsX5_loses := goodIn_r _ [29, 1, 30, 31, 32, 33, 34, 25, 35, 36, 37, 5, 38, 39, 40, 13, 14, 15, 41, 42, 43, 44, 45, 46, 47, 48, 49, 50, 51, 52, 53, 54, 55, 56, 57, 58, 59, 60, 61] (by decide +kernel) (by decide +kernel)
set_option maxRecDepth 20000 in
theorem gX5_isLoss_X5_loses : GoodIn wsX5_isLoss (wsV RX5 124 RX5 yX5_loses wsX5_loses) := goodIn_app (goodIn_of _ (by decide +kernel)) ggX5_isLoss_X5_loses
theorem dX5_isLoss_0 : decode cX5_isLoss 0 = .ok (.aload_n 0, 1) := by decide +kernel
theorem dX5_isLoss_1 : decode cX5_isLoss 1 = .ok (.aload_n 0, 1) := by decide +kernel
theorem dX5_isLoss_2 : decode cX5_isLoss 2 = .ok (.iload_n 1, 1) := by decide +kernel
theorem dX5_isLoss_3 : decode cX5_isLoss 3 = .ok (.iload_n 2, 1) := by decide +kernel
theorem dX5_isLoss_4 : decode cX5_isLoss 4 = .ok (.invokevirtual 98, 3) := by decide +kernel
theorem dX5_isLoss_7 : decode cX5_isLoss 7 = .ok (.iconst 1, 1) := by decide +kernel
theorem dX5_isLoss_8 : decode cX5_isLoss 8 = .ok (.iconst 1, 1) := by decide +kernel
theorem dX5_isLoss_9 : decode cX5_isLoss 9 = .ok (.invokevirtual 80, 3) := by decide +kernel
theorem dX5_isLoss_12 : decode cX5_isLoss 12 = .ok (.ifCond .ne 5, 3) := by decide +kernel
theorem dX5_isLoss_15 : decode cX5_isLoss 15 = .ok (.iconst 0, 1) := by decide +kernel
theorem dX5_isLoss_16 : decode cX5_isLoss 16 = .ok (.ireturn, 1) := by decide +kernel
theorem dX5_isLoss_17 : decode cX5_isLoss 17 = .ok (.aload_n 0, 1) := by decide +kernel
theorem dX5_isLoss_18 : decode cX5_isLoss 18 = .ok (.iload_n 1, 1) := by decide +kernel
theorem dX5_isLoss_19 : decode cX5_isLoss 19 = .ok (.invokevirtual 121, 3) := by decide +kernel
theorem dX5_isLoss_22 : decode cX5_isLoss 22 = .ok (.istore_n 3, 1) := by decide +kernel
theorem dX5_isLoss_23 : decode cX5_isLoss 23 = .ok (.iconst 0, 1) := by decide +kernel
theorem dX5_isLoss_24 : decode cX5_isLoss 24 = .ok (.istore 4, 2) := by decide +kernel
theorem dX5_isLoss_26 : decode cX5_isLoss 26 = .ok (.iconst 0, 1) := by decide +kernel
theorem dX5_isLoss_27 : decode cX5_isLoss 27 = .ok (.istore 5, 2) := by decide +kernel
theorem dX5_isLoss_29 : decode cX5_isLoss 29 = .ok (.iload 5, 2) := by decide +kernel
theorem dX5_isLoss_31 : decode cX5_isLoss 31 = .ok (.iload_n 3, 1) := by decide +kernel
theorem dX5_isLoss_32 : decode cX5_isLoss 32 = .ok (.if_icmp .ge 42, 3) := by decide +kernel
theorem dX5_isLoss_35 : decode cX5_isLoss 35 = .ok (.iload 4, 2) := by decide +kernel
theorem dX5_isLoss_37 : decode cX5_isLoss 37 = .ok (.ifCond .ne 24, 3) := by decide +kernel
theorem dX5_isLoss_40 : decode cX5_isLoss 40 = .ok (.aload_n 0, 1) := by decide +kernel
theorem dX5_isLoss_41 : decode cX5_isLoss 41 = .ok (.getfield 60, 3) := by decide +kernel
theorem dX5_isLoss_44 : decode cX5_isLoss 44 = .ok (.iload 5, 2) := by decide +kernel
theorem dX5_isLoss_46 : decode cX5_isLoss 46 = .ok (.iaload, 1) := by decide +kernel
theorem dX5_isLoss_47 : decode cX5_isLoss 47 = .ok (.iload_n 2, 1) := by decide +kernel
theorem dX5_isLoss_48 : decode cX5_isLoss 48 = .ok (.if_icmp .ne 17, 3) := by decide +kernel
theorem dX5_isLoss_51 : decode cX5_isLoss 51 = .ok (.aload_n 0, 1) := by decide +kernel
theorem dX5_isLoss_52 : decode cX5_isLoss 52 = .ok (.iload_n 1, 1) := by decide +kernel
theorem dX5_isLoss_53 : decode cX5_isLoss 53 = .ok (.iload 5, 2) := by decide +kernel
theorem dX5_isLoss_55 : decode cX5_isLoss 55 = .ok (.invokevirtual 124, 3) := by decide +kernel
theorem dX5_isLoss_58 : decode cX5_isLoss 58 = .ok (.ifCond .eq 7, 3) := by decide +kernel
theorem dX5_isLoss_61 : decode cX5_isLoss 61 = .ok (.iconst 1, 1) := by decide +kernel
theorem dX5_isLoss_62 : decode cX5_isLoss 62 = .ok (.goto 4, 3) := by decide +kernel
theorem dX5_isLoss_65 : decode cX5_isLoss 65 = .ok (.iconst 0, 1) := by decide +kernel
theorem dX5_isLoss_66 : decode cX5_isLoss 66 = .ok (.istore 4, 2) := by decide +kernel
theorem dX5_isLoss_68 : decode cX5_isLoss 68 = .ok (.iinc 5 1, 3) := by decide +kernel
theorem dX5_isLoss_71 : decode cX5_isLoss 71 = .ok (.goto (-42), 3) := by decide +kernel
theorem dX5_isLoss_74 : decode cX5_isLoss 74 = .ok (.iload 4, 2) := by decide +kernel
theorem dX5_isLoss_76 : decode cX5_isLoss 76 = .ok (.ireturn, 1) := by decide +kernel
set_option maxRecDepth 20000 in
theorem ggX5_holderOf_X5_lays : GoodIn wsX5_holderOf wsX5_lays := goodIn_r _ [7, 8, 9, 2, 10, 11, 12, 13, 14, 15, 16, 17, 18, 19, 20, 21, 22, 23, 24, 25, 26, 27, 28, 29, 30] (by decide +kernel) (by decide +kernel)
set_option maxRecDepth 20000 in
theorem gX5_holderOf_X5_lays : GoodIn wsX5_holderOf (wsV RX5 121 RX5 yX5_lays wsX5_lays) := goodIn_app (goodIn_of _ (by decide +kernel)) ggX5_holderOf_X5_lays
theorem dX5_holderOf_0 : decode cX5_holderOf 0 = .ok (.aload_n 0, 1) := by decide +kernel
theorem dX5_holderOf_1 : decode cX5_holderOf 1 = .ok (.iload_n 1, 1) := by decide +kernel
theorem dX5_holderOf_2 : decode cX5_holderOf 2 = .ok (.invokevirtual 121, 3) := by decide +kernel
theorem dX5_holderOf_5 : decode cX5_holderOf 5 = .ok (.istore_n 2, 1) := by decide +kernel
theorem dX5_holderOf_6 : decode cX5_holderOf 6 = .ok (.iload_n 2, 1) := by decide +kernel
theorem dX5_holderOf_7 : decode cX5_holderOf 7 = .ok (.ifCond .ne 7, 3) := by decide +kernel
theorem dX5_holderOf_10 : decode cX5_holderOf 10 = .ok (.iconst (-1), 1) := by decide +kernel
theorem dX5_holderOf_11 : decode cX5_holderOf 11 = .ok (.goto 21, 3) := by decide +kernel
theorem dX5_holderOf_14 : decode cX5_holderOf 14 = .ok (.aload_n 0, 1) := by decide +kernel
theorem dX5_holderOf_15 : decode cX5_holderOf 15 = .ok (.getfield 42, 3) := by decide +kernel
theorem dX5_holderOf_18 : decode cX5_holderOf 18 = .ok (.bipush 8, 2) := by decide +kernel
theorem dX5_holderOf_20 : decode cX5_holderOf 20 = .ok (.iload_n 1, 1) := by decide +kernel
theorem dX5_holderOf_21 : decode cX5_holderOf 21 = .ok (.imul, 1) := by decide +kernel
theorem dX5_holderOf_22 : decode cX5_holderOf 22 = .ok (.aload_n 0, 1) := by decide +kernel
theorem dX5_holderOf_23 : decode cX5_holderOf 23 = .ok (.getfield 60, 3) := by decide +kernel
theorem dX5_holderOf_26 : decode cX5_holderOf 26 = .ok (.iload_n 2, 1) := by decide +kernel
theorem dX5_holderOf_27 : decode cX5_holderOf 27 = .ok (.iconst 1, 1) := by decide +kernel
theorem dX5_holderOf_28 : decode cX5_holderOf 28 = .ok (.isub, 1) := by decide +kernel
theorem dX5_holderOf_29 : decode cX5_holderOf 29 = .ok (.iaload, 1) := by decide +kernel
theorem dX5_holderOf_30 : decode cX5_holderOf 30 = .ok (.iadd, 1) := by decide +kernel
theorem dX5_holderOf_31 : decode cX5_holderOf 31 = .ok (.iaload, 1) := by decide +kernel
theorem dX5_holderOf_32 : decode cX5_holderOf 32 = .ok (.ireturn, 1) := by decide +kernel
set_option maxRecDepth 20000 in
theorem ggX5_holder_X5_isThing : GoodIn wsX5_holder wsX5_isThing := goodIn_r _ [5, 6, 7, 8, 4, 9, 27, 28, 29, 30, 31, 32, 33, 34, 35, 36, 37, 38, 39, 40, 41, 42, 43, 44, 45, 46, 47] (by decide +kernel) (by decide +kernel)
set_option maxRecDepth 20000 in
theorem gX5_holder_X5_isThing : GoodIn wsX5_holder (wsV RX5 76 RX5 yX5_isThing wsX5_isThing) := goodIn_app (goodIn_of _ (by decide +kernel)) ggX5_holder_X5_isThing
set_option maxRecDepth 20000 in
theorem ggX5_holder_X5_goes : GoodIn wsX5_holder wsX5_goes := goodIn_r _ [13, 14, 27, 28, 29, 30, 31, 32, 33, 34, 35, 36, 37, 38, 39, 40, 41, 42, 43, 44, 45, 46, 47] (by decide +kernel) (by decide +kernel)
set_option maxRecDepth 20000 in
theorem gX5_holder_X5_goes : GoodIn wsX5_holder (wsV RX5 80 RX5 yX5_goes wsX5_goes) := goodIn_app (goodIn_of _ (by decide +kernel)) ggX5_holder_X5_goes
set_option maxRecDepth 20000 in
theorem ggX5_holder_X5_holderOf : GoodIn wsX5_holder wsX5_holderOf := goodIn_r _ [18, 19, 20, 21, 22, 23, 4, 24, 25, 26, 27, 28, 29, 30, 31, 32, 33, 34, 35, 36, 37, 38, 39, 40, 41, 42, 43, 44, 45, 46, 47] (by decide +kernel) (by decide +kernel)
set_option maxRecDepth 20000 in
theorem gX5_holder_X5_holderOf : GoodIn wsX5_holder (wsV RX5 127 RX5 yX5_holderOf wsX5_holderOf) := goodIn_app (goodIn_of _ (by decide +kernel)) ggX5_holder_X5_holderOf
theorem dX5_holder_0 : decode cX5_holder 0 = .ok (.aload_n 0, 1) := by decide +kernel
theorem dX5_holder_1 : decode cX5_holder 1 = .ok (.aload_n 0, 1) := by decide +kernel
theorem dX5_holder_2 : decode cX5_holder 2 = .ok (.iload_n 1, 1) := by decide +kernel
theorem dX5_holder_3 : decode cX5_holder 3 = .ok (.invokevirtual 76, 3) := by decide +kernel
theorem dX5_holder_6 : decode cX5_holder 6 = .ok (.iconst 1, 1) := by decide +kernel
