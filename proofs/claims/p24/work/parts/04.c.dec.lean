theorem dL_from_0 : decode cL_from 0 = .ok (.aload_n 0, 1) := by decide +kernel
theorem dL_from_1 : decode cL_from 1 = .ok (.arraylength, 1) := by decide +kernel
theorem dL_from_2 : decode cL_from 2 = .ok (.ifCond .ne 14, 3) := by decide +kernel
theorem dL_from_5 : decode cL_from 5 = .ok (.sipush 677, 3) := by decide +kernel
theorem dL_from_8 : decode cL_from 8 = .ok (.iload_n 1, 1) := by decide +kernel
theorem dL_from_9 : decode cL_from 9 = .ok (.imul, 1) := by decide +kernel
theorem dL_from_10 : decode cL_from 10 = .ok (.bipush 97, 2) := by decide +kernel
theorem dL_from_12 : decode cL_from 12 = .ok (.iadd, 1) := by decide +kernel
theorem dL_from_13 : decode cL_from 13 = .ok (.goto 14, 3) := by decide +kernel
theorem dL_from_16 : decode cL_from 16 = .ok (.aload_n 0, 1) := by decide +kernel
theorem dL_from_17 : decode cL_from 17 = .ok (.iload_n 1, 1) := by decide +kernel
theorem dL_from_18 : decode cL_from 18 = .ok (.aload_n 0, 1) := by decide +kernel
theorem dL_from_19 : decode cL_from 19 = .ok (.arraylength, 1) := by decide +kernel
theorem dL_from_20 : decode cL_from 20 = .ok (.irem, 1) := by decide +kernel
theorem dL_from_21 : decode cL_from 21 = .ok (.iaload, 1) := by decide +kernel
theorem dL_from_22 : decode cL_from 22 = .ok (.ldc 7, 2) := by decide +kernel
theorem dL_from_24 : decode cL_from 24 = .ok (.iload_n 1, 1) := by decide +kernel
theorem dL_from_25 : decode cL_from 25 = .ok (.imul, 1) := by decide +kernel
theorem dL_from_26 : decode cL_from 26 = .ok (.ixor, 1) := by decide +kernel
theorem dL_from_27 : decode cL_from 27 = .ok (.istore_n 3, 1) := by decide +kernel
theorem dL_from_28 : decode cL_from 28 = .ok (.iload_n 3, 1) := by decide +kernel
theorem dL_from_29 : decode cL_from 29 = .ok (.ldc 8, 2) := by decide +kernel
theorem dL_from_31 : decode cL_from 31 = .ok (.iand, 1) := by decide +kernel
theorem dL_from_32 : decode cL_from 32 = .ok (.iload_n 2, 1) := by decide +kernel
theorem dL_from_33 : decode cL_from 33 = .ok (.irem, 1) := by decide +kernel
theorem dL_from_34 : decode cL_from 34 = .ok (.ireturn, 1) := by decide +kernel
theorem dL_heir_0 : decode cL_heir 0 = .ok (.aload_n 0, 1) := by decide +kernel
theorem dL_heir_1 : decode cL_heir 1 = .ok (.iload_n 1, 1) := by decide +kernel
theorem dL_heir_2 : decode cL_heir 2 = .ok (.laload, 1) := by decide +kernel
theorem dL_heir_3 : decode cL_heir 3 = .ok (.iconst 4, 1) := by decide +kernel
theorem dL_heir_4 : decode cL_heir 4 = .ok (.iconst 3, 1) := by decide +kernel
theorem dL_heir_5 : decode cL_heir 5 = .ok (.iload_n 2, 1) := by decide +kernel
theorem dL_heir_6 : decode cL_heir 6 = .ok (.imul, 1) := by decide +kernel
theorem dL_heir_7 : decode cL_heir 7 = .ok (.iadd, 1) := by decide +kernel
theorem dL_heir_8 : decode cL_heir 8 = .ok (.lshr, 1) := by decide +kernel
theorem dL_heir_9 : decode cL_heir 9 = .ok (.ldc2_w 9, 3) := by decide +kernel
theorem dL_heir_12 : decode cL_heir 12 = .ok (.land, 1) := by decide +kernel
theorem dL_heir_13 : decode cL_heir 13 = .ok (.l2i, 1) := by decide +kernel
theorem dL_heir_14 : decode cL_heir 14 = .ok (.ireturn, 1) := by decide +kernel
set_option maxRecDepth 20000 in
theorem ggL_heirOf_L_heir : GoodIn wsL_heirOf wsL_heir := goodIn_r _ [5, 6] (by decide +kernel) (by decide +kernel)
set_option maxRecDepth 20000 in
theorem gL_heirOf_L_heir : GoodIn wsL_heirOf (va_wsS RL 13 yL_heir wsL_heir) := goodIn_app (goodIn_of _ (by decide +kernel)) ggL_heirOf_L_heir
theorem dL_heirOf_0 : decode cL_heirOf 0 = .ok (.iconst 0, 1) := by decide +kernel
theorem dL_heirOf_1 : decode cL_heirOf 1 = .ok (.istore_n 3, 1) := by decide +kernel
theorem dL_heirOf_2 : decode cL_heirOf 2 = .ok (.iload_n 3, 1) := by decide +kernel
theorem dL_heirOf_3 : decode cL_heirOf 3 = .ok (.i2l, 1) := by decide +kernel
theorem dL_heirOf_4 : decode cL_heirOf 4 = .ok (.aload_n 1, 1) := by decide +kernel
theorem dL_heirOf_5 : decode cL_heirOf 5 = .ok (.iload_n 2, 1) := by decide +kernel
theorem dL_heirOf_6 : decode cL_heirOf 6 = .ok (.laload, 1) := by decide +kernel
theorem dL_heirOf_7 : decode cL_heirOf 7 = .ok (.ldc2_w 11, 3) := by decide +kernel
theorem dL_heirOf_10 : decode cL_heirOf 10 = .ok (.land, 1) := by decide +kernel
theorem dL_heirOf_11 : decode cL_heirOf 11 = .ok (.lcmp, 1) := by decide +kernel
theorem dL_heirOf_12 : decode cL_heirOf 12 = .ok (.ifCond .ge 123, 3) := by decide +kernel
theorem dL_heirOf_15 : decode cL_heirOf 15 = .ok (.aload_n 1, 1) := by decide +kernel
theorem dL_heirOf_16 : decode cL_heirOf 16 = .ok (.iload_n 2, 1) := by decide +kernel
theorem dL_heirOf_17 : decode cL_heirOf 17 = .ok (.iload_n 3, 1) := by decide +kernel
theorem dL_heirOf_18 : decode cL_heirOf 18 = .ok (.invokestatic 13, 3) := by decide +kernel
theorem dL_heirOf_21 : decode cL_heirOf 21 = .ok (.istore 4, 2) := by decide +kernel
theorem dL_heirOf_23 : decode cL_heirOf 23 = .ok (.aload_n 0, 1) := by decide +kernel
theorem dL_heirOf_24 : decode cL_heirOf 24 = .ok (.iload 4, 2) := by decide +kernel
theorem dL_heirOf_26 : decode cL_heirOf 26 = .ok (.iaload, 1) := by decide +kernel
theorem dL_heirOf_27 : decode cL_heirOf 27 = .ok (.bipush 8, 2) := by decide +kernel
theorem dL_heirOf_29 : decode cL_heirOf 29 = .ok (.if_icmp .ge 6, 3) := by decide +kernel
theorem dL_heirOf_32 : decode cL_heirOf 32 = .ok (.iload 4, 2) := by decide +kernel
theorem dL_heirOf_34 : decode cL_heirOf 34 = .ok (.ireturn, 1) := by decide +kernel
theorem dL_heirOf_35 : decode cL_heirOf 35 = .ok (.iconst 0, 1) := by decide +kernel
theorem dL_heirOf_36 : decode cL_heirOf 36 = .ok (.istore 5, 2) := by decide +kernel
theorem dL_heirOf_38 : decode cL_heirOf 38 = .ok (.iload 5, 2) := by decide +kernel
theorem dL_heirOf_40 : decode cL_heirOf 40 = .ok (.i2l, 1) := by decide +kernel
theorem dL_heirOf_41 : decode cL_heirOf 41 = .ok (.aload_n 1, 1) := by decide +kernel
theorem dL_heirOf_42 : decode cL_heirOf 42 = .ok (.iload 4, 2) := by decide +kernel
theorem dL_heirOf_44 : decode cL_heirOf 44 = .ok (.laload, 1) := by decide +kernel
theorem dL_heirOf_45 : decode cL_heirOf 45 = .ok (.ldc2_w 11, 3) := by decide +kernel
theorem dL_heirOf_48 : decode cL_heirOf 48 = .ok (.land, 1) := by decide +kernel
theorem dL_heirOf_49 : decode cL_heirOf 49 = .ok (.lcmp, 1) := by decide +kernel
theorem dL_heirOf_50 : decode cL_heirOf 50 = .ok (.ifCond .ge 79, 3) := by decide +kernel
theorem dL_heirOf_53 : decode cL_heirOf 53 = .ok (.aload_n 1, 1) := by decide +kernel
theorem dL_heirOf_54 : decode cL_heirOf 54 = .ok (.iload 4, 2) := by decide +kernel
theorem dL_heirOf_56 : decode cL_heirOf 56 = .ok (.iload 5, 2) := by decide +kernel
theorem dL_heirOf_58 : decode cL_heirOf 58 = .ok (.invokestatic 13, 3) := by decide +kernel
theorem dL_heirOf_61 : decode cL_heirOf 61 = .ok (.istore 6, 2) := by decide +kernel
theorem dL_heirOf_63 : decode cL_heirOf 63 = .ok (.aload_n 0, 1) := by decide +kernel
theorem dL_heirOf_64 : decode cL_heirOf 64 = .ok (.iload 6, 2) := by decide +kernel
theorem dL_heirOf_66 : decode cL_heirOf 66 = .ok (.iaload, 1) := by decide +kernel
theorem dL_heirOf_67 : decode cL_heirOf 67 = .ok (.bipush 8, 2) := by decide +kernel
theorem dL_heirOf_69 : decode cL_heirOf 69 = .ok (.if_icmp .ge 6, 3) := by decide +kernel
theorem dL_heirOf_72 : decode cL_heirOf 72 = .ok (.iload 6, 2) := by decide +kernel
theorem dL_heirOf_74 : decode cL_heirOf 74 = .ok (.ireturn, 1) := by decide +kernel
theorem dL_heirOf_75 : decode cL_heirOf 75 = .ok (.iconst 0, 1) := by decide +kernel
theorem dL_heirOf_76 : decode cL_heirOf 76 = .ok (.istore 7, 2) := by decide +kernel
theorem dL_heirOf_78 : decode cL_heirOf 78 = .ok (.iload 7, 2) := by decide +kernel
theorem dL_heirOf_80 : decode cL_heirOf 80 = .ok (.i2l, 1) := by decide +kernel
theorem dL_heirOf_81 : decode cL_heirOf 81 = .ok (.aload_n 1, 1) := by decide +kernel
theorem dL_heirOf_82 : decode cL_heirOf 82 = .ok (.iload 6, 2) := by decide +kernel
theorem dL_heirOf_84 : decode cL_heirOf 84 = .ok (.laload, 1) := by decide +kernel
theorem dL_heirOf_85 : decode cL_heirOf 85 = .ok (.ldc2_w 11, 3) := by decide +kernel
theorem dL_heirOf_88 : decode cL_heirOf 88 = .ok (.land, 1) := by decide +kernel
theorem dL_heirOf_89 : decode cL_heirOf 89 = .ok (.lcmp, 1) := by decide +kernel
theorem dL_heirOf_90 : decode cL_heirOf 90 = .ok (.ifCond .ge 33, 3) := by decide +kernel
theorem dL_heirOf_93 : decode cL_heirOf 93 = .ok (.aload_n 0, 1) := by decide +kernel
theorem dL_heirOf_94 : decode cL_heirOf 94 = .ok (.aload_n 1, 1) := by decide +kernel
theorem dL_heirOf_95 : decode cL_heirOf 95 = .ok (.iload 6, 2) := by decide +kernel
theorem dL_heirOf_97 : decode cL_heirOf 97 = .ok (.iload 7, 2) := by decide +kernel
theorem dL_heirOf_99 : decode cL_heirOf 99 = .ok (.invokestatic 13, 3) := by decide +kernel
theorem dL_heirOf_102 : decode cL_heirOf 102 = .ok (.iaload, 1) := by decide +kernel
theorem dL_heirOf_103 : decode cL_heirOf 103 = .ok (.bipush 8, 2) := by decide +kernel
theorem dL_heirOf_105 : decode cL_heirOf 105 = .ok (.if_icmp .ge 12, 3) := by decide +kernel
theorem dL_heirOf_108 : decode cL_heirOf 108 = .ok (.aload_n 1, 1) := by decide +kernel
theorem dL_heirOf_109 : decode cL_heirOf 109 = .ok (.iload 6, 2) := by decide +kernel
theorem dL_heirOf_111 : decode cL_heirOf 111 = .ok (.iload 7, 2) := by decide +kernel
theorem dL_heirOf_113 : decode cL_heirOf 113 = .ok (.invokestatic 13, 3) := by decide +kernel
theorem dL_heirOf_116 : decode cL_heirOf 116 = .ok (.ireturn, 1) := by decide +kernel
theorem dL_heirOf_117 : decode cL_heirOf 117 = .ok (.iinc 7 1, 3) := by decide +kernel
theorem dL_heirOf_120 : decode cL_heirOf 120 = .ok (.goto (-42), 3) := by decide +kernel
theorem dL_heirOf_123 : decode cL_heirOf 123 = .ok (.iinc 5 1, 3) := by decide +kernel
theorem dL_heirOf_126 : decode cL_heirOf 126 = .ok (.goto (-88), 3) := by decide +kernel
theorem dL_heirOf_129 : decode cL_heirOf 129 = .ok (.iinc 3 1, 3) := by decide +kernel
theorem dL_heirOf_132 : decode cL_heirOf 132 = .ok (.goto (-130), 3) := by decide +kernel
theorem dL_heirOf_135 : decode cL_heirOf 135 = .ok (.iconst (-1), 1) := by decide +kernel
theorem dL_heirOf_136 : decode cL_heirOf 136 = .ok (.ireturn, 1) := by decide +kernel
theorem dL_isPersecuted_0 : decode cL_isPersecuted 0 = .ok (.iconst 0, 1) := by decide +kernel
theorem dL_isPersecuted_1 : decode cL_isPersecuted 1 = .ok (.istore 6, 2) := by decide +kernel
theorem dL_isPersecuted_3 : decode cL_isPersecuted 3 = .ok (.iconst 0, 1) := by decide +kernel
theorem dL_isPersecuted_4 : decode cL_isPersecuted 4 = .ok (.istore 7, 2) := by decide +kernel
theorem dL_isPersecuted_6 : decode cL_isPersecuted 6 = .ok (.iload 7, 2) := by decide +kernel
theorem dL_isPersecuted_8 : decode cL_isPersecuted 8 = .ok (.aload_n 2, 1) := by decide +kernel
theorem dL_isPersecuted_9 : decode cL_isPersecuted 9 = .ok (.iconst 1, 1) := by decide +kernel
theorem dL_isPersecuted_10 : decode cL_isPersecuted 10 = .ok (.iaload, 1) := by decide +kernel
theorem dL_isPersecuted_11 : decode cL_isPersecuted 11 = .ok (.if_icmp .ge 73, 3) := by decide +kernel
theorem dL_isPersecuted_14 : decode cL_isPersecuted 14 = .ok (.iload 6, 2) := by decide +kernel
theorem dL_isPersecuted_16 : decode cL_isPersecuted 16 = .ok (.aload_n 1, 1) := by decide +kernel
theorem dL_isPersecuted_17 : decode cL_isPersecuted 17 = .ok (.iconst 4, 1) := by decide +kernel
theorem dL_isPersecuted_18 : decode cL_isPersecuted 18 = .ok (.iload 7, 2) := by decide +kernel
theorem dL_isPersecuted_20 : decode cL_isPersecuted 20 = .ok (.imul, 1) := by decide +kernel
theorem dL_isPersecuted_21 : decode cL_isPersecuted 21 = .ok (.iaload, 1) := by decide +kernel
theorem dL_isPersecuted_22 : decode cL_isPersecuted 22 = .ok (.aload_n 0, 1) := by decide +kernel
theorem dL_isPersecuted_23 : decode cL_isPersecuted 23 = .ok (.iload_n 3, 1) := by decide +kernel
theorem dL_isPersecuted_24 : decode cL_isPersecuted 24 = .ok (.iaload, 1) := by decide +kernel
theorem dL_isPersecuted_25 : decode cL_isPersecuted 25 = .ok (.bipush 8, 2) := by decide +kernel
theorem dL_isPersecuted_27 : decode cL_isPersecuted 27 = .ok (.irem, 1) := by decide +kernel
theorem dL_isPersecuted_28 : decode cL_isPersecuted 28 = .ok (.if_icmp .ne 46, 3) := by decide +kernel
theorem dL_isPersecuted_31 : decode cL_isPersecuted 31 = .ok (.aload_n 1, 1) := by decide +kernel
theorem dL_isPersecuted_32 : decode cL_isPersecuted 32 = .ok (.iconst 4, 1) := by decide +kernel
theorem dL_isPersecuted_33 : decode cL_isPersecuted 33 = .ok (.iload 7, 2) := by decide +kernel
theorem dL_isPersecuted_35 : decode cL_isPersecuted 35 = .ok (.imul, 1) := by decide +kernel
theorem dL_isPersecuted_36 : decode cL_isPersecuted 36 = .ok (.iconst 1, 1) := by decide +kernel
theorem dL_isPersecuted_37 : decode cL_isPersecuted 37 = .ok (.iadd, 1) := by decide +kernel
theorem dL_isPersecuted_38 : decode cL_isPersecuted 38 = .ok (.iaload, 1) := by decide +kernel
theorem dL_isPersecuted_39 : decode cL_isPersecuted 39 = .ok (.iload 4, 2) := by decide +kernel
theorem dL_isPersecuted_41 : decode cL_isPersecuted 41 = .ok (.if_icmp .ne 33, 3) := by decide +kernel
theorem dL_isPersecuted_44 : decode cL_isPersecuted 44 = .ok (.aload_n 1, 1) := by decide +kernel
theorem dL_isPersecuted_45 : decode cL_isPersecuted 45 = .ok (.iconst 4, 1) := by decide +kernel
theorem dL_isPersecuted_46 : decode cL_isPersecuted 46 = .ok (.iload 7, 2) := by decide +kernel
theorem dL_isPersecuted_48 : decode cL_isPersecuted 48 = .ok (.imul, 1) := by decide +kernel
theorem dL_isPersecuted_49 : decode cL_isPersecuted 49 = .ok (.iconst 2, 1) := by decide +kernel
theorem dL_isPersecuted_50 : decode cL_isPersecuted 50 = .ok (.iadd, 1) := by decide +kernel
theorem dL_isPersecuted_51 : decode cL_isPersecuted 51 = .ok (.iaload, 1) := by decide +kernel
theorem dL_isPersecuted_52 : decode cL_isPersecuted 52 = .ok (.iload 5, 2) := by decide +kernel
theorem dL_isPersecuted_54 : decode cL_isPersecuted 54 = .ok (.if_icmp .gt 20, 3) := by decide +kernel
theorem dL_isPersecuted_57 : decode cL_isPersecuted 57 = .ok (.iload 5, 2) := by decide +kernel
theorem dL_isPersecuted_59 : decode cL_isPersecuted 59 = .ok (.aload_n 1, 1) := by decide +kernel
theorem dL_isPersecuted_60 : decode cL_isPersecuted 60 = .ok (.iconst 4, 1) := by decide +kernel
theorem dL_isPersecuted_61 : decode cL_isPersecuted 61 = .ok (.iload 7, 2) := by decide +kernel
theorem dL_isPersecuted_63 : decode cL_isPersecuted 63 = .ok (.imul, 1) := by decide +kernel
theorem dL_isPersecuted_64 : decode cL_isPersecuted 64 = .ok (.iconst 3, 1) := by decide +kernel
theorem dL_isPersecuted_65 : decode cL_isPersecuted 65 = .ok (.iadd, 1) := by decide +kernel
theorem dL_isPersecuted_66 : decode cL_isPersecuted 66 = .ok (.iaload, 1) := by decide +kernel
theorem dL_isPersecuted_67 : decode cL_isPersecuted 67 = .ok (.if_icmp .gt 7, 3) := by decide +kernel
theorem dL_isPersecuted_70 : decode cL_isPersecuted 70 = .ok (.iconst 1, 1) := by decide +kernel
theorem dL_isPersecuted_71 : decode cL_isPersecuted 71 = .ok (.goto 4, 3) := by decide +kernel
theorem dL_isPersecuted_74 : decode cL_isPersecuted 74 = .ok (.iconst 0, 1) := by decide +kernel
theorem dL_isPersecuted_75 : decode cL_isPersecuted 75 = .ok (.iadd, 1) := by decide +kernel
theorem dL_isPersecuted_76 : decode cL_isPersecuted 76 = .ok (.istore 6, 2) := by decide +kernel
theorem dL_isPersecuted_78 : decode cL_isPersecuted 78 = .ok (.iinc 7 1, 3) := by decide +kernel
theorem dL_isPersecuted_81 : decode cL_isPersecuted 81 = .ok (.goto (-75), 3) := by decide +kernel
theorem dL_isPersecuted_84 : decode cL_isPersecuted 84 = .ok (.iload 6, 2) := by decide +kernel
theorem dL_isPersecuted_86 : decode cL_isPersecuted 86 = .ok (.ifCond .le 7, 3) := by decide +kernel
theorem dL_isPersecuted_89 : decode cL_isPersecuted 89 = .ok (.iconst 1, 1) := by decide +kernel
theorem dL_isPersecuted_90 : decode cL_isPersecuted 90 = .ok (.goto 4, 3) := by decide +kernel
theorem dL_isPersecuted_93 : decode cL_isPersecuted 93 = .ok (.iconst 0, 1) := by decide +kernel
theorem dL_isPersecuted_94 : decode cL_isPersecuted 94 = .ok (.ireturn, 1) := by decide +kernel
theorem dL_at_0 : decode cL_at 0 = .ok (.iconst 0, 1) := by decide +kernel
theorem dL_at_1 : decode cL_at 1 = .ok (.istore 4, 2) := by decide +kernel
theorem dL_at_3 : decode cL_at 3 = .ok (.iconst (-1), 1) := by decide +kernel
theorem dL_at_4 : decode cL_at 4 = .ok (.istore 5, 2) := by decide +kernel
theorem dL_at_6 : decode cL_at 6 = .ok (.iconst 0, 1) := by decide +kernel
theorem dL_at_7 : decode cL_at 7 = .ok (.istore 6, 2) := by decide +kernel
theorem dL_at_9 : decode cL_at 9 = .ok (.iload 6, 2) := by decide +kernel
theorem dL_at_11 : decode cL_at 11 = .ok (.iload_n 3, 1) := by decide +kernel
theorem dL_at_12 : decode cL_at 12 = .ok (.if_icmp .gt 121, 3) := by decide +kernel
theorem dL_at_15 : decode cL_at 15 = .ok (.iconst (-1), 1) := by decide +kernel
theorem dL_at_16 : decode cL_at 16 = .ok (.istore 5, 2) := by decide +kernel
theorem dL_at_18 : decode cL_at 18 = .ok (.aload_n 1, 1) := by decide +kernel
theorem dL_at_19 : decode cL_at 19 = .ok (.iconst 2, 1) := by decide +kernel
theorem dL_at_20 : decode cL_at 20 = .ok (.iload_n 2, 1) := by decide +kernel
theorem dL_at_21 : decode cL_at 21 = .ok (.iadd, 1) := by decide +kernel
theorem dL_at_22 : decode cL_at 22 = .ok (.iaload, 1) := by decide +kernel
theorem dL_at_23 : decode cL_at 23 = .ok (.iconst 1, 1) := by decide +kernel
theorem dL_at_24 : decode cL_at 24 = .ok (.isub, 1) := by decide +kernel
theorem dL_at_25 : decode cL_at 25 = .ok (.istore 7, 2) := by decide +kernel
theorem dL_at_27 : decode cL_at 27 = .ok (.iload 7, 2) := by decide +kernel
theorem dL_at_29 : decode cL_at 29 = .ok (.ifCond .lt 80, 3) := by decide +kernel
theorem dL_at_32 : decode cL_at 32 = .ok (.iload 4, 2) := by decide +kernel
theorem dL_at_34 : decode cL_at 34 = .ok (.iload 7, 2) := by decide +kernel
theorem dL_at_36 : decode cL_at 36 = .ok (.ishr, 1) := by decide +kernel
theorem dL_at_37 : decode cL_at 37 = .ok (.iconst 1, 1) := by decide +kernel
theorem dL_at_38 : decode cL_at 38 = .ok (.iand, 1) := by decide +kernel
theorem dL_at_39 : decode cL_at 39 = .ok (.ifCond .ne 7, 3) := by decide +kernel
theorem dL_at_42 : decode cL_at 42 = .ok (.iconst 1, 1) := by decide +kernel
theorem dL_at_43 : decode cL_at 43 = .ok (.goto 4, 3) := by decide +kernel
theorem dL_at_46 : decode cL_at 46 = .ok (.iconst 0, 1) := by decide +kernel
theorem dL_at_47 : decode cL_at 47 = .ok (.istore 8, 2) := by decide +kernel
theorem dL_at_49 : decode cL_at 49 = .ok (.iload 8, 2) := by decide +kernel
theorem dL_at_51 : decode cL_at 51 = .ok (.ifCond .eq 48, 3) := by decide +kernel
theorem dL_at_54 : decode cL_at 54 = .ok (.iload 5, 2) := by decide +kernel
theorem dL_at_56 : decode cL_at 56 = .ok (.ifCond .lt 38, 3) := by decide +kernel
theorem dL_at_59 : decode cL_at 59 = .ok (.aload_n 0, 1) := by decide +kernel
theorem dL_at_60 : decode cL_at 60 = .ok (.bipush 8, 2) := by decide +kernel
theorem dL_at_62 : decode cL_at 62 = .ok (.iload_n 2, 1) := by decide +kernel
theorem dL_at_63 : decode cL_at 63 = .ok (.imul, 1) := by decide +kernel
theorem dL_at_64 : decode cL_at 64 = .ok (.iload 7, 2) := by decide +kernel
theorem dL_at_66 : decode cL_at 66 = .ok (.iadd, 1) := by decide +kernel
theorem dL_at_67 : decode cL_at 67 = .ok (.iaload, 1) := by decide +kernel
theorem dL_at_68 : decode cL_at 68 = .ok (.bipush 12, 2) := by decide +kernel
theorem dL_at_70 : decode cL_at 70 = .ok (.ishr, 1) := by decide +kernel
theorem dL_at_71 : decode cL_at 71 = .ok (.sipush 255, 3) := by decide +kernel
theorem dL_at_74 : decode cL_at 74 = .ok (.iand, 1) := by decide +kernel
theorem dL_at_75 : decode cL_at 75 = .ok (.aload_n 0, 1) := by decide +kernel
theorem dL_at_76 : decode cL_at 76 = .ok (.bipush 8, 2) := by decide +kernel
theorem dL_at_78 : decode cL_at 78 = .ok (.iload_n 2, 1) := by decide +kernel
theorem dL_at_79 : decode cL_at 79 = .ok (.imul, 1) := by decide +kernel
theorem dL_at_80 : decode cL_at 80 = .ok (.iload 5, 2) := by decide +kernel
theorem dL_at_82 : decode cL_at 82 = .ok (.iadd, 1) := by decide +kernel
theorem dL_at_83 : decode cL_at 83 = .ok (.iaload, 1) := by decide +kernel
theorem dL_at_84 : decode cL_at 84 = .ok (.bipush 12, 2) := by decide +kernel
theorem dL_at_86 : decode cL_at 86 = .ok (.ishr, 1) := by decide +kernel
theorem dL_at_87 : decode cL_at 87 = .ok (.sipush 255, 3) := by decide +kernel
theorem dL_at_90 : decode cL_at 90 = .ok (.iand, 1) := by decide +kernel
theorem dL_at_91 : decode cL_at 91 = .ok (.if_icmp .gt 8, 3) := by decide +kernel
theorem dL_at_94 : decode cL_at 94 = .ok (.iload 7, 2) := by decide +kernel
theorem dL_at_96 : decode cL_at 96 = .ok (.goto 5, 3) := by decide +kernel
theorem dL_at_99 : decode cL_at 99 = .ok (.iload 5, 2) := by decide +kernel
theorem dL_at_101 : decode cL_at 101 = .ok (.istore 5, 2) := by decide +kernel
theorem dL_at_103 : decode cL_at 103 = .ok (.iinc 7 (-1), 3) := by decide +kernel
theorem dL_at_106 : decode cL_at 106 = .ok (.goto (-79), 3) := by decide +kernel
theorem dL_at_109 : decode cL_at 109 = .ok (.iload 4, 2) := by decide +kernel
theorem dL_at_111 : decode cL_at 111 = .ok (.iload 5, 2) := by decide +kernel
theorem dL_at_113 : decode cL_at 113 = .ok (.ifCond .ge 7, 3) := by decide +kernel
theorem dL_at_116 : decode cL_at 116 = .ok (.iconst 0, 1) := by decide +kernel
theorem dL_at_117 : decode cL_at 117 = .ok (.goto 7, 3) := by decide +kernel
theorem dL_at_120 : decode cL_at 120 = .ok (.iconst 1, 1) := by decide +kernel
theorem dL_at_121 : decode cL_at 121 = .ok (.iload 5, 2) := by decide +kernel
theorem dL_at_123 : decode cL_at 123 = .ok (.ishl, 1) := by decide +kernel
theorem dL_at_124 : decode cL_at 124 = .ok (.ior, 1) := by decide +kernel
theorem dL_at_125 : decode cL_at 125 = .ok (.istore 4, 2) := by decide +kernel
theorem dL_at_127 : decode cL_at 127 = .ok (.iinc 6 1, 3) := by decide +kernel
theorem dL_at_130 : decode cL_at 130 = .ok (.goto (-121), 3) := by decide +kernel
theorem dL_at_133 : decode cL_at 133 = .ok (.iload 5, 2) := by decide +kernel
theorem dL_at_135 : decode cL_at 135 = .ok (.ireturn, 1) := by decide +kernel
set_option maxRecDepth 20000 in
theorem ggL_isLoss_L_at : GoodIn wsL_isLoss wsL_at := goodIn_r _ [4] (by decide +kernel) (by decide +kernel)
set_option maxRecDepth 20000 in
theorem gL_isLoss_L_at : GoodIn wsL_isLoss (va_wsS RL 19 yL_at wsL_at) := goodIn_app (goodIn_of _ (by decide +kernel)) ggL_isLoss_L_at
set_option maxRecDepth 20000 in
theorem ggL_isLoss_L_isPersecuted : GoodIn wsL_isLoss wsL_isPersecuted := goodIn_r _ [7] (by decide +kernel) (by decide +kernel)
set_option maxRecDepth 20000 in
theorem gL_isLoss_L_isPersecuted : GoodIn wsL_isLoss (va_wsS RL 23 yL_isPersecuted wsL_isPersecuted) := goodIn_app (goodIn_of _ (by decide +kernel)) ggL_isLoss_L_isPersecuted
theorem dL_isLoss_0 : decode cL_isLoss 0 = .ok (.iload 5, 2) := by decide +kernel
theorem dL_isLoss_2 : decode cL_isLoss 2 = .ok (.ifCond .ne 5, 3) := by decide +kernel
theorem dL_isLoss_5 : decode cL_isLoss 5 = .ok (.iconst 0, 1) := by decide +kernel
theorem dL_isLoss_6 : decode cL_isLoss 6 = .ok (.ireturn, 1) := by decide +kernel
theorem dL_isLoss_7 : decode cL_isLoss 7 = .ok (.aload_n 2, 1) := by decide +kernel
theorem dL_isLoss_8 : decode cL_isLoss 8 = .ok (.bipush 8, 2) := by decide +kernel
theorem dL_isLoss_10 : decode cL_isLoss 10 = .ok (.iload 4, 2) := by decide +kernel
theorem dL_isLoss_12 : decode cL_isLoss 12 = .ok (.imul, 1) := by decide +kernel
theorem dL_isLoss_13 : decode cL_isLoss 13 = .ok (.aload_n 2, 1) := by decide +kernel
theorem dL_isLoss_14 : decode cL_isLoss 14 = .ok (.aload_n 3, 1) := by decide +kernel
theorem dL_isLoss_15 : decode cL_isLoss 15 = .ok (.iload 4, 2) := by decide +kernel
theorem dL_isLoss_17 : decode cL_isLoss 17 = .ok (.iload 5, 2) := by decide +kernel
theorem dL_isLoss_19 : decode cL_isLoss 19 = .ok (.invokestatic 19, 3) := by decide +kernel
theorem dL_isLoss_22 : decode cL_isLoss 22 = .ok (.iadd, 1) := by decide +kernel
theorem dL_isLoss_23 : decode cL_isLoss 23 = .ok (.iaload, 1) := by decide +kernel
theorem dL_isLoss_24 : decode cL_isLoss 24 = .ok (.istore 6, 2) := by decide +kernel
theorem dL_isLoss_26 : decode cL_isLoss 26 = .ok (.aload_n 2, 1) := by decide +kernel
theorem dL_isLoss_27 : decode cL_isLoss 27 = .ok (.bipush 8, 2) := by decide +kernel
theorem dL_isLoss_29 : decode cL_isLoss 29 = .ok (.iload 4, 2) := by decide +kernel
theorem dL_isLoss_31 : decode cL_isLoss 31 = .ok (.imul, 1) := by decide +kernel
theorem dL_isLoss_32 : decode cL_isLoss 32 = .ok (.aload_n 2, 1) := by decide +kernel
theorem dL_isLoss_33 : decode cL_isLoss 33 = .ok (.aload_n 3, 1) := by decide +kernel
theorem dL_isLoss_34 : decode cL_isLoss 34 = .ok (.iload 4, 2) := by decide +kernel
theorem dL_isLoss_36 : decode cL_isLoss 36 = .ok (.iload 5, 2) := by decide +kernel
theorem dL_isLoss_38 : decode cL_isLoss 38 = .ok (.iconst 1, 1) := by decide +kernel
theorem dL_isLoss_39 : decode cL_isLoss 39 = .ok (.isub, 1) := by decide +kernel
theorem dL_isLoss_40 : decode cL_isLoss 40 = .ok (.invokestatic 19, 3) := by decide +kernel
theorem dL_isLoss_43 : decode cL_isLoss 43 = .ok (.iadd, 1) := by decide +kernel
theorem dL_isLoss_44 : decode cL_isLoss 44 = .ok (.iaload, 1) := by decide +kernel
theorem dL_isLoss_45 : decode cL_isLoss 45 = .ok (.bipush 15, 2) := by decide +kernel
theorem dL_isLoss_47 : decode cL_isLoss 47 = .ok (.iand, 1) := by decide +kernel
theorem dL_isLoss_48 : decode cL_isLoss 48 = .ok (.istore 7, 2) := by decide +kernel
theorem dL_isLoss_50 : decode cL_isLoss 50 = .ok (.iload 6, 2) := by decide +kernel
theorem dL_isLoss_52 : decode cL_isLoss 52 = .ok (.iconst 4, 1) := by decide +kernel
theorem dL_isLoss_53 : decode cL_isLoss 53 = .ok (.ishr, 1) := by decide +kernel
theorem dL_isLoss_54 : decode cL_isLoss 54 = .ok (.bipush 15, 2) := by decide +kernel
theorem dL_isLoss_56 : decode cL_isLoss 56 = .ok (.iand, 1) := by decide +kernel
theorem dL_isLoss_57 : decode cL_isLoss 57 = .ok (.istore 8, 2) := by decide +kernel
theorem dL_isLoss_59 : decode cL_isLoss 59 = .ok (.iload 8, 2) := by decide +kernel
theorem dL_isLoss_61 : decode cL_isLoss 61 = .ok (.ifCond .ne 49, 3) := by decide +kernel
theorem dL_isLoss_64 : decode cL_isLoss 64 = .ok (.iload 6, 2) := by decide +kernel
theorem dL_isLoss_66 : decode cL_isLoss 66 = .ok (.bipush 24, 2) := by decide +kernel
theorem dL_isLoss_68 : decode cL_isLoss 68 = .ok (.ishr, 1) := by decide +kernel
theorem dL_isLoss_69 : decode cL_isLoss 69 = .ok (.iconst 1, 1) := by decide +kernel
theorem dL_isLoss_70 : decode cL_isLoss 70 = .ok (.iand, 1) := by decide +kernel
theorem dL_isLoss_71 : decode cL_isLoss 71 = .ok (.ifCond .ne 39, 3) := by decide +kernel
theorem dL_isLoss_74 : decode cL_isLoss 74 = .ok (.aload_n 0, 1) := by decide +kernel
theorem dL_isLoss_75 : decode cL_isLoss 75 = .ok (.aload_n 1, 1) := by decide +kernel
theorem dL_isLoss_76 : decode cL_isLoss 76 = .ok (.aload_n 3, 1) := by decide +kernel
theorem dL_isLoss_77 : decode cL_isLoss 77 = .ok (.iload 7, 2) := by decide +kernel
theorem dL_isLoss_79 : decode cL_isLoss 79 = .ok (.iload 6, 2) := by decide +kernel
theorem dL_isLoss_81 : decode cL_isLoss 81 = .ok (.bipush 8, 2) := by decide +kernel
theorem dL_isLoss_83 : decode cL_isLoss 83 = .ok (.ishr, 1) := by decide +kernel
theorem dL_isLoss_84 : decode cL_isLoss 84 = .ok (.bipush 15, 2) := by decide +kernel
theorem dL_isLoss_86 : decode cL_isLoss 86 = .ok (.iand, 1) := by decide +kernel
theorem dL_isLoss_87 : decode cL_isLoss 87 = .ok (.sipush 1900, 3) := by decide +kernel
theorem dL_isLoss_90 : decode cL_isLoss 90 = .ok (.iload 6, 2) := by decide +kernel
theorem dL_isLoss_92 : decode cL_isLoss 92 = .ok (.bipush 12, 2) := by decide +kernel
theorem dL_isLoss_94 : decode cL_isLoss 94 = .ok (.ishr, 1) := by decide +kernel
theorem dL_isLoss_95 : decode cL_isLoss 95 = .ok (.sipush 255, 3) := by decide +kernel
theorem dL_isLoss_98 : decode cL_isLoss 98 = .ok (.iand, 1) := by decide +kernel
theorem dL_isLoss_99 : decode cL_isLoss 99 = .ok (.iadd, 1) := by decide +kernel
theorem dL_isLoss_100 : decode cL_isLoss 100 = .ok (.invokestatic 23, 3) := by decide +kernel
theorem dL_isLoss_103 : decode cL_isLoss 103 = .ok (.ifCond .eq 7, 3) := by decide +kernel
theorem dL_isLoss_106 : decode cL_isLoss 106 = .ok (.iconst 1, 1) := by decide +kernel
theorem dL_isLoss_107 : decode cL_isLoss 107 = .ok (.goto 4, 3) := by decide +kernel
theorem dL_isLoss_110 : decode cL_isLoss 110 = .ok (.iconst 0, 1) := by decide +kernel
theorem dL_isLoss_111 : decode cL_isLoss 111 = .ok (.istore 9, 2) := by decide +kernel
theorem dL_isLoss_113 : decode cL_isLoss 113 = .ok (.iload 8, 2) := by decide +kernel
theorem dL_isLoss_115 : decode cL_isLoss 115 = .ok (.iconst 2, 1) := by decide +kernel
theorem dL_isLoss_116 : decode cL_isLoss 116 = .ok (.if_icmp .gt 8, 3) := by decide +kernel
theorem dL_isLoss_119 : decode cL_isLoss 119 = .ok (.iload 9, 2) := by decide +kernel
theorem dL_isLoss_121 : decode cL_isLoss 121 = .ok (.ifCond .eq 7, 3) := by decide +kernel
theorem dL_isLoss_124 : decode cL_isLoss 124 = .ok (.iconst 1, 1) := by decide +kernel
theorem dL_isLoss_125 : decode cL_isLoss 125 = .ok (.goto 4, 3) := by decide +kernel
theorem dL_isLoss_128 : decode cL_isLoss 128 = .ok (.iconst 0, 1) := by decide +kernel
theorem dL_isLoss_129 : decode cL_isLoss 129 = .ok (.ireturn, 1) := by decide +kernel
set_option maxRecDepth 20000 in
theorem ggL_owner_L_at : GoodIn wsL_owner wsL_at := goodIn_r _ [4] (by decide +kernel) (by decide +kernel)
set_option maxRecDepth 20000 in
theorem gL_owner_L_at : GoodIn wsL_owner (va_wsS RL 19 yL_at wsL_at) := goodIn_app (goodIn_of _ (by decide +kernel)) ggL_owner_L_at
set_option maxRecDepth 20000 in
theorem ggL_owner_L_isLoss : GoodIn wsL_owner wsL_isLoss := goodIn_r _ [7, 1, 2, 3, 4, 8, 9, 10] (by decide +kernel) (by decide +kernel)
set_option maxRecDepth 20000 in
theorem gL_owner_L_isLoss : GoodIn wsL_owner (va_wsS RL 27 yL_isLoss wsL_isLoss) := goodIn_app (goodIn_of _ (by decide +kernel)) ggL_owner_L_isLoss
set_option maxRecDepth 20000 in
theorem ggL_owner_L_heirOf : GoodIn wsL_owner wsL_heirOf := goodIn_r _ [13, 14, 15, 16, 3, 17, 18] (by decide +kernel) (by decide +kernel)
set_option maxRecDepth 20000 in
theorem gL_owner_L_heirOf : GoodIn wsL_owner (va_wsS RL 31 yL_heirOf wsL_heirOf) := goodIn_app (goodIn_of _ (by decide +kernel)) ggL_owner_L_heirOf
theorem dL_owner_0 : decode cL_owner 0 = .ok (.iconst (-1), 1) := by decide +kernel
theorem dL_owner_1 : decode cL_owner 1 = .ok (.istore 6, 2) := by decide +kernel
theorem dL_owner_3 : decode cL_owner 3 = .ok (.iconst (-1), 1) := by decide +kernel
theorem dL_owner_4 : decode cL_owner 4 = .ok (.istore 7, 2) := by decide +kernel
theorem dL_owner_6 : decode cL_owner 6 = .ok (.iconst 0, 1) := by decide +kernel
theorem dL_owner_7 : decode cL_owner 7 = .ok (.istore 8, 2) := by decide +kernel
theorem dL_owner_9 : decode cL_owner 9 = .ok (.iload 8, 2) := by decide +kernel
theorem dL_owner_11 : decode cL_owner 11 = .ok (.aload 4, 2) := by decide +kernel
theorem dL_owner_13 : decode cL_owner 13 = .ok (.iconst 2, 1) := by decide +kernel
theorem dL_owner_14 : decode cL_owner 14 = .ok (.iload 5, 2) := by decide +kernel
theorem dL_owner_16 : decode cL_owner 16 = .ok (.iadd, 1) := by decide +kernel
theorem dL_owner_17 : decode cL_owner 17 = .ok (.iaload, 1) := by decide +kernel
theorem dL_owner_18 : decode cL_owner 18 = .ok (.if_icmp .ge 216, 3) := by decide +kernel
theorem dL_owner_21 : decode cL_owner 21 = .ok (.aload_n 3, 1) := by decide +kernel
theorem dL_owner_22 : decode cL_owner 22 = .ok (.bipush 8, 2) := by decide +kernel
theorem dL_owner_24 : decode cL_owner 24 = .ok (.iload 5, 2) := by decide +kernel
theorem dL_owner_26 : decode cL_owner 26 = .ok (.imul, 1) := by decide +kernel
theorem dL_owner_27 : decode cL_owner 27 = .ok (.aload_n 3, 1) := by decide +kernel
theorem dL_owner_28 : decode cL_owner 28 = .ok (.aload 4, 2) := by decide +kernel
theorem dL_owner_30 : decode cL_owner 30 = .ok (.iload 5, 2) := by decide +kernel
theorem dL_owner_32 : decode cL_owner 32 = .ok (.iload 8, 2) := by decide +kernel
theorem dL_owner_34 : decode cL_owner 34 = .ok (.invokestatic 19, 3) := by decide +kernel
theorem dL_owner_37 : decode cL_owner 37 = .ok (.iadd, 1) := by decide +kernel
theorem dL_owner_38 : decode cL_owner 38 = .ok (.iaload, 1) := by decide +kernel
theorem dL_owner_39 : decode cL_owner 39 = .ok (.istore 9, 2) := by decide +kernel
theorem dL_owner_41 : decode cL_owner 41 = .ok (.iload 9, 2) := by decide +kernel
theorem dL_owner_43 : decode cL_owner 43 = .ok (.bipush 15, 2) := by decide +kernel
theorem dL_owner_45 : decode cL_owner 45 = .ok (.iand, 1) := by decide +kernel
theorem dL_owner_46 : decode cL_owner 46 = .ok (.istore 10, 2) := by decide +kernel
theorem dL_owner_48 : decode cL_owner 48 = .ok (.iload 9, 2) := by decide +kernel
theorem dL_owner_50 : decode cL_owner 50 = .ok (.bipush 12, 2) := by decide +kernel
theorem dL_owner_52 : decode cL_owner 52 = .ok (.ishr, 1) := by decide +kernel
theorem dL_owner_53 : decode cL_owner 53 = .ok (.sipush 255, 3) := by decide +kernel
theorem dL_owner_56 : decode cL_owner 56 = .ok (.iand, 1) := by decide +kernel
theorem dL_owner_57 : decode cL_owner 57 = .ok (.istore 11, 2) := by decide +kernel
theorem dL_owner_59 : decode cL_owner 59 = .ok (.iload 8, 2) := by decide +kernel
theorem dL_owner_61 : decode cL_owner 61 = .ok (.iconst 1, 1) := by decide +kernel
theorem dL_owner_62 : decode cL_owner 62 = .ok (.iadd, 1) := by decide +kernel
theorem dL_owner_63 : decode cL_owner 63 = .ok (.aload 4, 2) := by decide +kernel
theorem dL_owner_65 : decode cL_owner 65 = .ok (.iconst 2, 1) := by decide +kernel
theorem dL_owner_66 : decode cL_owner 66 = .ok (.iload 5, 2) := by decide +kernel
theorem dL_owner_68 : decode cL_owner 68 = .ok (.iadd, 1) := by decide +kernel
theorem dL_owner_69 : decode cL_owner 69 = .ok (.iaload, 1) := by decide +kernel
theorem dL_owner_70 : decode cL_owner 70 = .ok (.if_icmp .ge 33, 3) := by decide +kernel
theorem dL_owner_73 : decode cL_owner 73 = .ok (.aload_n 3, 1) := by decide +kernel
theorem dL_owner_74 : decode cL_owner 74 = .ok (.bipush 8, 2) := by decide +kernel
theorem dL_owner_76 : decode cL_owner 76 = .ok (.iload 5, 2) := by decide +kernel
theorem dL_owner_78 : decode cL_owner 78 = .ok (.imul, 1) := by decide +kernel
theorem dL_owner_79 : decode cL_owner 79 = .ok (.aload_n 3, 1) := by decide +kernel
theorem dL_owner_80 : decode cL_owner 80 = .ok (.aload 4, 2) := by decide +kernel
theorem dL_owner_82 : decode cL_owner 82 = .ok (.iload 5, 2) := by decide +kernel
theorem dL_owner_84 : decode cL_owner 84 = .ok (.iload 8, 2) := by decide +kernel
theorem dL_owner_86 : decode cL_owner 86 = .ok (.iconst 1, 1) := by decide +kernel
theorem dL_owner_87 : decode cL_owner 87 = .ok (.iadd, 1) := by decide +kernel
theorem dL_owner_88 : decode cL_owner 88 = .ok (.invokestatic 19, 3) := by decide +kernel
theorem dL_owner_91 : decode cL_owner 91 = .ok (.iadd, 1) := by decide +kernel
theorem dL_owner_92 : decode cL_owner 92 = .ok (.iaload, 1) := by decide +kernel
theorem dL_owner_93 : decode cL_owner 93 = .ok (.bipush 12, 2) := by decide +kernel
theorem dL_owner_95 : decode cL_owner 95 = .ok (.ishr, 1) := by decide +kernel
theorem dL_owner_96 : decode cL_owner 96 = .ok (.sipush 255, 3) := by decide +kernel
theorem dL_owner_99 : decode cL_owner 99 = .ok (.iand, 1) := by decide +kernel
theorem dL_owner_100 : decode cL_owner 100 = .ok (.goto 11, 3) := by decide +kernel
theorem dL_owner_103 : decode cL_owner 103 = .ok (.aload 4, 2) := by decide +kernel
theorem dL_owner_105 : decode cL_owner 105 = .ok (.iconst 0, 1) := by decide +kernel
theorem dL_owner_106 : decode cL_owner 106 = .ok (.iaload, 1) := by decide +kernel
theorem dL_owner_107 : decode cL_owner 107 = .ok (.sipush 1900, 3) := by decide +kernel
theorem dL_owner_110 : decode cL_owner 110 = .ok (.isub, 1) := by decide +kernel
theorem dL_owner_111 : decode cL_owner 111 = .ok (.istore 12, 2) := by decide +kernel
theorem dL_owner_113 : decode cL_owner 113 = .ok (.aload 4, 2) := by decide +kernel
theorem dL_owner_115 : decode cL_owner 115 = .ok (.iconst 5, 1) := by decide +kernel
theorem dL_owner_116 : decode cL_owner 116 = .ok (.iload 9, 2) := by decide +kernel
theorem dL_owner_118 : decode cL_owner 118 = .ok (.bipush 8, 2) := by decide +kernel
theorem dL_owner_120 : decode cL_owner 120 = .ok (.ishr, 1) := by decide +kernel
theorem dL_owner_121 : decode cL_owner 121 = .ok (.bipush 15, 2) := by decide +kernel
theorem dL_owner_123 : decode cL_owner 123 = .ok (.iand, 1) := by decide +kernel
theorem dL_owner_124 : decode cL_owner 124 = .ok (.iadd, 1) := by decide +kernel
theorem dL_owner_125 : decode cL_owner 125 = .ok (.iaload, 1) := by decide +kernel
theorem dL_owner_126 : decode cL_owner 126 = .ok (.istore 13, 2) := by decide +kernel
theorem dL_owner_128 : decode cL_owner 128 = .ok (.iload 8, 2) := by decide +kernel
theorem dL_owner_130 : decode cL_owner 130 = .ok (.ifCond .eq 14, 3) := by decide +kernel
theorem dL_owner_133 : decode cL_owner 133 = .ok (.iload 9, 2) := by decide +kernel
theorem dL_owner_135 : decode cL_owner 135 = .ok (.bipush 25, 2) := by decide +kernel
theorem dL_owner_137 : decode cL_owner 137 = .ok (.ishr, 1) := by decide +kernel
theorem dL_owner_138 : decode cL_owner 138 = .ok (.iconst 1, 1) := by decide +kernel
theorem dL_owner_139 : decode cL_owner 139 = .ok (.iand, 1) := by decide +kernel
theorem dL_owner_140 : decode cL_owner 140 = .ok (.iconst 1, 1) := by decide +kernel
theorem dL_owner_141 : decode cL_owner 141 = .ok (.if_icmp .ne 7, 3) := by decide +kernel
theorem dL_owner_144 : decode cL_owner 144 = .ok (.iconst 1, 1) := by decide +kernel
theorem dL_owner_145 : decode cL_owner 145 = .ok (.goto 4, 3) := by decide +kernel
theorem dL_owner_148 : decode cL_owner 148 = .ok (.iconst 0, 1) := by decide +kernel
theorem dL_owner_149 : decode cL_owner 149 = .ok (.istore 14, 2) := by decide +kernel
theorem dL_owner_151 : decode cL_owner 151 = .ok (.iload 14, 2) := by decide +kernel
theorem dL_owner_153 : decode cL_owner 153 = .ok (.ifCond .ne 57, 3) := by decide +kernel
theorem dL_owner_156 : decode cL_owner 156 = .ok (.aload_n 0, 1) := by decide +kernel
theorem dL_owner_157 : decode cL_owner 157 = .ok (.aload_n 2, 1) := by decide +kernel
theorem dL_owner_158 : decode cL_owner 158 = .ok (.aload_n 3, 1) := by decide +kernel
theorem dL_owner_159 : decode cL_owner 159 = .ok (.aload 4, 2) := by decide +kernel
theorem dL_owner_161 : decode cL_owner 161 = .ok (.iload 5, 2) := by decide +kernel
theorem dL_owner_163 : decode cL_owner 163 = .ok (.iload 8, 2) := by decide +kernel
theorem dL_owner_165 : decode cL_owner 165 = .ok (.invokestatic 27, 3) := by decide +kernel
theorem dL_owner_168 : decode cL_owner 168 = .ok (.ifCond .ne 42, 3) := by decide +kernel
theorem dL_owner_171 : decode cL_owner 171 = .ok (.iload 6, 2) := by decide +kernel
theorem dL_owner_173 : decode cL_owner 173 = .ok (.iload 7, 2) := by decide +kernel
theorem dL_owner_175 : decode cL_owner 175 = .ok (.if_icmp .eq 28, 3) := by decide +kernel
theorem dL_owner_178 : decode cL_owner 178 = .ok (.iload 9, 2) := by decide +kernel
theorem dL_owner_180 : decode cL_owner 180 = .ok (.iconst 4, 1) := by decide +kernel
theorem dL_owner_181 : decode cL_owner 181 = .ok (.ishr, 1) := by decide +kernel
theorem dL_owner_182 : decode cL_owner 182 = .ok (.bipush 15, 2) := by decide +kernel
theorem dL_owner_184 : decode cL_owner 184 = .ok (.iand, 1) := by decide +kernel
theorem dL_owner_185 : decode cL_owner 185 = .ok (.ifCond .ne 22, 3) := by decide +kernel
theorem dL_owner_188 : decode cL_owner 188 = .ok (.iload 13, 2) := by decide +kernel
theorem dL_owner_190 : decode cL_owner 190 = .ok (.ifCond .le 17, 3) := by decide +kernel
theorem dL_owner_193 : decode cL_owner 193 = .ok (.iload 12, 2) := by decide +kernel
theorem dL_owner_195 : decode cL_owner 195 = .ok (.iload 11, 2) := by decide +kernel
theorem dL_owner_197 : decode cL_owner 197 = .ok (.iload 13, 2) := by decide +kernel
theorem dL_owner_199 : decode cL_owner 199 = .ok (.iadd, 1) := by decide +kernel
theorem dL_owner_200 : decode cL_owner 200 = .ok (.if_icmp .lt 7, 3) := by decide +kernel
theorem dL_owner_203 : decode cL_owner 203 = .ok (.iconst 1, 1) := by decide +kernel
theorem dL_owner_204 : decode cL_owner 204 = .ok (.goto 4, 3) := by decide +kernel
theorem dL_owner_207 : decode cL_owner 207 = .ok (.iconst 0, 1) := by decide +kernel
theorem dL_owner_208 : decode cL_owner 208 = .ok (.istore 14, 2) := by decide +kernel
theorem dL_owner_210 : decode cL_owner 210 = .ok (.iload 14, 2) := by decide +kernel
theorem dL_owner_212 : decode cL_owner 212 = .ok (.ifCond .eq 8, 3) := by decide +kernel
theorem dL_owner_215 : decode cL_owner 215 = .ok (.iload 10, 2) := by decide +kernel
theorem dL_owner_217 : decode cL_owner 217 = .ok (.goto 5, 3) := by decide +kernel
theorem dL_owner_220 : decode cL_owner 220 = .ok (.iload 6, 2) := by decide +kernel
theorem dL_owner_222 : decode cL_owner 222 = .ok (.istore 6, 2) := by decide +kernel
theorem dL_owner_224 : decode cL_owner 224 = .ok (.iload 10, 2) := by decide +kernel
theorem dL_owner_226 : decode cL_owner 226 = .ok (.istore 7, 2) := by decide +kernel
theorem dL_owner_228 : decode cL_owner 228 = .ok (.iinc 8 1, 3) := by decide +kernel
theorem dL_owner_231 : decode cL_owner 231 = .ok (.goto (-222), 3) := by decide +kernel
theorem dL_owner_234 : decode cL_owner 234 = .ok (.iload 6, 2) := by decide +kernel
theorem dL_owner_236 : decode cL_owner 236 = .ok (.ifCond .lt 12, 3) := by decide +kernel
theorem dL_owner_239 : decode cL_owner 239 = .ok (.aload_n 0, 1) := by decide +kernel
theorem dL_owner_240 : decode cL_owner 240 = .ok (.iload 6, 2) := by decide +kernel
theorem dL_owner_242 : decode cL_owner 242 = .ok (.iaload, 1) := by decide +kernel
theorem dL_owner_243 : decode cL_owner 243 = .ok (.bipush 8, 2) := by decide +kernel
theorem dL_owner_245 : decode cL_owner 245 = .ok (.if_icmp .ge 8, 3) := by decide +kernel
theorem dL_owner_248 : decode cL_owner 248 = .ok (.iload 6, 2) := by decide +kernel
theorem dL_owner_250 : decode cL_owner 250 = .ok (.goto 10, 3) := by decide +kernel
theorem dL_owner_253 : decode cL_owner 253 = .ok (.aload_n 0, 1) := by decide +kernel
theorem dL_owner_254 : decode cL_owner 254 = .ok (.aload_n 1, 1) := by decide +kernel
theorem dL_owner_255 : decode cL_owner 255 = .ok (.iload 6, 2) := by decide +kernel
theorem dL_owner_257 : decode cL_owner 257 = .ok (.invokestatic 31, 3) := by decide +kernel
theorem dL_owner_260 : decode cL_owner 260 = .ok (.ireturn, 1) := by decide +kernel
set_option maxRecDepth 20000 in
theorem ggL_holder_L_at : GoodIn wsL_holder wsL_at := goodIn_r _ [4] (by decide +kernel) (by decide +kernel)
set_option maxRecDepth 20000 in
theorem gL_holder_L_at : GoodIn wsL_holder (va_wsS RL 19 yL_at wsL_at) := goodIn_app (goodIn_of _ (by decide +kernel)) ggL_holder_L_at
theorem dL_holder_0 : decode cL_holder 0 = .ok (.aload_n 1, 1) := by decide +kernel
theorem dL_holder_1 : decode cL_holder 1 = .ok (.iconst 2, 1) := by decide +kernel
theorem dL_holder_2 : decode cL_holder 2 = .ok (.iload_n 2, 1) := by decide +kernel
theorem dL_holder_3 : decode cL_holder 3 = .ok (.iadd, 1) := by decide +kernel
theorem dL_holder_4 : decode cL_holder 4 = .ok (.iaload, 1) := by decide +kernel
theorem dL_holder_5 : decode cL_holder 5 = .ok (.ifCond .ne 7, 3) := by decide +kernel
theorem dL_holder_8 : decode cL_holder 8 = .ok (.iconst (-1), 1) := by decide +kernel
theorem dL_holder_9 : decode cL_holder 9 = .ok (.goto 26, 3) := by decide +kernel
theorem dL_holder_12 : decode cL_holder 12 = .ok (.aload_n 0, 1) := by decide +kernel
theorem dL_holder_13 : decode cL_holder 13 = .ok (.bipush 8, 2) := by decide +kernel
theorem dL_holder_15 : decode cL_holder 15 = .ok (.iload_n 2, 1) := by decide +kernel
theorem dL_holder_16 : decode cL_holder 16 = .ok (.imul, 1) := by decide +kernel
theorem dL_holder_17 : decode cL_holder 17 = .ok (.aload_n 0, 1) := by decide +kernel
theorem dL_holder_18 : decode cL_holder 18 = .ok (.aload_n 1, 1) := by decide +kernel
theorem dL_holder_19 : decode cL_holder 19 = .ok (.iload_n 2, 1) := by decide +kernel
theorem dL_holder_20 : decode cL_holder 20 = .ok (.aload_n 1, 1) := by decide +kernel
theorem dL_holder_21 : decode cL_holder 21 = .ok (.iconst 2, 1) := by decide +kernel
theorem dL_holder_22 : decode cL_holder 22 = .ok (.iload_n 2, 1) := by decide +kernel
theorem dL_holder_23 : decode cL_holder 23 = .ok (.iadd, 1) := by decide +kernel
theorem dL_holder_24 : decode cL_holder 24 = .ok (.iaload, 1) := by decide +kernel
theorem dL_holder_25 : decode cL_holder 25 = .ok (.iconst 1, 1) := by decide +kernel
theorem dL_holder_26 : decode cL_holder 26 = .ok (.isub, 1) := by decide +kernel
theorem dL_holder_27 : decode cL_holder 27 = .ok (.invokestatic 19, 3) := by decide +kernel
theorem dL_holder_30 : decode cL_holder 30 = .ok (.iadd, 1) := by decide +kernel
theorem dL_holder_31 : decode cL_holder 31 = .ok (.iaload, 1) := by decide +kernel
theorem dL_holder_32 : decode cL_holder 32 = .ok (.bipush 15, 2) := by decide +kernel
theorem dL_holder_34 : decode cL_holder 34 = .ok (.iand, 1) := by decide +kernel
theorem dL_holder_35 : decode cL_holder 35 = .ok (.ireturn, 1) := by decide +kernel
theorem dL_likeness_0 : decode cL_likeness 0 = .ok (.aload_n 0, 1) := by decide +kernel
theorem dL_likeness_1 : decode cL_likeness 1 = .ok (.iconst 2, 1) := by decide +kernel
theorem dL_likeness_2 : decode cL_likeness 2 = .ok (.iload_n 1, 1) := by decide +kernel
theorem dL_likeness_3 : decode cL_likeness 3 = .ok (.imul, 1) := by decide +kernel
theorem dL_likeness_4 : decode cL_likeness 4 = .ok (.iconst 1, 1) := by decide +kernel
theorem dL_likeness_5 : decode cL_likeness 5 = .ok (.iadd, 1) := by decide +kernel
theorem dL_likeness_6 : decode cL_likeness 6 = .ok (.iaload, 1) := by decide +kernel
theorem dL_likeness_7 : decode cL_likeness 7 = .ok (.aload_n 0, 1) := by decide +kernel
theorem dL_likeness_8 : decode cL_likeness 8 = .ok (.iconst 2, 1) := by decide +kernel
theorem dL_likeness_9 : decode cL_likeness 9 = .ok (.iload_n 2, 1) := by decide +kernel
theorem dL_likeness_10 : decode cL_likeness 10 = .ok (.imul, 1) := by decide +kernel
theorem dL_likeness_11 : decode cL_likeness 11 = .ok (.iconst 1, 1) := by decide +kernel
theorem dL_likeness_12 : decode cL_likeness 12 = .ok (.iadd, 1) := by decide +kernel
theorem dL_likeness_13 : decode cL_likeness 13 = .ok (.iaload, 1) := by decide +kernel
theorem dL_likeness_14 : decode cL_likeness 14 = .ok (.if_icmp .ge 21, 3) := by decide +kernel
theorem dL_likeness_17 : decode cL_likeness 17 = .ok (.aload_n 0, 1) := by decide +kernel
theorem dL_likeness_18 : decode cL_likeness 18 = .ok (.iconst 2, 1) := by decide +kernel
theorem dL_likeness_19 : decode cL_likeness 19 = .ok (.iload_n 1, 1) := by decide +kernel
theorem dL_likeness_20 : decode cL_likeness 20 = .ok (.imul, 1) := by decide +kernel
theorem dL_likeness_21 : decode cL_likeness 21 = .ok (.iconst 1, 1) := by decide +kernel
theorem dL_likeness_22 : decode cL_likeness 22 = .ok (.iadd, 1) := by decide +kernel
theorem dL_likeness_23 : decode cL_likeness 23 = .ok (.iaload, 1) := by decide +kernel
theorem dL_likeness_24 : decode cL_likeness 24 = .ok (.aload_n 0, 1) := by decide +kernel
theorem dL_likeness_25 : decode cL_likeness 25 = .ok (.iconst 2, 1) := by decide +kernel
theorem dL_likeness_26 : decode cL_likeness 26 = .ok (.iload_n 2, 1) := by decide +kernel
theorem dL_likeness_27 : decode cL_likeness 27 = .ok (.imul, 1) := by decide +kernel
theorem dL_likeness_28 : decode cL_likeness 28 = .ok (.iconst 1, 1) := by decide +kernel
theorem dL_likeness_29 : decode cL_likeness 29 = .ok (.iadd, 1) := by decide +kernel
theorem dL_likeness_30 : decode cL_likeness 30 = .ok (.iaload, 1) := by decide +kernel
theorem dL_likeness_31 : decode cL_likeness 31 = .ok (.isub, 1) := by decide +kernel
theorem dL_likeness_32 : decode cL_likeness 32 = .ok (.goto 18, 3) := by decide +kernel
theorem dL_likeness_35 : decode cL_likeness 35 = .ok (.aload_n 0, 1) := by decide +kernel
theorem dL_likeness_36 : decode cL_likeness 36 = .ok (.iconst 2, 1) := by decide +kernel
theorem dL_likeness_37 : decode cL_likeness 37 = .ok (.iload_n 2, 1) := by decide +kernel
theorem dL_likeness_38 : decode cL_likeness 38 = .ok (.imul, 1) := by decide +kernel
theorem dL_likeness_39 : decode cL_likeness 39 = .ok (.iconst 1, 1) := by decide +kernel
theorem dL_likeness_40 : decode cL_likeness 40 = .ok (.iadd, 1) := by decide +kernel
theorem dL_likeness_41 : decode cL_likeness 41 = .ok (.iaload, 1) := by decide +kernel
theorem dL_likeness_42 : decode cL_likeness 42 = .ok (.aload_n 0, 1) := by decide +kernel
theorem dL_likeness_43 : decode cL_likeness 43 = .ok (.iconst 2, 1) := by decide +kernel
theorem dL_likeness_44 : decode cL_likeness 44 = .ok (.iload_n 1, 1) := by decide +kernel
theorem dL_likeness_45 : decode cL_likeness 45 = .ok (.imul, 1) := by decide +kernel
theorem dL_likeness_46 : decode cL_likeness 46 = .ok (.iconst 1, 1) := by decide +kernel
theorem dL_likeness_47 : decode cL_likeness 47 = .ok (.iadd, 1) := by decide +kernel
theorem dL_likeness_48 : decode cL_likeness 48 = .ok (.iaload, 1) := by decide +kernel
theorem dL_likeness_49 : decode cL_likeness 49 = .ok (.isub, 1) := by decide +kernel
theorem dL_likeness_50 : decode cL_likeness 50 = .ok (.istore_n 3, 1) := by decide +kernel
theorem dL_likeness_51 : decode cL_likeness 51 = .ok (.iconst 0, 1) := by decide +kernel
theorem dL_likeness_52 : decode cL_likeness 52 = .ok (.istore 4, 2) := by decide +kernel
theorem dL_likeness_54 : decode cL_likeness 54 = .ok (.iload 4, 2) := by decide +kernel
theorem dL_likeness_56 : decode cL_likeness 56 = .ok (.bipush 16, 2) := by decide +kernel
theorem dL_likeness_58 : decode cL_likeness 58 = .ok (.if_icmp .ge 58, 3) := by decide +kernel
theorem dL_likeness_61 : decode cL_likeness 61 = .ok (.aload_n 0, 1) := by decide +kernel
theorem dL_likeness_62 : decode cL_likeness 62 = .ok (.iconst 2, 1) := by decide +kernel
theorem dL_likeness_63 : decode cL_likeness 63 = .ok (.iload_n 1, 1) := by decide +kernel
theorem dL_likeness_64 : decode cL_likeness 64 = .ok (.imul, 1) := by decide +kernel
theorem dL_likeness_65 : decode cL_likeness 65 = .ok (.iaload, 1) := by decide +kernel
theorem dL_likeness_66 : decode cL_likeness 66 = .ok (.iload 4, 2) := by decide +kernel
theorem dL_likeness_68 : decode cL_likeness 68 = .ok (.ishr, 1) := by decide +kernel
theorem dL_likeness_69 : decode cL_likeness 69 = .ok (.iconst 1, 1) := by decide +kernel
theorem dL_likeness_70 : decode cL_likeness 70 = .ok (.iand, 1) := by decide +kernel
theorem dL_likeness_71 : decode cL_likeness 71 = .ok (.aload_n 0, 1) := by decide +kernel
theorem dL_likeness_72 : decode cL_likeness 72 = .ok (.iconst 2, 1) := by decide +kernel
theorem dL_likeness_73 : decode cL_likeness 73 = .ok (.iload_n 2, 1) := by decide +kernel
theorem dL_likeness_74 : decode cL_likeness 74 = .ok (.imul, 1) := by decide +kernel
theorem dL_likeness_75 : decode cL_likeness 75 = .ok (.iaload, 1) := by decide +kernel
theorem dL_likeness_76 : decode cL_likeness 76 = .ok (.iload 4, 2) := by decide +kernel
theorem dL_likeness_78 : decode cL_likeness 78 = .ok (.ishr, 1) := by decide +kernel
theorem dL_likeness_79 : decode cL_likeness 79 = .ok (.iconst 1, 1) := by decide +kernel
theorem dL_likeness_80 : decode cL_likeness 80 = .ok (.iand, 1) := by decide +kernel
theorem dL_likeness_81 : decode cL_likeness 81 = .ok (.iadd, 1) := by decide +kernel
theorem dL_likeness_82 : decode cL_likeness 82 = .ok (.istore 5, 2) := by decide +kernel
theorem dL_likeness_84 : decode cL_likeness 84 = .ok (.iload_n 3, 1) := by decide +kernel
theorem dL_likeness_85 : decode cL_likeness 85 = .ok (.iload 5, 2) := by decide +kernel
theorem dL_likeness_87 : decode cL_likeness 87 = .ok (.iconst 2, 1) := by decide +kernel
theorem dL_likeness_88 : decode cL_likeness 88 = .ok (.if_icmp .ne 8, 3) := by decide +kernel
theorem dL_likeness_91 : decode cL_likeness 91 = .ok (.bipush 10, 2) := by decide +kernel
theorem dL_likeness_93 : decode cL_likeness 93 = .ok (.goto 15, 3) := by decide +kernel
theorem dL_likeness_96 : decode cL_likeness 96 = .ok (.iload 5, 2) := by decide +kernel
theorem dL_likeness_98 : decode cL_likeness 98 = .ok (.iconst 1, 1) := by decide +kernel
theorem dL_likeness_99 : decode cL_likeness 99 = .ok (.if_icmp .ne 8, 3) := by decide +kernel
theorem dL_likeness_102 : decode cL_likeness 102 = .ok (.bipush (-5), 2) := by decide +kernel
theorem dL_likeness_104 : decode cL_likeness 104 = .ok (.goto 4, 3) := by decide +kernel
theorem dL_likeness_107 : decode cL_likeness 107 = .ok (.iconst 0, 1) := by decide +kernel
theorem dL_likeness_108 : decode cL_likeness 108 = .ok (.iadd, 1) := by decide +kernel
theorem dL_likeness_109 : decode cL_likeness 109 = .ok (.istore_n 3, 1) := by decide +kernel
theorem dL_likeness_110 : decode cL_likeness 110 = .ok (.iinc 4 1, 3) := by decide +kernel
theorem dL_likeness_113 : decode cL_likeness 113 = .ok (.goto (-59), 3) := by decide +kernel
theorem dL_likeness_116 : decode cL_likeness 116 = .ok (.iload_n 3, 1) := by decide +kernel
theorem dL_likeness_117 : decode cL_likeness 117 = .ok (.ireturn, 1) := by decide +kernel
theorem dL_isSame_0 : decode cL_isSame 0 = .ok (.iload 7, 2) := by decide +kernel
theorem dL_isSame_2 : decode cL_isSame 2 = .ok (.iconst 3, 1) := by decide +kernel
theorem dL_isSame_3 : decode cL_isSame 3 = .ok (.irem, 1) := by decide +kernel
theorem dL_isSame_4 : decode cL_isSame 4 = .ok (.istore 8, 2) := by decide +kernel
theorem dL_isSame_6 : decode cL_isSame 6 = .ok (.iload 7, 2) := by decide +kernel
theorem dL_isSame_8 : decode cL_isSame 8 = .ok (.iconst 3, 1) := by decide +kernel
theorem dL_isSame_9 : decode cL_isSame 9 = .ok (.idiv, 1) := by decide +kernel
theorem dL_isSame_10 : decode cL_isSame 10 = .ok (.iconst 3, 1) := by decide +kernel
theorem dL_isSame_11 : decode cL_isSame 11 = .ok (.irem, 1) := by decide +kernel
theorem dL_isSame_12 : decode cL_isSame 12 = .ok (.istore 9, 2) := by decide +kernel
theorem dL_isSame_14 : decode cL_isSame 14 = .ok (.iload 7, 2) := by decide +kernel
theorem dL_isSame_16 : decode cL_isSame 16 = .ok (.bipush 9, 2) := by decide +kernel
theorem dL_isSame_18 : decode cL_isSame 18 = .ok (.idiv, 1) := by decide +kernel
theorem dL_isSame_19 : decode cL_isSame 19 = .ok (.bipush 8, 2) := by decide +kernel
theorem dL_isSame_21 : decode cL_isSame 21 = .ok (.irem, 1) := by decide +kernel
theorem dL_isSame_22 : decode cL_isSame 22 = .ok (.istore 10, 2) := by decide +kernel
theorem dL_isSame_24 : decode cL_isSame 24 = .ok (.iload 7, 2) := by decide +kernel
theorem dL_isSame_26 : decode cL_isSame 26 = .ok (.bipush 72, 2) := by decide +kernel
theorem dL_isSame_28 : decode cL_isSame 28 = .ok (.idiv, 1) := by decide +kernel
theorem dL_isSame_29 : decode cL_isSame 29 = .ok (.iconst 5, 1) := by decide +kernel
theorem dL_isSame_30 : decode cL_isSame 30 = .ok (.irem, 1) := by decide +kernel
theorem dL_isSame_31 : decode cL_isSame 31 = .ok (.istore 11, 2) := by decide +kernel
theorem dL_isSame_33 : decode cL_isSame 33 = .ok (.sipush 1900, 3) := by decide +kernel
theorem dL_isSame_36 : decode cL_isSame 36 = .ok (.iload 7, 2) := by decide +kernel
theorem dL_isSame_38 : decode cL_isSame 38 = .ok (.sipush 360, 3) := by decide +kernel
theorem dL_isSame_41 : decode cL_isSame 41 = .ok (.idiv, 1) := by decide +kernel
theorem dL_isSame_42 : decode cL_isSame 42 = .ok (.sipush 201, 3) := by decide +kernel
theorem dL_isSame_45 : decode cL_isSame 45 = .ok (.irem, 1) := by decide +kernel
theorem dL_isSame_46 : decode cL_isSame 46 = .ok (.iadd, 1) := by decide +kernel
theorem dL_isSame_47 : decode cL_isSame 47 = .ok (.istore 12, 2) := by decide +kernel
theorem dL_isSame_49 : decode cL_isSame 49 = .ok (.iload 7, 2) := by decide +kernel
theorem dL_isSame_51 : decode cL_isSame 51 = .ok (.iconst 5, 1) := by decide +kernel
theorem dL_isSame_52 : decode cL_isSame 52 = .ok (.idiv, 1) := by decide +kernel
theorem dL_isSame_53 : decode cL_isSame 53 = .ok (.bipush 9, 2) := by decide +kernel
theorem dL_isSame_55 : decode cL_isSame 55 = .ok (.irem, 1) := by decide +kernel
theorem dL_isSame_56 : decode cL_isSame 56 = .ok (.istore 13, 2) := by decide +kernel
theorem dL_isSame_58 : decode cL_isSame 58 = .ok (.iload 8, 2) := by decide +kernel
theorem dL_isSame_60 : decode cL_isSame 60 = .ok (.iconst 1, 1) := by decide +kernel
theorem dL_isSame_61 : decode cL_isSame 61 = .ok (.iadd, 1) := by decide +kernel
theorem dL_isSame_62 : decode cL_isSame 62 = .ok (.iconst 3, 1) := by decide +kernel
theorem dL_isSame_63 : decode cL_isSame 63 = .ok (.irem, 1) := by decide +kernel
theorem dL_isSame_64 : decode cL_isSame 64 = .ok (.iload 8, 2) := by decide +kernel
theorem dL_isSame_66 : decode cL_isSame 66 = .ok (.iconst 2, 1) := by decide +kernel
theorem dL_isSame_67 : decode cL_isSame 67 = .ok (.iadd, 1) := by decide +kernel
theorem dL_isSame_68 : decode cL_isSame 68 = .ok (.iconst 3, 1) := by decide +kernel
theorem dL_isSame_69 : decode cL_isSame 69 = .ok (.irem, 1) := by decide +kernel
theorem dL_isSame_70 : decode cL_isSame 70 = .ok (.if_icmp .ge 12, 3) := by decide +kernel
theorem dL_isSame_73 : decode cL_isSame 73 = .ok (.iload 8, 2) := by decide +kernel
theorem dL_isSame_75 : decode cL_isSame 75 = .ok (.iconst 1, 1) := by decide +kernel
theorem dL_isSame_76 : decode cL_isSame 76 = .ok (.iadd, 1) := by decide +kernel
theorem dL_isSame_77 : decode cL_isSame 77 = .ok (.iconst 3, 1) := by decide +kernel
theorem dL_isSame_78 : decode cL_isSame 78 = .ok (.irem, 1) := by decide +kernel
theorem dL_isSame_79 : decode cL_isSame 79 = .ok (.goto 9, 3) := by decide +kernel
theorem dL_isSame_82 : decode cL_isSame 82 = .ok (.iload 8, 2) := by decide +kernel
theorem dL_isSame_84 : decode cL_isSame 84 = .ok (.iconst 2, 1) := by decide +kernel
theorem dL_isSame_85 : decode cL_isSame 85 = .ok (.iadd, 1) := by decide +kernel
theorem dL_isSame_86 : decode cL_isSame 86 = .ok (.iconst 3, 1) := by decide +kernel
theorem dL_isSame_87 : decode cL_isSame 87 = .ok (.irem, 1) := by decide +kernel
theorem dL_isSame_88 : decode cL_isSame 88 = .ok (.istore 14, 2) := by decide +kernel
theorem dL_isSame_90 : decode cL_isSame 90 = .ok (.iconst 3, 1) := by decide +kernel
theorem dL_isSame_91 : decode cL_isSame 91 = .ok (.iload 8, 2) := by decide +kernel
theorem dL_isSame_93 : decode cL_isSame 93 = .ok (.isub, 1) := by decide +kernel
theorem dL_isSame_94 : decode cL_isSame 94 = .ok (.iload 14, 2) := by decide +kernel
theorem dL_isSame_96 : decode cL_isSame 96 = .ok (.isub, 1) := by decide +kernel
theorem dL_isSame_97 : decode cL_isSame 97 = .ok (.istore 15, 2) := by decide +kernel
theorem dL_isSame_99 : decode cL_isSame 99 = .ok (.aload 4, 2) := by decide +kernel
theorem dL_isSame_101 : decode cL_isSame 101 = .ok (.iload 8, 2) := by decide +kernel
theorem dL_isSame_103 : decode cL_isSame 103 = .ok (.iload 15, 2) := by decide +kernel
theorem dL_isSame_105 : decode cL_isSame 105 = .ok (.invokestatic 35, 3) := by decide +kernel
theorem dL_isSame_108 : decode cL_isSame 108 = .ok (.aload 4, 2) := by decide +kernel
theorem dL_isSame_110 : decode cL_isSame 110 = .ok (.iload 8, 2) := by decide +kernel
theorem dL_isSame_112 : decode cL_isSame 112 = .ok (.iload 14, 2) := by decide +kernel
theorem dL_isSame_114 : decode cL_isSame 114 = .ok (.invokestatic 35, 3) := by decide +kernel
theorem dL_isSame_117 : decode cL_isSame 117 = .ok (.if_icmp .le 8, 3) := by decide +kernel
theorem dL_isSame_120 : decode cL_isSame 120 = .ok (.iload 15, 2) := by decide +kernel
theorem dL_isSame_122 : decode cL_isSame 122 = .ok (.goto 5, 3) := by decide +kernel
theorem dL_isSame_125 : decode cL_isSame 125 = .ok (.iload 14, 2) := by decide +kernel
theorem dL_isSame_127 : decode cL_isSame 127 = .ok (.istore 14, 2) := by decide +kernel
theorem dL_isSame_129 : decode cL_isSame 129 = .ok (.aload_n 0, 1) := by decide +kernel
theorem dL_isSame_130 : decode cL_isSame 130 = .ok (.iload 10, 2) := by decide +kernel
theorem dL_isSame_132 : decode cL_isSame 132 = .ok (.invokevirtual 39, 3) := by decide +kernel
theorem dL_isSame_135 : decode cL_isSame 135 = .ok (.aload_n 1, 1) := by decide +kernel
theorem dL_isSame_136 : decode cL_isSame 136 = .ok (.aload_n 2, 1) := by decide +kernel
theorem dL_isSame_137 : decode cL_isSame 137 = .ok (.iload 10, 2) := by decide +kernel
theorem dL_isSame_139 : decode cL_isSame 139 = .ok (.invokestatic 31, 3) := by decide +kernel
theorem dL_isSame_142 : decode cL_isSame 142 = .ok (.if_icmp .ne 82, 3) := by decide +kernel
theorem dL_isSame_145 : decode cL_isSame 145 = .ok (.aload_n 0, 1) := by decide +kernel
theorem dL_isSame_146 : decode cL_isSame 146 = .ok (.iload 10, 2) := by decide +kernel
theorem dL_isSame_148 : decode cL_isSame 148 = .ok (.iload 11, 2) := by decide +kernel
theorem dL_isSame_150 : decode cL_isSame 150 = .ok (.iload 12, 2) := by decide +kernel
theorem dL_isSame_152 : decode cL_isSame 152 = .ok (.invokevirtual 44, 3) := by decide +kernel
theorem dL_isSame_155 : decode cL_isSame 155 = .ok (.aload_n 1, 1) := by decide +kernel
theorem dL_isSame_156 : decode cL_isSame 156 = .ok (.aload_n 3, 1) := by decide +kernel
theorem dL_isSame_157 : decode cL_isSame 157 = .ok (.aload 6, 2) := by decide +kernel
theorem dL_isSame_159 : decode cL_isSame 159 = .ok (.iload 10, 2) := by decide +kernel
theorem dL_isSame_161 : decode cL_isSame 161 = .ok (.iload 11, 2) := by decide +kernel
theorem dL_isSame_163 : decode cL_isSame 163 = .ok (.iload 12, 2) := by decide +kernel
theorem dL_isSame_165 : decode cL_isSame 165 = .ok (.invokestatic 23, 3) := by decide +kernel
theorem dL_isSame_168 : decode cL_isSame 168 = .ok (.if_icmp .ne 56, 3) := by decide +kernel
theorem dL_isSame_171 : decode cL_isSame 171 = .ok (.aload_n 0, 1) := by decide +kernel
theorem dL_isSame_172 : decode cL_isSame 172 = .ok (.iload 8, 2) := by decide +kernel
theorem dL_isSame_174 : decode cL_isSame 174 = .ok (.iload 9, 2) := by decide +kernel
theorem dL_isSame_176 : decode cL_isSame 176 = .ok (.invokevirtual 47, 3) := by decide +kernel
theorem dL_isSame_179 : decode cL_isSame 179 = .ok (.aload 4, 2) := by decide +kernel
theorem dL_isSame_181 : decode cL_isSame 181 = .ok (.iload 8, 2) := by decide +kernel
theorem dL_isSame_183 : decode cL_isSame 183 = .ok (.iload 9, 2) := by decide +kernel
theorem dL_isSame_185 : decode cL_isSame 185 = .ok (.invokestatic 35, 3) := by decide +kernel
theorem dL_isSame_188 : decode cL_isSame 188 = .ok (.if_icmp .ne 36, 3) := by decide +kernel
theorem dL_isSame_191 : decode cL_isSame 191 = .ok (.aload_n 0, 1) := by decide +kernel
theorem dL_isSame_192 : decode cL_isSame 192 = .ok (.iload 8, 2) := by decide +kernel
theorem dL_isSame_194 : decode cL_isSame 194 = .ok (.invokevirtual 50, 3) := by decide +kernel
theorem dL_isSame_197 : decode cL_isSame 197 = .ok (.iload 14, 2) := by decide +kernel
theorem dL_isSame_199 : decode cL_isSame 199 = .ok (.if_icmp .ne 25, 3) := by decide +kernel
theorem dL_isSame_202 : decode cL_isSame 202 = .ok (.aload_n 0, 1) := by decide +kernel
theorem dL_isSame_203 : decode cL_isSame 203 = .ok (.iload 8, 2) := by decide +kernel
theorem dL_isSame_205 : decode cL_isSame 205 = .ok (.invokevirtual 53, 3) := by decide +kernel
theorem dL_isSame_208 : decode cL_isSame 208 = .ok (.aload 5, 2) := by decide +kernel
theorem dL_isSame_210 : decode cL_isSame 210 = .ok (.aload 6, 2) := by decide +kernel
theorem dL_isSame_212 : decode cL_isSame 212 = .ok (.iload 8, 2) := by decide +kernel
theorem dL_isSame_214 : decode cL_isSame 214 = .ok (.invokestatic 56, 3) := by decide +kernel
theorem dL_isSame_217 : decode cL_isSame 217 = .ok (.if_icmp .ne 7, 3) := by decide +kernel
theorem dL_isSame_220 : decode cL_isSame 220 = .ok (.iconst 1, 1) := by decide +kernel
theorem dL_isSame_221 : decode cL_isSame 221 = .ok (.goto 4, 3) := by decide +kernel
theorem dL_isSame_224 : decode cL_isSame 224 = .ok (.iconst 0, 1) := by decide +kernel
theorem dL_isSame_225 : decode cL_isSame 225 = .ok (.istore 16, 2) := by decide +kernel
theorem dL_isSame_227 : decode cL_isSame 227 = .ok (.iload 16, 2) := by decide +kernel
theorem dL_isSame_229 : decode cL_isSame 229 = .ok (.ifCond .eq 45, 3) := by decide +kernel
theorem dL_isSame_232 : decode cL_isSame 232 = .ok (.aload_n 0, 1) := by decide +kernel
theorem dL_isSame_233 : decode cL_isSame 233 = .ok (.iload 8, 2) := by decide +kernel
theorem dL_isSame_235 : decode cL_isSame 235 = .ok (.iload 13, 2) := by decide +kernel
theorem dL_isSame_237 : decode cL_isSame 237 = .ok (.invokevirtual 59, 3) := by decide +kernel
theorem dL_isSame_240 : decode cL_isSame 240 = .ok (.iload 13, 2) := by decide +kernel
theorem dL_isSame_242 : decode cL_isSame 242 = .ok (.aload 6, 2) := by decide +kernel
theorem dL_isSame_244 : decode cL_isSame 244 = .ok (.iconst 2, 1) := by decide +kernel
theorem dL_isSame_245 : decode cL_isSame 245 = .ok (.iload 8, 2) := by decide +kernel
theorem dL_isSame_247 : decode cL_isSame 247 = .ok (.iadd, 1) := by decide +kernel
theorem dL_isSame_248 : decode cL_isSame 248 = .ok (.iaload, 1) := by decide +kernel
theorem dL_isSame_249 : decode cL_isSame 249 = .ok (.if_icmp .ge 17, 3) := by decide +kernel
theorem dL_isSame_252 : decode cL_isSame 252 = .ok (.aload 5, 2) := by decide +kernel
theorem dL_isSame_254 : decode cL_isSame 254 = .ok (.aload 6, 2) := by decide +kernel
theorem dL_isSame_256 : decode cL_isSame 256 = .ok (.iload 8, 2) := by decide +kernel
theorem dL_isSame_258 : decode cL_isSame 258 = .ok (.iload 13, 2) := by decide +kernel
theorem dL_isSame_260 : decode cL_isSame 260 = .ok (.invokestatic 19, 3) := by decide +kernel
theorem dL_isSame_263 : decode cL_isSame 263 = .ok (.goto 4, 3) := by decide +kernel
theorem dL_isSame_266 : decode cL_isSame 266 = .ok (.iconst (-1), 1) := by decide +kernel
theorem dL_isSame_267 : decode cL_isSame 267 = .ok (.if_icmp .ne 7, 3) := by decide +kernel
theorem dL_isSame_270 : decode cL_isSame 270 = .ok (.iconst 1, 1) := by decide +kernel
theorem dL_isSame_271 : decode cL_isSame 271 = .ok (.goto 4, 3) := by decide +kernel
theorem dL_isSame_274 : decode cL_isSame 274 = .ok (.iconst 0, 1) := by decide +kernel
theorem dL_isSame_275 : decode cL_isSame 275 = .ok (.istore 16, 2) := by decide +kernel
theorem dL_isSame_277 : decode cL_isSame 277 = .ok (.iload 13, 2) := by decide +kernel
theorem dL_isSame_279 : decode cL_isSame 279 = .ok (.aload 6, 2) := by decide +kernel
theorem dL_isSame_281 : decode cL_isSame 281 = .ok (.iconst 2, 1) := by decide +kernel
theorem dL_isSame_282 : decode cL_isSame 282 = .ok (.iload 8, 2) := by decide +kernel
theorem dL_isSame_284 : decode cL_isSame 284 = .ok (.iadd, 1) := by decide +kernel
theorem dL_isSame_285 : decode cL_isSame 285 = .ok (.iaload, 1) := by decide +kernel
theorem dL_isSame_286 : decode cL_isSame 286 = .ok (.if_icmp .ge 48, 3) := by decide +kernel
theorem dL_isSame_289 : decode cL_isSame 289 = .ok (.iload 16, 2) := by decide +kernel
theorem dL_isSame_291 : decode cL_isSame 291 = .ok (.ifCond .eq 43, 3) := by decide +kernel
theorem dL_isSame_294 : decode cL_isSame 294 = .ok (.aload_n 0, 1) := by decide +kernel
theorem dL_isSame_295 : decode cL_isSame 295 = .ok (.iload 8, 2) := by decide +kernel
theorem dL_isSame_297 : decode cL_isSame 297 = .ok (.aload 5, 2) := by decide +kernel
theorem dL_isSame_299 : decode cL_isSame 299 = .ok (.aload 6, 2) := by decide +kernel
theorem dL_isSame_301 : decode cL_isSame 301 = .ok (.iload 8, 2) := by decide +kernel
theorem dL_isSame_303 : decode cL_isSame 303 = .ok (.iload 13, 2) := by decide +kernel
theorem dL_isSame_305 : decode cL_isSame 305 = .ok (.invokestatic 19, 3) := by decide +kernel
theorem dL_isSame_308 : decode cL_isSame 308 = .ok (.invokevirtual 62, 3) := by decide +kernel
theorem dL_isSame_311 : decode cL_isSame 311 = .ok (.aload_n 1, 1) := by decide +kernel
theorem dL_isSame_312 : decode cL_isSame 312 = .ok (.aload_n 3, 1) := by decide +kernel
theorem dL_isSame_313 : decode cL_isSame 313 = .ok (.aload 5, 2) := by decide +kernel
theorem dL_isSame_315 : decode cL_isSame 315 = .ok (.aload 6, 2) := by decide +kernel
theorem dL_isSame_317 : decode cL_isSame 317 = .ok (.iload 8, 2) := by decide +kernel
theorem dL_isSame_319 : decode cL_isSame 319 = .ok (.iload 13, 2) := by decide +kernel
theorem dL_isSame_321 : decode cL_isSame 321 = .ok (.invokestatic 27, 3) := by decide +kernel
theorem dL_isSame_324 : decode cL_isSame 324 = .ok (.if_icmp .ne 7, 3) := by decide +kernel
theorem dL_isSame_327 : decode cL_isSame 327 = .ok (.iconst 1, 1) := by decide +kernel
theorem dL_isSame_328 : decode cL_isSame 328 = .ok (.goto 4, 3) := by decide +kernel
theorem dL_isSame_331 : decode cL_isSame 331 = .ok (.iconst 0, 1) := by decide +kernel
theorem dL_isSame_332 : decode cL_isSame 332 = .ok (.istore 16, 2) := by decide +kernel
theorem dL_isSame_334 : decode cL_isSame 334 = .ok (.iconst 0, 1) := by decide +kernel
theorem dL_isSame_335 : decode cL_isSame 335 = .ok (.istore 17, 2) := by decide +kernel
theorem dL_isSame_337 : decode cL_isSame 337 = .ok (.iconst 0, 1) := by decide +kernel
theorem dL_isSame_338 : decode cL_isSame 338 = .ok (.istore 18, 2) := by decide +kernel
theorem dL_isSame_340 : decode cL_isSame 340 = .ok (.iload 18, 2) := by decide +kernel
theorem dL_isSame_342 : decode cL_isSame 342 = .ok (.iconst 3, 1) := by decide +kernel
theorem dL_isSame_343 : decode cL_isSame 343 = .ok (.if_icmp .ge 88, 3) := by decide +kernel
theorem dL_isSame_346 : decode cL_isSame 346 = .ok (.iload 16, 2) := by decide +kernel
theorem dL_isSame_348 : decode cL_isSame 348 = .ok (.ifCond .eq 83, 3) := by decide +kernel
theorem dL_isSame_351 : decode cL_isSame 351 = .ok (.aload_n 1, 1) := by decide +kernel
theorem dL_isSame_352 : decode cL_isSame 352 = .ok (.aload_n 2, 1) := by decide +kernel
theorem dL_isSame_353 : decode cL_isSame 353 = .ok (.aload_n 3, 1) := by decide +kernel
theorem dL_isSame_354 : decode cL_isSame 354 = .ok (.aload 5, 2) := by decide +kernel
theorem dL_isSame_356 : decode cL_isSame 356 = .ok (.aload 6, 2) := by decide +kernel
theorem dL_isSame_358 : decode cL_isSame 358 = .ok (.iload 18, 2) := by decide +kernel
theorem dL_isSame_360 : decode cL_isSame 360 = .ok (.invokestatic 65, 3) := by decide +kernel
theorem dL_isSame_363 : decode cL_isSame 363 = .ok (.istore 19, 2) := by decide +kernel
theorem dL_isSame_365 : decode cL_isSame 365 = .ok (.aload_n 0, 1) := by decide +kernel
theorem dL_isSame_366 : decode cL_isSame 366 = .ok (.iload 18, 2) := by decide +kernel
theorem dL_isSame_368 : decode cL_isSame 368 = .ok (.invokevirtual 69, 3) := by decide +kernel
theorem dL_isSame_371 : decode cL_isSame 371 = .ok (.iload 19, 2) := by decide +kernel
theorem dL_isSame_373 : decode cL_isSame 373 = .ok (.if_icmp .ne 18, 3) := by decide +kernel
theorem dL_isSame_376 : decode cL_isSame 376 = .ok (.aload_n 0, 1) := by decide +kernel
theorem dL_isSame_377 : decode cL_isSame 377 = .ok (.iload 18, 2) := by decide +kernel
theorem dL_isSame_379 : decode cL_isSame 379 = .ok (.invokevirtual 71, 3) := by decide +kernel
theorem dL_isSame_382 : decode cL_isSame 382 = .ok (.iload 19, 2) := by decide +kernel
theorem dL_isSame_384 : decode cL_isSame 384 = .ok (.if_icmp .ne 7, 3) := by decide +kernel
theorem dL_isSame_387 : decode cL_isSame 387 = .ok (.iconst 1, 1) := by decide +kernel
theorem dL_isSame_388 : decode cL_isSame 388 = .ok (.goto 4, 3) := by decide +kernel
theorem dL_isSame_391 : decode cL_isSame 391 = .ok (.iconst 0, 1) := by decide +kernel
theorem dL_isSame_392 : decode cL_isSame 392 = .ok (.istore 16, 2) := by decide +kernel
theorem dL_isSame_394 : decode cL_isSame 394 = .ok (.iload 17, 2) := by decide +kernel
theorem dL_isSame_396 : decode cL_isSame 396 = .ok (.iload 19, 2) := by decide +kernel
theorem dL_isSame_398 : decode cL_isSame 398 = .ok (.iload 10, 2) := by decide +kernel
theorem dL_isSame_400 : decode cL_isSame 400 = .ok (.if_icmp .ne 21, 3) := by decide +kernel
theorem dL_isSame_403 : decode cL_isSame 403 = .ok (.aload 5, 2) := by decide +kernel
theorem dL_isSame_405 : decode cL_isSame 405 = .ok (.aload 6, 2) := by decide +kernel
theorem dL_isSame_407 : decode cL_isSame 407 = .ok (.iload 18, 2) := by decide +kernel
theorem dL_isSame_409 : decode cL_isSame 409 = .ok (.invokestatic 56, 3) := by decide +kernel
theorem dL_isSame_412 : decode cL_isSame 412 = .ok (.iload 10, 2) := by decide +kernel
theorem dL_isSame_414 : decode cL_isSame 414 = .ok (.if_icmp .eq 7, 3) := by decide +kernel
theorem dL_isSame_417 : decode cL_isSame 417 = .ok (.iconst 1, 1) := by decide +kernel
theorem dL_isSame_418 : decode cL_isSame 418 = .ok (.goto 4, 3) := by decide +kernel
theorem dL_isSame_421 : decode cL_isSame 421 = .ok (.iconst 0, 1) := by decide +kernel
theorem dL_isSame_422 : decode cL_isSame 422 = .ok (.iadd, 1) := by decide +kernel
theorem dL_isSame_423 : decode cL_isSame 423 = .ok (.istore 17, 2) := by decide +kernel
theorem dL_isSame_425 : decode cL_isSame 425 = .ok (.iinc 18 1, 3) := by decide +kernel
theorem dL_isSame_428 : decode cL_isSame 428 = .ok (.goto (-88), 3) := by decide +kernel
theorem dL_isSame_431 : decode cL_isSame 431 = .ok (.iload 16, 2) := by decide +kernel
theorem dL_isSame_433 : decode cL_isSame 433 = .ok (.ifCond .eq 18, 3) := by decide +kernel
theorem dL_isSame_436 : decode cL_isSame 436 = .ok (.aload_n 0, 1) := by decide +kernel
theorem dL_isSame_437 : decode cL_isSame 437 = .ok (.iload 10, 2) := by decide +kernel
theorem dL_isSame_439 : decode cL_isSame 439 = .ok (.invokevirtual 74, 3) := by decide +kernel
theorem dL_isSame_442 : decode cL_isSame 442 = .ok (.iload 17, 2) := by decide +kernel
theorem dL_isSame_444 : decode cL_isSame 444 = .ok (.if_icmp .ne 7, 3) := by decide +kernel
theorem dL_isSame_447 : decode cL_isSame 447 = .ok (.iconst 1, 1) := by decide +kernel
theorem dL_isSame_448 : decode cL_isSame 448 = .ok (.goto 4, 3) := by decide +kernel
theorem dL_isSame_451 : decode cL_isSame 451 = .ok (.iconst 0, 1) := by decide +kernel
theorem dL_isSame_452 : decode cL_isSame 452 = .ok (.ireturn, 1) := by decide +kernel
set_option maxRecDepth 20000 in
theorem ggL_isPerson_X4_die : GoodIn wsL_isPerson wsX4_die := goodIn_ca (goodIn_ca (goodIn_r _ [6, 7, 8, 9, 10, 11, 12, 5, 13, 14, 15, 16, 36, 37, 38, 39, 40, 41, 42, 43, 44, 45, 46, 47, 48, 49] (by decide +kernel) (by decide +kernel)) (goodIn_sub (fun _ h => List.mem_cons_of_mem _ (List.mem_append_left _ (List.mem_append_left _ (List.mem_append_right _ h)))) (by decide +kernel))) (goodIn_sub (fun _ h => List.mem_cons_of_mem _ (List.mem_append_left _ (List.mem_append_right _ h))) (by decide +kernel))
set_option maxRecDepth 20000 in
theorem gL_isPerson_X4_die : GoodIn wsL_isPerson (wsV RL 77 RX4 yX4_die wsX4_die) := goodIn_app (goodIn_of _ (by decide +kernel)) ggL_isPerson_X4_die
set_option maxRecDepth 20000 in
theorem ggL_isPerson_L_heir : GoodIn wsL_isPerson wsL_heir := goodIn_r _ [20, 21] (by decide +kernel) (by decide +kernel)
set_option maxRecDepth 20000 in
theorem gL_isPerson_L_heir : GoodIn wsL_isPerson (va_wsS RL 13 yL_heir wsL_heir) := goodIn_app (goodIn_of _ (by decide +kernel)) ggL_isPerson_L_heir
set_option maxRecDepth 20000 in
theorem ggL_isPerson_X4_heir : GoodIn wsL_isPerson wsX4_heir := goodIn_ca (goodIn_ca (goodIn_ca (goodIn_r _ [25, 26, 27, 7, 8, 28, 29, 10, 11, 12, 5, 13, 14, 15, 16, 30, 31, 32, 33, 34, 35, 36, 37, 38, 39, 40, 41, 42, 43, 44, 45, 46, 47, 48, 49] (by decide +kernel) (by decide +kernel)) (goodIn_sub (fun _ h => List.mem_cons_of_mem _ (List.mem_append_right _ h)) (by decide +kernel))) (goodIn_sub (fun _ h => List.mem_cons_of_mem _ (List.mem_append_left _ (List.mem_append_left _ (List.mem_append_right _ h)))) (by decide +kernel))) (goodIn_sub (fun _ h => List.mem_cons_of_mem _ (List.mem_append_left _ (List.mem_append_right _ h))) (by decide +kernel))
set_option maxRecDepth 20000 in
theorem gL_isPerson_X4_heir : GoodIn wsL_isPerson (wsV RL 81 RX4 yX4_heir wsX4_heir) := goodIn_app (goodIn_of _ (by decide +kernel)) ggL_isPerson_X4_heir
theorem dL_isPerson_0 : decode cL_isPerson 0 = .ok (.iload 4, 2) := by decide +kernel
theorem dL_isPerson_2 : decode cL_isPerson 2 = .ok (.bipush 8, 2) := by decide +kernel
theorem dL_isPerson_4 : decode cL_isPerson 4 = .ok (.irem, 1) := by decide +kernel
theorem dL_isPerson_5 : decode cL_isPerson 5 = .ok (.istore 5, 2) := by decide +kernel
theorem dL_isPerson_7 : decode cL_isPerson 7 = .ok (.iload_n 3, 1) := by decide +kernel
theorem dL_isPerson_8 : decode cL_isPerson 8 = .ok (.ifCond .ne 29, 3) := by decide +kernel
theorem dL_isPerson_11 : decode cL_isPerson 11 = .ok (.aload_n 1, 1) := by decide +kernel
theorem dL_isPerson_12 : decode cL_isPerson 12 = .ok (.iload 5, 2) := by decide +kernel
theorem dL_isPerson_14 : decode cL_isPerson 14 = .ok (.iaload, 1) := by decide +kernel
theorem dL_isPerson_15 : decode cL_isPerson 15 = .ok (.bipush 8, 2) := by decide +kernel
theorem dL_isPerson_17 : decode cL_isPerson 17 = .ok (.if_icmp .ge 18, 3) := by decide +kernel
theorem dL_isPerson_20 : decode cL_isPerson 20 = .ok (.aload_n 1, 1) := by decide +kernel
theorem dL_isPerson_21 : decode cL_isPerson 21 = .ok (.iload 5, 2) := by decide +kernel
theorem dL_isPerson_23 : decode cL_isPerson 23 = .ok (.dup2, 1) := by decide +kernel
theorem dL_isPerson_24 : decode cL_isPerson 24 = .ok (.iaload, 1) := by decide +kernel
theorem dL_isPerson_25 : decode cL_isPerson 25 = .ok (.bipush 8, 2) := by decide +kernel
theorem dL_isPerson_27 : decode cL_isPerson 27 = .ok (.iadd, 1) := by decide +kernel
theorem dL_isPerson_28 : decode cL_isPerson 28 = .ok (.iastore, 1) := by decide +kernel
theorem dL_isPerson_29 : decode cL_isPerson 29 = .ok (.aload_n 0, 1) := by decide +kernel
theorem dL_isPerson_30 : decode cL_isPerson 30 = .ok (.iload 5, 2) := by decide +kernel
theorem dL_isPerson_32 : decode cL_isPerson 32 = .ok (.invokevirtual 77, 3) := by decide +kernel
theorem dL_isPerson_35 : decode cL_isPerson 35 = .ok (.iconst 1, 1) := by decide +kernel
theorem dL_isPerson_36 : decode cL_isPerson 36 = .ok (.ireturn, 1) := by decide +kernel
theorem dL_isPerson_37 : decode cL_isPerson 37 = .ok (.iload 5, 2) := by decide +kernel
theorem dL_isPerson_39 : decode cL_isPerson 39 = .ok (.iconst 1, 1) := by decide +kernel
theorem dL_isPerson_40 : decode cL_isPerson 40 = .ok (.iadd, 1) := by decide +kernel
theorem dL_isPerson_41 : decode cL_isPerson 41 = .ok (.iload 4, 2) := by decide +kernel
theorem dL_isPerson_43 : decode cL_isPerson 43 = .ok (.bipush 8, 2) := by decide +kernel
theorem dL_isPerson_45 : decode cL_isPerson 45 = .ok (.idiv, 1) := by decide +kernel
theorem dL_isPerson_46 : decode cL_isPerson 46 = .ok (.bipush 7, 2) := by decide +kernel
theorem dL_isPerson_48 : decode cL_isPerson 48 = .ok (.irem, 1) := by decide +kernel
theorem dL_isPerson_49 : decode cL_isPerson 49 = .ok (.iadd, 1) := by decide +kernel
theorem dL_isPerson_50 : decode cL_isPerson 50 = .ok (.bipush 8, 2) := by decide +kernel
theorem dL_isPerson_52 : decode cL_isPerson 52 = .ok (.irem, 1) := by decide +kernel
theorem dL_isPerson_53 : decode cL_isPerson 53 = .ok (.istore 6, 2) := by decide +kernel
theorem dL_isPerson_55 : decode cL_isPerson 55 = .ok (.iconst 0, 1) := by decide +kernel
theorem dL_isPerson_56 : decode cL_isPerson 56 = .ok (.istore 7, 2) := by decide +kernel
theorem dL_isPerson_58 : decode cL_isPerson 58 = .ok (.iconst 0, 1) := by decide +kernel
theorem dL_isPerson_59 : decode cL_isPerson 59 = .ok (.istore 8, 2) := by decide +kernel
theorem dL_isPerson_61 : decode cL_isPerson 61 = .ok (.iload 8, 2) := by decide +kernel
theorem dL_isPerson_63 : decode cL_isPerson 63 = .ok (.i2l, 1) := by decide +kernel
theorem dL_isPerson_64 : decode cL_isPerson 64 = .ok (.aload_n 2, 1) := by decide +kernel
theorem dL_isPerson_65 : decode cL_isPerson 65 = .ok (.iload 5, 2) := by decide +kernel
theorem dL_isPerson_67 : decode cL_isPerson 67 = .ok (.laload, 1) := by decide +kernel
theorem dL_isPerson_68 : decode cL_isPerson 68 = .ok (.ldc2_w 11, 3) := by decide +kernel
theorem dL_isPerson_71 : decode cL_isPerson 71 = .ok (.land, 1) := by decide +kernel
