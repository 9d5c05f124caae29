theorem dL_isPerson_72 : decode cL_isPerson 72 = .ok (.lcmp, 1) := by decide +kernel
theorem dL_isPerson_73 : decode cL_isPerson 73 = .ok (.ifCond .ge 34, 3) := by decide +kernel
theorem dL_isPerson_76 : decode cL_isPerson 76 = .ok (.iload 7, 2) := by decide +kernel
theorem dL_isPerson_78 : decode cL_isPerson 78 = .ok (.ifCond .ne 16, 3) := by decide +kernel
theorem dL_isPerson_81 : decode cL_isPerson 81 = .ok (.aload_n 2, 1) := by decide +kernel
theorem dL_isPerson_82 : decode cL_isPerson 82 = .ok (.iload 5, 2) := by decide +kernel
theorem dL_isPerson_84 : decode cL_isPerson 84 = .ok (.iload 8, 2) := by decide +kernel
theorem dL_isPerson_86 : decode cL_isPerson 86 = .ok (.invokestatic 13, 3) := by decide +kernel
theorem dL_isPerson_89 : decode cL_isPerson 89 = .ok (.iload 6, 2) := by decide +kernel
theorem dL_isPerson_91 : decode cL_isPerson 91 = .ok (.if_icmp .ne 7, 3) := by decide +kernel
theorem dL_isPerson_94 : decode cL_isPerson 94 = .ok (.iconst 1, 1) := by decide +kernel
theorem dL_isPerson_95 : decode cL_isPerson 95 = .ok (.goto 4, 3) := by decide +kernel
theorem dL_isPerson_98 : decode cL_isPerson 98 = .ok (.iconst 0, 1) := by decide +kernel
theorem dL_isPerson_99 : decode cL_isPerson 99 = .ok (.istore 7, 2) := by decide +kernel
theorem dL_isPerson_101 : decode cL_isPerson 101 = .ok (.iinc 8 1, 3) := by decide +kernel
theorem dL_isPerson_104 : decode cL_isPerson 104 = .ok (.goto (-43), 3) := by decide +kernel
theorem dL_isPerson_107 : decode cL_isPerson 107 = .ok (.iload 7, 2) := by decide +kernel
theorem dL_isPerson_109 : decode cL_isPerson 109 = .ok (.ifCond .eq 5, 3) := by decide +kernel
theorem dL_isPerson_112 : decode cL_isPerson 112 = .ok (.iconst 1, 1) := by decide +kernel
theorem dL_isPerson_113 : decode cL_isPerson 113 = .ok (.ireturn, 1) := by decide +kernel
theorem dL_isPerson_114 : decode cL_isPerson 114 = .ok (.iload 6, 2) := by decide +kernel
theorem dL_isPerson_116 : decode cL_isPerson 116 = .ok (.i2l, 1) := by decide +kernel
theorem dL_isPerson_117 : decode cL_isPerson 117 = .ok (.lstore 8, 2) := by decide +kernel
theorem dL_isPerson_119 : decode cL_isPerson 119 = .ok (.aload_n 2, 1) := by decide +kernel
theorem dL_isPerson_120 : decode cL_isPerson 120 = .ok (.iload 5, 2) := by decide +kernel
theorem dL_isPerson_122 : decode cL_isPerson 122 = .ok (.laload, 1) := by decide +kernel
theorem dL_isPerson_123 : decode cL_isPerson 123 = .ok (.ldc2_w 11, 3) := by decide +kernel
theorem dL_isPerson_126 : decode cL_isPerson 126 = .ok (.land, 1) := by decide +kernel
theorem dL_isPerson_127 : decode cL_isPerson 127 = .ok (.l2i, 1) := by decide +kernel
theorem dL_isPerson_128 : decode cL_isPerson 128 = .ok (.istore 10, 2) := by decide +kernel
theorem dL_isPerson_130 : decode cL_isPerson 130 = .ok (.aload_n 2, 1) := by decide +kernel
theorem dL_isPerson_131 : decode cL_isPerson 131 = .ok (.iload 5, 2) := by decide +kernel
theorem dL_isPerson_133 : decode cL_isPerson 133 = .ok (.aload_n 2, 1) := by decide +kernel
theorem dL_isPerson_134 : decode cL_isPerson 134 = .ok (.iload 5, 2) := by decide +kernel
theorem dL_isPerson_136 : decode cL_isPerson 136 = .ok (.laload, 1) := by decide +kernel
theorem dL_isPerson_137 : decode cL_isPerson 137 = .ok (.lconst 1, 1) := by decide +kernel
theorem dL_isPerson_138 : decode cL_isPerson 138 = .ok (.ladd, 1) := by decide +kernel
theorem dL_isPerson_139 : decode cL_isPerson 139 = .ok (.lload 8, 2) := by decide +kernel
theorem dL_isPerson_141 : decode cL_isPerson 141 = .ok (.iconst 4, 1) := by decide +kernel
theorem dL_isPerson_142 : decode cL_isPerson 142 = .ok (.iconst 3, 1) := by decide +kernel
theorem dL_isPerson_143 : decode cL_isPerson 143 = .ok (.iload 10, 2) := by decide +kernel
theorem dL_isPerson_145 : decode cL_isPerson 145 = .ok (.imul, 1) := by decide +kernel
theorem dL_isPerson_146 : decode cL_isPerson 146 = .ok (.iadd, 1) := by decide +kernel
theorem dL_isPerson_147 : decode cL_isPerson 147 = .ok (.lshl, 1) := by decide +kernel
theorem dL_isPerson_148 : decode cL_isPerson 148 = .ok (.lor, 1) := by decide +kernel
theorem dL_isPerson_149 : decode cL_isPerson 149 = .ok (.lastore, 1) := by decide +kernel
theorem dL_isPerson_150 : decode cL_isPerson 150 = .ok (.aload_n 0, 1) := by decide +kernel
theorem dL_isPerson_151 : decode cL_isPerson 151 = .ok (.iload 5, 2) := by decide +kernel
theorem dL_isPerson_153 : decode cL_isPerson 153 = .ok (.iload 6, 2) := by decide +kernel
theorem dL_isPerson_155 : decode cL_isPerson 155 = .ok (.invokevirtual 81, 3) := by decide +kernel
theorem dL_isPerson_158 : decode cL_isPerson 158 = .ok (.iload 10, 2) := by decide +kernel
theorem dL_isPerson_160 : decode cL_isPerson 160 = .ok (.iconst 1, 1) := by decide +kernel
theorem dL_isPerson_161 : decode cL_isPerson 161 = .ok (.iadd, 1) := by decide +kernel
theorem dL_isPerson_162 : decode cL_isPerson 162 = .ok (.if_icmp .ne 7, 3) := by decide +kernel
theorem dL_isPerson_165 : decode cL_isPerson 165 = .ok (.iconst 1, 1) := by decide +kernel
theorem dL_isPerson_166 : decode cL_isPerson 166 = .ok (.goto 4, 3) := by decide +kernel
theorem dL_isPerson_169 : decode cL_isPerson 169 = .ok (.iconst 0, 1) := by decide +kernel
theorem dL_isPerson_170 : decode cL_isPerson 170 = .ok (.ireturn, 1) := by decide +kernel
set_option maxRecDepth 20000 in
theorem ggL_isLaw_X4_persecution : GoodIn wsL_isLaw wsX4_persecution := goodIn_ca (goodIn_ca (goodIn_ca (goodIn_r _ [5, 6, 7, 8, 9, 10, 11, 12, 13, 14, 4, 15, 16, 17, 18, 19, 20, 21, 22, 23, 24, 25, 26, 27, 28, 29, 30, 31, 32, 33, 34, 35, 46, 47, 48, 49, 50, 51, 52, 53, 54, 55, 56, 57] (by decide +kernel) (by decide +kernel)) (goodIn_sub (fun _ h => List.mem_cons_of_mem _ (List.mem_append_left _ (List.mem_append_left _ (List.mem_append_right _ h)))) (by decide +kernel))) (goodIn_sub (fun _ h => List.mem_cons_of_mem _ (List.mem_append_left _ (List.mem_append_right _ h))) (by decide +kernel))) (goodIn_sub (fun _ h => List.mem_cons_of_mem _ (List.mem_append_right _ h)) (by decide +kernel))
set_option maxRecDepth 20000 in
theorem gL_isLaw_X4_persecution : GoodIn wsL_isLaw (wsV RL 83 RX4 yX4_persecution wsX4_persecution) := goodIn_app (goodIn_of _ (by decide +kernel)) ggL_isLaw_X4_persecution
set_option maxRecDepth 20000 in
theorem ggL_isLaw_X4_faith : GoodIn wsL_isLaw wsX4_faith := goodIn_ca (goodIn_ca (goodIn_r _ [39, 40, 18, 19, 4, 20, 16, 17, 21, 22, 23, 24, 25, 46, 47, 48, 49, 50, 51, 52, 53] (by decide +kernel) (by decide +kernel)) (goodIn_sub (fun _ h => List.mem_cons_of_mem _ (List.mem_append_left _ (List.mem_append_right _ h))) (by decide +kernel))) (goodIn_sub (fun _ h => List.mem_cons_of_mem _ (List.mem_append_right _ h)) (by decide +kernel))
set_option maxRecDepth 20000 in
theorem gL_isLaw_X4_faith : GoodIn wsL_isLaw (wsV RL 87 RX4 yX4_faith wsX4_faith) := goodIn_app (goodIn_of _ (by decide +kernel)) ggL_isLaw_X4_faith
set_option maxRecDepth 20000 in
theorem ggL_isLaw_X4_now : GoodIn wsL_isLaw wsX4_now := goodIn_ca (goodIn_r _ [44, 45, 21, 22, 4, 23, 24, 25, 46, 47, 48, 49, 50, 51, 52, 53] (by decide +kernel) (by decide +kernel)) (goodIn_sub (fun _ h => List.mem_cons_of_mem _ (List.mem_append_right _ h)) (by decide +kernel))
set_option maxRecDepth 20000 in
theorem gL_isLaw_X4_now : GoodIn wsL_isLaw (wsV RL 90 RX4 yX4_now wsX4_now) := goodIn_app (goodIn_of _ (by decide +kernel)) ggL_isLaw_X4_now
theorem dL_isLaw_0 : decode cL_isLaw 0 = .ok (.iload_n 3, 1) := by decide +kernel
theorem dL_isLaw_1 : decode cL_isLaw 1 = .ok (.ifCond .ne 125, 3) := by decide +kernel
theorem dL_isLaw_4 : decode cL_isLaw 4 = .ok (.aload_n 2, 1) := by decide +kernel
theorem dL_isLaw_5 : decode cL_isLaw 5 = .ok (.iconst 1, 1) := by decide +kernel
theorem dL_isLaw_6 : decode cL_isLaw 6 = .ok (.iaload, 1) := by decide +kernel
theorem dL_isLaw_7 : decode cL_isLaw 7 = .ok (.bipush 8, 2) := by decide +kernel
theorem dL_isLaw_9 : decode cL_isLaw 9 = .ok (.if_icmp .ne 5, 3) := by decide +kernel
theorem dL_isLaw_12 : decode cL_isLaw 12 = .ok (.iconst 1, 1) := by decide +kernel
theorem dL_isLaw_13 : decode cL_isLaw 13 = .ok (.ireturn, 1) := by decide +kernel
theorem dL_isLaw_14 : decode cL_isLaw 14 = .ok (.iconst 4, 1) := by decide +kernel
theorem dL_isLaw_15 : decode cL_isLaw 15 = .ok (.aload_n 2, 1) := by decide +kernel
theorem dL_isLaw_16 : decode cL_isLaw 16 = .ok (.iconst 1, 1) := by decide +kernel
theorem dL_isLaw_17 : decode cL_isLaw 17 = .ok (.iaload, 1) := by decide +kernel
theorem dL_isLaw_18 : decode cL_isLaw 18 = .ok (.imul, 1) := by decide +kernel
theorem dL_isLaw_19 : decode cL_isLaw 19 = .ok (.istore 5, 2) := by decide +kernel
theorem dL_isLaw_21 : decode cL_isLaw 21 = .ok (.aload_n 1, 1) := by decide +kernel
theorem dL_isLaw_22 : decode cL_isLaw 22 = .ok (.iload 5, 2) := by decide +kernel
theorem dL_isLaw_24 : decode cL_isLaw 24 = .ok (.iload 4, 2) := by decide +kernel
theorem dL_isLaw_26 : decode cL_isLaw 26 = .ok (.iconst 4, 1) := by decide +kernel
theorem dL_isLaw_27 : decode cL_isLaw 27 = .ok (.irem, 1) := by decide +kernel
theorem dL_isLaw_28 : decode cL_isLaw 28 = .ok (.iastore, 1) := by decide +kernel
theorem dL_isLaw_29 : decode cL_isLaw 29 = .ok (.aload_n 1, 1) := by decide +kernel
theorem dL_isLaw_30 : decode cL_isLaw 30 = .ok (.iload 5, 2) := by decide +kernel
theorem dL_isLaw_32 : decode cL_isLaw 32 = .ok (.iconst 1, 1) := by decide +kernel
theorem dL_isLaw_33 : decode cL_isLaw 33 = .ok (.iadd, 1) := by decide +kernel
theorem dL_isLaw_34 : decode cL_isLaw 34 = .ok (.iload 4, 2) := by decide +kernel
theorem dL_isLaw_36 : decode cL_isLaw 36 = .ok (.iconst 4, 1) := by decide +kernel
theorem dL_isLaw_37 : decode cL_isLaw 37 = .ok (.idiv, 1) := by decide +kernel
theorem dL_isLaw_38 : decode cL_isLaw 38 = .ok (.iconst 5, 1) := by decide +kernel
theorem dL_isLaw_39 : decode cL_isLaw 39 = .ok (.irem, 1) := by decide +kernel
theorem dL_isLaw_40 : decode cL_isLaw 40 = .ok (.iastore, 1) := by decide +kernel
theorem dL_isLaw_41 : decode cL_isLaw 41 = .ok (.aload_n 1, 1) := by decide +kernel
theorem dL_isLaw_42 : decode cL_isLaw 42 = .ok (.iload 5, 2) := by decide +kernel
theorem dL_isLaw_44 : decode cL_isLaw 44 = .ok (.iconst 2, 1) := by decide +kernel
theorem dL_isLaw_45 : decode cL_isLaw 45 = .ok (.iadd, 1) := by decide +kernel
theorem dL_isLaw_46 : decode cL_isLaw 46 = .ok (.sipush 1900, 3) := by decide +kernel
theorem dL_isLaw_49 : decode cL_isLaw 49 = .ok (.iload 4, 2) := by decide +kernel
theorem dL_isLaw_51 : decode cL_isLaw 51 = .ok (.bipush 20, 2) := by decide +kernel
theorem dL_isLaw_53 : decode cL_isLaw 53 = .ok (.idiv, 1) := by decide +kernel
theorem dL_isLaw_54 : decode cL_isLaw 54 = .ok (.bipush 120, 2) := by decide +kernel
theorem dL_isLaw_56 : decode cL_isLaw 56 = .ok (.irem, 1) := by decide +kernel
theorem dL_isLaw_57 : decode cL_isLaw 57 = .ok (.iadd, 1) := by decide +kernel
theorem dL_isLaw_58 : decode cL_isLaw 58 = .ok (.iastore, 1) := by decide +kernel
theorem dL_isLaw_59 : decode cL_isLaw 59 = .ok (.aload_n 1, 1) := by decide +kernel
theorem dL_isLaw_60 : decode cL_isLaw 60 = .ok (.iload 5, 2) := by decide +kernel
theorem dL_isLaw_62 : decode cL_isLaw 62 = .ok (.iconst 3, 1) := by decide +kernel
theorem dL_isLaw_63 : decode cL_isLaw 63 = .ok (.iadd, 1) := by decide +kernel
theorem dL_isLaw_64 : decode cL_isLaw 64 = .ok (.aload_n 1, 1) := by decide +kernel
theorem dL_isLaw_65 : decode cL_isLaw 65 = .ok (.iload 5, 2) := by decide +kernel
theorem dL_isLaw_67 : decode cL_isLaw 67 = .ok (.iconst 2, 1) := by decide +kernel
theorem dL_isLaw_68 : decode cL_isLaw 68 = .ok (.iadd, 1) := by decide +kernel
theorem dL_isLaw_69 : decode cL_isLaw 69 = .ok (.iaload, 1) := by decide +kernel
theorem dL_isLaw_70 : decode cL_isLaw 70 = .ok (.iload 4, 2) := by decide +kernel
theorem dL_isLaw_72 : decode cL_isLaw 72 = .ok (.sipush 2400, 3) := by decide +kernel
theorem dL_isLaw_75 : decode cL_isLaw 75 = .ok (.idiv, 1) := by decide +kernel
theorem dL_isLaw_76 : decode cL_isLaw 76 = .ok (.bipush 40, 2) := by decide +kernel
theorem dL_isLaw_78 : decode cL_isLaw 78 = .ok (.irem, 1) := by decide +kernel
theorem dL_isLaw_79 : decode cL_isLaw 79 = .ok (.iadd, 1) := by decide +kernel
theorem dL_isLaw_80 : decode cL_isLaw 80 = .ok (.iastore, 1) := by decide +kernel
theorem dL_isLaw_81 : decode cL_isLaw 81 = .ok (.aload_n 2, 1) := by decide +kernel
theorem dL_isLaw_82 : decode cL_isLaw 82 = .ok (.iconst 1, 1) := by decide +kernel
theorem dL_isLaw_83 : decode cL_isLaw 83 = .ok (.dup2, 1) := by decide +kernel
theorem dL_isLaw_84 : decode cL_isLaw 84 = .ok (.iaload, 1) := by decide +kernel
theorem dL_isLaw_85 : decode cL_isLaw 85 = .ok (.iconst 1, 1) := by decide +kernel
theorem dL_isLaw_86 : decode cL_isLaw 86 = .ok (.iadd, 1) := by decide +kernel
theorem dL_isLaw_87 : decode cL_isLaw 87 = .ok (.iastore, 1) := by decide +kernel
theorem dL_isLaw_88 : decode cL_isLaw 88 = .ok (.aload_n 0, 1) := by decide +kernel
theorem dL_isLaw_89 : decode cL_isLaw 89 = .ok (.aload_n 1, 1) := by decide +kernel
theorem dL_isLaw_90 : decode cL_isLaw 90 = .ok (.iload 5, 2) := by decide +kernel
theorem dL_isLaw_92 : decode cL_isLaw 92 = .ok (.iaload, 1) := by decide +kernel
theorem dL_isLaw_93 : decode cL_isLaw 93 = .ok (.aload_n 1, 1) := by decide +kernel
theorem dL_isLaw_94 : decode cL_isLaw 94 = .ok (.iload 5, 2) := by decide +kernel
theorem dL_isLaw_96 : decode cL_isLaw 96 = .ok (.iconst 1, 1) := by decide +kernel
theorem dL_isLaw_97 : decode cL_isLaw 97 = .ok (.iadd, 1) := by decide +kernel
theorem dL_isLaw_98 : decode cL_isLaw 98 = .ok (.iaload, 1) := by decide +kernel
theorem dL_isLaw_99 : decode cL_isLaw 99 = .ok (.aload_n 1, 1) := by decide +kernel
theorem dL_isLaw_100 : decode cL_isLaw 100 = .ok (.iload 5, 2) := by decide +kernel
theorem dL_isLaw_102 : decode cL_isLaw 102 = .ok (.iconst 2, 1) := by decide +kernel
theorem dL_isLaw_103 : decode cL_isLaw 103 = .ok (.iadd, 1) := by decide +kernel
theorem dL_isLaw_104 : decode cL_isLaw 104 = .ok (.iaload, 1) := by decide +kernel
theorem dL_isLaw_105 : decode cL_isLaw 105 = .ok (.aload_n 1, 1) := by decide +kernel
theorem dL_isLaw_106 : decode cL_isLaw 106 = .ok (.iload 5, 2) := by decide +kernel
theorem dL_isLaw_108 : decode cL_isLaw 108 = .ok (.iconst 3, 1) := by decide +kernel
theorem dL_isLaw_109 : decode cL_isLaw 109 = .ok (.iadd, 1) := by decide +kernel
theorem dL_isLaw_110 : decode cL_isLaw 110 = .ok (.iaload, 1) := by decide +kernel
theorem dL_isLaw_111 : decode cL_isLaw 111 = .ok (.invokevirtual 83, 3) := by decide +kernel
theorem dL_isLaw_114 : decode cL_isLaw 114 = .ok (.aload_n 2, 1) := by decide +kernel
theorem dL_isLaw_115 : decode cL_isLaw 115 = .ok (.iconst 1, 1) := by decide +kernel
theorem dL_isLaw_116 : decode cL_isLaw 116 = .ok (.iaload, 1) := by decide +kernel
theorem dL_isLaw_117 : decode cL_isLaw 117 = .ok (.if_icmp .ne 7, 3) := by decide +kernel
theorem dL_isLaw_120 : decode cL_isLaw 120 = .ok (.iconst 1, 1) := by decide +kernel
theorem dL_isLaw_121 : decode cL_isLaw 121 = .ok (.goto 4, 3) := by decide +kernel
theorem dL_isLaw_124 : decode cL_isLaw 124 = .ok (.iconst 0, 1) := by decide +kernel
theorem dL_isLaw_125 : decode cL_isLaw 125 = .ok (.ireturn, 1) := by decide +kernel
theorem dL_isLaw_126 : decode cL_isLaw 126 = .ok (.iload_n 3, 1) := by decide +kernel
theorem dL_isLaw_127 : decode cL_isLaw 127 = .ok (.iconst 1, 1) := by decide +kernel
theorem dL_isLaw_128 : decode cL_isLaw 128 = .ok (.if_icmp .ne 71, 3) := by decide +kernel
theorem dL_isLaw_131 : decode cL_isLaw 131 = .ok (.aload_n 2, 1) := by decide +kernel
theorem dL_isLaw_132 : decode cL_isLaw 132 = .ok (.iconst 5, 1) := by decide +kernel
theorem dL_isLaw_133 : decode cL_isLaw 133 = .ok (.iload 4, 2) := by decide +kernel
theorem dL_isLaw_135 : decode cL_isLaw 135 = .ok (.iconst 5, 1) := by decide +kernel
theorem dL_isLaw_136 : decode cL_isLaw 136 = .ok (.irem, 1) := by decide +kernel
theorem dL_isLaw_137 : decode cL_isLaw 137 = .ok (.iadd, 1) := by decide +kernel
theorem dL_isLaw_138 : decode cL_isLaw 138 = .ok (.iaload, 1) := by decide +kernel
theorem dL_isLaw_139 : decode cL_isLaw 139 = .ok (.istore 5, 2) := by decide +kernel
theorem dL_isLaw_141 : decode cL_isLaw 141 = .ok (.aload_n 2, 1) := by decide +kernel
theorem dL_isLaw_142 : decode cL_isLaw 142 = .ok (.iconst 5, 1) := by decide +kernel
theorem dL_isLaw_143 : decode cL_isLaw 143 = .ok (.iload 4, 2) := by decide +kernel
theorem dL_isLaw_145 : decode cL_isLaw 145 = .ok (.iconst 5, 1) := by decide +kernel
theorem dL_isLaw_146 : decode cL_isLaw 146 = .ok (.irem, 1) := by decide +kernel
theorem dL_isLaw_147 : decode cL_isLaw 147 = .ok (.iadd, 1) := by decide +kernel
theorem dL_isLaw_148 : decode cL_isLaw 148 = .ok (.iload 4, 2) := by decide +kernel
theorem dL_isLaw_150 : decode cL_isLaw 150 = .ok (.iconst 5, 1) := by decide +kernel
theorem dL_isLaw_151 : decode cL_isLaw 151 = .ok (.idiv, 1) := by decide +kernel
theorem dL_isLaw_152 : decode cL_isLaw 152 = .ok (.iconst 4, 1) := by decide +kernel
theorem dL_isLaw_153 : decode cL_isLaw 153 = .ok (.irem, 1) := by decide +kernel
theorem dL_isLaw_154 : decode cL_isLaw 154 = .ok (.ifCond .ne 7, 3) := by decide +kernel
theorem dL_isLaw_157 : decode cL_isLaw 157 = .ok (.iconst 0, 1) := by decide +kernel
theorem dL_isLaw_158 : decode cL_isLaw 158 = .ok (.goto 13, 3) := by decide +kernel
theorem dL_isLaw_161 : decode cL_isLaw 161 = .ok (.iconst 1, 1) := by decide +kernel
theorem dL_isLaw_162 : decode cL_isLaw 162 = .ok (.iload 4, 2) := by decide +kernel
theorem dL_isLaw_164 : decode cL_isLaw 164 = .ok (.bipush 20, 2) := by decide +kernel
theorem dL_isLaw_166 : decode cL_isLaw 166 = .ok (.idiv, 1) := by decide +kernel
theorem dL_isLaw_167 : decode cL_isLaw 167 = .ok (.bipush 60, 2) := by decide +kernel
theorem dL_isLaw_169 : decode cL_isLaw 169 = .ok (.irem, 1) := by decide +kernel
theorem dL_isLaw_170 : decode cL_isLaw 170 = .ok (.iadd, 1) := by decide +kernel
theorem dL_isLaw_171 : decode cL_isLaw 171 = .ok (.iastore, 1) := by decide +kernel
theorem dL_isLaw_172 : decode cL_isLaw 172 = .ok (.aload_n 0, 1) := by decide +kernel
theorem dL_isLaw_173 : decode cL_isLaw 173 = .ok (.iload 4, 2) := by decide +kernel
theorem dL_isLaw_175 : decode cL_isLaw 175 = .ok (.iconst 5, 1) := by decide +kernel
theorem dL_isLaw_176 : decode cL_isLaw 176 = .ok (.irem, 1) := by decide +kernel
theorem dL_isLaw_177 : decode cL_isLaw 177 = .ok (.aload_n 2, 1) := by decide +kernel
theorem dL_isLaw_178 : decode cL_isLaw 178 = .ok (.iconst 5, 1) := by decide +kernel
theorem dL_isLaw_179 : decode cL_isLaw 179 = .ok (.iload 4, 2) := by decide +kernel
theorem dL_isLaw_181 : decode cL_isLaw 181 = .ok (.iconst 5, 1) := by decide +kernel
theorem dL_isLaw_182 : decode cL_isLaw 182 = .ok (.irem, 1) := by decide +kernel
theorem dL_isLaw_183 : decode cL_isLaw 183 = .ok (.iadd, 1) := by decide +kernel
theorem dL_isLaw_184 : decode cL_isLaw 184 = .ok (.iaload, 1) := by decide +kernel
theorem dL_isLaw_185 : decode cL_isLaw 185 = .ok (.invokevirtual 87, 3) := by decide +kernel
theorem dL_isLaw_188 : decode cL_isLaw 188 = .ok (.iload 5, 2) := by decide +kernel
theorem dL_isLaw_190 : decode cL_isLaw 190 = .ok (.if_icmp .ne 7, 3) := by decide +kernel
theorem dL_isLaw_193 : decode cL_isLaw 193 = .ok (.iconst 1, 1) := by decide +kernel
theorem dL_isLaw_194 : decode cL_isLaw 194 = .ok (.goto 4, 3) := by decide +kernel
theorem dL_isLaw_197 : decode cL_isLaw 197 = .ok (.iconst 0, 1) := by decide +kernel
theorem dL_isLaw_198 : decode cL_isLaw 198 = .ok (.ireturn, 1) := by decide +kernel
theorem dL_isLaw_199 : decode cL_isLaw 199 = .ok (.aload_n 2, 1) := by decide +kernel
theorem dL_isLaw_200 : decode cL_isLaw 200 = .ok (.iconst 0, 1) := by decide +kernel
theorem dL_isLaw_201 : decode cL_isLaw 201 = .ok (.iaload, 1) := by decide +kernel
theorem dL_isLaw_202 : decode cL_isLaw 202 = .ok (.istore 5, 2) := by decide +kernel
theorem dL_isLaw_204 : decode cL_isLaw 204 = .ok (.aload_n 2, 1) := by decide +kernel
theorem dL_isLaw_205 : decode cL_isLaw 205 = .ok (.iconst 0, 1) := by decide +kernel
theorem dL_isLaw_206 : decode cL_isLaw 206 = .ok (.iload 5, 2) := by decide +kernel
theorem dL_isLaw_208 : decode cL_isLaw 208 = .ok (.iload 4, 2) := by decide +kernel
theorem dL_isLaw_210 : decode cL_isLaw 210 = .ok (.bipush 40, 2) := by decide +kernel
theorem dL_isLaw_212 : decode cL_isLaw 212 = .ok (.irem, 1) := by decide +kernel
theorem dL_isLaw_213 : decode cL_isLaw 213 = .ok (.iadd, 1) := by decide +kernel
theorem dL_isLaw_214 : decode cL_isLaw 214 = .ok (.sipush 2100, 3) := by decide +kernel
theorem dL_isLaw_217 : decode cL_isLaw 217 = .ok (.if_icmp .le 9, 3) := by decide +kernel
theorem dL_isLaw_220 : decode cL_isLaw 220 = .ok (.sipush 2100, 3) := by decide +kernel
theorem dL_isLaw_223 : decode cL_isLaw 223 = .ok (.goto 11, 3) := by decide +kernel
theorem dL_isLaw_226 : decode cL_isLaw 226 = .ok (.iload 5, 2) := by decide +kernel
theorem dL_isLaw_228 : decode cL_isLaw 228 = .ok (.iload 4, 2) := by decide +kernel
theorem dL_isLaw_230 : decode cL_isLaw 230 = .ok (.bipush 40, 2) := by decide +kernel
theorem dL_isLaw_232 : decode cL_isLaw 232 = .ok (.irem, 1) := by decide +kernel
theorem dL_isLaw_233 : decode cL_isLaw 233 = .ok (.iadd, 1) := by decide +kernel
theorem dL_isLaw_234 : decode cL_isLaw 234 = .ok (.iastore, 1) := by decide +kernel
theorem dL_isLaw_235 : decode cL_isLaw 235 = .ok (.aload_n 0, 1) := by decide +kernel
theorem dL_isLaw_236 : decode cL_isLaw 236 = .ok (.aload_n 2, 1) := by decide +kernel
theorem dL_isLaw_237 : decode cL_isLaw 237 = .ok (.iconst 0, 1) := by decide +kernel
theorem dL_isLaw_238 : decode cL_isLaw 238 = .ok (.iaload, 1) := by decide +kernel
theorem dL_isLaw_239 : decode cL_isLaw 239 = .ok (.invokevirtual 90, 3) := by decide +kernel
theorem dL_isLaw_242 : decode cL_isLaw 242 = .ok (.iload 5, 2) := by decide +kernel
theorem dL_isLaw_244 : decode cL_isLaw 244 = .ok (.if_icmp .ne 7, 3) := by decide +kernel
theorem dL_isLaw_247 : decode cL_isLaw 247 = .ok (.iconst 1, 1) := by decide +kernel
theorem dL_isLaw_248 : decode cL_isLaw 248 = .ok (.goto 4, 3) := by decide +kernel
theorem dL_isLaw_251 : decode cL_isLaw 251 = .ok (.iconst 0, 1) := by decide +kernel
theorem dL_isLaw_252 : decode cL_isLaw 252 = .ok (.ireturn, 1) := by decide +kernel
set_option maxRecDepth 20000 in
theorem ggL_isStation_X4_station : GoodIn wsL_isStation wsX4_station := goodIn_ca (goodIn_ca (goodIn_ca (goodIn_r _ [5, 6, 7, 8, 9, 10, 11, 12, 13, 14, 15, 16, 4, 17, 18, 19, 20, 21, 22, 23, 24, 25, 26, 27, 28, 29, 30, 31, 32, 33, 34, 35, 36, 37, 38, 39, 40, 41, 42, 43, 44, 45, 46, 47, 48, 49, 50, 51, 52, 53, 54, 55, 56, 57, 58, 59, 60, 61, 62, 63, 64, 65, 66, 67, 68, 69, 70, 71, 72, 73, 74, 75, 76, 77] (by decide +kernel) (by decide +kernel)) (goodIn_sub (fun _ h => List.mem_cons_of_mem _ (List.mem_append_left _ (List.mem_append_left _ (List.mem_append_right _ h)))) (by decide +kernel))) (goodIn_sub (fun _ h => List.mem_cons_of_mem _ (List.mem_append_left _ (List.mem_append_right _ h))) (by decide +kernel))) (goodIn_sub (fun _ h => List.mem_cons_of_mem _ (List.mem_append_right _ h)) (by decide +kernel))
set_option maxRecDepth 20000 in
theorem gL_isStation_X4_station : GoodIn wsL_isStation (wsV RL 93 RX4 yX4_station wsX4_station) := goodIn_app (goodIn_of _ (by decide +kernel)) ggL_isStation_X4_station
theorem dL_isStation_0 : decode cL_isStation 0 = .ok (.iload_n 3, 1) := by decide +kernel
theorem dL_isStation_1 : decode cL_isStation 1 = .ok (.iconst 3, 1) := by decide +kernel
theorem dL_isStation_2 : decode cL_isStation 2 = .ok (.irem, 1) := by decide +kernel
theorem dL_isStation_3 : decode cL_isStation 3 = .ok (.istore 4, 2) := by decide +kernel
theorem dL_isStation_5 : decode cL_isStation 5 = .ok (.iload_n 3, 1) := by decide +kernel
theorem dL_isStation_6 : decode cL_isStation 6 = .ok (.iconst 3, 1) := by decide +kernel
theorem dL_isStation_7 : decode cL_isStation 7 = .ok (.idiv, 1) := by decide +kernel
theorem dL_isStation_8 : decode cL_isStation 8 = .ok (.istore_n 3, 1) := by decide +kernel
theorem dL_isStation_9 : decode cL_isStation 9 = .ok (.aload_n 2, 1) := by decide +kernel
theorem dL_isStation_10 : decode cL_isStation 10 = .ok (.iconst 2, 1) := by decide +kernel
theorem dL_isStation_11 : decode cL_isStation 11 = .ok (.iload 4, 2) := by decide +kernel
theorem dL_isStation_13 : decode cL_isStation 13 = .ok (.iadd, 1) := by decide +kernel
theorem dL_isStation_14 : decode cL_isStation 14 = .ok (.iaload, 1) := by decide +kernel
theorem dL_isStation_15 : decode cL_isStation 15 = .ok (.istore 5, 2) := by decide +kernel
theorem dL_isStation_17 : decode cL_isStation 17 = .ok (.iload 5, 2) := by decide +kernel
theorem dL_isStation_19 : decode cL_isStation 19 = .ok (.bipush 8, 2) := by decide +kernel
theorem dL_isStation_21 : decode cL_isStation 21 = .ok (.if_icmp .ne 5, 3) := by decide +kernel
theorem dL_isStation_24 : decode cL_isStation 24 = .ok (.iconst 1, 1) := by decide +kernel
theorem dL_isStation_25 : decode cL_isStation 25 = .ok (.ireturn, 1) := by decide +kernel
theorem dL_isStation_26 : decode cL_isStation 26 = .ok (.iload_n 3, 1) := by decide +kernel
theorem dL_isStation_27 : decode cL_isStation 27 = .ok (.bipush 8, 2) := by decide +kernel
theorem dL_isStation_29 : decode cL_isStation 29 = .ok (.irem, 1) := by decide +kernel
theorem dL_isStation_30 : decode cL_isStation 30 = .ok (.istore 6, 2) := by decide +kernel
theorem dL_isStation_32 : decode cL_isStation 32 = .ok (.iload_n 3, 1) := by decide +kernel
theorem dL_isStation_33 : decode cL_isStation 33 = .ok (.bipush 8, 2) := by decide +kernel
theorem dL_isStation_35 : decode cL_isStation 35 = .ok (.idiv, 1) := by decide +kernel
theorem dL_isStation_36 : decode cL_isStation 36 = .ok (.bipush 9, 2) := by decide +kernel
theorem dL_isStation_38 : decode cL_isStation 38 = .ok (.irem, 1) := by decide +kernel
theorem dL_isStation_39 : decode cL_isStation 39 = .ok (.iconst 5, 1) := by decide +kernel
theorem dL_isStation_40 : decode cL_isStation 40 = .ok (.if_icmp .le 7, 3) := by decide +kernel
theorem dL_isStation_43 : decode cL_isStation 43 = .ok (.iconst 0, 1) := by decide +kernel
theorem dL_isStation_44 : decode cL_isStation 44 = .ok (.goto 10, 3) := by decide +kernel
theorem dL_isStation_47 : decode cL_isStation 47 = .ok (.iload_n 3, 1) := by decide +kernel
theorem dL_isStation_48 : decode cL_isStation 48 = .ok (.bipush 8, 2) := by decide +kernel
theorem dL_isStation_50 : decode cL_isStation 50 = .ok (.idiv, 1) := by decide +kernel
theorem dL_isStation_51 : decode cL_isStation 51 = .ok (.bipush 9, 2) := by decide +kernel
theorem dL_isStation_53 : decode cL_isStation 53 = .ok (.irem, 1) := by decide +kernel
theorem dL_isStation_54 : decode cL_isStation 54 = .ok (.istore 7, 2) := by decide +kernel
theorem dL_isStation_56 : decode cL_isStation 56 = .ok (.iload_n 3, 1) := by decide +kernel
theorem dL_isStation_57 : decode cL_isStation 57 = .ok (.bipush 72, 2) := by decide +kernel
theorem dL_isStation_59 : decode cL_isStation 59 = .ok (.idiv, 1) := by decide +kernel
theorem dL_isStation_60 : decode cL_isStation 60 = .ok (.iconst 5, 1) := by decide +kernel
theorem dL_isStation_61 : decode cL_isStation 61 = .ok (.irem, 1) := by decide +kernel
theorem dL_isStation_62 : decode cL_isStation 62 = .ok (.istore 8, 2) := by decide +kernel
theorem dL_isStation_64 : decode cL_isStation 64 = .ok (.iload_n 3, 1) := by decide +kernel
theorem dL_isStation_65 : decode cL_isStation 65 = .ok (.sipush 360, 3) := by decide +kernel
theorem dL_isStation_68 : decode cL_isStation 68 = .ok (.idiv, 1) := by decide +kernel
theorem dL_isStation_69 : decode cL_isStation 69 = .ok (.aload_n 2, 1) := by decide +kernel
theorem dL_isStation_70 : decode cL_isStation 70 = .ok (.iconst 0, 1) := by decide +kernel
theorem dL_isStation_71 : decode cL_isStation 71 = .ok (.iaload, 1) := by decide +kernel
theorem dL_isStation_72 : decode cL_isStation 72 = .ok (.sipush 1899, 3) := by decide +kernel
theorem dL_isStation_75 : decode cL_isStation 75 = .ok (.isub, 1) := by decide +kernel
theorem dL_isStation_76 : decode cL_isStation 76 = .ok (.irem, 1) := by decide +kernel
theorem dL_isStation_77 : decode cL_isStation 77 = .ok (.istore 9, 2) := by decide +kernel
theorem dL_isStation_79 : decode cL_isStation 79 = .ok (.aload_n 1, 1) := by decide +kernel
theorem dL_isStation_80 : decode cL_isStation 80 = .ok (.bipush 8, 2) := by decide +kernel
theorem dL_isStation_82 : decode cL_isStation 82 = .ok (.iload 4, 2) := by decide +kernel
theorem dL_isStation_84 : decode cL_isStation 84 = .ok (.imul, 1) := by decide +kernel
theorem dL_isStation_85 : decode cL_isStation 85 = .ok (.iload 5, 2) := by decide +kernel
theorem dL_isStation_87 : decode cL_isStation 87 = .ok (.iadd, 1) := by decide +kernel
theorem dL_isStation_88 : decode cL_isStation 88 = .ok (.iload 6, 2) := by decide +kernel
theorem dL_isStation_90 : decode cL_isStation 90 = .ok (.iload 7, 2) := by decide +kernel
theorem dL_isStation_92 : decode cL_isStation 92 = .ok (.iconst 4, 1) := by decide +kernel
theorem dL_isStation_93 : decode cL_isStation 93 = .ok (.ishl, 1) := by decide +kernel
theorem dL_isStation_94 : decode cL_isStation 94 = .ok (.ior, 1) := by decide +kernel
theorem dL_isStation_95 : decode cL_isStation 95 = .ok (.iload 8, 2) := by decide +kernel
theorem dL_isStation_97 : decode cL_isStation 97 = .ok (.bipush 8, 2) := by decide +kernel
theorem dL_isStation_99 : decode cL_isStation 99 = .ok (.ishl, 1) := by decide +kernel
theorem dL_isStation_100 : decode cL_isStation 100 = .ok (.ior, 1) := by decide +kernel
theorem dL_isStation_101 : decode cL_isStation 101 = .ok (.iload 9, 2) := by decide +kernel
theorem dL_isStation_103 : decode cL_isStation 103 = .ok (.bipush 12, 2) := by decide +kernel
theorem dL_isStation_105 : decode cL_isStation 105 = .ok (.ishl, 1) := by decide +kernel
theorem dL_isStation_106 : decode cL_isStation 106 = .ok (.ior, 1) := by decide +kernel
theorem dL_isStation_107 : decode cL_isStation 107 = .ok (.iastore, 1) := by decide +kernel
theorem dL_isStation_108 : decode cL_isStation 108 = .ok (.aload_n 2, 1) := by decide +kernel
theorem dL_isStation_109 : decode cL_isStation 109 = .ok (.iconst 2, 1) := by decide +kernel
theorem dL_isStation_110 : decode cL_isStation 110 = .ok (.iload 4, 2) := by decide +kernel
theorem dL_isStation_112 : decode cL_isStation 112 = .ok (.iadd, 1) := by decide +kernel
theorem dL_isStation_113 : decode cL_isStation 113 = .ok (.dup2, 1) := by decide +kernel
theorem dL_isStation_114 : decode cL_isStation 114 = .ok (.iaload, 1) := by decide +kernel
theorem dL_isStation_115 : decode cL_isStation 115 = .ok (.iconst 1, 1) := by decide +kernel
theorem dL_isStation_116 : decode cL_isStation 116 = .ok (.iadd, 1) := by decide +kernel
theorem dL_isStation_117 : decode cL_isStation 117 = .ok (.iastore, 1) := by decide +kernel
theorem dL_isStation_118 : decode cL_isStation 118 = .ok (.aload_n 0, 1) := by decide +kernel
theorem dL_isStation_119 : decode cL_isStation 119 = .ok (.iload 4, 2) := by decide +kernel
theorem dL_isStation_121 : decode cL_isStation 121 = .ok (.iload 6, 2) := by decide +kernel
theorem dL_isStation_123 : decode cL_isStation 123 = .ok (.iload 7, 2) := by decide +kernel
theorem dL_isStation_125 : decode cL_isStation 125 = .ok (.iload 8, 2) := by decide +kernel
theorem dL_isStation_127 : decode cL_isStation 127 = .ok (.sipush 1900, 3) := by decide +kernel
theorem dL_isStation_130 : decode cL_isStation 130 = .ok (.iload 9, 2) := by decide +kernel
theorem dL_isStation_132 : decode cL_isStation 132 = .ok (.iadd, 1) := by decide +kernel
theorem dL_isStation_133 : decode cL_isStation 133 = .ok (.invokevirtual 93, 3) := by decide +kernel
theorem dL_isStation_136 : decode cL_isStation 136 = .ok (.iload 5, 2) := by decide +kernel
theorem dL_isStation_138 : decode cL_isStation 138 = .ok (.if_icmp .ne 7, 3) := by decide +kernel
theorem dL_isStation_141 : decode cL_isStation 141 = .ok (.iconst 1, 1) := by decide +kernel
theorem dL_isStation_142 : decode cL_isStation 142 = .ok (.goto 4, 3) := by decide +kernel
theorem dL_isStation_145 : decode cL_isStation 145 = .ok (.iconst 0, 1) := by decide +kernel
theorem dL_isStation_146 : decode cL_isStation 146 = .ok (.ireturn, 1) := by decide +kernel
set_option maxRecDepth 20000 in
theorem ggL_isTold_X4_mark : GoodIn wsL_isTold wsX4_mark := goodIn_ca (goodIn_ca (goodIn_r _ [6, 7, 8, 9, 10, 5, 11, 12, 13, 14, 15, 16, 17, 18, 19, 36, 37, 38, 39, 40, 41, 42, 43, 44, 45, 46, 47, 48, 49] (by decide +kernel) (by decide +kernel)) (goodIn_sub (fun _ h => List.mem_cons_of_mem _ (List.mem_append_left _ (List.mem_append_right _ h))) (by decide +kernel))) (goodIn_sub (fun _ h => List.mem_cons_of_mem _ (List.mem_append_right _ h)) (by decide +kernel))
set_option maxRecDepth 20000 in
theorem gL_isTold_X4_mark : GoodIn wsL_isTold (wsV RL 98 RX4 yX4_mark wsX4_mark) := goodIn_app (goodIn_of _ (by decide +kernel)) ggL_isTold_X4_mark
set_option maxRecDepth 20000 in
theorem ggL_isTold_X4_rebut : GoodIn wsL_isTold wsX4_rebut := goodIn_ca (goodIn_ca (goodIn_r _ [23, 18, 19, 24, 25, 26, 27, 28, 5, 29, 12, 13, 30, 8, 9, 10, 11, 14, 50, 51, 52, 53, 54, 55, 56, 57, 58, 36, 37, 38, 39, 40, 41, 42, 43, 44, 45, 46, 47, 48, 49] (by decide +kernel) (by decide +kernel)) (goodIn_sub (fun _ h => List.mem_cons_of_mem _ (List.mem_append_right _ h)) (by decide +kernel))) (goodIn_sub (fun _ h => List.mem_cons_of_mem _ (List.mem_append_left _ (List.mem_append_right _ h))) (by decide +kernel))
set_option maxRecDepth 20000 in
theorem gL_isTold_X4_rebut : GoodIn wsL_isTold (wsV RL 102 RX4 yX4_rebut wsX4_rebut) := goodIn_app (goodIn_of _ (by decide +kernel)) ggL_isTold_X4_rebut
set_option maxRecDepth 20000 in
theorem ggL_isTold_X4_settle : GoodIn wsL_isTold wsX4_settle := goodIn_ca (goodIn_r _ [34, 35, 26, 27, 28, 5, 29, 12, 13, 30, 8, 9, 10, 11, 14, 50, 51, 52, 53, 54, 55, 56, 57, 58, 36, 37, 38, 39, 40, 41, 42, 43, 44, 45, 46, 47, 48, 49] (by decide +kernel) (by decide +kernel)) (goodIn_sub (fun _ h => List.mem_cons_of_mem _ (List.mem_append_left _ (List.mem_append_right _ h))) (by decide +kernel))
set_option maxRecDepth 20000 in
theorem gL_isTold_X4_settle : GoodIn wsL_isTold (wsV RL 105 RX4 yX4_settle wsX4_settle) := goodIn_app (goodIn_of _ (by decide +kernel)) ggL_isTold_X4_settle
theorem dL_isTold_0 : decode cL_isTold 0 = .ok (.iload 5, 2) := by decide +kernel
theorem dL_isTold_2 : decode cL_isTold 2 = .ok (.iconst 3, 1) := by decide +kernel
theorem dL_isTold_3 : decode cL_isTold 3 = .ok (.irem, 1) := by decide +kernel
theorem dL_isTold_4 : decode cL_isTold 4 = .ok (.istore 6, 2) := by decide +kernel
theorem dL_isTold_6 : decode cL_isTold 6 = .ok (.iload 4, 2) := by decide +kernel
theorem dL_isTold_8 : decode cL_isTold 8 = .ok (.ifCond .ne 111, 3) := by decide +kernel
theorem dL_isTold_11 : decode cL_isTold 11 = .ok (.iload 5, 2) := by decide +kernel
theorem dL_isTold_13 : decode cL_isTold 13 = .ok (.iconst 3, 1) := by decide +kernel
theorem dL_isTold_14 : decode cL_isTold 14 = .ok (.idiv, 1) := by decide +kernel
theorem dL_isTold_15 : decode cL_isTold 15 = .ok (.bipush 16, 2) := by decide +kernel
theorem dL_isTold_17 : decode cL_isTold 17 = .ok (.irem, 1) := by decide +kernel
theorem dL_isTold_18 : decode cL_isTold 18 = .ok (.istore 7, 2) := by decide +kernel
theorem dL_isTold_20 : decode cL_isTold 20 = .ok (.iload 5, 2) := by decide +kernel
theorem dL_isTold_22 : decode cL_isTold 22 = .ok (.bipush 48, 2) := by decide +kernel
theorem dL_isTold_24 : decode cL_isTold 24 = .ok (.idiv, 1) := by decide +kernel
theorem dL_isTold_25 : decode cL_isTold 25 = .ok (.iconst 2, 1) := by decide +kernel
theorem dL_isTold_26 : decode cL_isTold 26 = .ok (.irem, 1) := by decide +kernel
theorem dL_isTold_27 : decode cL_isTold 27 = .ok (.ifCond .ne 7, 3) := by decide +kernel
theorem dL_isTold_30 : decode cL_isTold 30 = .ok (.iconst 1, 1) := by decide +kernel
theorem dL_isTold_31 : decode cL_isTold 31 = .ok (.goto 4, 3) := by decide +kernel
theorem dL_isTold_34 : decode cL_isTold 34 = .ok (.iconst 0, 1) := by decide +kernel
theorem dL_isTold_35 : decode cL_isTold 35 = .ok (.istore 8, 2) := by decide +kernel
theorem dL_isTold_37 : decode cL_isTold 37 = .ok (.aload_n 1, 1) := by decide +kernel
theorem dL_isTold_38 : decode cL_isTold 38 = .ok (.iconst 2, 1) := by decide +kernel
theorem dL_isTold_39 : decode cL_isTold 39 = .ok (.iload 6, 2) := by decide +kernel
theorem dL_isTold_41 : decode cL_isTold 41 = .ok (.imul, 1) := by decide +kernel
theorem dL_isTold_42 : decode cL_isTold 42 = .ok (.iaload, 1) := by decide +kernel
theorem dL_isTold_43 : decode cL_isTold 43 = .ok (.iload 7, 2) := by decide +kernel
theorem dL_isTold_45 : decode cL_isTold 45 = .ok (.ishr, 1) := by decide +kernel
theorem dL_isTold_46 : decode cL_isTold 46 = .ok (.iconst 1, 1) := by decide +kernel
theorem dL_isTold_47 : decode cL_isTold 47 = .ok (.iand, 1) := by decide +kernel
theorem dL_isTold_48 : decode cL_isTold 48 = .ok (.iconst 1, 1) := by decide +kernel
theorem dL_isTold_49 : decode cL_isTold 49 = .ok (.if_icmp .ne 7, 3) := by decide +kernel
theorem dL_isTold_52 : decode cL_isTold 52 = .ok (.iconst 1, 1) := by decide +kernel
theorem dL_isTold_53 : decode cL_isTold 53 = .ok (.goto 4, 3) := by decide +kernel
theorem dL_isTold_56 : decode cL_isTold 56 = .ok (.iconst 0, 1) := by decide +kernel
theorem dL_isTold_57 : decode cL_isTold 57 = .ok (.istore 9, 2) := by decide +kernel
theorem dL_isTold_59 : decode cL_isTold 59 = .ok (.aload_n 1, 1) := by decide +kernel
theorem dL_isTold_60 : decode cL_isTold 60 = .ok (.iconst 2, 1) := by decide +kernel
theorem dL_isTold_61 : decode cL_isTold 61 = .ok (.iload 6, 2) := by decide +kernel
theorem dL_isTold_63 : decode cL_isTold 63 = .ok (.imul, 1) := by decide +kernel
theorem dL_isTold_64 : decode cL_isTold 64 = .ok (.iload 8, 2) := by decide +kernel
theorem dL_isTold_66 : decode cL_isTold 66 = .ok (.ifCond .eq 17, 3) := by decide +kernel
theorem dL_isTold_69 : decode cL_isTold 69 = .ok (.aload_n 1, 1) := by decide +kernel
theorem dL_isTold_70 : decode cL_isTold 70 = .ok (.iconst 2, 1) := by decide +kernel
theorem dL_isTold_71 : decode cL_isTold 71 = .ok (.iload 6, 2) := by decide +kernel
theorem dL_isTold_73 : decode cL_isTold 73 = .ok (.imul, 1) := by decide +kernel
theorem dL_isTold_74 : decode cL_isTold 74 = .ok (.iaload, 1) := by decide +kernel
theorem dL_isTold_75 : decode cL_isTold 75 = .ok (.iconst 1, 1) := by decide +kernel
theorem dL_isTold_76 : decode cL_isTold 76 = .ok (.iload 7, 2) := by decide +kernel
theorem dL_isTold_78 : decode cL_isTold 78 = .ok (.ishl, 1) := by decide +kernel
theorem dL_isTold_79 : decode cL_isTold 79 = .ok (.ior, 1) := by decide +kernel
theorem dL_isTold_80 : decode cL_isTold 80 = .ok (.goto 17, 3) := by decide +kernel
theorem dL_isTold_83 : decode cL_isTold 83 = .ok (.aload_n 1, 1) := by decide +kernel
theorem dL_isTold_84 : decode cL_isTold 84 = .ok (.iconst 2, 1) := by decide +kernel
theorem dL_isTold_85 : decode cL_isTold 85 = .ok (.iload 6, 2) := by decide +kernel
theorem dL_isTold_87 : decode cL_isTold 87 = .ok (.imul, 1) := by decide +kernel
theorem dL_isTold_88 : decode cL_isTold 88 = .ok (.iaload, 1) := by decide +kernel
theorem dL_isTold_89 : decode cL_isTold 89 = .ok (.ldc 97, 2) := by decide +kernel
theorem dL_isTold_91 : decode cL_isTold 91 = .ok (.iconst 1, 1) := by decide +kernel
theorem dL_isTold_92 : decode cL_isTold 92 = .ok (.iload 7, 2) := by decide +kernel
theorem dL_isTold_94 : decode cL_isTold 94 = .ok (.ishl, 1) := by decide +kernel
theorem dL_isTold_95 : decode cL_isTold 95 = .ok (.isub, 1) := by decide +kernel
theorem dL_isTold_96 : decode cL_isTold 96 = .ok (.iand, 1) := by decide +kernel
theorem dL_isTold_97 : decode cL_isTold 97 = .ok (.iastore, 1) := by decide +kernel
theorem dL_isTold_98 : decode cL_isTold 98 = .ok (.aload_n 0, 1) := by decide +kernel
theorem dL_isTold_99 : decode cL_isTold 99 = .ok (.iload 6, 2) := by decide +kernel
theorem dL_isTold_101 : decode cL_isTold 101 = .ok (.iload 7, 2) := by decide +kernel
theorem dL_isTold_103 : decode cL_isTold 103 = .ok (.iload 8, 2) := by decide +kernel
theorem dL_isTold_105 : decode cL_isTold 105 = .ok (.invokevirtual 98, 3) := by decide +kernel
theorem dL_isTold_108 : decode cL_isTold 108 = .ok (.iload 9, 2) := by decide +kernel
theorem dL_isTold_110 : decode cL_isTold 110 = .ok (.if_icmp .ne 7, 3) := by decide +kernel
theorem dL_isTold_113 : decode cL_isTold 113 = .ok (.iconst 1, 1) := by decide +kernel
theorem dL_isTold_114 : decode cL_isTold 114 = .ok (.goto 4, 3) := by decide +kernel
theorem dL_isTold_117 : decode cL_isTold 117 = .ok (.iconst 0, 1) := by decide +kernel
theorem dL_isTold_118 : decode cL_isTold 118 = .ok (.ireturn, 1) := by decide +kernel
theorem dL_isTold_119 : decode cL_isTold 119 = .ok (.aload_n 3, 1) := by decide +kernel
theorem dL_isTold_120 : decode cL_isTold 120 = .ok (.iconst 2, 1) := by decide +kernel
theorem dL_isTold_121 : decode cL_isTold 121 = .ok (.iload 6, 2) := by decide +kernel
theorem dL_isTold_123 : decode cL_isTold 123 = .ok (.iadd, 1) := by decide +kernel
theorem dL_isTold_124 : decode cL_isTold 124 = .ok (.iaload, 1) := by decide +kernel
theorem dL_isTold_125 : decode cL_isTold 125 = .ok (.ifCond .ne 5, 3) := by decide +kernel
theorem dL_isTold_128 : decode cL_isTold 128 = .ok (.iconst 1, 1) := by decide +kernel
theorem dL_isTold_129 : decode cL_isTold 129 = .ok (.ireturn, 1) := by decide +kernel
theorem dL_isTold_130 : decode cL_isTold 130 = .ok (.iload 5, 2) := by decide +kernel
theorem dL_isTold_132 : decode cL_isTold 132 = .ok (.iconst 3, 1) := by decide +kernel
theorem dL_isTold_133 : decode cL_isTold 133 = .ok (.idiv, 1) := by decide +kernel
theorem dL_isTold_134 : decode cL_isTold 134 = .ok (.aload_n 3, 1) := by decide +kernel
theorem dL_isTold_135 : decode cL_isTold 135 = .ok (.iconst 2, 1) := by decide +kernel
theorem dL_isTold_136 : decode cL_isTold 136 = .ok (.iload 6, 2) := by decide +kernel
theorem dL_isTold_138 : decode cL_isTold 138 = .ok (.iadd, 1) := by decide +kernel
theorem dL_isTold_139 : decode cL_isTold 139 = .ok (.iaload, 1) := by decide +kernel
theorem dL_isTold_140 : decode cL_isTold 140 = .ok (.irem, 1) := by decide +kernel
theorem dL_isTold_141 : decode cL_isTold 141 = .ok (.istore 7, 2) := by decide +kernel
theorem dL_isTold_143 : decode cL_isTold 143 = .ok (.bipush 8, 2) := by decide +kernel
theorem dL_isTold_145 : decode cL_isTold 145 = .ok (.iload 6, 2) := by decide +kernel
theorem dL_isTold_147 : decode cL_isTold 147 = .ok (.imul, 1) := by decide +kernel
theorem dL_isTold_148 : decode cL_isTold 148 = .ok (.iload 7, 2) := by decide +kernel
theorem dL_isTold_150 : decode cL_isTold 150 = .ok (.iadd, 1) := by decide +kernel
theorem dL_isTold_151 : decode cL_isTold 151 = .ok (.istore 8, 2) := by decide +kernel
theorem dL_isTold_153 : decode cL_isTold 153 = .ok (.iload 5, 2) := by decide +kernel
theorem dL_isTold_155 : decode cL_isTold 155 = .ok (.bipush 24, 2) := by decide +kernel
theorem dL_isTold_157 : decode cL_isTold 157 = .ok (.idiv, 1) := by decide +kernel
theorem dL_isTold_158 : decode cL_isTold 158 = .ok (.iconst 3, 1) := by decide +kernel
theorem dL_isTold_159 : decode cL_isTold 159 = .ok (.irem, 1) := by decide +kernel
theorem dL_isTold_160 : decode cL_isTold 160 = .ok (.ifCond .le 7, 3) := by decide +kernel
theorem dL_isTold_163 : decode cL_isTold 163 = .ok (.iconst 1, 1) := by decide +kernel
theorem dL_isTold_164 : decode cL_isTold 164 = .ok (.goto 4, 3) := by decide +kernel
theorem dL_isTold_167 : decode cL_isTold 167 = .ok (.iconst 0, 1) := by decide +kernel
theorem dL_isTold_168 : decode cL_isTold 168 = .ok (.istore 9, 2) := by decide +kernel
theorem dL_isTold_170 : decode cL_isTold 170 = .ok (.iload 4, 2) := by decide +kernel
theorem dL_isTold_172 : decode cL_isTold 172 = .ok (.iconst 1, 1) := by decide +kernel
theorem dL_isTold_173 : decode cL_isTold 173 = .ok (.if_icmp .ne 8, 3) := by decide +kernel
theorem dL_isTold_176 : decode cL_isTold 176 = .ok (.bipush 24, 2) := by decide +kernel
theorem dL_isTold_178 : decode cL_isTold 178 = .ok (.goto 5, 3) := by decide +kernel
theorem dL_isTold_181 : decode cL_isTold 181 = .ok (.bipush 25, 2) := by decide +kernel
theorem dL_isTold_183 : decode cL_isTold 183 = .ok (.istore 10, 2) := by decide +kernel
theorem dL_isTold_185 : decode cL_isTold 185 = .ok (.iload 4, 2) := by decide +kernel
theorem dL_isTold_187 : decode cL_isTold 187 = .ok (.iconst 1, 1) := by decide +kernel
theorem dL_isTold_188 : decode cL_isTold 188 = .ok (.if_icmp .ne 17, 3) := by decide +kernel
theorem dL_isTold_191 : decode cL_isTold 191 = .ok (.aload_n 2, 1) := by decide +kernel
theorem dL_isTold_192 : decode cL_isTold 192 = .ok (.iload 8, 2) := by decide +kernel
theorem dL_isTold_194 : decode cL_isTold 194 = .ok (.iaload, 1) := by decide +kernel
theorem dL_isTold_195 : decode cL_isTold 195 = .ok (.iconst 4, 1) := by decide +kernel
theorem dL_isTold_196 : decode cL_isTold 196 = .ok (.ishr, 1) := by decide +kernel
theorem dL_isTold_197 : decode cL_isTold 197 = .ok (.bipush 15, 2) := by decide +kernel
theorem dL_isTold_199 : decode cL_isTold 199 = .ok (.iand, 1) := by decide +kernel
theorem dL_isTold_200 : decode cL_isTold 200 = .ok (.ifCond .le 5, 3) := by decide +kernel
theorem dL_isTold_203 : decode cL_isTold 203 = .ok (.iconst 1, 1) := by decide +kernel
theorem dL_isTold_204 : decode cL_isTold 204 = .ok (.ireturn, 1) := by decide +kernel
theorem dL_isTold_205 : decode cL_isTold 205 = .ok (.aload_n 2, 1) := by decide +kernel
theorem dL_isTold_206 : decode cL_isTold 206 = .ok (.iload 8, 2) := by decide +kernel
theorem dL_isTold_208 : decode cL_isTold 208 = .ok (.iaload, 1) := by decide +kernel
theorem dL_isTold_209 : decode cL_isTold 209 = .ok (.iload 10, 2) := by decide +kernel
theorem dL_isTold_211 : decode cL_isTold 211 = .ok (.ishr, 1) := by decide +kernel
theorem dL_isTold_212 : decode cL_isTold 212 = .ok (.iconst 1, 1) := by decide +kernel
theorem dL_isTold_213 : decode cL_isTold 213 = .ok (.iand, 1) := by decide +kernel
theorem dL_isTold_214 : decode cL_isTold 214 = .ok (.iconst 1, 1) := by decide +kernel
theorem dL_isTold_215 : decode cL_isTold 215 = .ok (.if_icmp .ne 7, 3) := by decide +kernel
theorem dL_isTold_218 : decode cL_isTold 218 = .ok (.iconst 1, 1) := by decide +kernel
theorem dL_isTold_219 : decode cL_isTold 219 = .ok (.goto 4, 3) := by decide +kernel
theorem dL_isTold_222 : decode cL_isTold 222 = .ok (.iconst 0, 1) := by decide +kernel
theorem dL_isTold_223 : decode cL_isTold 223 = .ok (.istore 11, 2) := by decide +kernel
theorem dL_isTold_225 : decode cL_isTold 225 = .ok (.aload_n 2, 1) := by decide +kernel
theorem dL_isTold_226 : decode cL_isTold 226 = .ok (.iload 8, 2) := by decide +kernel
theorem dL_isTold_228 : decode cL_isTold 228 = .ok (.iload 9, 2) := by decide +kernel
theorem dL_isTold_230 : decode cL_isTold 230 = .ok (.ifCond .eq 15, 3) := by decide +kernel
theorem dL_isTold_233 : decode cL_isTold 233 = .ok (.aload_n 2, 1) := by decide +kernel
theorem dL_isTold_234 : decode cL_isTold 234 = .ok (.iload 8, 2) := by decide +kernel
theorem dL_isTold_236 : decode cL_isTold 236 = .ok (.iaload, 1) := by decide +kernel
theorem dL_isTold_237 : decode cL_isTold 237 = .ok (.iconst 1, 1) := by decide +kernel
theorem dL_isTold_238 : decode cL_isTold 238 = .ok (.iload 10, 2) := by decide +kernel
theorem dL_isTold_240 : decode cL_isTold 240 = .ok (.ishl, 1) := by decide +kernel
theorem dL_isTold_241 : decode cL_isTold 241 = .ok (.ior, 1) := by decide +kernel
theorem dL_isTold_242 : decode cL_isTold 242 = .ok (.goto 14, 3) := by decide +kernel
theorem dL_isTold_245 : decode cL_isTold 245 = .ok (.aload_n 2, 1) := by decide +kernel
theorem dL_isTold_246 : decode cL_isTold 246 = .ok (.iload 8, 2) := by decide +kernel
theorem dL_isTold_248 : decode cL_isTold 248 = .ok (.iaload, 1) := by decide +kernel
theorem dL_isTold_249 : decode cL_isTold 249 = .ok (.iconst 1, 1) := by decide +kernel
theorem dL_isTold_250 : decode cL_isTold 250 = .ok (.iload 10, 2) := by decide +kernel
theorem dL_isTold_252 : decode cL_isTold 252 = .ok (.ishl, 1) := by decide +kernel
theorem dL_isTold_253 : decode cL_isTold 253 = .ok (.iconst (-1), 1) := by decide +kernel
theorem dL_isTold_254 : decode cL_isTold 254 = .ok (.ixor, 1) := by decide +kernel
theorem dL_isTold_255 : decode cL_isTold 255 = .ok (.iand, 1) := by decide +kernel
theorem dL_isTold_256 : decode cL_isTold 256 = .ok (.iastore, 1) := by decide +kernel
theorem dL_isTold_257 : decode cL_isTold 257 = .ok (.iload 4, 2) := by decide +kernel
theorem dL_isTold_259 : decode cL_isTold 259 = .ok (.iconst 1, 1) := by decide +kernel
theorem dL_isTold_260 : decode cL_isTold 260 = .ok (.if_icmp .ne 16, 3) := by decide +kernel
theorem dL_isTold_263 : decode cL_isTold 263 = .ok (.aload_n 0, 1) := by decide +kernel
theorem dL_isTold_264 : decode cL_isTold 264 = .ok (.iload 6, 2) := by decide +kernel
theorem dL_isTold_266 : decode cL_isTold 266 = .ok (.iload 7, 2) := by decide +kernel
theorem dL_isTold_268 : decode cL_isTold 268 = .ok (.iload 9, 2) := by decide +kernel
theorem dL_isTold_270 : decode cL_isTold 270 = .ok (.invokevirtual 102, 3) := by decide +kernel
theorem dL_isTold_273 : decode cL_isTold 273 = .ok (.goto 13, 3) := by decide +kernel
theorem dL_isTold_276 : decode cL_isTold 276 = .ok (.aload_n 0, 1) := by decide +kernel
theorem dL_isTold_277 : decode cL_isTold 277 = .ok (.iload 6, 2) := by decide +kernel
theorem dL_isTold_279 : decode cL_isTold 279 = .ok (.iload 7, 2) := by decide +kernel
theorem dL_isTold_281 : decode cL_isTold 281 = .ok (.iload 9, 2) := by decide +kernel
theorem dL_isTold_283 : decode cL_isTold 283 = .ok (.invokevirtual 105, 3) := by decide +kernel
theorem dL_isTold_286 : decode cL_isTold 286 = .ok (.iload 11, 2) := by decide +kernel
theorem dL_isTold_288 : decode cL_isTold 288 = .ok (.if_icmp .ne 7, 3) := by decide +kernel
theorem dL_isTold_291 : decode cL_isTold 291 = .ok (.iconst 1, 1) := by decide +kernel
theorem dL_isTold_292 : decode cL_isTold 292 = .ok (.goto 4, 3) := by decide +kernel
theorem dL_isTold_295 : decode cL_isTold 295 = .ok (.iconst 0, 1) := by decide +kernel
theorem dL_isTold_296 : decode cL_isTold 296 = .ok (.ireturn, 1) := by decide +kernel
theorem dL_holds_0 : decode cL_holds 0 = .ok (.new 40, 3) := by decide +kernel
theorem dL_holds_3 : decode cL_holds 3 = .ok (.dup, 1) := by decide +kernel
theorem dL_holds_4 : decode cL_holds 4 = .ok (.invokespecial 108, 3) := by decide +kernel
theorem dL_holds_7 : decode cL_holds 7 = .ok (.astore_n 1, 1) := by decide +kernel
theorem dL_holds_8 : decode cL_holds 8 = .ok (.bipush 8, 2) := by decide +kernel
theorem dL_holds_10 : decode cL_holds 10 = .ok (.newarray .int, 2) := by decide +kernel
theorem dL_holds_12 : decode cL_holds 12 = .ok (.astore_n 2, 1) := by decide +kernel
theorem dL_holds_13 : decode cL_holds 13 = .ok (.bipush 8, 2) := by decide +kernel
theorem dL_holds_15 : decode cL_holds 15 = .ok (.newarray .long, 2) := by decide +kernel
theorem dL_holds_17 : decode cL_holds 17 = .ok (.astore_n 3, 1) := by decide +kernel
theorem dL_holds_18 : decode cL_holds 18 = .ok (.bipush 32, 2) := by decide +kernel
theorem dL_holds_20 : decode cL_holds 20 = .ok (.newarray .int, 2) := by decide +kernel
theorem dL_holds_22 : decode cL_holds 22 = .ok (.astore 4, 2) := by decide +kernel
theorem dL_holds_24 : decode cL_holds 24 = .ok (.bipush 6, 2) := by decide +kernel
theorem dL_holds_26 : decode cL_holds 26 = .ok (.newarray .int, 2) := by decide +kernel
theorem dL_holds_28 : decode cL_holds 28 = .ok (.astore 5, 2) := by decide +kernel
theorem dL_holds_30 : decode cL_holds 30 = .ok (.bipush 24, 2) := by decide +kernel
theorem dL_holds_32 : decode cL_holds 32 = .ok (.newarray .int, 2) := by decide +kernel
theorem dL_holds_34 : decode cL_holds 34 = .ok (.astore 6, 2) := by decide +kernel
theorem dL_holds_36 : decode cL_holds 36 = .ok (.bipush 10, 2) := by decide +kernel
theorem dL_holds_38 : decode cL_holds 38 = .ok (.newarray .int, 2) := by decide +kernel
theorem dL_holds_40 : decode cL_holds 40 = .ok (.astore 7, 2) := by decide +kernel
theorem dL_holds_42 : decode cL_holds 42 = .ok (.aload 7, 2) := by decide +kernel
theorem dL_holds_44 : decode cL_holds 44 = .ok (.iconst 0, 1) := by decide +kernel
theorem dL_holds_45 : decode cL_holds 45 = .ok (.sipush 1900, 3) := by decide +kernel
theorem dL_holds_48 : decode cL_holds 48 = .ok (.iastore, 1) := by decide +kernel
theorem dL_holds_49 : decode cL_holds 49 = .ok (.iconst 1, 1) := by decide +kernel
theorem dL_holds_50 : decode cL_holds 50 = .ok (.istore 8, 2) := by decide +kernel
theorem dL_holds_52 : decode cL_holds 52 = .ok (.iconst 0, 1) := by decide +kernel
theorem dL_holds_53 : decode cL_holds 53 = .ok (.istore 9, 2) := by decide +kernel
theorem dL_holds_55 : decode cL_holds 55 = .ok (.iload 9, 2) := by decide +kernel
theorem dL_holds_57 : decode cL_holds 57 = .ok (.bipush 8, 2) := by decide +kernel
theorem dL_holds_59 : decode cL_holds 59 = .ok (.if_icmp .ge 49, 3) := by decide +kernel
theorem dL_holds_62 : decode cL_holds 62 = .ok (.iload 8, 2) := by decide +kernel
theorem dL_holds_64 : decode cL_holds 64 = .ok (.ifCond .eq 44, 3) := by decide +kernel
theorem dL_holds_67 : decode cL_holds 67 = .ok (.aload_n 2, 1) := by decide +kernel
theorem dL_holds_68 : decode cL_holds 68 = .ok (.iload 9, 2) := by decide +kernel
theorem dL_holds_70 : decode cL_holds 70 = .ok (.aload_n 0, 1) := by decide +kernel
theorem dL_holds_71 : decode cL_holds 71 = .ok (.sipush 300, 3) := by decide +kernel
theorem dL_holds_74 : decode cL_holds 74 = .ok (.iload 9, 2) := by decide +kernel
theorem dL_holds_76 : decode cL_holds 76 = .ok (.iadd, 1) := by decide +kernel
theorem dL_holds_77 : decode cL_holds 77 = .ok (.iconst 4, 1) := by decide +kernel
theorem dL_holds_78 : decode cL_holds 78 = .ok (.invokestatic 109, 3) := by decide +kernel
theorem dL_holds_81 : decode cL_holds 81 = .ok (.iastore, 1) := by decide +kernel
theorem dL_holds_82 : decode cL_holds 82 = .ok (.aload_n 1, 1) := by decide +kernel
theorem dL_holds_83 : decode cL_holds 83 = .ok (.aload_n 2, 1) := by decide +kernel
theorem dL_holds_84 : decode cL_holds 84 = .ok (.iload 9, 2) := by decide +kernel
theorem dL_holds_86 : decode cL_holds 86 = .ok (.iaload, 1) := by decide +kernel
theorem dL_holds_87 : decode cL_holds 87 = .ok (.invokevirtual 112, 3) := by decide +kernel
theorem dL_holds_90 : decode cL_holds 90 = .ok (.iload 9, 2) := by decide +kernel
theorem dL_holds_92 : decode cL_holds 92 = .ok (.if_icmp .ne 7, 3) := by decide +kernel
theorem dL_holds_95 : decode cL_holds 95 = .ok (.iconst 1, 1) := by decide +kernel
theorem dL_holds_96 : decode cL_holds 96 = .ok (.goto 4, 3) := by decide +kernel
theorem dL_holds_99 : decode cL_holds 99 = .ok (.iconst 0, 1) := by decide +kernel
theorem dL_holds_100 : decode cL_holds 100 = .ok (.istore 8, 2) := by decide +kernel
theorem dL_holds_102 : decode cL_holds 102 = .ok (.iinc 9 1, 3) := by decide +kernel
theorem dL_holds_105 : decode cL_holds 105 = .ok (.goto (-50), 3) := by decide +kernel
theorem dL_holds_108 : decode cL_holds 108 = .ok (.iconst 0, 1) := by decide +kernel
theorem dL_holds_109 : decode cL_holds 109 = .ok (.istore 9, 2) := by decide +kernel
theorem dL_holds_111 : decode cL_holds 111 = .ok (.iload 9, 2) := by decide +kernel
theorem dL_holds_113 : decode cL_holds 113 = .ok (.iconst 3, 1) := by decide +kernel
theorem dL_holds_114 : decode cL_holds 114 = .ok (.if_icmp .ge 87, 3) := by decide +kernel
theorem dL_holds_117 : decode cL_holds 117 = .ok (.iload 8, 2) := by decide +kernel
theorem dL_holds_119 : decode cL_holds 119 = .ok (.ifCond .eq 82, 3) := by decide +kernel
theorem dL_holds_122 : decode cL_holds 122 = .ok (.aload 5, 2) := by decide +kernel
theorem dL_holds_124 : decode cL_holds 124 = .ok (.iconst 2, 1) := by decide +kernel
theorem dL_holds_125 : decode cL_holds 125 = .ok (.iload 9, 2) := by decide +kernel
theorem dL_holds_127 : decode cL_holds 127 = .ok (.imul, 1) := by decide +kernel
theorem dL_holds_128 : decode cL_holds 128 = .ok (.aload_n 0, 1) := by decide +kernel
theorem dL_holds_129 : decode cL_holds 129 = .ok (.sipush 310, 3) := by decide +kernel
theorem dL_holds_132 : decode cL_holds 132 = .ok (.iload 9, 2) := by decide +kernel
theorem dL_holds_134 : decode cL_holds 134 = .ok (.iadd, 1) := by decide +kernel
theorem dL_holds_135 : decode cL_holds 135 = .ok (.ldc 115, 2) := by decide +kernel
theorem dL_holds_137 : decode cL_holds 137 = .ok (.invokestatic 109, 3) := by decide +kernel
theorem dL_holds_140 : decode cL_holds 140 = .ok (.iastore, 1) := by decide +kernel
theorem dL_holds_141 : decode cL_holds 141 = .ok (.aload 5, 2) := by decide +kernel
theorem dL_holds_143 : decode cL_holds 143 = .ok (.iconst 2, 1) := by decide +kernel
theorem dL_holds_144 : decode cL_holds 144 = .ok (.iload 9, 2) := by decide +kernel
theorem dL_holds_146 : decode cL_holds 146 = .ok (.imul, 1) := by decide +kernel
theorem dL_holds_147 : decode cL_holds 147 = .ok (.iconst 1, 1) := by decide +kernel
theorem dL_holds_148 : decode cL_holds 148 = .ok (.iadd, 1) := by decide +kernel
theorem dL_holds_149 : decode cL_holds 149 = .ok (.aload_n 0, 1) := by decide +kernel
theorem dL_holds_150 : decode cL_holds 150 = .ok (.sipush 320, 3) := by decide +kernel
theorem dL_holds_153 : decode cL_holds 153 = .ok (.iload 9, 2) := by decide +kernel
theorem dL_holds_155 : decode cL_holds 155 = .ok (.iadd, 1) := by decide +kernel
theorem dL_holds_156 : decode cL_holds 156 = .ok (.sipush 1001, 3) := by decide +kernel
theorem dL_holds_159 : decode cL_holds 159 = .ok (.invokestatic 109, 3) := by decide +kernel
theorem dL_holds_162 : decode cL_holds 162 = .ok (.iastore, 1) := by decide +kernel
theorem dL_holds_163 : decode cL_holds 163 = .ok (.aload_n 1, 1) := by decide +kernel
theorem dL_holds_164 : decode cL_holds 164 = .ok (.aload 5, 2) := by decide +kernel
theorem dL_holds_166 : decode cL_holds 166 = .ok (.iconst 2, 1) := by decide +kernel
theorem dL_holds_167 : decode cL_holds 167 = .ok (.iload 9, 2) := by decide +kernel
theorem dL_holds_169 : decode cL_holds 169 = .ok (.imul, 1) := by decide +kernel
theorem dL_holds_170 : decode cL_holds 170 = .ok (.iaload, 1) := by decide +kernel
theorem dL_holds_171 : decode cL_holds 171 = .ok (.aload 5, 2) := by decide +kernel
theorem dL_holds_173 : decode cL_holds 173 = .ok (.iconst 2, 1) := by decide +kernel
theorem dL_holds_174 : decode cL_holds 174 = .ok (.iload 9, 2) := by decide +kernel
theorem dL_holds_176 : decode cL_holds 176 = .ok (.imul, 1) := by decide +kernel
theorem dL_holds_177 : decode cL_holds 177 = .ok (.iconst 1, 1) := by decide +kernel
theorem dL_holds_178 : decode cL_holds 178 = .ok (.iadd, 1) := by decide +kernel
theorem dL_holds_179 : decode cL_holds 179 = .ok (.iaload, 1) := by decide +kernel
theorem dL_holds_180 : decode cL_holds 180 = .ok (.invokevirtual 116, 3) := by decide +kernel
theorem dL_holds_183 : decode cL_holds 183 = .ok (.iload 9, 2) := by decide +kernel
theorem dL_holds_185 : decode cL_holds 185 = .ok (.if_icmp .ne 7, 3) := by decide +kernel
theorem dL_holds_188 : decode cL_holds 188 = .ok (.iconst 1, 1) := by decide +kernel
theorem dL_holds_189 : decode cL_holds 189 = .ok (.goto 4, 3) := by decide +kernel
theorem dL_holds_192 : decode cL_holds 192 = .ok (.iconst 0, 1) := by decide +kernel
theorem dL_holds_193 : decode cL_holds 193 = .ok (.istore 8, 2) := by decide +kernel
theorem dL_holds_195 : decode cL_holds 195 = .ok (.iinc 9 1, 3) := by decide +kernel
theorem dL_holds_198 : decode cL_holds 198 = .ok (.goto (-87), 3) := by decide +kernel
theorem dL_holds_201 : decode cL_holds 201 = .ok (.iconst 0, 1) := by decide +kernel
theorem dL_holds_202 : decode cL_holds 202 = .ok (.istore 9, 2) := by decide +kernel
theorem dL_holds_204 : decode cL_holds 204 = .ok (.iload 9, 2) := by decide +kernel
theorem dL_holds_206 : decode cL_holds 206 = .ok (.bipush 60, 2) := by decide +kernel
theorem dL_holds_208 : decode cL_holds 208 = .ok (.if_icmp .ge 209, 3) := by decide +kernel
theorem dL_holds_211 : decode cL_holds 211 = .ok (.iload 8, 2) := by decide +kernel
theorem dL_holds_213 : decode cL_holds 213 = .ok (.ifCond .eq 204, 3) := by decide +kernel
theorem dL_holds_216 : decode cL_holds 216 = .ok (.aload_n 0, 1) := by decide +kernel
theorem dL_holds_217 : decode cL_holds 217 = .ok (.iconst 2, 1) := by decide +kernel
theorem dL_holds_218 : decode cL_holds 218 = .ok (.iload 9, 2) := by decide +kernel
theorem dL_holds_220 : decode cL_holds 220 = .ok (.imul, 1) := by decide +kernel
theorem dL_holds_221 : decode cL_holds 221 = .ok (.bipush 32, 2) := by decide +kernel
theorem dL_holds_223 : decode cL_holds 223 = .ok (.invokestatic 109, 3) := by decide +kernel
theorem dL_holds_226 : decode cL_holds 226 = .ok (.istore 10, 2) := by decide +kernel
theorem dL_holds_228 : decode cL_holds 228 = .ok (.aload_n 0, 1) := by decide +kernel
theorem dL_holds_229 : decode cL_holds 229 = .ok (.iconst 2, 1) := by decide +kernel
theorem dL_holds_230 : decode cL_holds 230 = .ok (.iload 9, 2) := by decide +kernel
theorem dL_holds_232 : decode cL_holds 232 = .ok (.imul, 1) := by decide +kernel
theorem dL_holds_233 : decode cL_holds 233 = .ok (.iconst 1, 1) := by decide +kernel
theorem dL_holds_234 : decode cL_holds 234 = .ok (.iadd, 1) := by decide +kernel
theorem dL_holds_235 : decode cL_holds 235 = .ok (.ldc 119, 2) := by decide +kernel
theorem dL_holds_237 : decode cL_holds 237 = .ok (.invokestatic 109, 3) := by decide +kernel
theorem dL_holds_240 : decode cL_holds 240 = .ok (.istore 11, 2) := by decide +kernel
theorem dL_holds_242 : decode cL_holds 242 = .ok (.iload 10, 2) := by decide +kernel
theorem dL_holds_244 : decode cL_holds 244 = .ok (.bipush 7, 2) := by decide +kernel
theorem dL_holds_246 : decode cL_holds 246 = .ok (.if_icmp .ge 27, 3) := by decide +kernel
theorem dL_holds_249 : decode cL_holds 249 = .ok (.aload_n 1, 1) := by decide +kernel
theorem dL_holds_250 : decode cL_holds 250 = .ok (.aload_n 2, 1) := by decide +kernel
theorem dL_holds_251 : decode cL_holds 251 = .ok (.aload_n 3, 1) := by decide +kernel
theorem dL_holds_252 : decode cL_holds 252 = .ok (.iload 10, 2) := by decide +kernel
theorem dL_holds_254 : decode cL_holds 254 = .ok (.iconst 2, 1) := by decide +kernel
theorem dL_holds_255 : decode cL_holds 255 = .ok (.if_icmp .ge 7, 3) := by decide +kernel
theorem dL_holds_258 : decode cL_holds 258 = .ok (.iconst 0, 1) := by decide +kernel
theorem dL_holds_259 : decode cL_holds 259 = .ok (.goto 4, 3) := by decide +kernel
theorem dL_holds_262 : decode cL_holds 262 = .ok (.iconst 1, 1) := by decide +kernel
theorem dL_holds_263 : decode cL_holds 263 = .ok (.iload 11, 2) := by decide +kernel
theorem dL_holds_265 : decode cL_holds 265 = .ok (.invokestatic 120, 3) := by decide +kernel
theorem dL_holds_268 : decode cL_holds 268 = .ok (.istore 8, 2) := by decide +kernel
theorem dL_holds_270 : decode cL_holds 270 = .ok (.goto 107, 3) := by decide +kernel
theorem dL_holds_273 : decode cL_holds 273 = .ok (.iload 10, 2) := by decide +kernel
theorem dL_holds_275 : decode cL_holds 275 = .ok (.bipush 15, 2) := by decide +kernel
theorem dL_holds_277 : decode cL_holds 277 = .ok (.if_icmp .ge 41, 3) := by decide +kernel
theorem dL_holds_280 : decode cL_holds 280 = .ok (.aload_n 1, 1) := by decide +kernel
theorem dL_holds_281 : decode cL_holds 281 = .ok (.aload 4, 2) := by decide +kernel
theorem dL_holds_283 : decode cL_holds 283 = .ok (.aload 7, 2) := by decide +kernel
theorem dL_holds_285 : decode cL_holds 285 = .ok (.iload 10, 2) := by decide +kernel
theorem dL_holds_287 : decode cL_holds 287 = .ok (.bipush 10, 2) := by decide +kernel
theorem dL_holds_289 : decode cL_holds 289 = .ok (.if_icmp .ge 7, 3) := by decide +kernel
theorem dL_holds_292 : decode cL_holds 292 = .ok (.iconst 0, 1) := by decide +kernel
theorem dL_holds_293 : decode cL_holds 293 = .ok (.goto 15, 3) := by decide +kernel
theorem dL_holds_296 : decode cL_holds 296 = .ok (.iload 10, 2) := by decide +kernel
theorem dL_holds_298 : decode cL_holds 298 = .ok (.bipush 12, 2) := by decide +kernel
theorem dL_holds_300 : decode cL_holds 300 = .ok (.if_icmp .ge 7, 3) := by decide +kernel
theorem dL_holds_303 : decode cL_holds 303 = .ok (.iconst 1, 1) := by decide +kernel
theorem dL_holds_304 : decode cL_holds 304 = .ok (.goto 4, 3) := by decide +kernel
theorem dL_holds_307 : decode cL_holds 307 = .ok (.iconst 2, 1) := by decide +kernel
theorem dL_holds_308 : decode cL_holds 308 = .ok (.iload 11, 2) := by decide +kernel
theorem dL_holds_310 : decode cL_holds 310 = .ok (.invokestatic 124, 3) := by decide +kernel
theorem dL_holds_313 : decode cL_holds 313 = .ok (.istore 8, 2) := by decide +kernel
theorem dL_holds_315 : decode cL_holds 315 = .ok (.goto 62, 3) := by decide +kernel
theorem dL_holds_318 : decode cL_holds 318 = .ok (.iload 10, 2) := by decide +kernel
theorem dL_holds_320 : decode cL_holds 320 = .ok (.bipush 24, 2) := by decide +kernel
theorem dL_holds_322 : decode cL_holds 322 = .ok (.if_icmp .ge 18, 3) := by decide +kernel
theorem dL_holds_325 : decode cL_holds 325 = .ok (.aload_n 1, 1) := by decide +kernel
theorem dL_holds_326 : decode cL_holds 326 = .ok (.aload 6, 2) := by decide +kernel
theorem dL_holds_328 : decode cL_holds 328 = .ok (.aload 7, 2) := by decide +kernel
theorem dL_holds_330 : decode cL_holds 330 = .ok (.iload 11, 2) := by decide +kernel
theorem dL_holds_332 : decode cL_holds 332 = .ok (.invokestatic 128, 3) := by decide +kernel
theorem dL_holds_335 : decode cL_holds 335 = .ok (.istore 8, 2) := by decide +kernel
theorem dL_holds_337 : decode cL_holds 337 = .ok (.goto 40, 3) := by decide +kernel
theorem dL_holds_340 : decode cL_holds 340 = .ok (.aload_n 1, 1) := by decide +kernel
theorem dL_holds_341 : decode cL_holds 341 = .ok (.aload 5, 2) := by decide +kernel
theorem dL_holds_343 : decode cL_holds 343 = .ok (.aload 6, 2) := by decide +kernel
theorem dL_holds_345 : decode cL_holds 345 = .ok (.aload 7, 2) := by decide +kernel
theorem dL_holds_347 : decode cL_holds 347 = .ok (.iload 10, 2) := by decide +kernel
theorem dL_holds_349 : decode cL_holds 349 = .ok (.bipush 26, 2) := by decide +kernel
theorem dL_holds_351 : decode cL_holds 351 = .ok (.if_icmp .ge 7, 3) := by decide +kernel
theorem dL_holds_354 : decode cL_holds 354 = .ok (.iconst 0, 1) := by decide +kernel
theorem dL_holds_355 : decode cL_holds 355 = .ok (.goto 15, 3) := by decide +kernel
theorem dL_holds_358 : decode cL_holds 358 = .ok (.iload 10, 2) := by decide +kernel
theorem dL_holds_360 : decode cL_holds 360 = .ok (.bipush 29, 2) := by decide +kernel
theorem dL_holds_362 : decode cL_holds 362 = .ok (.if_icmp .ge 7, 3) := by decide +kernel
theorem dL_holds_365 : decode cL_holds 365 = .ok (.iconst 1, 1) := by decide +kernel
theorem dL_holds_366 : decode cL_holds 366 = .ok (.goto 4, 3) := by decide +kernel
theorem dL_holds_369 : decode cL_holds 369 = .ok (.iconst 2, 1) := by decide +kernel
theorem dL_holds_370 : decode cL_holds 370 = .ok (.iload 11, 2) := by decide +kernel
theorem dL_holds_372 : decode cL_holds 372 = .ok (.invokestatic 132, 3) := by decide +kernel
theorem dL_holds_375 : decode cL_holds 375 = .ok (.istore 8, 2) := by decide +kernel
theorem dL_holds_377 : decode cL_holds 377 = .ok (.iload 8, 2) := by decide +kernel
theorem dL_holds_379 : decode cL_holds 379 = .ok (.ifCond .eq 29, 3) := by decide +kernel
theorem dL_holds_382 : decode cL_holds 382 = .ok (.aload_n 1, 1) := by decide +kernel
theorem dL_holds_383 : decode cL_holds 383 = .ok (.aload_n 2, 1) := by decide +kernel
theorem dL_holds_384 : decode cL_holds 384 = .ok (.aload_n 3, 1) := by decide +kernel
theorem dL_holds_385 : decode cL_holds 385 = .ok (.aload 4, 2) := by decide +kernel
theorem dL_holds_387 : decode cL_holds 387 = .ok (.aload 5, 2) := by decide +kernel
theorem dL_holds_389 : decode cL_holds 389 = .ok (.aload 6, 2) := by decide +kernel
theorem dL_holds_391 : decode cL_holds 391 = .ok (.aload 7, 2) := by decide +kernel
theorem dL_holds_393 : decode cL_holds 393 = .ok (.iload 11, 2) := by decide +kernel
theorem dL_holds_395 : decode cL_holds 395 = .ok (.bipush 7, 2) := by decide +kernel
theorem dL_holds_397 : decode cL_holds 397 = .ok (.idiv, 1) := by decide +kernel
theorem dL_holds_398 : decode cL_holds 398 = .ok (.invokestatic 136, 3) := by decide +kernel
theorem dL_holds_401 : decode cL_holds 401 = .ok (.ifCond .eq 7, 3) := by decide +kernel
theorem dL_holds_404 : decode cL_holds 404 = .ok (.iconst 1, 1) := by decide +kernel
theorem dL_holds_405 : decode cL_holds 405 = .ok (.goto 4, 3) := by decide +kernel
theorem dL_holds_408 : decode cL_holds 408 = .ok (.iconst 0, 1) := by decide +kernel
theorem dL_holds_409 : decode cL_holds 409 = .ok (.istore 8, 2) := by decide +kernel
theorem dL_holds_411 : decode cL_holds 411 = .ok (.iinc 9 1, 3) := by decide +kernel
theorem dL_holds_414 : decode cL_holds 414 = .ok (.goto (-210), 3) := by decide +kernel
theorem dL_holds_417 : decode cL_holds 417 = .ok (.iload 8, 2) := by decide +kernel
theorem dL_holds_419 : decode cL_holds 419 = .ok (.ireturn, 1) := by decide +kernel
theorem dL_isHeld_0 : decode cL_isHeld 0 = .ok (.aload_n 0, 1) := by decide +kernel
theorem dL_isHeld_1 : decode cL_isHeld 1 = .ok (.invokestatic 140, 3) := by decide +kernel
theorem dL_isHeld_4 : decode cL_isHeld 4 = .ok (.ireturn, 1) := by decide +kernel
theorem dL_isHeld_5 : decode cL_isHeld 5 = .ok (.astore_n 1, 1) := by decide +kernel
theorem dL_isHeld_6 : decode cL_isHeld 6 = .ok (.iconst 0, 1) := by decide +kernel
theorem dL_isHeld_7 : decode cL_isHeld 7 = .ok (.ireturn, 1) := by decide +kernel
theorem dL_isHeld_8 : decode cL_isHeld 8 = .ok (.astore_n 1, 1) := by decide +kernel
theorem dL_isHeld_9 : decode cL_isHeld 9 = .ok (.iconst 0, 1) := by decide +kernel
theorem dL_isHeld_10 : decode cL_isHeld 10 = .ok (.ireturn, 1) := by decide +kernel
theorem dL_isHeld_11 : decode cL_isHeld 11 = .ok (.astore_n 1, 1) := by decide +kernel
theorem dL_isHeld_12 : decode cL_isHeld 12 = .ok (.iconst 0, 1) := by decide +kernel
theorem dL_isHeld_13 : decode cL_isHeld 13 = .ok (.ireturn, 1) := by decide +kernel
theorem dL_law_0 : decode cL_law 0 = .ok (.aload_n 0, 1) := by decide +kernel
theorem dL_law_1 : decode cL_law 1 = .ok (.invokestatic 150, 3) := by decide +kernel
theorem dL_law_4 : decode cL_law 4 = .ok (.ireturn, 1) := by decide +kernel
