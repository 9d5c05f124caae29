theorem dX5_holder_7 : decode cX5_holder 7 = .ok (.iconst 1, 1) := by decide +kernel
theorem dX5_holder_8 : decode cX5_holder 8 = .ok (.invokevirtual 80, 3) := by decide +kernel
theorem dX5_holder_11 : decode cX5_holder 11 = .ok (.ifCond .eq 11, 3) := by decide +kernel
theorem dX5_holder_14 : decode cX5_holder 14 = .ok (.aload_n 0, 1) := by decide +kernel
theorem dX5_holder_15 : decode cX5_holder 15 = .ok (.iload_n 1, 1) := by decide +kernel
theorem dX5_holder_16 : decode cX5_holder 16 = .ok (.invokevirtual 127, 3) := by decide +kernel
theorem dX5_holder_19 : decode cX5_holder 19 = .ok (.goto 4, 3) := by decide +kernel
theorem dX5_holder_22 : decode cX5_holder 22 = .ok (.iconst 0, 1) := by decide +kernel
theorem dX5_holder_23 : decode cX5_holder 23 = .ok (.ireturn, 1) := by decide +kernel
set_option maxRecDepth 20000 in
theorem ggX5_ownerOf_X5_lays : GoodIn wsX5_ownerOf wsX5_lays := goodIn_r _ [14, 15, 3, 2, 45, 46, 47, 48, 49, 50, 51, 52, 53, 54, 55, 56, 57, 58, 59, 60, 61, 62, 63, 64, 65] (by decide +kernel) (by decide +kernel)
set_option maxRecDepth 20000 in
theorem gX5_ownerOf_X5_lays : GoodIn wsX5_ownerOf (wsV RX5 121 RX5 yX5_lays wsX5_lays) := goodIn_app (goodIn_of _ (by decide +kernel)) ggX5_ownerOf_X5_lays
set_option maxRecDepth 20000 in
theorem ggX5_ownerOf_X5_loses : GoodIn wsX5_ownerOf wsX5_loses := goodIn_r _ [19, 2, 1, 5, 20, 21, 7, 3, 22, 23, 24, 13, 25, 26, 27, 28, 29, 30, 45, 46, 47, 48, 49, 50, 51, 52, 53, 54, 55, 56, 57, 58, 59, 60, 61, 62, 63, 64, 65] (by decide +kernel) (by decide +kernel)
set_option maxRecDepth 20000 in
theorem gX5_ownerOf_X5_loses : GoodIn wsX5_ownerOf (wsV RX5 124 RX5 yX5_loses wsX5_loses) := goodIn_app (goodIn_of _ (by decide +kernel)) ggX5_ownerOf_X5_loses
set_option maxRecDepth 20000 in
theorem ggX5_ownerOf_X5_findsHeir : GoodIn wsX5_ownerOf wsX5_findsHeir := goodIn_r _ [34, 35, 36, 9, 37, 38, 39, 13, 40, 41, 42, 43, 44, 45, 46, 47, 48, 49, 50, 51, 52, 53, 54, 55, 56, 57, 58, 59, 60, 61, 62, 63, 64, 65] (by decide +kernel) (by decide +kernel)
set_option maxRecDepth 20000 in
theorem gX5_ownerOf_X5_findsHeir : GoodIn wsX5_ownerOf (wsV RX5 111 RX5 yX5_findsHeir wsX5_findsHeir) := goodIn_app (goodIn_of _ (by decide +kernel)) ggX5_ownerOf_X5_findsHeir
theorem dX5_ownerOf_0 : decode cX5_ownerOf 0 = .ok (.aload_n 0, 1) := by decide +kernel
theorem dX5_ownerOf_1 : decode cX5_ownerOf 1 = .ok (.iload_n 1, 1) := by decide +kernel
theorem dX5_ownerOf_2 : decode cX5_ownerOf 2 = .ok (.invokevirtual 121, 3) := by decide +kernel
theorem dX5_ownerOf_5 : decode cX5_ownerOf 5 = .ok (.istore_n 2, 1) := by decide +kernel
theorem dX5_ownerOf_6 : decode cX5_ownerOf 6 = .ok (.iload_n 2, 1) := by decide +kernel
theorem dX5_ownerOf_7 : decode cX5_ownerOf 7 = .ok (.ifCond .ne 7, 3) := by decide +kernel
theorem dX5_ownerOf_10 : decode cX5_ownerOf 10 = .ok (.iconst (-1), 1) := by decide +kernel
theorem dX5_ownerOf_11 : decode cX5_ownerOf 11 = .ok (.goto 19, 3) := by decide +kernel
theorem dX5_ownerOf_14 : decode cX5_ownerOf 14 = .ok (.aload_n 0, 1) := by decide +kernel
theorem dX5_ownerOf_15 : decode cX5_ownerOf 15 = .ok (.getfield 42, 3) := by decide +kernel
theorem dX5_ownerOf_18 : decode cX5_ownerOf 18 = .ok (.bipush 8, 2) := by decide +kernel
theorem dX5_ownerOf_20 : decode cX5_ownerOf 20 = .ok (.iload_n 1, 1) := by decide +kernel
theorem dX5_ownerOf_21 : decode cX5_ownerOf 21 = .ok (.imul, 1) := by decide +kernel
theorem dX5_ownerOf_22 : decode cX5_ownerOf 22 = .ok (.aload_n 0, 1) := by decide +kernel
theorem dX5_ownerOf_23 : decode cX5_ownerOf 23 = .ok (.getfield 60, 3) := by decide +kernel
theorem dX5_ownerOf_26 : decode cX5_ownerOf 26 = .ok (.iconst 0, 1) := by decide +kernel
theorem dX5_ownerOf_27 : decode cX5_ownerOf 27 = .ok (.iaload, 1) := by decide +kernel
theorem dX5_ownerOf_28 : decode cX5_ownerOf 28 = .ok (.iadd, 1) := by decide +kernel
theorem dX5_ownerOf_29 : decode cX5_ownerOf 29 = .ok (.iaload, 1) := by decide +kernel
theorem dX5_ownerOf_30 : decode cX5_ownerOf 30 = .ok (.istore_n 3, 1) := by decide +kernel
theorem dX5_ownerOf_31 : decode cX5_ownerOf 31 = .ok (.iconst 1, 1) := by decide +kernel
theorem dX5_ownerOf_32 : decode cX5_ownerOf 32 = .ok (.istore 4, 2) := by decide +kernel
theorem dX5_ownerOf_34 : decode cX5_ownerOf 34 = .ok (.iload 4, 2) := by decide +kernel
theorem dX5_ownerOf_36 : decode cX5_ownerOf 36 = .ok (.iload_n 2, 1) := by decide +kernel
theorem dX5_ownerOf_37 : decode cX5_ownerOf 37 = .ok (.if_icmp .ge 188, 3) := by decide +kernel
theorem dX5_ownerOf_40 : decode cX5_ownerOf 40 = .ok (.bipush 8, 2) := by decide +kernel
theorem dX5_ownerOf_42 : decode cX5_ownerOf 42 = .ok (.iload_n 1, 1) := by decide +kernel
theorem dX5_ownerOf_43 : decode cX5_ownerOf 43 = .ok (.imul, 1) := by decide +kernel
theorem dX5_ownerOf_44 : decode cX5_ownerOf 44 = .ok (.aload_n 0, 1) := by decide +kernel
theorem dX5_ownerOf_45 : decode cX5_ownerOf 45 = .ok (.getfield 60, 3) := by decide +kernel
theorem dX5_ownerOf_48 : decode cX5_ownerOf 48 = .ok (.iload 4, 2) := by decide +kernel
theorem dX5_ownerOf_50 : decode cX5_ownerOf 50 = .ok (.iaload, 1) := by decide +kernel
theorem dX5_ownerOf_51 : decode cX5_ownerOf 51 = .ok (.iadd, 1) := by decide +kernel
theorem dX5_ownerOf_52 : decode cX5_ownerOf 52 = .ok (.istore 5, 2) := by decide +kernel
theorem dX5_ownerOf_54 : decode cX5_ownerOf 54 = .ok (.iload 4, 2) := by decide +kernel
theorem dX5_ownerOf_56 : decode cX5_ownerOf 56 = .ok (.iconst 1, 1) := by decide +kernel
theorem dX5_ownerOf_57 : decode cX5_ownerOf 57 = .ok (.iadd, 1) := by decide +kernel
theorem dX5_ownerOf_58 : decode cX5_ownerOf 58 = .ok (.iload_n 2, 1) := by decide +kernel
theorem dX5_ownerOf_59 : decode cX5_ownerOf 59 = .ok (.if_icmp .ge 25, 3) := by decide +kernel
theorem dX5_ownerOf_62 : decode cX5_ownerOf 62 = .ok (.aload_n 0, 1) := by decide +kernel
theorem dX5_ownerOf_63 : decode cX5_ownerOf 63 = .ok (.getfield 51, 3) := by decide +kernel
theorem dX5_ownerOf_66 : decode cX5_ownerOf 66 = .ok (.bipush 8, 2) := by decide +kernel
theorem dX5_ownerOf_68 : decode cX5_ownerOf 68 = .ok (.iload_n 1, 1) := by decide +kernel
theorem dX5_ownerOf_69 : decode cX5_ownerOf 69 = .ok (.imul, 1) := by decide +kernel
theorem dX5_ownerOf_70 : decode cX5_ownerOf 70 = .ok (.aload_n 0, 1) := by decide +kernel
theorem dX5_ownerOf_71 : decode cX5_ownerOf 71 = .ok (.getfield 60, 3) := by decide +kernel
theorem dX5_ownerOf_74 : decode cX5_ownerOf 74 = .ok (.iload 4, 2) := by decide +kernel
theorem dX5_ownerOf_76 : decode cX5_ownerOf 76 = .ok (.iconst 1, 1) := by decide +kernel
theorem dX5_ownerOf_77 : decode cX5_ownerOf 77 = .ok (.iadd, 1) := by decide +kernel
theorem dX5_ownerOf_78 : decode cX5_ownerOf 78 = .ok (.iaload, 1) := by decide +kernel
theorem dX5_ownerOf_79 : decode cX5_ownerOf 79 = .ok (.iadd, 1) := by decide +kernel
theorem dX5_ownerOf_80 : decode cX5_ownerOf 80 = .ok (.iaload, 1) := by decide +kernel
theorem dX5_ownerOf_81 : decode cX5_ownerOf 81 = .ok (.goto 7, 3) := by decide +kernel
theorem dX5_ownerOf_84 : decode cX5_ownerOf 84 = .ok (.aload_n 0, 1) := by decide +kernel
theorem dX5_ownerOf_85 : decode cX5_ownerOf 85 = .ok (.getfield 7, 3) := by decide +kernel
theorem dX5_ownerOf_88 : decode cX5_ownerOf 88 = .ok (.istore 6, 2) := by decide +kernel
theorem dX5_ownerOf_90 : decode cX5_ownerOf 90 = .ok (.aload_n 0, 1) := by decide +kernel
theorem dX5_ownerOf_91 : decode cX5_ownerOf 91 = .ok (.getfield 45, 3) := by decide +kernel
theorem dX5_ownerOf_94 : decode cX5_ownerOf 94 = .ok (.iload 5, 2) := by decide +kernel
theorem dX5_ownerOf_96 : decode cX5_ownerOf 96 = .ok (.iaload, 1) := by decide +kernel
theorem dX5_ownerOf_97 : decode cX5_ownerOf 97 = .ok (.ifCond .ne 47, 3) := by decide +kernel
theorem dX5_ownerOf_100 : decode cX5_ownerOf 100 = .ok (.aload_n 0, 1) := by decide +kernel
theorem dX5_ownerOf_101 : decode cX5_ownerOf 101 = .ok (.getfield 30, 3) := by decide +kernel
theorem dX5_ownerOf_104 : decode cX5_ownerOf 104 = .ok (.aload_n 0, 1) := by decide +kernel
theorem dX5_ownerOf_105 : decode cX5_ownerOf 105 = .ok (.getfield 48, 3) := by decide +kernel
theorem dX5_ownerOf_108 : decode cX5_ownerOf 108 = .ok (.iload 5, 2) := by decide +kernel
theorem dX5_ownerOf_110 : decode cX5_ownerOf 110 = .ok (.iaload, 1) := by decide +kernel
theorem dX5_ownerOf_111 : decode cX5_ownerOf 111 = .ok (.iaload, 1) := by decide +kernel
theorem dX5_ownerOf_112 : decode cX5_ownerOf 112 = .ok (.ifCond .le 32, 3) := by decide +kernel
theorem dX5_ownerOf_115 : decode cX5_ownerOf 115 = .ok (.iload 6, 2) := by decide +kernel
theorem dX5_ownerOf_117 : decode cX5_ownerOf 117 = .ok (.aload_n 0, 1) := by decide +kernel
theorem dX5_ownerOf_118 : decode cX5_ownerOf 118 = .ok (.getfield 51, 3) := by decide +kernel
theorem dX5_ownerOf_121 : decode cX5_ownerOf 121 = .ok (.iload 5, 2) := by decide +kernel
theorem dX5_ownerOf_123 : decode cX5_ownerOf 123 = .ok (.iaload, 1) := by decide +kernel
theorem dX5_ownerOf_124 : decode cX5_ownerOf 124 = .ok (.isub, 1) := by decide +kernel
theorem dX5_ownerOf_125 : decode cX5_ownerOf 125 = .ok (.aload_n 0, 1) := by decide +kernel
theorem dX5_ownerOf_126 : decode cX5_ownerOf 126 = .ok (.getfield 30, 3) := by decide +kernel
theorem dX5_ownerOf_129 : decode cX5_ownerOf 129 = .ok (.aload_n 0, 1) := by decide +kernel
theorem dX5_ownerOf_130 : decode cX5_ownerOf 130 = .ok (.getfield 48, 3) := by decide +kernel
theorem dX5_ownerOf_133 : decode cX5_ownerOf 133 = .ok (.iload 5, 2) := by decide +kernel
theorem dX5_ownerOf_135 : decode cX5_ownerOf 135 = .ok (.iaload, 1) := by decide +kernel
theorem dX5_ownerOf_136 : decode cX5_ownerOf 136 = .ok (.iaload, 1) := by decide +kernel
theorem dX5_ownerOf_137 : decode cX5_ownerOf 137 = .ok (.if_icmp .lt 7, 3) := by decide +kernel
theorem dX5_ownerOf_140 : decode cX5_ownerOf 140 = .ok (.iconst 1, 1) := by decide +kernel
theorem dX5_ownerOf_141 : decode cX5_ownerOf 141 = .ok (.goto 4, 3) := by decide +kernel
theorem dX5_ownerOf_144 : decode cX5_ownerOf 144 = .ok (.iconst 0, 1) := by decide +kernel
theorem dX5_ownerOf_145 : decode cX5_ownerOf 145 = .ok (.istore 7, 2) := by decide +kernel
theorem dX5_ownerOf_147 : decode cX5_ownerOf 147 = .ok (.iload_n 3, 1) := by decide +kernel
theorem dX5_ownerOf_148 : decode cX5_ownerOf 148 = .ok (.aload_n 0, 1) := by decide +kernel
theorem dX5_ownerOf_149 : decode cX5_ownerOf 149 = .ok (.getfield 42, 3) := by decide +kernel
theorem dX5_ownerOf_152 : decode cX5_ownerOf 152 = .ok (.bipush 8, 2) := by decide +kernel
theorem dX5_ownerOf_154 : decode cX5_ownerOf 154 = .ok (.iload_n 1, 1) := by decide +kernel
theorem dX5_ownerOf_155 : decode cX5_ownerOf 155 = .ok (.imul, 1) := by decide +kernel
theorem dX5_ownerOf_156 : decode cX5_ownerOf 156 = .ok (.aload_n 0, 1) := by decide +kernel
theorem dX5_ownerOf_157 : decode cX5_ownerOf 157 = .ok (.getfield 60, 3) := by decide +kernel
theorem dX5_ownerOf_160 : decode cX5_ownerOf 160 = .ok (.iload 4, 2) := by decide +kernel
theorem dX5_ownerOf_162 : decode cX5_ownerOf 162 = .ok (.iconst 1, 1) := by decide +kernel
theorem dX5_ownerOf_163 : decode cX5_ownerOf 163 = .ok (.isub, 1) := by decide +kernel
theorem dX5_ownerOf_164 : decode cX5_ownerOf 164 = .ok (.iaload, 1) := by decide +kernel
theorem dX5_ownerOf_165 : decode cX5_ownerOf 165 = .ok (.iadd, 1) := by decide +kernel
theorem dX5_ownerOf_166 : decode cX5_ownerOf 166 = .ok (.iaload, 1) := by decide +kernel
theorem dX5_ownerOf_167 : decode cX5_ownerOf 167 = .ok (.if_icmp .eq 8, 3) := by decide +kernel
theorem dX5_ownerOf_170 : decode cX5_ownerOf 170 = .ok (.iload 7, 2) := by decide +kernel
theorem dX5_ownerOf_172 : decode cX5_ownerOf 172 = .ok (.ifCond .eq 7, 3) := by decide +kernel
theorem dX5_ownerOf_175 : decode cX5_ownerOf 175 = .ok (.iconst 1, 1) := by decide +kernel
theorem dX5_ownerOf_176 : decode cX5_ownerOf 176 = .ok (.goto 4, 3) := by decide +kernel
theorem dX5_ownerOf_179 : decode cX5_ownerOf 179 = .ok (.iconst 0, 1) := by decide +kernel
theorem dX5_ownerOf_180 : decode cX5_ownerOf 180 = .ok (.istore 8, 2) := by decide +kernel
theorem dX5_ownerOf_182 : decode cX5_ownerOf 182 = .ok (.aload_n 0, 1) := by decide +kernel
theorem dX5_ownerOf_183 : decode cX5_ownerOf 183 = .ok (.getfield 57, 3) := by decide +kernel
theorem dX5_ownerOf_186 : decode cX5_ownerOf 186 = .ok (.iload 5, 2) := by decide +kernel
theorem dX5_ownerOf_188 : decode cX5_ownerOf 188 = .ok (.baload, 1) := by decide +kernel
theorem dX5_ownerOf_189 : decode cX5_ownerOf 189 = .ok (.ifCond .ne 18, 3) := by decide +kernel
theorem dX5_ownerOf_192 : decode cX5_ownerOf 192 = .ok (.aload_n 0, 1) := by decide +kernel
theorem dX5_ownerOf_193 : decode cX5_ownerOf 193 = .ok (.iload_n 1, 1) := by decide +kernel
theorem dX5_ownerOf_194 : decode cX5_ownerOf 194 = .ok (.iload 4, 2) := by decide +kernel
theorem dX5_ownerOf_196 : decode cX5_ownerOf 196 = .ok (.invokevirtual 124, 3) := by decide +kernel
theorem dX5_ownerOf_199 : decode cX5_ownerOf 199 = .ok (.ifCond .ne 18, 3) := by decide +kernel
theorem dX5_ownerOf_202 : decode cX5_ownerOf 202 = .ok (.iload 8, 2) := by decide +kernel
theorem dX5_ownerOf_204 : decode cX5_ownerOf 204 = .ok (.ifCond .eq 13, 3) := by decide +kernel
theorem dX5_ownerOf_207 : decode cX5_ownerOf 207 = .ok (.aload_n 0, 1) := by decide +kernel
theorem dX5_ownerOf_208 : decode cX5_ownerOf 208 = .ok (.getfield 42, 3) := by decide +kernel
theorem dX5_ownerOf_211 : decode cX5_ownerOf 211 = .ok (.iload 5, 2) := by decide +kernel
theorem dX5_ownerOf_213 : decode cX5_ownerOf 213 = .ok (.iaload, 1) := by decide +kernel
theorem dX5_ownerOf_214 : decode cX5_ownerOf 214 = .ok (.goto 4, 3) := by decide +kernel
theorem dX5_ownerOf_217 : decode cX5_ownerOf 217 = .ok (.iload_n 3, 1) := by decide +kernel
theorem dX5_ownerOf_218 : decode cX5_ownerOf 218 = .ok (.istore_n 3, 1) := by decide +kernel
theorem dX5_ownerOf_219 : decode cX5_ownerOf 219 = .ok (.iinc 4 1, 3) := by decide +kernel
theorem dX5_ownerOf_222 : decode cX5_ownerOf 222 = .ok (.goto (-188), 3) := by decide +kernel
theorem dX5_ownerOf_225 : decode cX5_ownerOf 225 = .ok (.iload_n 3, 1) := by decide +kernel
theorem dX5_ownerOf_226 : decode cX5_ownerOf 226 = .ok (.iconst (-1), 1) := by decide +kernel
theorem dX5_ownerOf_227 : decode cX5_ownerOf 227 = .ok (.if_icmp .eq 12, 3) := by decide +kernel
theorem dX5_ownerOf_230 : decode cX5_ownerOf 230 = .ok (.aload_n 0, 1) := by decide +kernel
theorem dX5_ownerOf_231 : decode cX5_ownerOf 231 = .ok (.getfield 17, 3) := by decide +kernel
theorem dX5_ownerOf_234 : decode cX5_ownerOf 234 = .ok (.iload_n 3, 1) := by decide +kernel
theorem dX5_ownerOf_235 : decode cX5_ownerOf 235 = .ok (.baload, 1) := by decide +kernel
theorem dX5_ownerOf_236 : decode cX5_ownerOf 236 = .ok (.ifCond .ne 7, 3) := by decide +kernel
theorem dX5_ownerOf_239 : decode cX5_ownerOf 239 = .ok (.iload_n 3, 1) := by decide +kernel
theorem dX5_ownerOf_240 : decode cX5_ownerOf 240 = .ok (.goto 8, 3) := by decide +kernel
theorem dX5_ownerOf_243 : decode cX5_ownerOf 243 = .ok (.aload_n 0, 1) := by decide +kernel
theorem dX5_ownerOf_244 : decode cX5_ownerOf 244 = .ok (.iload_n 3, 1) := by decide +kernel
theorem dX5_ownerOf_245 : decode cX5_ownerOf 245 = .ok (.invokevirtual 111, 3) := by decide +kernel
theorem dX5_ownerOf_248 : decode cX5_ownerOf 248 = .ok (.ireturn, 1) := by decide +kernel
set_option maxRecDepth 20000 in
theorem ggX5_owner_X5_isThing : GoodIn wsX5_owner wsX5_isThing := goodIn_r _ [5, 6, 7, 8, 4, 9, 59, 60, 61, 62, 63, 64, 65, 66, 67, 68, 69, 70, 71, 72, 73, 74, 75, 76, 77, 78, 79] (by decide +kernel) (by decide +kernel)
set_option maxRecDepth 20000 in
theorem gX5_owner_X5_isThing : GoodIn wsX5_owner (wsV RX5 76 RX5 yX5_isThing wsX5_isThing) := goodIn_app (goodIn_of _ (by decide +kernel)) ggX5_owner_X5_isThing
set_option maxRecDepth 20000 in
theorem ggX5_owner_X5_goes : GoodIn wsX5_owner wsX5_goes := goodIn_r _ [13, 14, 59, 60, 61, 62, 63, 64, 65, 66, 67, 68, 69, 70, 71, 72, 73, 74, 75, 76, 77, 78, 79] (by decide +kernel) (by decide +kernel)
set_option maxRecDepth 20000 in
theorem gX5_owner_X5_goes : GoodIn wsX5_owner (wsV RX5 80 RX5 yX5_goes wsX5_goes) := goodIn_app (goodIn_of _ (by decide +kernel)) ggX5_owner_X5_goes
set_option maxRecDepth 20000 in
theorem ggX5_owner_X5_ownerOf : GoodIn wsX5_owner wsX5_ownerOf := goodIn_r _ [18, 19, 20, 21, 22, 23, 24, 25, 26, 27, 28, 29, 30, 4, 31, 32, 33, 34, 35, 36, 37, 38, 39, 40, 41, 42, 43, 44, 7, 8, 9, 45, 46, 47, 48, 49, 50, 51, 52, 53, 54, 55, 56, 57, 58, 59, 60, 61, 62, 63, 64, 65, 66, 67, 68, 69, 70, 71, 72, 73, 74, 75, 76, 77, 78, 79] (by decide +kernel) (by decide +kernel)
set_option maxRecDepth 20000 in
theorem gX5_owner_X5_ownerOf : GoodIn wsX5_owner (wsV RX5 130 RX5 yX5_ownerOf wsX5_ownerOf) := goodIn_app (goodIn_of _ (by decide +kernel)) ggX5_owner_X5_ownerOf
theorem dX5_owner_0 : decode cX5_owner 0 = .ok (.aload_n 0, 1) := by decide +kernel
theorem dX5_owner_1 : decode cX5_owner 1 = .ok (.aload_n 0, 1) := by decide +kernel
theorem dX5_owner_2 : decode cX5_owner 2 = .ok (.iload_n 1, 1) := by decide +kernel
theorem dX5_owner_3 : decode cX5_owner 3 = .ok (.invokevirtual 76, 3) := by decide +kernel
theorem dX5_owner_6 : decode cX5_owner 6 = .ok (.iconst 1, 1) := by decide +kernel
theorem dX5_owner_7 : decode cX5_owner 7 = .ok (.iconst 1, 1) := by decide +kernel
theorem dX5_owner_8 : decode cX5_owner 8 = .ok (.invokevirtual 80, 3) := by decide +kernel
theorem dX5_owner_11 : decode cX5_owner 11 = .ok (.ifCond .eq 11, 3) := by decide +kernel
theorem dX5_owner_14 : decode cX5_owner 14 = .ok (.aload_n 0, 1) := by decide +kernel
theorem dX5_owner_15 : decode cX5_owner 15 = .ok (.iload_n 1, 1) := by decide +kernel
theorem dX5_owner_16 : decode cX5_owner 16 = .ok (.invokevirtual 130, 3) := by decide +kernel
theorem dX5_owner_19 : decode cX5_owner 19 = .ok (.goto 4, 3) := by decide +kernel
theorem dX5_owner_22 : decode cX5_owner 22 = .ok (.iconst 0, 1) := by decide +kernel
theorem dX5_owner_23 : decode cX5_owner 23 = .ok (.ireturn, 1) := by decide +kernel
set_option maxRecDepth 20000 in
theorem ggX5_ownerAnew_X5_owner : GoodIn wsX5_ownerAnew wsX5_owner := goodIn_r _ [5, 6, 7, 8, 4, 9, 10, 11, 12, 13, 14, 15, 16, 17, 18, 19, 20, 21, 22, 23, 24, 25, 26, 27, 28, 29, 30, 31, 32, 33, 34, 35, 36, 37, 38, 39, 40, 41, 42, 43, 44, 45, 46, 47, 48, 49, 50, 51, 52, 53, 54, 55, 56, 57, 58, 59, 60, 61, 62, 63, 64, 65, 66, 67, 68, 69, 70, 71, 72, 73, 74, 75, 76, 77, 78, 79, 80, 81, 82, 83] (by decide +kernel) (by decide +kernel)
set_option maxRecDepth 20000 in
theorem gX5_ownerAnew_X5_owner : GoodIn wsX5_ownerAnew (wsV RX5 133 RX5 yX5_owner wsX5_owner) := goodIn_app (goodIn_of _ (by decide +kernel)) ggX5_ownerAnew_X5_owner
theorem dX5_ownerAnew_0 : decode cX5_ownerAnew 0 = .ok (.aload_n 0, 1) := by decide +kernel
theorem dX5_ownerAnew_1 : decode cX5_ownerAnew 1 = .ok (.iload_n 1, 1) := by decide +kernel
theorem dX5_ownerAnew_2 : decode cX5_ownerAnew 2 = .ok (.invokevirtual 133, 3) := by decide +kernel
theorem dX5_ownerAnew_5 : decode cX5_ownerAnew 5 = .ok (.ireturn, 1) := by decide +kernel
set_option maxRecDepth 20000 in
theorem ggX5_asks_X5_isPerson : GoodIn wsX5_asks wsX5_isPerson := goodIn_r _ [6, 7, 8, 9, 5, 10, 64, 65, 66, 67, 68, 69, 70, 71, 72, 73, 74, 75, 76, 77, 78, 79, 80, 81, 82, 83, 84] (by decide +kernel) (by decide +kernel)
set_option maxRecDepth 20000 in
theorem gX5_asks_X5_isPerson : GoodIn wsX5_asks (wsV RX5 84 RX5 yX5_isPerson wsX5_isPerson) := goodIn_app (goodIn_of _ (by decide +kernel)) ggX5_asks_X5_isPerson
set_option maxRecDepth 20000 in
theorem ggX5_asks_X5_goes : GoodIn wsX5_asks wsX5_goes := goodIn_r _ [14, 15, 64, 65, 66, 67, 68, 69, 70, 71, 72, 73, 74, 75, 76, 77, 78, 79, 80, 81, 82, 83, 84] (by decide +kernel) (by decide +kernel)
set_option maxRecDepth 20000 in
theorem gX5_asks_X5_goes : GoodIn wsX5_asks (wsV RX5 80 RX5 yX5_goes wsX5_goes) := goodIn_app (goodIn_of _ (by decide +kernel)) ggX5_asks_X5_goes
set_option maxRecDepth 20000 in
theorem ggX5_asks_X5_ownerOf : GoodIn wsX5_asks wsX5_ownerOf := goodIn_r _ [19, 20, 21, 22, 23, 24, 25, 26, 27, 28, 29, 30, 31, 5, 32, 33, 34, 35, 36, 37, 38, 39, 40, 41, 42, 43, 44, 45, 8, 9, 10, 46, 47, 48, 49, 50, 51, 52, 53, 54, 55, 56, 57, 58, 59, 64, 65, 66, 67, 68, 69, 70, 71, 72, 73, 74, 75, 76, 77, 78, 79, 80, 81, 82, 83, 84] (by decide +kernel) (by decide +kernel)
set_option maxRecDepth 20000 in
theorem gX5_asks_X5_ownerOf : GoodIn wsX5_asks (wsV RX5 130 RX5 yX5_ownerOf wsX5_ownerOf) := goodIn_app (goodIn_of _ (by decide +kernel)) ggX5_asks_X5_ownerOf
set_option maxRecDepth 20000 in
theorem ggX5_asks_X5_holderOf : GoodIn wsX5_asks wsX5_holderOf := goodIn_r _ [63, 20, 21, 29, 30, 31, 5, 32, 33, 22, 64, 65, 66, 67, 68, 69, 70, 71, 72, 73, 74, 75, 76, 77, 78, 79, 80, 81, 82, 83, 84] (by decide +kernel) (by decide +kernel)
set_option maxRecDepth 20000 in
theorem gX5_asks_X5_holderOf : GoodIn wsX5_asks (wsV RX5 127 RX5 yX5_holderOf wsX5_holderOf) := goodIn_app (goodIn_of _ (by decide +kernel)) ggX5_asks_X5_holderOf
theorem dX5_asks_0 : decode cX5_asks 0 = .ok (.aload_n 0, 1) := by decide +kernel
theorem dX5_asks_1 : decode cX5_asks 1 = .ok (.aload_n 0, 1) := by decide +kernel
theorem dX5_asks_2 : decode cX5_asks 2 = .ok (.iload_n 1, 1) := by decide +kernel
theorem dX5_asks_3 : decode cX5_asks 3 = .ok (.invokevirtual 84, 3) := by decide +kernel
theorem dX5_asks_6 : decode cX5_asks 6 = .ok (.iconst 1, 1) := by decide +kernel
theorem dX5_asks_7 : decode cX5_asks 7 = .ok (.iconst 1, 1) := by decide +kernel
theorem dX5_asks_8 : decode cX5_asks 8 = .ok (.invokevirtual 80, 3) := by decide +kernel
theorem dX5_asks_11 : decode cX5_asks 11 = .ok (.ifCond .ne 5, 3) := by decide +kernel
theorem dX5_asks_14 : decode cX5_asks 14 = .ok (.iconst 0, 1) := by decide +kernel
theorem dX5_asks_15 : decode cX5_asks 15 = .ok (.ireturn, 1) := by decide +kernel
theorem dX5_asks_16 : decode cX5_asks 16 = .ok (.iconst 0, 1) := by decide +kernel
theorem dX5_asks_17 : decode cX5_asks 17 = .ok (.istore_n 2, 1) := by decide +kernel
theorem dX5_asks_18 : decode cX5_asks 18 = .ok (.iconst 0, 1) := by decide +kernel
theorem dX5_asks_19 : decode cX5_asks 19 = .ok (.istore_n 3, 1) := by decide +kernel
theorem dX5_asks_20 : decode cX5_asks 20 = .ok (.iload_n 3, 1) := by decide +kernel
theorem dX5_asks_21 : decode cX5_asks 21 = .ok (.aload_n 0, 1) := by decide +kernel
theorem dX5_asks_22 : decode cX5_asks 22 = .ok (.getfield 73, 3) := by decide +kernel
theorem dX5_asks_25 : decode cX5_asks 25 = .ok (.if_icmp .ge 35, 3) := by decide +kernel
theorem dX5_asks_28 : decode cX5_asks 28 = .ok (.iload_n 2, 1) := by decide +kernel
theorem dX5_asks_29 : decode cX5_asks 29 = .ok (.aload_n 0, 1) := by decide +kernel
theorem dX5_asks_30 : decode cX5_asks 30 = .ok (.iload_n 3, 1) := by decide +kernel
theorem dX5_asks_31 : decode cX5_asks 31 = .ok (.invokevirtual 130, 3) := by decide +kernel
theorem dX5_asks_34 : decode cX5_asks 34 = .ok (.iload_n 1, 1) := by decide +kernel
theorem dX5_asks_35 : decode cX5_asks 35 = .ok (.if_icmp .ne 16, 3) := by decide +kernel
theorem dX5_asks_38 : decode cX5_asks 38 = .ok (.aload_n 0, 1) := by decide +kernel
theorem dX5_asks_39 : decode cX5_asks 39 = .ok (.iload_n 3, 1) := by decide +kernel
theorem dX5_asks_40 : decode cX5_asks 40 = .ok (.invokevirtual 127, 3) := by decide +kernel
theorem dX5_asks_43 : decode cX5_asks 43 = .ok (.iload_n 1, 1) := by decide +kernel
theorem dX5_asks_44 : decode cX5_asks 44 = .ok (.if_icmp .eq 7, 3) := by decide +kernel
theorem dX5_asks_47 : decode cX5_asks 47 = .ok (.iconst 1, 1) := by decide +kernel
theorem dX5_asks_48 : decode cX5_asks 48 = .ok (.goto 4, 3) := by decide +kernel
theorem dX5_asks_51 : decode cX5_asks 51 = .ok (.iconst 0, 1) := by decide +kernel
theorem dX5_asks_52 : decode cX5_asks 52 = .ok (.iadd, 1) := by decide +kernel
theorem dX5_asks_53 : decode cX5_asks 53 = .ok (.istore_n 2, 1) := by decide +kernel
theorem dX5_asks_54 : decode cX5_asks 54 = .ok (.iinc 3 1, 3) := by decide +kernel
theorem dX5_asks_57 : decode cX5_asks 57 = .ok (.goto (-37), 3) := by decide +kernel
theorem dX5_asks_60 : decode cX5_asks 60 = .ok (.iload_n 2, 1) := by decide +kernel
theorem dX5_asks_61 : decode cX5_asks 61 = .ok (.ireturn, 1) := by decide +kernel
theorem dJ6_bitCount_0f7a4_0 : decode cJ6_bitCount_0f7a4 0 = .ok (.iload_n 0, 1) := by decide +kernel
theorem dJ6_bitCount_0f7a4_1 : decode cJ6_bitCount_0f7a4 1 = .ok (.iload_n 0, 1) := by decide +kernel
theorem dJ6_bitCount_0f7a4_2 : decode cJ6_bitCount_0f7a4 2 = .ok (.iconst 1, 1) := by decide +kernel
theorem dJ6_bitCount_0f7a4_3 : decode cJ6_bitCount_0f7a4 3 = .ok (.iushr, 1) := by decide +kernel
theorem dJ6_bitCount_0f7a4_4 : decode cJ6_bitCount_0f7a4 4 = .ok (.ldc_w 265, 3) := by decide +kernel
theorem dJ6_bitCount_0f7a4_7 : decode cJ6_bitCount_0f7a4 7 = .ok (.iand, 1) := by decide +kernel
theorem dJ6_bitCount_0f7a4_8 : decode cJ6_bitCount_0f7a4 8 = .ok (.isub, 1) := by decide +kernel
theorem dJ6_bitCount_0f7a4_9 : decode cJ6_bitCount_0f7a4 9 = .ok (.istore_n 0, 1) := by decide +kernel
theorem dJ6_bitCount_0f7a4_10 : decode cJ6_bitCount_0f7a4 10 = .ok (.iload_n 0, 1) := by decide +kernel
theorem dJ6_bitCount_0f7a4_11 : decode cJ6_bitCount_0f7a4 11 = .ok (.ldc_w 266, 3) := by decide +kernel
theorem dJ6_bitCount_0f7a4_14 : decode cJ6_bitCount_0f7a4 14 = .ok (.iand, 1) := by decide +kernel
theorem dJ6_bitCount_0f7a4_15 : decode cJ6_bitCount_0f7a4 15 = .ok (.iload_n 0, 1) := by decide +kernel
theorem dJ6_bitCount_0f7a4_16 : decode cJ6_bitCount_0f7a4 16 = .ok (.iconst 2, 1) := by decide +kernel
theorem dJ6_bitCount_0f7a4_17 : decode cJ6_bitCount_0f7a4 17 = .ok (.iushr, 1) := by decide +kernel
theorem dJ6_bitCount_0f7a4_18 : decode cJ6_bitCount_0f7a4 18 = .ok (.ldc_w 266, 3) := by decide +kernel
theorem dJ6_bitCount_0f7a4_21 : decode cJ6_bitCount_0f7a4 21 = .ok (.iand, 1) := by decide +kernel
theorem dJ6_bitCount_0f7a4_22 : decode cJ6_bitCount_0f7a4 22 = .ok (.iadd, 1) := by decide +kernel
theorem dJ6_bitCount_0f7a4_23 : decode cJ6_bitCount_0f7a4 23 = .ok (.istore_n 0, 1) := by decide +kernel
theorem dJ6_bitCount_0f7a4_24 : decode cJ6_bitCount_0f7a4 24 = .ok (.iload_n 0, 1) := by decide +kernel
theorem dJ6_bitCount_0f7a4_25 : decode cJ6_bitCount_0f7a4 25 = .ok (.iload_n 0, 1) := by decide +kernel
theorem dJ6_bitCount_0f7a4_26 : decode cJ6_bitCount_0f7a4 26 = .ok (.iconst 4, 1) := by decide +kernel
theorem dJ6_bitCount_0f7a4_27 : decode cJ6_bitCount_0f7a4 27 = .ok (.iushr, 1) := by decide +kernel
theorem dJ6_bitCount_0f7a4_28 : decode cJ6_bitCount_0f7a4 28 = .ok (.iadd, 1) := by decide +kernel
theorem dJ6_bitCount_0f7a4_29 : decode cJ6_bitCount_0f7a4 29 = .ok (.ldc_w 267, 3) := by decide +kernel
theorem dJ6_bitCount_0f7a4_32 : decode cJ6_bitCount_0f7a4 32 = .ok (.iand, 1) := by decide +kernel
theorem dJ6_bitCount_0f7a4_33 : decode cJ6_bitCount_0f7a4 33 = .ok (.istore_n 0, 1) := by decide +kernel
theorem dJ6_bitCount_0f7a4_34 : decode cJ6_bitCount_0f7a4 34 = .ok (.iload_n 0, 1) := by decide +kernel
theorem dJ6_bitCount_0f7a4_35 : decode cJ6_bitCount_0f7a4 35 = .ok (.iload_n 0, 1) := by decide +kernel
theorem dJ6_bitCount_0f7a4_36 : decode cJ6_bitCount_0f7a4 36 = .ok (.bipush 8, 2) := by decide +kernel
theorem dJ6_bitCount_0f7a4_38 : decode cJ6_bitCount_0f7a4 38 = .ok (.iushr, 1) := by decide +kernel
theorem dJ6_bitCount_0f7a4_39 : decode cJ6_bitCount_0f7a4 39 = .ok (.iadd, 1) := by decide +kernel
theorem dJ6_bitCount_0f7a4_40 : decode cJ6_bitCount_0f7a4 40 = .ok (.istore_n 0, 1) := by decide +kernel
theorem dJ6_bitCount_0f7a4_41 : decode cJ6_bitCount_0f7a4 41 = .ok (.iload_n 0, 1) := by decide +kernel
theorem dJ6_bitCount_0f7a4_42 : decode cJ6_bitCount_0f7a4 42 = .ok (.iload_n 0, 1) := by decide +kernel
theorem dJ6_bitCount_0f7a4_43 : decode cJ6_bitCount_0f7a4 43 = .ok (.bipush 16, 2) := by decide +kernel
theorem dJ6_bitCount_0f7a4_45 : decode cJ6_bitCount_0f7a4 45 = .ok (.iushr, 1) := by decide +kernel
theorem dJ6_bitCount_0f7a4_46 : decode cJ6_bitCount_0f7a4 46 = .ok (.iadd, 1) := by decide +kernel
theorem dJ6_bitCount_0f7a4_47 : decode cJ6_bitCount_0f7a4 47 = .ok (.istore_n 0, 1) := by decide +kernel
theorem dJ6_bitCount_0f7a4_48 : decode cJ6_bitCount_0f7a4 48 = .ok (.iload_n 0, 1) := by decide +kernel
theorem dJ6_bitCount_0f7a4_49 : decode cJ6_bitCount_0f7a4 49 = .ok (.bipush 63, 2) := by decide +kernel
theorem dJ6_bitCount_0f7a4_51 : decode cJ6_bitCount_0f7a4 51 = .ok (.iand, 1) := by decide +kernel
theorem dJ6_bitCount_0f7a4_52 : decode cJ6_bitCount_0f7a4 52 = .ok (.ireturn, 1) := by decide +kernel
theorem dJ9_abs_0f7a4_0 : decode cJ9_abs_0f7a4 0 = .ok (.iload_n 0, 1) := by decide +kernel
theorem dJ9_abs_0f7a4_1 : decode cJ9_abs_0f7a4 1 = .ok (.ifCond .ge 8, 3) := by decide +kernel
theorem dJ9_abs_0f7a4_4 : decode cJ9_abs_0f7a4 4 = .ok (.iload_n 0, 1) := by decide +kernel
theorem dJ9_abs_0f7a4_5 : decode cJ9_abs_0f7a4 5 = .ok (.ineg, 1) := by decide +kernel
theorem dJ9_abs_0f7a4_6 : decode cJ9_abs_0f7a4 6 = .ok (.goto 4, 3) := by decide +kernel
theorem dJ9_abs_0f7a4_9 : decode cJ9_abs_0f7a4 9 = .ok (.iload_n 0, 1) := by decide +kernel
theorem dJ9_abs_0f7a4_10 : decode cJ9_abs_0f7a4 10 = .ok (.ireturn, 1) := by decide +kernel
set_option maxRecDepth 20000 in
theorem ggL_person_X4_person : GoodIn wsL_person wsX4_person := goodIn_ca (goodIn_ca (goodIn_r _ [7, 8, 9, 10, 11, 12, 13, 14, 15, 16, 6, 17, 18, 19, 20, 21, 22, 23, 24, 25, 26, 27, 28, 29, 30, 31, 32, 33, 34, 35, 36, 37, 38, 39, 40, 41, 42, 43] (by decide +kernel) (by decide +kernel)) (goodIn_sub (fun _ h => List.mem_cons_of_mem _ (List.mem_append_left _ (List.mem_append_right _ h))) (by decide +kernel))) (goodIn_sub (fun _ h => List.mem_cons_of_mem _ (List.mem_append_right _ h)) (by decide +kernel))
set_option maxRecDepth 20000 in
theorem gL_person_X4_person : GoodIn wsL_person (wsV RL 7 RX4 yX4_person wsX4_person) := goodIn_app (goodIn_of _ (by decide +kernel)) ggL_person_X4_person
theorem dL_person_0 : decode cL_person 0 = .ok (.aload_n 2, 1) := by decide +kernel
theorem dL_person_1 : decode cL_person 1 = .ok (.iconst 0, 1) := by decide +kernel
theorem dL_person_2 : decode cL_person 2 = .ok (.aload_n 0, 1) := by decide +kernel
theorem dL_person_3 : decode cL_person 3 = .ok (.iload_n 1, 1) := by decide +kernel
theorem dL_person_4 : decode cL_person 4 = .ok (.invokevirtual 7, 3) := by decide +kernel
theorem dL_person_7 : decode cL_person 7 = .ok (.i2l, 1) := by decide +kernel
theorem dL_person_8 : decode cL_person 8 = .ok (.lastore, 1) := by decide +kernel
theorem dL_person_9 : decode cL_person 9 = .ok (.goto 9, 3) := by decide +kernel
theorem dL_person_12 : decode cL_person 12 = .ok (.astore_n 3, 1) := by decide +kernel
theorem dL_person_13 : decode cL_person 13 = .ok (.iconst 1, 1) := by decide +kernel
theorem dL_person_14 : decode cL_person 14 = .ok (.ireturn, 1) := by decide +kernel
theorem dL_person_15 : decode cL_person 15 = .ok (.astore_n 3, 1) := by decide +kernel
theorem dL_person_16 : decode cL_person 16 = .ok (.iconst 2, 1) := by decide +kernel
theorem dL_person_17 : decode cL_person 17 = .ok (.ireturn, 1) := by decide +kernel
theorem dL_person_18 : decode cL_person 18 = .ok (.iconst 0, 1) := by decide +kernel
theorem dL_person_19 : decode cL_person 19 = .ok (.ireturn, 1) := by decide +kernel
set_option maxRecDepth 20000 in
theorem ggL_die_X4_die : GoodIn wsL_die wsX4_die := goodIn_ca (goodIn_ca (goodIn_r _ [7, 8, 9, 10, 11, 12, 13, 6, 14, 15, 16, 17, 18, 19, 20, 21, 22, 23, 24, 25, 26, 27, 28, 29, 30, 31] (by decide +kernel) (by decide +kernel)) (goodIn_sub (fun _ h => List.mem_cons_of_mem _ (List.mem_append_left _ (List.mem_append_right _ h))) (by decide +kernel))) (goodIn_sub (fun _ h => List.mem_cons_of_mem _ (List.mem_append_right _ h)) (by decide +kernel))
set_option maxRecDepth 20000 in
theorem gL_die_X4_die : GoodIn wsL_die (wsV RL 17 RX4 yX4_die wsX4_die) := goodIn_app (goodIn_of _ (by decide +kernel)) ggL_die_X4_die
theorem dL_die_0 : decode cL_die 0 = .ok (.aload_n 0, 1) := by decide +kernel
theorem dL_die_1 : decode cL_die 1 = .ok (.iload_n 1, 1) := by decide +kernel
theorem dL_die_2 : decode cL_die 2 = .ok (.invokevirtual 17, 3) := by decide +kernel
theorem dL_die_5 : decode cL_die 5 = .ok (.goto 9, 3) := by decide +kernel
theorem dL_die_8 : decode cL_die 8 = .ok (.astore_n 2, 1) := by decide +kernel
theorem dL_die_9 : decode cL_die 9 = .ok (.iconst 1, 1) := by decide +kernel
theorem dL_die_10 : decode cL_die 10 = .ok (.ireturn, 1) := by decide +kernel
theorem dL_die_11 : decode cL_die 11 = .ok (.astore_n 2, 1) := by decide +kernel
theorem dL_die_12 : decode cL_die 12 = .ok (.iconst 2, 1) := by decide +kernel
theorem dL_die_13 : decode cL_die 13 = .ok (.ireturn, 1) := by decide +kernel
theorem dL_die_14 : decode cL_die 14 = .ok (.iconst 0, 1) := by decide +kernel
theorem dL_die_15 : decode cL_die 15 = .ok (.ireturn, 1) := by decide +kernel
set_option maxRecDepth 20000 in
theorem ggL_heir_X4_heir : GoodIn wsL_heir wsX4_heir := goodIn_ca (goodIn_ca (goodIn_ca (goodIn_r _ [8, 9, 10, 11, 12, 13, 14, 15, 16, 17, 7, 18, 19, 20, 21, 22, 23, 24, 25, 26, 27, 28, 29, 30, 31, 32, 33, 34, 35, 36, 37, 38, 39, 40, 41] (by decide +kernel) (by decide +kernel)) (goodIn_sub (fun _ h => List.mem_cons_of_mem _ (List.mem_append_left _ (List.mem_append_left _ (List.mem_append_right _ h)))) (by decide +kernel))) (goodIn_sub (fun _ h => List.mem_cons_of_mem _ (List.mem_append_left _ (List.mem_append_right _ h))) (by decide +kernel))) (goodIn_sub (fun _ h => List.mem_cons_of_mem _ (List.mem_append_right _ h)) (by decide +kernel))
set_option maxRecDepth 20000 in
theorem gL_heir_X4_heir : GoodIn wsL_heir (wsV RL 21 RX4 yX4_heir wsX4_heir) := goodIn_app (goodIn_of _ (by decide +kernel)) ggL_heir_X4_heir
theorem dL_heir_0 : decode cL_heir 0 = .ok (.aload_n 3, 1) := by decide +kernel
theorem dL_heir_1 : decode cL_heir 1 = .ok (.iconst 0, 1) := by decide +kernel
theorem dL_heir_2 : decode cL_heir 2 = .ok (.aload_n 0, 1) := by decide +kernel
theorem dL_heir_3 : decode cL_heir 3 = .ok (.iload_n 1, 1) := by decide +kernel
theorem dL_heir_4 : decode cL_heir 4 = .ok (.iload_n 2, 1) := by decide +kernel
theorem dL_heir_5 : decode cL_heir 5 = .ok (.invokevirtual 21, 3) := by decide +kernel
theorem dL_heir_8 : decode cL_heir 8 = .ok (.i2l, 1) := by decide +kernel
theorem dL_heir_9 : decode cL_heir 9 = .ok (.lastore, 1) := by decide +kernel
theorem dL_heir_10 : decode cL_heir 10 = .ok (.goto 15, 3) := by decide +kernel
theorem dL_heir_13 : decode cL_heir 13 = .ok (.astore 4, 2) := by decide +kernel
theorem dL_heir_15 : decode cL_heir 15 = .ok (.iconst 1, 1) := by decide +kernel
theorem dL_heir_16 : decode cL_heir 16 = .ok (.ireturn, 1) := by decide +kernel
theorem dL_heir_17 : decode cL_heir 17 = .ok (.astore 4, 2) := by decide +kernel
theorem dL_heir_19 : decode cL_heir 19 = .ok (.iconst 2, 1) := by decide +kernel
theorem dL_heir_20 : decode cL_heir 20 = .ok (.ireturn, 1) := by decide +kernel
theorem dL_heir_21 : decode cL_heir 21 = .ok (.astore 4, 2) := by decide +kernel
theorem dL_heir_23 : decode cL_heir 23 = .ok (.iconst 3, 1) := by decide +kernel
theorem dL_heir_24 : decode cL_heir 24 = .ok (.ireturn, 1) := by decide +kernel
theorem dL_heir_25 : decode cL_heir 25 = .ok (.iconst 0, 1) := by decide +kernel
theorem dL_heir_26 : decode cL_heir 26 = .ok (.ireturn, 1) := by decide +kernel
set_option maxRecDepth 20000 in
theorem ggL_persecution_X4_persecution : GoodIn wsL_persecution wsX4_persecution := goodIn_ca (goodIn_ca (goodIn_ca (goodIn_r _ [8, 9, 10, 11, 12, 13, 14, 15, 16, 17, 7, 18, 19, 20, 21, 22, 23, 24, 25, 26, 27, 28, 29, 30, 31, 32, 33, 34, 35, 36, 37, 38, 39, 40, 41, 42, 43, 44, 45, 46, 47, 48, 49, 50] (by decide +kernel) (by decide +kernel)) (goodIn_sub (fun _ h => List.mem_cons_of_mem _ (List.mem_append_left _ (List.mem_append_left _ (List.mem_append_right _ h)))) (by decide +kernel))) (goodIn_sub (fun _ h => List.mem_cons_of_mem _ (List.mem_append_left _ (List.mem_append_right _ h))) (by decide +kernel))) (goodIn_sub (fun _ h => List.mem_cons_of_mem _ (List.mem_append_right _ h)) (by decide +kernel))
set_option maxRecDepth 20000 in
theorem gL_persecution_X4_persecution : GoodIn wsL_persecution (wsV RL 27 RX4 yX4_persecution wsX4_persecution) := goodIn_app (goodIn_of _ (by decide +kernel)) ggL_persecution_X4_persecution
theorem dL_persecution_0 : decode cL_persecution 0 = .ok (.aload 5, 2) := by decide +kernel
theorem dL_persecution_2 : decode cL_persecution 2 = .ok (.iconst 0, 1) := by decide +kernel
theorem dL_persecution_3 : decode cL_persecution 3 = .ok (.aload_n 0, 1) := by decide +kernel
theorem dL_persecution_4 : decode cL_persecution 4 = .ok (.iload_n 1, 1) := by decide +kernel
theorem dL_persecution_5 : decode cL_persecution 5 = .ok (.iload_n 2, 1) := by decide +kernel
theorem dL_persecution_6 : decode cL_persecution 6 = .ok (.iload_n 3, 1) := by decide +kernel
theorem dL_persecution_7 : decode cL_persecution 7 = .ok (.iload 4, 2) := by decide +kernel
theorem dL_persecution_9 : decode cL_persecution 9 = .ok (.invokevirtual 27, 3) := by decide +kernel
theorem dL_persecution_12 : decode cL_persecution 12 = .ok (.i2l, 1) := by decide +kernel
theorem dL_persecution_13 : decode cL_persecution 13 = .ok (.lastore, 1) := by decide +kernel
theorem dL_persecution_14 : decode cL_persecution 14 = .ok (.goto 15, 3) := by decide +kernel
theorem dL_persecution_17 : decode cL_persecution 17 = .ok (.astore 6, 2) := by decide +kernel
theorem dL_persecution_19 : decode cL_persecution 19 = .ok (.iconst 1, 1) := by decide +kernel
theorem dL_persecution_20 : decode cL_persecution 20 = .ok (.ireturn, 1) := by decide +kernel
theorem dL_persecution_21 : decode cL_persecution 21 = .ok (.astore 6, 2) := by decide +kernel
theorem dL_persecution_23 : decode cL_persecution 23 = .ok (.iconst 2, 1) := by decide +kernel
theorem dL_persecution_24 : decode cL_persecution 24 = .ok (.ireturn, 1) := by decide +kernel
theorem dL_persecution_25 : decode cL_persecution 25 = .ok (.astore 6, 2) := by decide +kernel
theorem dL_persecution_27 : decode cL_persecution 27 = .ok (.iconst 3, 1) := by decide +kernel
theorem dL_persecution_28 : decode cL_persecution 28 = .ok (.ireturn, 1) := by decide +kernel
theorem dL_persecution_29 : decode cL_persecution 29 = .ok (.iconst 0, 1) := by decide +kernel
theorem dL_persecution_30 : decode cL_persecution 30 = .ok (.ireturn, 1) := by decide +kernel
set_option maxRecDepth 20000 in
theorem ggL_faith_X4_faith : GoodIn wsL_faith wsX4_faith := goodIn_ca (goodIn_ca (goodIn_r _ [7, 8, 9, 10, 6, 11, 12, 13, 14, 15, 16, 17, 18, 19, 20, 21, 22, 23, 24, 25, 26] (by decide +kernel) (by decide +kernel)) (goodIn_sub (fun _ h => List.mem_cons_of_mem _ (List.mem_append_left _ (List.mem_append_right _ h))) (by decide +kernel))) (goodIn_sub (fun _ h => List.mem_cons_of_mem _ (List.mem_append_right _ h)) (by decide +kernel))
set_option maxRecDepth 20000 in
theorem gL_faith_X4_faith : GoodIn wsL_faith (wsV RL 31 RX4 yX4_faith wsX4_faith) := goodIn_app (goodIn_of _ (by decide +kernel)) ggL_faith_X4_faith
theorem dL_faith_0 : decode cL_faith 0 = .ok (.aload_n 3, 1) := by decide +kernel
theorem dL_faith_1 : decode cL_faith 1 = .ok (.iconst 0, 1) := by decide +kernel
theorem dL_faith_2 : decode cL_faith 2 = .ok (.aload_n 0, 1) := by decide +kernel
theorem dL_faith_3 : decode cL_faith 3 = .ok (.iload_n 1, 1) := by decide +kernel
theorem dL_faith_4 : decode cL_faith 4 = .ok (.iload_n 2, 1) := by decide +kernel
theorem dL_faith_5 : decode cL_faith 5 = .ok (.invokevirtual 31, 3) := by decide +kernel
theorem dL_faith_8 : decode cL_faith 8 = .ok (.i2l, 1) := by decide +kernel
theorem dL_faith_9 : decode cL_faith 9 = .ok (.lastore, 1) := by decide +kernel
theorem dL_faith_10 : decode cL_faith 10 = .ok (.goto 11, 3) := by decide +kernel
theorem dL_faith_13 : decode cL_faith 13 = .ok (.astore 4, 2) := by decide +kernel
theorem dL_faith_15 : decode cL_faith 15 = .ok (.iconst 1, 1) := by decide +kernel
theorem dL_faith_16 : decode cL_faith 16 = .ok (.ireturn, 1) := by decide +kernel
theorem dL_faith_17 : decode cL_faith 17 = .ok (.astore 4, 2) := by decide +kernel
theorem dL_faith_19 : decode cL_faith 19 = .ok (.iconst 2, 1) := by decide +kernel
theorem dL_faith_20 : decode cL_faith 20 = .ok (.ireturn, 1) := by decide +kernel
theorem dL_faith_21 : decode cL_faith 21 = .ok (.iconst 0, 1) := by decide +kernel
theorem dL_faith_22 : decode cL_faith 22 = .ok (.ireturn, 1) := by decide +kernel
set_option maxRecDepth 20000 in
theorem ggL_now_X4_now : GoodIn wsL_now wsX4_now := goodIn_ca (goodIn_r _ [6, 7, 8, 9, 5, 10, 11, 12, 13, 14, 15, 16, 17, 18, 19, 20] (by decide +kernel) (by decide +kernel)) (goodIn_sub (fun _ h => List.mem_cons_of_mem _ (List.mem_append_right _ h)) (by decide +kernel))
set_option maxRecDepth 20000 in
theorem gL_now_X4_now : GoodIn wsL_now (wsV RL 34 RX4 yX4_now wsX4_now) := goodIn_app (goodIn_of _ (by decide +kernel)) ggL_now_X4_now
theorem dL_now_0 : decode cL_now 0 = .ok (.aload_n 2, 1) := by decide +kernel
theorem dL_now_1 : decode cL_now 1 = .ok (.iconst 0, 1) := by decide +kernel
theorem dL_now_2 : decode cL_now 2 = .ok (.aload_n 0, 1) := by decide +kernel
theorem dL_now_3 : decode cL_now 3 = .ok (.iload_n 1, 1) := by decide +kernel
theorem dL_now_4 : decode cL_now 4 = .ok (.invokevirtual 34, 3) := by decide +kernel
theorem dL_now_7 : decode cL_now 7 = .ok (.i2l, 1) := by decide +kernel
theorem dL_now_8 : decode cL_now 8 = .ok (.lastore, 1) := by decide +kernel
theorem dL_now_9 : decode cL_now 9 = .ok (.goto 6, 3) := by decide +kernel
theorem dL_now_12 : decode cL_now 12 = .ok (.astore_n 3, 1) := by decide +kernel
theorem dL_now_13 : decode cL_now 13 = .ok (.iconst 1, 1) := by decide +kernel
theorem dL_now_14 : decode cL_now 14 = .ok (.ireturn, 1) := by decide +kernel
theorem dL_now_15 : decode cL_now 15 = .ok (.iconst 0, 1) := by decide +kernel
theorem dL_now_16 : decode cL_now 16 = .ok (.ireturn, 1) := by decide +kernel
set_option maxRecDepth 20000 in
theorem ggL_thing_X4_thing : GoodIn wsL_thing wsX4_thing := goodIn_ca (goodIn_ca (goodIn_r _ [7, 8, 9, 10, 11, 12, 13, 14, 15, 16, 17, 6, 18, 19, 20, 21, 22, 23, 24, 25, 26, 27, 28, 29, 30, 31, 32, 33, 34, 35, 36, 37, 38, 39, 40, 41, 42, 43, 44] (by decide +kernel) (by decide +kernel)) (goodIn_sub (fun _ h => List.mem_cons_of_mem _ (List.mem_append_left _ (List.mem_append_right _ h))) (by decide +kernel))) (goodIn_sub (fun _ h => List.mem_cons_of_mem _ (List.mem_append_right _ h)) (by decide +kernel))
set_option maxRecDepth 20000 in
theorem gL_thing_X4_thing : GoodIn wsL_thing (wsV RL 37 RX4 yX4_thing wsX4_thing) := goodIn_app (goodIn_of _ (by decide +kernel)) ggL_thing_X4_thing
theorem dL_thing_0 : decode cL_thing 0 = .ok (.aload_n 3, 1) := by decide +kernel
theorem dL_thing_1 : decode cL_thing 1 = .ok (.iconst 0, 1) := by decide +kernel
theorem dL_thing_2 : decode cL_thing 2 = .ok (.aload_n 0, 1) := by decide +kernel
theorem dL_thing_3 : decode cL_thing 3 = .ok (.iload_n 1, 1) := by decide +kernel
theorem dL_thing_4 : decode cL_thing 4 = .ok (.iload_n 2, 1) := by decide +kernel
theorem dL_thing_5 : decode cL_thing 5 = .ok (.invokevirtual 37, 3) := by decide +kernel
theorem dL_thing_8 : decode cL_thing 8 = .ok (.i2l, 1) := by decide +kernel
theorem dL_thing_9 : decode cL_thing 9 = .ok (.lastore, 1) := by decide +kernel
theorem dL_thing_10 : decode cL_thing 10 = .ok (.goto 11, 3) := by decide +kernel
theorem dL_thing_13 : decode cL_thing 13 = .ok (.astore 4, 2) := by decide +kernel
theorem dL_thing_15 : decode cL_thing 15 = .ok (.iconst 1, 1) := by decide +kernel
theorem dL_thing_16 : decode cL_thing 16 = .ok (.ireturn, 1) := by decide +kernel
theorem dL_thing_17 : decode cL_thing 17 = .ok (.astore 4, 2) := by decide +kernel
theorem dL_thing_19 : decode cL_thing 19 = .ok (.iconst 2, 1) := by decide +kernel
theorem dL_thing_20 : decode cL_thing 20 = .ok (.ireturn, 1) := by decide +kernel
theorem dL_thing_21 : decode cL_thing 21 = .ok (.iconst 0, 1) := by decide +kernel
theorem dL_thing_22 : decode cL_thing 22 = .ok (.ireturn, 1) := by decide +kernel
set_option maxRecDepth 20000 in
theorem ggL_mark_X4_mark : GoodIn wsL_mark wsX4_mark := goodIn_ca (goodIn_ca (goodIn_r _ [7, 8, 9, 10, 11, 6, 12, 13, 14, 15, 16, 17, 18, 19, 20, 21, 22, 23, 24, 25, 26, 27, 28, 29, 30, 31, 32, 33, 34] (by decide +kernel) (by decide +kernel)) (goodIn_sub (fun _ h => List.mem_cons_of_mem _ (List.mem_append_left _ (List.mem_append_right _ h))) (by decide +kernel))) (goodIn_sub (fun _ h => List.mem_cons_of_mem _ (List.mem_append_right _ h)) (by decide +kernel))
set_option maxRecDepth 20000 in
theorem gL_mark_X4_mark : GoodIn wsL_mark (wsV RL 40 RX4 yX4_mark wsX4_mark) := goodIn_app (goodIn_of _ (by decide +kernel)) ggL_mark_X4_mark
theorem dL_mark_0 : decode cL_mark 0 = .ok (.aload 4, 2) := by decide +kernel
theorem dL_mark_2 : decode cL_mark 2 = .ok (.iconst 0, 1) := by decide +kernel
theorem dL_mark_3 : decode cL_mark 3 = .ok (.aload_n 0, 1) := by decide +kernel
theorem dL_mark_4 : decode cL_mark 4 = .ok (.iload_n 1, 1) := by decide +kernel
theorem dL_mark_5 : decode cL_mark 5 = .ok (.iload_n 2, 1) := by decide +kernel
theorem dL_mark_6 : decode cL_mark 6 = .ok (.iload_n 3, 1) := by decide +kernel
theorem dL_mark_7 : decode cL_mark 7 = .ok (.invokevirtual 40, 3) := by decide +kernel
theorem dL_mark_10 : decode cL_mark 10 = .ok (.ifCond .eq 7, 3) := by decide +kernel
theorem dL_mark_13 : decode cL_mark 13 = .ok (.lconst 1, 1) := by decide +kernel
theorem dL_mark_14 : decode cL_mark 14 = .ok (.goto 4, 3) := by decide +kernel
theorem dL_mark_17 : decode cL_mark 17 = .ok (.lconst 0, 1) := by decide +kernel
theorem dL_mark_18 : decode cL_mark 18 = .ok (.lastore, 1) := by decide +kernel
theorem dL_mark_19 : decode cL_mark 19 = .ok (.goto 11, 3) := by decide +kernel
theorem dL_mark_22 : decode cL_mark 22 = .ok (.astore 5, 2) := by decide +kernel
theorem dL_mark_24 : decode cL_mark 24 = .ok (.iconst 1, 1) := by decide +kernel
theorem dL_mark_25 : decode cL_mark 25 = .ok (.ireturn, 1) := by decide +kernel
theorem dL_mark_26 : decode cL_mark 26 = .ok (.astore 5, 2) := by decide +kernel
theorem dL_mark_28 : decode cL_mark 28 = .ok (.iconst 2, 1) := by decide +kernel
theorem dL_mark_29 : decode cL_mark 29 = .ok (.ireturn, 1) := by decide +kernel
theorem dL_mark_30 : decode cL_mark 30 = .ok (.iconst 0, 1) := by decide +kernel
theorem dL_mark_31 : decode cL_mark 31 = .ok (.ireturn, 1) := by decide +kernel
set_option maxRecDepth 20000 in
theorem ggL_station_X4_station : GoodIn wsL_station wsX4_station := goodIn_ca (goodIn_ca (goodIn_ca (goodIn_r _ [8, 9, 10, 11, 12, 13, 14, 15, 16, 17, 18, 19, 7, 20, 21, 22, 23, 24, 25, 26, 27, 28, 29, 30, 31, 32, 33, 34, 35, 36, 37, 38, 39, 40, 41, 42, 43, 44, 45, 46, 47, 48, 49, 50, 51, 52, 53, 54, 55, 56, 57, 58, 59, 60, 61, 62, 63, 64, 65, 66, 67, 68, 69, 70, 71, 72, 73, 74, 75, 76, 77, 78, 79, 80] (by decide +kernel) (by decide +kernel)) (goodIn_sub (fun _ h => List.mem_cons_of_mem _ (List.mem_append_left _ (List.mem_append_left _ (List.mem_append_right _ h)))) (by decide +kernel))) (goodIn_sub (fun _ h => List.mem_cons_of_mem _ (List.mem_append_left _ (List.mem_append_right _ h))) (by decide +kernel))) (goodIn_sub (fun _ h => List.mem_cons_of_mem _ (List.mem_append_right _ h)) (by decide +kernel))
set_option maxRecDepth 20000 in
theorem gL_station_X4_station : GoodIn wsL_station (wsV RL 44 RX4 yX4_station wsX4_station) := goodIn_app (goodIn_of _ (by decide +kernel)) ggL_station_X4_station
theorem dL_station_0 : decode cL_station 0 = .ok (.aload 6, 2) := by decide +kernel
theorem dL_station_2 : decode cL_station 2 = .ok (.iconst 0, 1) := by decide +kernel
theorem dL_station_3 : decode cL_station 3 = .ok (.aload_n 0, 1) := by decide +kernel
theorem dL_station_4 : decode cL_station 4 = .ok (.iload_n 1, 1) := by decide +kernel
theorem dL_station_5 : decode cL_station 5 = .ok (.iload_n 2, 1) := by decide +kernel
theorem dL_station_6 : decode cL_station 6 = .ok (.iload_n 3, 1) := by decide +kernel
theorem dL_station_7 : decode cL_station 7 = .ok (.iload 4, 2) := by decide +kernel
theorem dL_station_9 : decode cL_station 9 = .ok (.iload 5, 2) := by decide +kernel
theorem dL_station_11 : decode cL_station 11 = .ok (.invokevirtual 44, 3) := by decide +kernel
theorem dL_station_14 : decode cL_station 14 = .ok (.i2l, 1) := by decide +kernel
theorem dL_station_15 : decode cL_station 15 = .ok (.lastore, 1) := by decide +kernel
theorem dL_station_16 : decode cL_station 16 = .ok (.goto 15, 3) := by decide +kernel
theorem dL_station_19 : decode cL_station 19 = .ok (.astore 7, 2) := by decide +kernel
theorem dL_station_21 : decode cL_station 21 = .ok (.iconst 1, 1) := by decide +kernel
theorem dL_station_22 : decode cL_station 22 = .ok (.ireturn, 1) := by decide +kernel
theorem dL_station_23 : decode cL_station 23 = .ok (.astore 7, 2) := by decide +kernel
theorem dL_station_25 : decode cL_station 25 = .ok (.iconst 2, 1) := by decide +kernel
theorem dL_station_26 : decode cL_station 26 = .ok (.ireturn, 1) := by decide +kernel
theorem dL_station_27 : decode cL_station 27 = .ok (.astore 7, 2) := by decide +kernel
theorem dL_station_29 : decode cL_station 29 = .ok (.iconst 3, 1) := by decide +kernel
theorem dL_station_30 : decode cL_station 30 = .ok (.ireturn, 1) := by decide +kernel
theorem dL_station_31 : decode cL_station 31 = .ok (.iconst 0, 1) := by decide +kernel
theorem dL_station_32 : decode cL_station 32 = .ok (.ireturn, 1) := by decide +kernel
set_option maxRecDepth 20000 in
theorem ggL_rebut_X4_rebut : GoodIn wsL_rebut wsX4_rebut := goodIn_ca (goodIn_ca (goodIn_r _ [7, 8, 9, 10, 11, 12, 13, 14, 6, 15, 16, 17, 18, 19, 20, 21, 22, 23, 24, 25, 26, 27, 28, 29, 30, 31, 32, 33, 34, 35, 36, 37, 38, 39, 40, 41, 42, 43, 44, 45, 46] (by decide +kernel) (by decide +kernel)) (goodIn_sub (fun _ h => List.mem_cons_of_mem _ (List.mem_append_left _ (List.mem_append_right _ h))) (by decide +kernel))) (goodIn_sub (fun _ h => List.mem_cons_of_mem _ (List.mem_append_right _ h)) (by decide +kernel))
set_option maxRecDepth 20000 in
theorem gL_rebut_X4_rebut : GoodIn wsL_rebut (wsV RL 48 RX4 yX4_rebut wsX4_rebut) := goodIn_app (goodIn_of _ (by decide +kernel)) ggL_rebut_X4_rebut
theorem dL_rebut_0 : decode cL_rebut 0 = .ok (.aload 4, 2) := by decide +kernel
theorem dL_rebut_2 : decode cL_rebut 2 = .ok (.iconst 0, 1) := by decide +kernel
theorem dL_rebut_3 : decode cL_rebut 3 = .ok (.aload_n 0, 1) := by decide +kernel
theorem dL_rebut_4 : decode cL_rebut 4 = .ok (.iload_n 1, 1) := by decide +kernel
theorem dL_rebut_5 : decode cL_rebut 5 = .ok (.iload_n 2, 1) := by decide +kernel
theorem dL_rebut_6 : decode cL_rebut 6 = .ok (.iload_n 3, 1) := by decide +kernel
theorem dL_rebut_7 : decode cL_rebut 7 = .ok (.invokevirtual 48, 3) := by decide +kernel
theorem dL_rebut_10 : decode cL_rebut 10 = .ok (.ifCond .eq 7, 3) := by decide +kernel
theorem dL_rebut_13 : decode cL_rebut 13 = .ok (.lconst 1, 1) := by decide +kernel
theorem dL_rebut_14 : decode cL_rebut 14 = .ok (.goto 4, 3) := by decide +kernel
theorem dL_rebut_17 : decode cL_rebut 17 = .ok (.lconst 0, 1) := by decide +kernel
theorem dL_rebut_18 : decode cL_rebut 18 = .ok (.lastore, 1) := by decide +kernel
theorem dL_rebut_19 : decode cL_rebut 19 = .ok (.goto 11, 3) := by decide +kernel
theorem dL_rebut_22 : decode cL_rebut 22 = .ok (.astore 5, 2) := by decide +kernel
theorem dL_rebut_24 : decode cL_rebut 24 = .ok (.iconst 1, 1) := by decide +kernel
theorem dL_rebut_25 : decode cL_rebut 25 = .ok (.ireturn, 1) := by decide +kernel
theorem dL_rebut_26 : decode cL_rebut 26 = .ok (.astore 5, 2) := by decide +kernel
theorem dL_rebut_28 : decode cL_rebut 28 = .ok (.iconst 2, 1) := by decide +kernel
theorem dL_rebut_29 : decode cL_rebut 29 = .ok (.ireturn, 1) := by decide +kernel
theorem dL_rebut_30 : decode cL_rebut 30 = .ok (.iconst 0, 1) := by decide +kernel
theorem dL_rebut_31 : decode cL_rebut 31 = .ok (.ireturn, 1) := by decide +kernel
set_option maxRecDepth 20000 in
theorem ggL_settle_X4_settle : GoodIn wsL_settle wsX4_settle := goodIn_ca (goodIn_r _ [6, 7, 8, 9, 10, 5, 11, 12, 13, 14, 15, 16, 17, 18, 19, 20, 21, 22, 23, 24, 25, 26, 27, 28, 29, 30, 31, 32, 33, 34, 35, 36, 37, 38, 39, 40, 41, 42] (by decide +kernel) (by decide +kernel)) (goodIn_sub (fun _ h => List.mem_cons_of_mem _ (List.mem_append_right _ h)) (by decide +kernel))
set_option maxRecDepth 20000 in
theorem gL_settle_X4_settle : GoodIn wsL_settle (wsV RL 51 RX4 yX4_settle wsX4_settle) := goodIn_app (goodIn_of _ (by decide +kernel)) ggL_settle_X4_settle
theorem dL_settle_0 : decode cL_settle 0 = .ok (.aload 4, 2) := by decide +kernel
theorem dL_settle_2 : decode cL_settle 2 = .ok (.iconst 0, 1) := by decide +kernel
theorem dL_settle_3 : decode cL_settle 3 = .ok (.aload_n 0, 1) := by decide +kernel
theorem dL_settle_4 : decode cL_settle 4 = .ok (.iload_n 1, 1) := by decide +kernel
theorem dL_settle_5 : decode cL_settle 5 = .ok (.iload_n 2, 1) := by decide +kernel
theorem dL_settle_6 : decode cL_settle 6 = .ok (.iload_n 3, 1) := by decide +kernel
theorem dL_settle_7 : decode cL_settle 7 = .ok (.invokevirtual 51, 3) := by decide +kernel
theorem dL_settle_10 : decode cL_settle 10 = .ok (.ifCond .eq 7, 3) := by decide +kernel
theorem dL_settle_13 : decode cL_settle 13 = .ok (.lconst 1, 1) := by decide +kernel
theorem dL_settle_14 : decode cL_settle 14 = .ok (.goto 4, 3) := by decide +kernel
theorem dL_settle_17 : decode cL_settle 17 = .ok (.lconst 0, 1) := by decide +kernel
theorem dL_settle_18 : decode cL_settle 18 = .ok (.lastore, 1) := by decide +kernel
theorem dL_settle_19 : decode cL_settle 19 = .ok (.goto 7, 3) := by decide +kernel
theorem dL_settle_22 : decode cL_settle 22 = .ok (.astore 5, 2) := by decide +kernel
theorem dL_settle_24 : decode cL_settle 24 = .ok (.iconst 1, 1) := by decide +kernel
theorem dL_settle_25 : decode cL_settle 25 = .ok (.ireturn, 1) := by decide +kernel
theorem dL_settle_26 : decode cL_settle 26 = .ok (.iconst 0, 1) := by decide +kernel
theorem dL_settle_27 : decode cL_settle 27 = .ok (.ireturn, 1) := by decide +kernel
set_option maxRecDepth 20000 in
theorem ggL_isPersecuted_X4_isPersecuted : GoodIn wsL_isPersecuted wsX4_isPersecuted := goodIn_ca (goodIn_ca (goodIn_r _ [7, 8, 9, 10, 6, 11, 12, 13, 14, 15, 16, 17, 18, 19, 20, 21, 22, 23, 24, 25, 26, 27, 28, 29, 30, 31, 32, 33, 34, 35, 36, 37, 38, 39, 40, 41, 42, 43, 44, 45, 46, 47, 48, 49, 50, 51, 52, 53, 54, 55] (by decide +kernel) (by decide +kernel)) (goodIn_sub (fun _ h => List.mem_cons_of_mem _ (List.mem_append_left _ (List.mem_append_right _ h))) (by decide +kernel))) (goodIn_sub (fun _ h => List.mem_cons_of_mem _ (List.mem_append_right _ h)) (by decide +kernel))
set_option maxRecDepth 20000 in
theorem gL_isPersecuted_X4_isPersecuted : GoodIn wsL_isPersecuted (wsV RL 54 RX4 yX4_isPersecuted wsX4_isPersecuted) := goodIn_app (goodIn_of _ (by decide +kernel)) ggL_isPersecuted_X4_isPersecuted
theorem dL_isPersecuted_0 : decode cL_isPersecuted 0 = .ok (.aload 4, 2) := by decide +kernel
theorem dL_isPersecuted_2 : decode cL_isPersecuted 2 = .ok (.iconst 0, 1) := by decide +kernel
theorem dL_isPersecuted_3 : decode cL_isPersecuted 3 = .ok (.aload_n 0, 1) := by decide +kernel
theorem dL_isPersecuted_4 : decode cL_isPersecuted 4 = .ok (.iload_n 1, 1) := by decide +kernel
theorem dL_isPersecuted_5 : decode cL_isPersecuted 5 = .ok (.iload_n 2, 1) := by decide +kernel
theorem dL_isPersecuted_6 : decode cL_isPersecuted 6 = .ok (.iload_n 3, 1) := by decide +kernel
theorem dL_isPersecuted_7 : decode cL_isPersecuted 7 = .ok (.invokevirtual 54, 3) := by decide +kernel
theorem dL_isPersecuted_10 : decode cL_isPersecuted 10 = .ok (.ifCond .eq 7, 3) := by decide +kernel
theorem dL_isPersecuted_13 : decode cL_isPersecuted 13 = .ok (.lconst 1, 1) := by decide +kernel
theorem dL_isPersecuted_14 : decode cL_isPersecuted 14 = .ok (.goto 4, 3) := by decide +kernel
theorem dL_isPersecuted_17 : decode cL_isPersecuted 17 = .ok (.lconst 0, 1) := by decide +kernel
theorem dL_isPersecuted_18 : decode cL_isPersecuted 18 = .ok (.lastore, 1) := by decide +kernel
theorem dL_isPersecuted_19 : decode cL_isPersecuted 19 = .ok (.goto 11, 3) := by decide +kernel
theorem dL_isPersecuted_22 : decode cL_isPersecuted 22 = .ok (.astore 5, 2) := by decide +kernel
theorem dL_isPersecuted_24 : decode cL_isPersecuted 24 = .ok (.iconst 1, 1) := by decide +kernel
theorem dL_isPersecuted_25 : decode cL_isPersecuted 25 = .ok (.ireturn, 1) := by decide +kernel
theorem dL_isPersecuted_26 : decode cL_isPersecuted 26 = .ok (.astore 5, 2) := by decide +kernel
theorem dL_isPersecuted_28 : decode cL_isPersecuted 28 = .ok (.iconst 2, 1) := by decide +kernel
theorem dL_isPersecuted_29 : decode cL_isPersecuted 29 = .ok (.ireturn, 1) := by decide +kernel
theorem dL_isPersecuted_30 : decode cL_isPersecuted 30 = .ok (.iconst 0, 1) := by decide +kernel
theorem dL_isPersecuted_31 : decode cL_isPersecuted 31 = .ok (.ireturn, 1) := by decide +kernel
set_option maxRecDepth 20000 in
theorem ggL_heirOf_X4_heirOf : GoodIn wsL_heirOf wsX4_heirOf := goodIn_ca (goodIn_r _ [6, 7, 8, 9, 5, 10, 11, 12, 13, 14, 15, 16, 17, 18, 19, 20, 21, 22, 23, 24, 25, 26, 27, 28, 29, 30, 31, 32, 33, 34, 35, 36, 37, 38, 39] (by decide +kernel) (by decide +kernel)) (goodIn_sub (fun _ h => List.mem_cons_of_mem _ (List.mem_append_right _ h)) (by decide +kernel))
set_option maxRecDepth 20000 in
theorem gL_heirOf_X4_heirOf : GoodIn wsL_heirOf (wsV RL 58 RX4 yX4_heirOf wsX4_heirOf) := goodIn_app (goodIn_of _ (by decide +kernel)) ggL_heirOf_X4_heirOf
theorem dL_heirOf_0 : decode cL_heirOf 0 = .ok (.aload_n 2, 1) := by decide +kernel
theorem dL_heirOf_1 : decode cL_heirOf 1 = .ok (.iconst 0, 1) := by decide +kernel
theorem dL_heirOf_2 : decode cL_heirOf 2 = .ok (.aload_n 0, 1) := by decide +kernel
theorem dL_heirOf_3 : decode cL_heirOf 3 = .ok (.iload_n 1, 1) := by decide +kernel
theorem dL_heirOf_4 : decode cL_heirOf 4 = .ok (.invokevirtual 58, 3) := by decide +kernel
theorem dL_heirOf_7 : decode cL_heirOf 7 = .ok (.i2l, 1) := by decide +kernel
theorem dL_heirOf_8 : decode cL_heirOf 8 = .ok (.lastore, 1) := by decide +kernel
theorem dL_heirOf_9 : decode cL_heirOf 9 = .ok (.goto 6, 3) := by decide +kernel
theorem dL_heirOf_12 : decode cL_heirOf 12 = .ok (.astore_n 3, 1) := by decide +kernel
theorem dL_heirOf_13 : decode cL_heirOf 13 = .ok (.iconst 1, 1) := by decide +kernel
theorem dL_heirOf_14 : decode cL_heirOf 14 = .ok (.ireturn, 1) := by decide +kernel
theorem dL_heirOf_15 : decode cL_heirOf 15 = .ok (.iconst 0, 1) := by decide +kernel
theorem dL_heirOf_16 : decode cL_heirOf 16 = .ok (.ireturn, 1) := by decide +kernel
set_option maxRecDepth 20000 in
theorem ggL_likeness_X4_likeness : GoodIn wsL_likeness wsX4_likeness := goodIn_ca (goodIn_r _ [6, 7, 8, 9, 5, 10, 11, 12, 13, 14, 15, 16, 17, 18, 19, 20, 21, 22, 23, 24, 25, 26, 27, 28, 29, 30, 31, 32, 33, 34, 35, 36, 37, 38, 39, 40, 41, 42, 43, 44, 45] (by decide +kernel) (by decide +kernel)) (goodIn_sub (fun _ h => List.mem_cons_of_mem _ (List.mem_append_right _ h)) (by decide +kernel))
set_option maxRecDepth 20000 in
theorem gL_likeness_X4_likeness : GoodIn wsL_likeness (wsV RL 61 RX4 yX4_likeness wsX4_likeness) := goodIn_app (goodIn_of _ (by decide +kernel)) ggL_likeness_X4_likeness
theorem dL_likeness_0 : decode cL_likeness 0 = .ok (.aload_n 3, 1) := by decide +kernel
theorem dL_likeness_1 : decode cL_likeness 1 = .ok (.iconst 0, 1) := by decide +kernel
theorem dL_likeness_2 : decode cL_likeness 2 = .ok (.aload_n 0, 1) := by decide +kernel
theorem dL_likeness_3 : decode cL_likeness 3 = .ok (.iload_n 1, 1) := by decide +kernel
theorem dL_likeness_4 : decode cL_likeness 4 = .ok (.iload_n 2, 1) := by decide +kernel
theorem dL_likeness_5 : decode cL_likeness 5 = .ok (.invokevirtual 61, 3) := by decide +kernel
theorem dL_likeness_8 : decode cL_likeness 8 = .ok (.i2l, 1) := by decide +kernel
theorem dL_likeness_9 : decode cL_likeness 9 = .ok (.lastore, 1) := by decide +kernel
theorem dL_likeness_10 : decode cL_likeness 10 = .ok (.goto 7, 3) := by decide +kernel
theorem dL_likeness_13 : decode cL_likeness 13 = .ok (.astore 4, 2) := by decide +kernel
theorem dL_likeness_15 : decode cL_likeness 15 = .ok (.iconst 1, 1) := by decide +kernel
theorem dL_likeness_16 : decode cL_likeness 16 = .ok (.ireturn, 1) := by decide +kernel
theorem dL_likeness_17 : decode cL_likeness 17 = .ok (.iconst 0, 1) := by decide +kernel
theorem dL_likeness_18 : decode cL_likeness 18 = .ok (.ireturn, 1) := by decide +kernel
set_option maxRecDepth 20000 in
theorem ggL_likest_X4_likest : GoodIn wsL_likest wsX4_likest := goodIn_ca (goodIn_r _ [6, 7, 8, 9, 10, 5, 11, 12, 13, 14, 15, 16, 17, 18, 19, 20, 21, 22, 23, 24, 25, 26, 27, 28, 29, 30, 31, 32, 33, 34, 35, 36, 37, 38, 39, 40, 41, 42, 43, 44, 45] (by decide +kernel) (by decide +kernel)) (goodIn_sub (fun _ h => List.mem_cons_of_mem _ (List.mem_append_right _ h)) (by decide +kernel))
set_option maxRecDepth 20000 in
theorem gL_likest_X4_likest : GoodIn wsL_likest (wsV RL 64 RX4 yX4_likest wsX4_likest) := goodIn_app (goodIn_of _ (by decide +kernel)) ggL_likest_X4_likest
theorem dL_likest_0 : decode cL_likest 0 = .ok (.aload_n 2, 1) := by decide +kernel
theorem dL_likest_1 : decode cL_likest 1 = .ok (.iconst 0, 1) := by decide +kernel
theorem dL_likest_2 : decode cL_likest 2 = .ok (.aload_n 0, 1) := by decide +kernel
theorem dL_likest_3 : decode cL_likest 3 = .ok (.iload_n 1, 1) := by decide +kernel
theorem dL_likest_4 : decode cL_likest 4 = .ok (.invokevirtual 64, 3) := by decide +kernel
theorem dL_likest_7 : decode cL_likest 7 = .ok (.i2l, 1) := by decide +kernel
theorem dL_likest_8 : decode cL_likest 8 = .ok (.lastore, 1) := by decide +kernel
theorem dL_likest_9 : decode cL_likest 9 = .ok (.goto 6, 3) := by decide +kernel
theorem dL_likest_12 : decode cL_likest 12 = .ok (.astore_n 3, 1) := by decide +kernel
theorem dL_likest_13 : decode cL_likest 13 = .ok (.iconst 1, 1) := by decide +kernel
theorem dL_likest_14 : decode cL_likest 14 = .ok (.ireturn, 1) := by decide +kernel
theorem dL_likest_15 : decode cL_likest 15 = .ok (.iconst 0, 1) := by decide +kernel
theorem dL_likest_16 : decode cL_likest 16 = .ok (.ireturn, 1) := by decide +kernel
set_option maxRecDepth 20000 in
theorem ggL_stationAt_X4_stationAt : GoodIn wsL_stationAt wsX4_stationAt := goodIn_ca (goodIn_r _ [6, 7, 8, 9, 10, 11, 12, 13, 14, 5, 15, 16, 17, 18, 19, 20, 21, 22, 23, 24, 25, 26, 27, 28, 29, 30, 31, 32, 33, 34, 35, 36, 37, 38, 39] (by decide +kernel) (by decide +kernel)) (goodIn_sub (fun _ h => List.mem_cons_of_mem _ (List.mem_append_right _ h)) (by decide +kernel))
set_option maxRecDepth 20000 in
theorem gL_stationAt_X4_stationAt : GoodIn wsL_stationAt (wsV RL 67 RX4 yX4_stationAt wsX4_stationAt) := goodIn_app (goodIn_of _ (by decide +kernel)) ggL_stationAt_X4_stationAt
theorem dL_stationAt_0 : decode cL_stationAt 0 = .ok (.aload_n 3, 1) := by decide +kernel
theorem dL_stationAt_1 : decode cL_stationAt 1 = .ok (.iconst 0, 1) := by decide +kernel
theorem dL_stationAt_2 : decode cL_stationAt 2 = .ok (.aload_n 0, 1) := by decide +kernel
theorem dL_stationAt_3 : decode cL_stationAt 3 = .ok (.iload_n 1, 1) := by decide +kernel
theorem dL_stationAt_4 : decode cL_stationAt 4 = .ok (.iload_n 2, 1) := by decide +kernel
theorem dL_stationAt_5 : decode cL_stationAt 5 = .ok (.invokevirtual 67, 3) := by decide +kernel
theorem dL_stationAt_8 : decode cL_stationAt 8 = .ok (.i2l, 1) := by decide +kernel
theorem dL_stationAt_9 : decode cL_stationAt 9 = .ok (.lastore, 1) := by decide +kernel
theorem dL_stationAt_10 : decode cL_stationAt 10 = .ok (.goto 7, 3) := by decide +kernel
theorem dL_stationAt_13 : decode cL_stationAt 13 = .ok (.astore 4, 2) := by decide +kernel
theorem dL_stationAt_15 : decode cL_stationAt 15 = .ok (.iconst 1, 1) := by decide +kernel
theorem dL_stationAt_16 : decode cL_stationAt 16 = .ok (.ireturn, 1) := by decide +kernel
theorem dL_stationAt_17 : decode cL_stationAt 17 = .ok (.iconst 0, 1) := by decide +kernel
theorem dL_stationAt_18 : decode cL_stationAt 18 = .ok (.ireturn, 1) := by decide +kernel
set_option maxRecDepth 20000 in
theorem ggL_isLoss_X4_isLoss : GoodIn wsL_isLoss wsX4_isLoss := goodIn_ca (goodIn_r _ [6, 7, 8, 9, 5, 10, 11, 12, 13, 14, 15, 16, 17, 18, 19, 20, 21, 22, 23, 24, 25, 26, 27, 28, 29, 30, 31, 32, 33, 34, 35, 36, 37, 38, 39, 40, 41, 42, 43, 44, 45, 46, 47, 48, 49, 50, 51, 52, 53, 54, 55, 56, 57, 58, 59, 60, 61, 62, 63, 64, 65, 66, 67, 68, 69, 70, 71, 72, 73, 74, 75, 76] (by decide +kernel) (by decide +kernel)) (goodIn_sub (fun _ h => List.mem_cons_of_mem _ (List.mem_append_right _ h)) (by decide +kernel))
set_option maxRecDepth 20000 in
theorem gL_isLoss_X4_isLoss : GoodIn wsL_isLoss (wsV RL 70 RX4 yX4_isLoss wsX4_isLoss) := goodIn_app (goodIn_of _ (by decide +kernel)) ggL_isLoss_X4_isLoss
theorem dL_isLoss_0 : decode cL_isLoss 0 = .ok (.aload_n 3, 1) := by decide +kernel
theorem dL_isLoss_1 : decode cL_isLoss 1 = .ok (.iconst 0, 1) := by decide +kernel
theorem dL_isLoss_2 : decode cL_isLoss 2 = .ok (.aload_n 0, 1) := by decide +kernel
theorem dL_isLoss_3 : decode cL_isLoss 3 = .ok (.iload_n 1, 1) := by decide +kernel
theorem dL_isLoss_4 : decode cL_isLoss 4 = .ok (.iload_n 2, 1) := by decide +kernel
theorem dL_isLoss_5 : decode cL_isLoss 5 = .ok (.invokevirtual 70, 3) := by decide +kernel
theorem dL_isLoss_8 : decode cL_isLoss 8 = .ok (.ifCond .eq 7, 3) := by decide +kernel
theorem dL_isLoss_11 : decode cL_isLoss 11 = .ok (.lconst 1, 1) := by decide +kernel
theorem dL_isLoss_12 : decode cL_isLoss 12 = .ok (.goto 4, 3) := by decide +kernel
theorem dL_isLoss_15 : decode cL_isLoss 15 = .ok (.lconst 0, 1) := by decide +kernel
theorem dL_isLoss_16 : decode cL_isLoss 16 = .ok (.lastore, 1) := by decide +kernel
theorem dL_isLoss_17 : decode cL_isLoss 17 = .ok (.goto 7, 3) := by decide +kernel
theorem dL_isLoss_20 : decode cL_isLoss 20 = .ok (.astore 4, 2) := by decide +kernel
theorem dL_isLoss_22 : decode cL_isLoss 22 = .ok (.iconst 1, 1) := by decide +kernel
theorem dL_isLoss_23 : decode cL_isLoss 23 = .ok (.ireturn, 1) := by decide +kernel
theorem dL_isLoss_24 : decode cL_isLoss 24 = .ok (.iconst 0, 1) := by decide +kernel
theorem dL_isLoss_25 : decode cL_isLoss 25 = .ok (.ireturn, 1) := by decide +kernel
set_option maxRecDepth 20000 in
theorem ggL_holder_X4_holder : GoodIn wsL_holder wsX4_holder := goodIn_ca (goodIn_r _ [6, 7, 8, 9, 5, 10, 11, 12, 13, 14, 15, 16, 17, 18, 19, 20, 21, 22, 23, 24, 25, 26, 27, 28, 29, 30, 31, 32, 33, 34, 35, 36, 37, 38, 39, 40, 41, 42, 43, 44, 45, 46, 47, 48, 49, 50, 51, 52, 53] (by decide +kernel) (by decide +kernel)) (goodIn_sub (fun _ h => List.mem_cons_of_mem _ (List.mem_append_right _ h)) (by decide +kernel))
set_option maxRecDepth 20000 in
theorem gL_holder_X4_holder : GoodIn wsL_holder (wsV RL 74 RX4 yX4_holder wsX4_holder) := goodIn_app (goodIn_of _ (by decide +kernel)) ggL_holder_X4_holder
theorem dL_holder_0 : decode cL_holder 0 = .ok (.aload_n 2, 1) := by decide +kernel
theorem dL_holder_1 : decode cL_holder 1 = .ok (.iconst 0, 1) := by decide +kernel
theorem dL_holder_2 : decode cL_holder 2 = .ok (.aload_n 0, 1) := by decide +kernel
theorem dL_holder_3 : decode cL_holder 3 = .ok (.iload_n 1, 1) := by decide +kernel
theorem dL_holder_4 : decode cL_holder 4 = .ok (.invokevirtual 74, 3) := by decide +kernel
theorem dL_holder_7 : decode cL_holder 7 = .ok (.i2l, 1) := by decide +kernel
theorem dL_holder_8 : decode cL_holder 8 = .ok (.lastore, 1) := by decide +kernel
theorem dL_holder_9 : decode cL_holder 9 = .ok (.goto 6, 3) := by decide +kernel
theorem dL_holder_12 : decode cL_holder 12 = .ok (.astore_n 3, 1) := by decide +kernel
theorem dL_holder_13 : decode cL_holder 13 = .ok (.iconst 1, 1) := by decide +kernel
theorem dL_holder_14 : decode cL_holder 14 = .ok (.ireturn, 1) := by decide +kernel
theorem dL_holder_15 : decode cL_holder 15 = .ok (.iconst 0, 1) := by decide +kernel
theorem dL_holder_16 : decode cL_holder 16 = .ok (.ireturn, 1) := by decide +kernel
set_option maxRecDepth 20000 in
theorem ggL_owner_X4_owner : GoodIn wsL_owner wsX4_owner := goodIn_ca (goodIn_r _ [6, 7, 8, 9, 5, 10, 11, 12, 13, 14, 15, 16, 17, 18, 19, 20, 21, 22, 23, 24, 25, 26, 27, 28, 29, 30, 31, 32, 33, 34, 35, 36, 37, 38, 39, 40, 41, 42, 43, 44, 45, 46, 47, 48, 49, 50, 51, 52, 53, 54, 55, 56, 57, 58, 59, 60, 61, 62, 63, 64, 65, 66, 67, 68, 69, 70, 71, 72, 73, 74, 75, 76, 77, 78, 79, 80, 81, 82, 83, 84, 85, 86, 87, 88, 89, 90, 91, 92, 93, 94, 95, 96, 97, 98, 99, 100] (by decide +kernel) (by decide +kernel)) (goodIn_sub (fun _ h => List.mem_cons_of_mem _ (List.mem_append_right _ h)) (by decide +kernel))
set_option maxRecDepth 20000 in
theorem gL_owner_X4_owner : GoodIn wsL_owner (wsV RL 77 RX4 yX4_owner wsX4_owner) := goodIn_app (goodIn_of _ (by decide +kernel)) ggL_owner_X4_owner
theorem dL_owner_0 : decode cL_owner 0 = .ok (.aload_n 2, 1) := by decide +kernel
theorem dL_owner_1 : decode cL_owner 1 = .ok (.iconst 0, 1) := by decide +kernel
theorem dL_owner_2 : decode cL_owner 2 = .ok (.aload_n 0, 1) := by decide +kernel
theorem dL_owner_3 : decode cL_owner 3 = .ok (.iload_n 1, 1) := by decide +kernel
theorem dL_owner_4 : decode cL_owner 4 = .ok (.invokevirtual 77, 3) := by decide +kernel
theorem dL_owner_7 : decode cL_owner 7 = .ok (.i2l, 1) := by decide +kernel
theorem dL_owner_8 : decode cL_owner 8 = .ok (.lastore, 1) := by decide +kernel
theorem dL_owner_9 : decode cL_owner 9 = .ok (.goto 6, 3) := by decide +kernel
theorem dL_owner_12 : decode cL_owner 12 = .ok (.astore_n 3, 1) := by decide +kernel
theorem dL_owner_13 : decode cL_owner 13 = .ok (.iconst 1, 1) := by decide +kernel
theorem dL_owner_14 : decode cL_owner 14 = .ok (.ireturn, 1) := by decide +kernel
theorem dL_owner_15 : decode cL_owner 15 = .ok (.iconst 0, 1) := by decide +kernel
theorem dL_owner_16 : decode cL_owner 16 = .ok (.ireturn, 1) := by decide +kernel
set_option maxRecDepth 20000 in
theorem ggL_ownerAnew_X4_ownerAnew : GoodIn wsL_ownerAnew wsX4_ownerAnew := goodIn_ca (goodIn_r _ [6, 7, 8, 9, 5, 10, 11, 12, 13, 14, 15, 16, 17, 18, 19, 20, 21, 22, 23, 24, 25, 26, 27, 28, 29, 30, 31, 32, 33, 34, 35, 36, 37, 38, 39, 40, 41, 42, 43, 44, 45, 46, 47, 48, 49, 50, 51, 52, 53, 54, 55, 56, 57, 58, 59, 60, 61, 62, 63, 64, 65, 66, 67, 68, 69, 70, 71, 72, 73, 74, 75, 76, 77, 78, 79, 80, 81, 82, 83, 84, 85, 86, 87, 88, 89, 90, 91, 92, 93, 94, 95, 96, 97] (by decide +kernel) (by decide +kernel)) (goodIn_sub (fun _ h => List.mem_cons_of_mem _ (List.mem_append_right _ h)) (by decide +kernel))
set_option maxRecDepth 20000 in
theorem gL_ownerAnew_X4_ownerAnew : GoodIn wsL_ownerAnew (wsV RL 80 RX4 yX4_ownerAnew wsX4_ownerAnew) := goodIn_app (goodIn_of _ (by decide +kernel)) ggL_ownerAnew_X4_ownerAnew
theorem dL_ownerAnew_0 : decode cL_ownerAnew 0 = .ok (.aload_n 2, 1) := by decide +kernel
theorem dL_ownerAnew_1 : decode cL_ownerAnew 1 = .ok (.iconst 0, 1) := by decide +kernel
theorem dL_ownerAnew_2 : decode cL_ownerAnew 2 = .ok (.aload_n 0, 1) := by decide +kernel
theorem dL_ownerAnew_3 : decode cL_ownerAnew 3 = .ok (.iload_n 1, 1) := by decide +kernel
theorem dL_ownerAnew_4 : decode cL_ownerAnew 4 = .ok (.invokevirtual 80, 3) := by decide +kernel
theorem dL_ownerAnew_7 : decode cL_ownerAnew 7 = .ok (.i2l, 1) := by decide +kernel
theorem dL_ownerAnew_8 : decode cL_ownerAnew 8 = .ok (.lastore, 1) := by decide +kernel
theorem dL_ownerAnew_9 : decode cL_ownerAnew 9 = .ok (.goto 6, 3) := by decide +kernel
theorem dL_ownerAnew_12 : decode cL_ownerAnew 12 = .ok (.astore_n 3, 1) := by decide +kernel
theorem dL_ownerAnew_13 : decode cL_ownerAnew 13 = .ok (.iconst 1, 1) := by decide +kernel
theorem dL_ownerAnew_14 : decode cL_ownerAnew 14 = .ok (.ireturn, 1) := by decide +kernel
theorem dL_ownerAnew_15 : decode cL_ownerAnew 15 = .ok (.iconst 0, 1) := by decide +kernel
theorem dL_ownerAnew_16 : decode cL_ownerAnew 16 = .ok (.ireturn, 1) := by decide +kernel
set_option maxRecDepth 20000 in
theorem ggL_asks_X4_asks : GoodIn wsL_asks wsX4_asks := goodIn_ca (goodIn_r _ [6, 7, 8, 9, 10, 5, 11, 12, 13, 14, 15, 16, 17, 18, 19, 20, 21, 22, 23, 24, 25, 26, 27, 28, 29, 30, 31, 32, 33, 34, 35, 36, 37, 38, 39, 40, 41, 42, 43, 44, 45, 46, 47, 48, 49, 50, 51, 52, 53, 54, 55, 56, 57, 58, 59, 60, 61, 62, 63, 64, 65, 66, 67, 68, 69, 70, 71, 72, 73, 74, 75, 76, 77, 78, 79, 80, 81, 82, 83, 84, 85, 86, 87, 88, 89, 90, 91, 92, 93, 94, 95, 96, 97, 98, 99, 100, 101, 102, 103, 104] (by decide +kernel) (by decide +kernel)) (goodIn_sub (fun _ h => List.mem_cons_of_mem _ (List.mem_append_right _ h)) (by decide +kernel))
set_option maxRecDepth 20000 in
theorem gL_asks_X4_asks : GoodIn wsL_asks (wsV RL 83 RX4 yX4_asks wsX4_asks) := goodIn_app (goodIn_of _ (by decide +kernel)) ggL_asks_X4_asks
theorem dL_asks_0 : decode cL_asks 0 = .ok (.aload_n 2, 1) := by decide +kernel
theorem dL_asks_1 : decode cL_asks 1 = .ok (.iconst 0, 1) := by decide +kernel
theorem dL_asks_2 : decode cL_asks 2 = .ok (.aload_n 0, 1) := by decide +kernel
theorem dL_asks_3 : decode cL_asks 3 = .ok (.iload_n 1, 1) := by decide +kernel
theorem dL_asks_4 : decode cL_asks 4 = .ok (.invokevirtual 83, 3) := by decide +kernel
theorem dL_asks_7 : decode cL_asks 7 = .ok (.i2l, 1) := by decide +kernel
theorem dL_asks_8 : decode cL_asks 8 = .ok (.lastore, 1) := by decide +kernel
theorem dL_asks_9 : decode cL_asks 9 = .ok (.goto 6, 3) := by decide +kernel
theorem dL_asks_12 : decode cL_asks 12 = .ok (.astore_n 3, 1) := by decide +kernel
theorem dL_asks_13 : decode cL_asks 13 = .ok (.iconst 1, 1) := by decide +kernel
theorem dL_asks_14 : decode cL_asks 14 = .ok (.ireturn, 1) := by decide +kernel
theorem dL_asks_15 : decode cL_asks 15 = .ok (.iconst 0, 1) := by decide +kernel
theorem dL_asks_16 : decode cL_asks 16 = .ok (.ireturn, 1) := by decide +kernel
set_option maxRecDepth 20000 in
theorem ggL_law_X4_init : GoodIn wsL_law wsX4_init := goodIn_r _ [9, 10, 11, 12, 13, 14, 15, 16, 17, 18, 19, 20, 21, 517, 518, 519, 520, 521, 522, 523, 524] (by decide +kernel) (by decide +kernel)
set_option maxRecDepth 20000 in
theorem gL_law_X4_init : GoodIn wsL_law (wsX4_init) := ggL_law_X4_init
set_option maxRecDepth 20000 in
theorem ggL_law_X5_init : GoodIn wsL_law wsX5_init := goodIn_r _ [24, 25, 11, 12, 26, 17, 27, 28, 29, 30, 31, 32, 33, 34, 35, 36, 37, 38, 39, 40, 41, 42, 43, 525, 526, 527, 528, 529, 530, 531, 532, 533, 534, 535, 536, 537, 538, 539, 540, 541, 542, 543, 544, 545] (by decide +kernel) (by decide +kernel)
set_option maxRecDepth 20000 in
theorem gL_law_X5_init : GoodIn wsL_law (wsX5_init) := ggL_law_X5_init
set_option maxRecDepth 20000 in
theorem ggL_law_L_person : GoodIn wsL_law wsL_person := goodIn_ca (goodIn_ca (goodIn_r _ [47, 48, 49, 50, 51, 52, 2, 53, 54, 55, 56, 14, 13, 57, 58, 59, 60, 61, 62, 63, 64, 65, 66, 67, 11, 12, 68, 69, 70, 71, 517, 518, 519, 520, 521, 522, 523, 524, 546, 547, 548, 549, 550, 551] (by decide +kernel) (by decide +kernel)) (goodIn_sub (fun _ h => List.mem_append_left _ (List.mem_append_left _ (List.mem_append_right _ h))) (by decide +kernel))) (goodIn_sub (fun _ h => List.mem_append_left _ (List.mem_append_right _ h)) (by decide +kernel))
set_option maxRecDepth 20000 in
theorem gL_law_L_person : GoodIn wsL_law (va_wsS RL 90 yL_person wsL_person) := goodIn_app (goodIn_of _ (by decide +kernel)) ggL_law_L_person
set_option maxRecDepth 20000 in
theorem ggL_law_X5_person : GoodIn wsL_law wsX5_person := goodIn_r _ [75, 76, 27, 77, 78, 5, 79, 80, 81, 82, 83, 84, 525, 526, 527, 528, 529, 530, 531, 532, 533, 534, 535, 536, 537, 538, 539, 540, 541, 542, 543, 544, 545] (by decide +kernel) (by decide +kernel)
set_option maxRecDepth 20000 in
theorem gL_law_X5_person : GoodIn wsL_law (wsV RL 95 RX5 yX5_person wsX5_person) := goodIn_app (goodIn_of _ (by decide +kernel)) ggL_law_X5_person
set_option maxRecDepth 20000 in
theorem ggL_law_X5_thrown : GoodIn wsL_law wsX5_thrown := goodIn_r _ [88, 84, 525, 526, 527, 528, 529, 530, 531, 532, 533, 534, 535, 536, 537, 538, 539, 540, 541, 542, 543, 544, 545] (by decide +kernel) (by decide +kernel)
set_option maxRecDepth 20000 in
theorem gL_law_X5_thrown : GoodIn wsL_law (wsV RL 96 RX5 yX5_thrown wsX5_thrown) := goodIn_app (goodIn_of _ (by decide +kernel)) ggL_law_X5_thrown
set_option maxRecDepth 20000 in
theorem ggL_law_L_die : GoodIn wsL_law wsL_die := goodIn_ca (goodIn_ca (goodIn_r _ [91, 48, 49, 92, 93, 94, 2, 95, 54, 55, 96, 97, 98, 99, 100, 62, 63, 14, 546, 547, 548, 549, 550, 551, 517, 518, 519, 520, 521, 522, 523, 524] (by decide +kernel) (by decide +kernel)) (goodIn_sub (fun _ h => List.mem_append_left _ (List.mem_append_left _ (List.mem_append_right _ h))) (by decide +kernel))) (goodIn_sub (fun _ h => List.mem_append_left _ (List.mem_append_right _ h)) (by decide +kernel))
set_option maxRecDepth 20000 in
theorem gL_law_L_die : GoodIn wsL_law (va_wsS RL 100 yL_die wsL_die) := goodIn_app (goodIn_of _ (by decide +kernel)) ggL_law_L_die
set_option maxRecDepth 20000 in
theorem ggL_law_X5_die : GoodIn wsL_law wsX5_die := goodIn_r _ [104, 29, 105, 106, 107, 5, 108, 76, 77, 78, 79, 80, 81, 82, 83, 84, 525, 526, 527, 528, 529, 530, 531, 532, 533, 534, 535, 536, 537, 538, 539, 540, 541, 542, 543, 544, 545] (by decide +kernel) (by decide +kernel)
set_option maxRecDepth 20000 in
theorem gL_law_X5_die : GoodIn wsL_law (wsV RL 103 RX5 yX5_die wsX5_die) := goodIn_app (goodIn_of _ (by decide +kernel)) ggL_law_X5_die
set_option maxRecDepth 20000 in
theorem ggL_law_L_heir : GoodIn wsL_law wsL_heir := goodIn_ca (goodIn_ca (goodIn_ca (goodIn_r _ [111, 48, 112, 49, 113, 114, 115, 2, 116, 117, 118, 54, 55, 119, 120, 97, 98, 99, 100, 62, 63, 14, 121, 122, 123, 58, 124, 69, 546, 547, 548, 549, 550, 551, 517, 518, 519, 520, 521, 522, 523, 524] (by decide +kernel) (by decide +kernel)) (goodIn_sub (fun _ h => List.mem_append_right _ h) (by decide +kernel))) (goodIn_sub (fun _ h => List.mem_append_left _ (List.mem_append_left _ (List.mem_append_right _ h))) (by decide +kernel))) (goodIn_sub (fun _ h => List.mem_append_left _ (List.mem_append_right _ h)) (by decide +kernel))
set_option maxRecDepth 20000 in
theorem gL_law_L_heir : GoodIn wsL_law (va_wsS RL 104 yL_heir wsL_heir) := goodIn_app (goodIn_of _ (by decide +kernel)) ggL_law_L_heir
set_option maxRecDepth 20000 in
theorem ggL_law_X5_heir : GoodIn wsL_law wsX5_heir := goodIn_r _ [128, 30, 31, 105, 106, 107, 5, 108, 76, 77, 78, 79, 129, 130, 131, 132, 80, 81, 82, 83, 84, 525, 526, 527, 528, 529, 530, 531, 532, 533, 534, 535, 536, 537, 538, 539, 540, 541, 542, 543, 544, 545] (by decide +kernel) (by decide +kernel)
set_option maxRecDepth 20000 in
theorem gL_law_X5_heir : GoodIn wsL_law (wsV RL 107 RX5 yX5_heir wsX5_heir) := goodIn_app (goodIn_of _ (by decide +kernel)) ggL_law_X5_heir
set_option maxRecDepth 20000 in
theorem ggL_law_L_persecution : GoodIn wsL_law wsL_persecution := goodIn_ca (goodIn_ca (goodIn_ca (goodIn_r _ [135, 48, 112, 49, 136, 137, 138, 2, 139, 54, 55, 140, 16, 15, 141, 142, 59, 60, 61, 62, 63, 143, 144, 145, 146, 147, 148, 117, 118, 149, 150, 151, 152, 11, 12, 153, 154, 155, 156, 517, 518, 519, 520, 521, 522, 523, 524, 552, 553, 554, 555] (by decide +kernel) (by decide +kernel)) (goodIn_sub (fun _ h => List.mem_append_left _ (List.mem_append_left _ (List.mem_append_right _ h))) (by decide +kernel))) (goodIn_sub (fun _ h => List.mem_append_left _ (List.mem_append_right _ h)) (by decide +kernel))) (goodIn_sub (fun _ h => List.mem_append_right _ h) (by decide +kernel))
set_option maxRecDepth 20000 in
theorem gL_law_L_persecution : GoodIn wsL_law (va_wsS RL 108 yL_persecution wsL_persecution) := goodIn_app (goodIn_of _ (by decide +kernel)) ggL_law_L_persecution
set_option maxRecDepth 20000 in
theorem ggL_law_X5_persecution : GoodIn wsL_law wsX5_persecution := goodIn_r _ [160, 161, 32, 77, 78, 5, 79, 162, 163, 164, 80, 81, 82, 83, 84, 525, 526, 527, 528, 529, 530, 531, 532, 533, 534, 535, 536, 537, 538, 539, 540, 541, 542, 543, 544, 545] (by decide +kernel) (by decide +kernel)
set_option maxRecDepth 20000 in
theorem gL_law_X5_persecution : GoodIn wsL_law (wsV RL 111 RX5 yX5_persecution wsX5_persecution) := goodIn_app (goodIn_of _ (by decide +kernel)) ggL_law_X5_persecution
set_option maxRecDepth 20000 in
theorem ggL_law_L_faith : GoodIn wsL_law wsL_faith := goodIn_ca (goodIn_ca (goodIn_r _ [167, 48, 112, 168, 169, 170, 2, 171, 18, 143, 144, 145, 62, 63, 146, 147, 148, 117, 118, 517, 518, 519, 520, 521, 522, 523, 524] (by decide +kernel) (by decide +kernel)) (goodIn_sub (fun _ h => List.mem_append_left _ (List.mem_append_right _ h)) (by decide +kernel))) (goodIn_sub (fun _ h => List.mem_append_right _ h) (by decide +kernel))
set_option maxRecDepth 20000 in
theorem gL_law_L_faith : GoodIn wsL_law (va_wsS RL 112 yL_faith wsL_faith) := goodIn_app (goodIn_of _ (by decide +kernel)) ggL_law_L_faith
set_option maxRecDepth 20000 in
theorem ggL_law_X5_faith : GoodIn wsL_law wsX5_faith := goodIn_r _ [175, 33, 162, 163, 5, 164, 77, 78, 79, 80, 81, 82, 83, 84, 525, 526, 527, 528, 529, 530, 531, 532, 533, 534, 535, 536, 537, 538, 539, 540, 541, 542, 543, 544, 545] (by decide +kernel) (by decide +kernel)
set_option maxRecDepth 20000 in
theorem gL_law_X5_faith : GoodIn wsL_law (wsV RL 114 RX5 yX5_faith wsX5_faith) := goodIn_app (goodIn_of _ (by decide +kernel)) ggL_law_X5_faith
set_option maxRecDepth 20000 in
theorem ggL_law_L_now : GoodIn wsL_law wsL_now := goodIn_ca (goodIn_r _ [178, 112, 179, 180, 181, 2, 182, 19, 146, 147, 148, 117, 118, 517, 518, 519, 520, 521, 522, 523, 524] (by decide +kernel) (by decide +kernel)) (goodIn_sub (fun _ h => List.mem_append_right _ h) (by decide +kernel))
set_option maxRecDepth 20000 in
theorem gL_law_L_now : GoodIn wsL_law (va_wsS RL 115 yL_now wsL_now) := goodIn_app (goodIn_of _ (by decide +kernel)) ggL_law_L_now
set_option maxRecDepth 20000 in
theorem ggL_law_X5_now : GoodIn wsL_law wsX5_now := goodIn_r _ [186, 26, 77, 78, 5, 79, 80, 81, 82, 83, 84, 525, 526, 527, 528, 529, 530, 531, 532, 533, 534, 535, 536, 537, 538, 539, 540, 541, 542, 543, 544, 545] (by decide +kernel) (by decide +kernel)
set_option maxRecDepth 20000 in
theorem gL_law_X5_now : GoodIn wsL_law (wsV RL 117 RX5 yX5_now wsX5_now) := goodIn_app (goodIn_of _ (by decide +kernel)) ggL_law_X5_now
set_option maxRecDepth 20000 in
theorem ggL_law_L_thing : GoodIn wsL_law wsL_thing := goodIn_ca (goodIn_ca (goodIn_r _ [189, 112, 49, 190, 191, 192, 2, 193, 54, 55, 194, 195, 21, 20, 196, 197, 146, 147, 148, 117, 118, 198, 199, 200, 201, 11, 12, 202, 203, 204, 205, 517, 518, 519, 520, 521, 522, 523, 524, 556, 557, 558, 559, 560, 561] (by decide +kernel) (by decide +kernel)) (goodIn_sub (fun _ h => List.mem_append_left _ (List.mem_append_left _ (List.mem_append_right _ h))) (by decide +kernel))) (goodIn_sub (fun _ h => List.mem_append_right _ h) (by decide +kernel))
set_option maxRecDepth 20000 in
theorem gL_law_L_thing : GoodIn wsL_law (va_wsS RL 118 yL_thing wsL_thing) := goodIn_app (goodIn_of _ (by decide +kernel)) ggL_law_L_thing
set_option maxRecDepth 20000 in
theorem ggL_law_X5_thing : GoodIn wsL_law wsX5_thing := goodIn_r _ [209, 210, 211, 34, 35, 77, 78, 5, 79, 80, 81, 82, 83, 84, 525, 526, 527, 528, 529, 530, 531, 532, 533, 534, 535, 536, 537, 538, 539, 540, 541, 542, 543, 544, 545] (by decide +kernel) (by decide +kernel)
set_option maxRecDepth 20000 in
theorem gL_law_X5_thing : GoodIn wsL_law (wsV RL 120 RX5 yX5_thing wsX5_thing) := goodIn_app (goodIn_of _ (by decide +kernel)) ggL_law_X5_thing
set_option maxRecDepth 20000 in
theorem ggL_law_L_mark : GoodIn wsL_law wsL_mark := goodIn_ca (goodIn_ca (goodIn_r _ [214, 48, 112, 215, 216, 217, 2, 218, 219, 220, 221, 222, 223, 62, 63, 21, 146, 147, 148, 117, 118, 556, 557, 558, 559, 560, 561, 517, 518, 519, 520, 521, 522, 523, 524] (by decide +kernel) (by decide +kernel)) (goodIn_sub (fun _ h => List.mem_append_left _ (List.mem_append_right _ h)) (by decide +kernel))) (goodIn_sub (fun _ h => List.mem_append_right _ h) (by decide +kernel))
set_option maxRecDepth 20000 in
theorem gL_law_L_mark : GoodIn wsL_law (va_wsS RL 121 yL_mark wsL_mark) := goodIn_app (goodIn_of _ (by decide +kernel)) ggL_law_L_mark
set_option maxRecDepth 20000 in
theorem ggL_law_X5_mark : GoodIn wsL_law wsX5_mark := goodIn_r _ [227, 34, 228, 229, 230, 5, 231, 211, 77, 78, 79, 80, 81, 82, 83, 84, 525, 526, 527, 528, 529, 530, 531, 532, 533, 534, 535, 536, 537, 538, 539, 540, 541, 542, 543, 544, 545] (by decide +kernel) (by decide +kernel)
set_option maxRecDepth 20000 in
theorem gL_law_X5_mark : GoodIn wsL_law (wsV RL 124 RX5 yX5_mark wsX5_mark) := goodIn_app (goodIn_of _ (by decide +kernel)) ggL_law_X5_mark
set_option maxRecDepth 20000 in
theorem ggL_law_L_station : GoodIn wsL_law wsL_station := goodIn_ca (goodIn_ca (goodIn_ca (goodIn_r _ [234, 48, 112, 49, 235, 236, 237, 2, 238, 54, 55, 19, 239, 240, 241, 242, 243, 220, 221, 222, 223, 62, 63, 21, 97, 98, 99, 100, 14, 143, 144, 145, 146, 147, 148, 117, 118, 244, 245, 246, 247, 11, 12, 248, 249, 250, 251, 252, 253, 254, 255, 197, 256, 257, 258, 259, 260, 261, 517, 518, 519, 520, 521, 522, 523, 524, 556, 557, 558, 559, 560, 561, 562, 563, 564, 565, 566, 567, 568, 569, 570] (by decide +kernel) (by decide +kernel)) (goodIn_sub (fun _ h => List.mem_append_left _ (List.mem_append_left _ (List.mem_append_right _ h))) (by decide +kernel))) (goodIn_sub (fun _ h => List.mem_append_left _ (List.mem_append_right _ h)) (by decide +kernel))) (goodIn_sub (fun _ h => List.mem_append_right _ h) (by decide +kernel))
set_option maxRecDepth 20000 in
theorem gL_law_L_station : GoodIn wsL_law (va_wsS RL 125 yL_station wsL_station) := goodIn_app (goodIn_of _ (by decide +kernel)) ggL_law_L_station
set_option maxRecDepth 20000 in
theorem ggL_law_X5_station : GoodIn wsL_law wsX5_station := goodIn_r _ [265, 26, 36, 37, 38, 39, 40, 228, 229, 230, 5, 231, 211, 77, 78, 79, 105, 106, 107, 108, 76, 162, 163, 164, 80, 81, 82, 83, 84, 525, 526, 527, 528, 529, 530, 531, 532, 533, 534, 535, 536, 537, 538, 539, 540, 541, 542, 543, 544, 545] (by decide +kernel) (by decide +kernel)
set_option maxRecDepth 20000 in
theorem gL_law_X5_station : GoodIn wsL_law (wsV RL 128 RX5 yX5_station wsX5_station) := goodIn_app (goodIn_of _ (by decide +kernel)) ggL_law_X5_station
set_option maxRecDepth 20000 in
theorem ggL_law_L_rebut : GoodIn wsL_law wsL_rebut := goodIn_ca (goodIn_ca (goodIn_r _ [268, 48, 112, 269, 270, 271, 2, 272, 117, 118, 273, 274, 275, 276, 277, 278, 62, 63, 243, 220, 221, 222, 223, 21, 562, 563, 564, 565, 566, 567, 568, 569, 570, 556, 557, 558, 559, 560, 561, 517, 518, 519, 520, 521, 522, 523, 524] (by decide +kernel) (by decide +kernel)) (goodIn_sub (fun _ h => List.mem_append_right _ h) (by decide +kernel))) (goodIn_sub (fun _ h => List.mem_append_left _ (List.mem_append_right _ h)) (by decide +kernel))
set_option maxRecDepth 20000 in
theorem gL_law_L_rebut : GoodIn wsL_law (va_wsS RL 129 yL_rebut wsL_rebut) := goodIn_app (goodIn_of _ (by decide +kernel)) ggL_law_L_rebut
set_option maxRecDepth 20000 in
theorem ggL_law_X5_rebut : GoodIn wsL_law wsX5_rebut := goodIn_r _ [282, 38, 41, 283, 284, 285, 5, 286, 36, 228, 229, 230, 231, 211, 77, 78, 79, 80, 81, 82, 83, 84, 525, 526, 527, 528, 529, 530, 531, 532, 533, 534, 535, 536, 537, 538, 539, 540, 541, 542, 543, 544, 545] (by decide +kernel) (by decide +kernel)
set_option maxRecDepth 20000 in
theorem gL_law_X5_rebut : GoodIn wsL_law (wsV RL 131 RX5 yX5_rebut wsX5_rebut) := goodIn_app (goodIn_of _ (by decide +kernel)) ggL_law_X5_rebut
set_option maxRecDepth 20000 in
theorem ggL_law_L_settle : GoodIn wsL_law wsL_settle := goodIn_ca (goodIn_r _ [289, 48, 290, 291, 292, 2, 293, 294, 275, 276, 277, 278, 62, 63, 243, 220, 221, 222, 223, 21, 562, 563, 564, 565, 566, 567, 568, 569, 570, 556, 557, 558, 559, 560, 561, 517, 518, 519, 520, 521, 522, 523, 524] (by decide +kernel) (by decide +kernel)) (goodIn_sub (fun _ h => List.mem_append_left _ (List.mem_append_right _ h)) (by decide +kernel))
set_option maxRecDepth 20000 in
theorem gL_law_L_settle : GoodIn wsL_law (va_wsS RL 132 yL_settle wsL_settle) := goodIn_app (goodIn_of _ (by decide +kernel)) ggL_law_L_settle
set_option maxRecDepth 20000 in
theorem ggL_law_X5_settle : GoodIn wsL_law wsX5_settle := goodIn_r _ [298, 42, 283, 284, 285, 5, 286, 36, 228, 229, 230, 231, 211, 77, 78, 79, 80, 81, 82, 83, 84, 525, 526, 527, 528, 529, 530, 531, 532, 533, 534, 535, 536, 537, 538, 539, 540, 541, 542, 543, 544, 545] (by decide +kernel) (by decide +kernel)
set_option maxRecDepth 20000 in
theorem gL_law_X5_settle : GoodIn wsL_law (wsV RL 134 RX5 yX5_settle wsX5_settle) := goodIn_app (goodIn_of _ (by decide +kernel)) ggL_law_X5_settle
set_option maxRecDepth 20000 in
theorem ggL_law_L_isPersecuted : GoodIn wsL_law wsL_isPersecuted := goodIn_ca (goodIn_ca (goodIn_r _ [301, 48, 112, 302, 303, 304, 2, 305, 97, 98, 99, 100, 62, 63, 14, 143, 144, 145, 146, 147, 148, 117, 118, 306, 307, 308, 309, 16, 310, 311, 312, 313, 142, 314, 153, 154, 155, 156, 517, 518, 519, 520, 521, 522, 523, 524, 546, 547, 548, 549, 550, 551, 552, 553, 554, 555] (by decide +kernel) (by decide +kernel)) (goodIn_sub (fun _ h => List.mem_append_left _ (List.mem_append_right _ h)) (by decide +kernel))) (goodIn_sub (fun _ h => List.mem_append_right _ h) (by decide +kernel))
set_option maxRecDepth 20000 in
theorem gL_law_L_isPersecuted : GoodIn wsL_law (va_wsS RL 135 yL_isPersecuted wsL_isPersecuted) := goodIn_app (goodIn_of _ (by decide +kernel)) ggL_law_L_isPersecuted
set_option maxRecDepth 20000 in
theorem ggL_law_X5_isPersecuted : GoodIn wsL_law wsX5_isPersecuted := goodIn_r _ [318, 27, 105, 106, 107, 5, 108, 76, 77, 78, 79, 162, 163, 164, 80, 81, 82, 83, 84, 319, 320, 321, 322, 161, 32, 525, 526, 527, 528, 529, 530, 531, 532, 533, 534, 535, 536, 537, 538, 539, 540, 541, 542, 543, 544, 545] (by decide +kernel) (by decide +kernel)
set_option maxRecDepth 20000 in
theorem gL_law_X5_isPersecuted : GoodIn wsL_law (wsV RL 138 RX5 yX5_isPersecuted wsX5_isPersecuted) := goodIn_app (goodIn_of _ (by decide +kernel)) ggL_law_X5_isPersecuted
set_option maxRecDepth 20000 in
theorem ggL_law_L_heirOf : GoodIn wsL_law wsL_heirOf := goodIn_ca (goodIn_r _ [325, 48, 326, 327, 328, 2, 329, 97, 98, 99, 100, 62, 63, 14, 330, 331, 332, 120, 333, 334, 335, 96, 336, 337, 338, 339, 517, 518, 519, 520, 521, 522, 523, 524, 546, 547, 548, 549, 550, 551] (by decide +kernel) (by decide +kernel)) (goodIn_sub (fun _ h => List.mem_append_left _ (List.mem_append_right _ h)) (by decide +kernel))
set_option maxRecDepth 20000 in
theorem gL_law_L_heirOf : GoodIn wsL_law (va_wsS RL 139 yL_heirOf wsL_heirOf) := goodIn_app (goodIn_of _ (by decide +kernel)) ggL_law_L_heirOf
set_option maxRecDepth 20000 in
theorem ggL_law_X5_heirOf : GoodIn wsL_law wsX5_heirOf := goodIn_r _ [343, 105, 106, 107, 5, 108, 76, 77, 78, 79, 80, 81, 82, 83, 84, 344, 345, 346, 347, 31, 30, 29, 348, 349, 350, 351, 352, 353, 354, 355, 525, 526, 527, 528, 529, 530, 531, 532, 533, 534, 535, 536, 537, 538, 539, 540, 541, 542, 543, 544, 545] (by decide +kernel) (by decide +kernel)
set_option maxRecDepth 20000 in
theorem gL_law_X5_heirOf : GoodIn wsL_law (wsV RL 141 RX5 yX5_heirOf wsX5_heirOf) := goodIn_app (goodIn_of _ (by decide +kernel)) ggL_law_X5_heirOf
set_option maxRecDepth 20000 in
theorem ggL_law_L_likeness : GoodIn wsL_law wsL_likeness := goodIn_ca (goodIn_r _ [358, 48, 359, 360, 361, 2, 362, 220, 221, 222, 223, 62, 63, 21, 363, 364, 365, 197, 366, 204, 205, 367, 368, 369, 370, 371, 372, 373, 374, 375, 376, 377, 517, 518, 519, 520, 521, 522, 523, 524, 556, 557, 558, 559, 560, 561] (by decide +kernel) (by decide +kernel)) (goodIn_sub (fun _ h => List.mem_append_left _ (List.mem_append_right _ h)) (by decide +kernel))
set_option maxRecDepth 20000 in
theorem gL_law_L_likeness : GoodIn wsL_law (va_wsS RL 142 yL_likeness wsL_likeness) := goodIn_app (goodIn_of _ (by decide +kernel)) ggL_law_L_likeness
set_option maxRecDepth 20000 in
theorem ggL_law_X5_likeness : GoodIn wsL_law wsX5_likeness := goodIn_r _ [381, 228, 229, 230, 5, 231, 211, 77, 78, 79, 80, 81, 82, 83, 84, 382, 383, 384, 385, 35, 34, 386, 387, 388, 525, 526, 527, 528, 529, 530, 531, 532, 533, 534, 535, 536, 537, 538, 539, 540, 541, 542, 543, 544, 545] (by decide +kernel) (by decide +kernel)
set_option maxRecDepth 20000 in
theorem gL_law_X5_likeness : GoodIn wsL_law (wsV RL 144 RX5 yX5_likeness wsX5_likeness) := goodIn_app (goodIn_of _ (by decide +kernel)) ggL_law_X5_likeness
set_option maxRecDepth 20000 in
theorem ggL_law_L_likest : GoodIn wsL_law wsL_likest := goodIn_ca (goodIn_r _ [391, 48, 392, 393, 394, 2, 395, 21, 220, 221, 222, 223, 62, 63, 363, 364, 365, 197, 366, 204, 205, 367, 368, 369, 370, 371, 372, 373, 374, 375, 376, 377, 517, 518, 519, 520, 521, 522, 523, 524, 556, 557, 558, 559, 560, 561] (by decide +kernel) (by decide +kernel)) (goodIn_sub (fun _ h => List.mem_append_left _ (List.mem_append_right _ h)) (by decide +kernel))
set_option maxRecDepth 20000 in
theorem gL_law_L_likest : GoodIn wsL_law (va_wsS RL 145 yL_likest wsL_likest) := goodIn_app (goodIn_of _ (by decide +kernel)) ggL_law_L_likest
set_option maxRecDepth 20000 in
theorem ggL_law_X5_likest : GoodIn wsL_law wsX5_likest := goodIn_r _ [399, 211, 228, 229, 230, 5, 231, 77, 78, 79, 80, 81, 82, 83, 84, 382, 383, 384, 385, 35, 34, 386, 387, 388, 525, 526, 527, 528, 529, 530, 531, 532, 533, 534, 535, 536, 537, 538, 539, 540, 541, 542, 543, 544, 545] (by decide +kernel) (by decide +kernel)
set_option maxRecDepth 20000 in
theorem gL_law_X5_likest : GoodIn wsL_law (wsV RL 147 RX5 yX5_likest wsX5_likest) := goodIn_app (goodIn_of _ (by decide +kernel)) ggL_law_X5_likest
set_option maxRecDepth 20000 in
theorem ggL_law_L_stationAt : GoodIn wsL_law wsL_stationAt := goodIn_ca (goodIn_r _ [402, 48, 403, 404, 405, 2, 406, 62, 63, 407, 408, 409, 220, 221, 222, 223, 21, 556, 557, 558, 559, 560, 561, 562, 563, 564, 565, 566, 567, 568, 569, 570, 517, 518, 519, 520, 521, 522, 523, 524] (by decide +kernel) (by decide +kernel)) (goodIn_sub (fun _ h => List.mem_append_left _ (List.mem_append_right _ h)) (by decide +kernel))
set_option maxRecDepth 20000 in
theorem gL_law_L_stationAt : GoodIn wsL_law (va_wsS RL 148 yL_stationAt wsL_stationAt) := goodIn_app (goodIn_of _ (by decide +kernel)) ggL_law_L_stationAt
set_option maxRecDepth 20000 in
theorem ggL_law_X5_stationAt : GoodIn wsL_law wsX5_stationAt := goodIn_r _ [413, 43, 228, 229, 230, 5, 231, 211, 77, 78, 79, 80, 81, 82, 83, 84, 414, 415, 416, 417, 36, 40, 525, 526, 527, 528, 529, 530, 531, 532, 533, 534, 535, 536, 537, 538, 539, 540, 541, 542, 543, 544, 545] (by decide +kernel) (by decide +kernel)
set_option maxRecDepth 20000 in
theorem gL_law_X5_stationAt : GoodIn wsL_law (wsV RL 150 RX5 yX5_stationAt wsX5_stationAt) := goodIn_app (goodIn_of _ (by decide +kernel)) ggL_law_X5_stationAt
set_option maxRecDepth 20000 in
theorem ggL_law_L_isLoss : GoodIn wsL_law wsL_isLoss := goodIn_ca (goodIn_r _ [420, 48, 421, 422, 423, 2, 424, 275, 276, 277, 278, 62, 63, 243, 220, 221, 222, 223, 21, 425, 426, 427, 428, 429, 273, 274, 430, 431, 432, 306, 307, 308, 309, 16, 310, 311, 312, 313, 142, 314, 153, 154, 155, 156, 556, 557, 558, 559, 560, 561, 517, 518, 519, 520, 521, 522, 523, 524, 562, 563, 564, 565, 566, 567, 568, 569, 570, 546, 547, 548, 549, 550, 551, 552, 553, 554, 555] (by decide +kernel) (by decide +kernel)) (goodIn_sub (fun _ h => List.mem_append_left _ (List.mem_append_right _ h)) (by decide +kernel))
set_option maxRecDepth 20000 in
theorem gL_law_L_isLoss : GoodIn wsL_law (va_wsS RL 151 yL_isLoss wsL_isLoss) := goodIn_app (goodIn_of _ (by decide +kernel)) ggL_law_L_isLoss
set_option maxRecDepth 20000 in
theorem ggL_law_X5_isLoss : GoodIn wsL_law wsX5_isLoss := goodIn_r _ [436, 43, 283, 284, 285, 5, 286, 36, 228, 229, 230, 231, 211, 77, 78, 79, 80, 81, 82, 83, 84, 414, 415, 416, 417, 40, 437, 438, 439, 440, 37, 38, 41, 27, 39, 319, 320, 321, 322, 161, 32, 525, 526, 527, 528, 529, 530, 531, 532, 533, 534, 535, 536, 537, 538, 539, 540, 541, 542, 543, 544, 545] (by decide +kernel) (by decide +kernel)
set_option maxRecDepth 20000 in
theorem gL_law_X5_isLoss : GoodIn wsL_law (wsV RL 153 RX5 yX5_isLoss wsX5_isLoss) := goodIn_app (goodIn_of _ (by decide +kernel)) ggL_law_X5_isLoss
set_option maxRecDepth 20000 in
theorem ggL_law_L_holder : GoodIn wsL_law wsL_holder := goodIn_ca (goodIn_r _ [443, 48, 444, 445, 446, 2, 447, 220, 221, 222, 223, 62, 63, 21, 448, 449, 450, 197, 451, 257, 452, 336, 337, 338, 339, 517, 518, 519, 520, 521, 522, 523, 524, 556, 557, 558, 559, 560, 561, 562, 563, 564, 565, 566, 567, 568, 569, 570, 546, 547, 548, 549, 550, 551] (by decide +kernel) (by decide +kernel)) (goodIn_sub (fun _ h => List.mem_append_left _ (List.mem_append_right _ h)) (by decide +kernel))
set_option maxRecDepth 20000 in
theorem gL_law_L_holder : GoodIn wsL_law (va_wsS RL 154 yL_holder wsL_holder) := goodIn_app (goodIn_of _ (by decide +kernel)) ggL_law_L_holder
set_option maxRecDepth 20000 in
theorem ggL_law_X5_holder : GoodIn wsL_law wsX5_holder := goodIn_r _ [456, 228, 229, 230, 5, 231, 211, 77, 78, 79, 80, 81, 82, 83, 84, 457, 458, 459, 460, 37, 43, 414, 415, 416, 417, 36, 40, 525, 526, 527, 528, 529, 530, 531, 532, 533, 534, 535, 536, 537, 538, 539, 540, 541, 542, 543, 544, 545] (by decide +kernel) (by decide +kernel)
set_option maxRecDepth 20000 in
theorem gL_law_X5_holder : GoodIn wsL_law (wsV RL 156 RX5 yX5_holder wsX5_holder) := goodIn_app (goodIn_of _ (by decide +kernel)) ggL_law_X5_holder
set_option maxRecDepth 20000 in
theorem ggL_law_L_owner : GoodIn wsL_law wsL_owner := goodIn_ca (goodIn_r _ [463, 48, 464, 465, 466, 2, 467, 220, 221, 222, 223, 62, 63, 21, 468, 469, 470, 471, 407, 430, 408, 472, 473, 474, 475, 294, 429, 425, 426, 427, 428, 273, 274, 431, 432, 306, 307, 308, 309, 16, 310, 311, 312, 313, 142, 314, 153, 154, 155, 156, 476, 477, 478, 479, 18, 19, 333, 334, 335, 96, 330, 331, 332, 120, 336, 337, 338, 339, 517, 518, 519, 520, 521, 522, 523, 524, 556, 557, 558, 559, 560, 561, 562, 563, 564, 565, 566, 567, 568, 569, 570, 546, 547, 548, 549, 550, 551, 552, 553, 554, 555] (by decide +kernel) (by decide +kernel)) (goodIn_sub (fun _ h => List.mem_append_left _ (List.mem_append_right _ h)) (by decide +kernel))
set_option maxRecDepth 20000 in
theorem gL_law_L_owner : GoodIn wsL_law (va_wsS RL 157 yL_owner wsL_owner) := goodIn_app (goodIn_of _ (by decide +kernel)) ggL_law_L_owner
set_option maxRecDepth 20000 in
theorem ggL_law_X5_owner : GoodIn wsL_law wsX5_owner := goodIn_r _ [483, 228, 229, 230, 5, 231, 211, 77, 78, 79, 80, 81, 82, 83, 84, 484, 485, 486, 487, 37, 43, 40, 26, 38, 33, 39, 42, 29, 414, 415, 416, 417, 36, 437, 438, 439, 440, 41, 27, 319, 320, 321, 322, 161, 32, 344, 345, 346, 347, 31, 30, 348, 349, 350, 351, 352, 353, 354, 355, 525, 526, 527, 528, 529, 530, 531, 532, 533, 534, 535, 536, 537, 538, 539, 540, 541, 542, 543, 544, 545] (by decide +kernel) (by decide +kernel)
set_option maxRecDepth 20000 in
theorem gL_law_X5_owner : GoodIn wsL_law (wsV RL 159 RX5 yX5_owner wsX5_owner) := goodIn_app (goodIn_of _ (by decide +kernel)) ggL_law_X5_owner
set_option maxRecDepth 20000 in
theorem ggL_law_L_ownerAnew : GoodIn wsL_law wsL_ownerAnew := goodIn_ca (goodIn_r _ [490, 48, 491, 492, 493, 2, 494, 220, 221, 222, 223, 62, 63, 21, 495, 496, 497, 498, 499, 430, 500, 429, 294, 425, 426, 427, 428, 273, 274, 431, 432, 306, 307, 308, 309, 16, 310, 311, 312, 313, 142, 314, 153, 154, 155, 156, 476, 477, 478, 479, 18, 408, 19, 333, 334, 335, 96, 330, 331, 332, 120, 336, 337, 338, 339, 517, 518, 519, 520, 521, 522, 523, 524, 556, 557, 558, 559, 560, 561, 562, 563, 564, 565, 566, 567, 568, 569, 570, 546, 547, 548, 549, 550, 551, 552, 553, 554, 555] (by decide +kernel) (by decide +kernel)) (goodIn_sub (fun _ h => List.mem_append_left _ (List.mem_append_right _ h)) (by decide +kernel))
set_option maxRecDepth 20000 in
theorem gL_law_L_ownerAnew : GoodIn wsL_law (va_wsS RL 160 yL_ownerAnew wsL_ownerAnew) := goodIn_app (goodIn_of _ (by decide +kernel)) ggL_law_L_ownerAnew
set_option maxRecDepth 20000 in
theorem ggL_law_X5_ownerAnew : GoodIn wsL_law wsX5_ownerAnew := goodIn_r _ [504, 505, 481, 482, 5, 483, 228, 229, 230, 231, 211, 77, 78, 79, 80, 81, 82, 83, 84, 484, 485, 486, 487, 37, 43, 40, 26, 38, 33, 39, 42, 29, 414, 415, 416, 417, 36, 437, 438, 439, 440, 41, 27, 319, 320, 321, 322, 161, 32, 344, 345, 346, 347, 31, 30, 348, 349, 350, 351, 352, 353, 354, 355, 525, 526, 527, 528, 529, 530, 531, 532, 533, 534, 535, 536, 537, 538, 539, 540, 541, 542, 543, 544, 545] (by decide +kernel) (by decide +kernel)
set_option maxRecDepth 20000 in
theorem gL_law_X5_ownerAnew : GoodIn wsL_law (wsV RL 162 RX5 yX5_ownerAnew wsX5_ownerAnew) := goodIn_app (goodIn_of _ (by decide +kernel)) ggL_law_X5_ownerAnew
set_option maxRecDepth 20000 in
theorem ggL_law_L_asks : GoodIn wsL_law wsL_asks := goodIn_ca (goodIn_r _ [508, 48, 509, 510, 511, 2, 512, 21, 97, 98, 99, 100, 62, 63, 14, 448, 449, 450, 197, 451, 257, 452, 468, 469, 470, 471, 407, 430, 408, 472, 473, 474, 475, 294, 429, 425, 426, 427, 428, 273, 274, 431, 432, 306, 307, 308, 309, 16, 310, 311, 312, 313, 142, 314, 153, 154, 155, 156, 476, 477, 478, 479, 18, 19, 333, 334, 335, 96, 330, 331, 332, 120, 517, 518, 519, 520, 521, 522, 523, 524, 556, 557, 558, 559, 560, 561, 562, 563, 564, 565, 566, 567, 568, 569, 570, 546, 547, 548, 549, 550, 551, 552, 553, 554, 555] (by decide +kernel) (by decide +kernel)) (goodIn_sub (fun _ h => List.mem_append_left _ (List.mem_append_right _ h)) (by decide +kernel))
set_option maxRecDepth 20000 in
theorem gL_law_L_asks : GoodIn wsL_law (va_wsS RL 163 yL_asks wsL_asks) := goodIn_app (goodIn_of _ (by decide +kernel)) ggL_law_L_asks
set_option maxRecDepth 20000 in
theorem ggL_law_X5_asks : GoodIn wsL_law wsX5_asks := goodIn_r _ [516, 211, 105, 106, 107, 5, 108, 76, 77, 78, 79, 80, 81, 82, 83, 84, 484, 485, 486, 487, 37, 43, 40, 26, 38, 33, 39, 42, 29, 414, 415, 416, 417, 36, 437, 438, 439, 440, 41, 27, 319, 320, 321, 322, 161, 32, 344, 345, 346, 347, 31, 30, 348, 349, 350, 351, 352, 353, 354, 355, 457, 458, 459, 460, 525, 526, 527, 528, 529, 530, 531, 532, 533, 534, 535, 536, 537, 538, 539, 540, 541, 542, 543, 544, 545] (by decide +kernel) (by decide +kernel)
set_option maxRecDepth 20000 in
theorem gL_law_X5_asks : GoodIn wsL_law (wsV RL 165 RX5 yX5_asks wsX5_asks) := goodIn_app (goodIn_of _ (by decide +kernel)) ggL_law_X5_asks
theorem dL_law_0 : decode cL_law 0 = .ok (.new 8, 3) := by decide +kernel
theorem dL_law_3 : decode cL_law 3 = .ok (.dup, 1) := by decide +kernel
theorem dL_law_4 : decode cL_law 4 = .ok (.invokespecial 86, 3) := by decide +kernel
theorem dL_law_7 : decode cL_law 7 = .ok (.astore_n 1, 1) := by decide +kernel
theorem dL_law_8 : decode cL_law 8 = .ok (.new 87, 3) := by decide +kernel
theorem dL_law_11 : decode cL_law 11 = .ok (.dup, 1) := by decide +kernel
theorem dL_law_12 : decode cL_law 12 = .ok (.invokespecial 89, 3) := by decide +kernel
theorem dL_law_15 : decode cL_law 15 = .ok (.astore_n 2, 1) := by decide +kernel
theorem dL_law_16 : decode cL_law 16 = .ok (.iconst 1, 1) := by decide +kernel
theorem dL_law_17 : decode cL_law 17 = .ok (.newarray .long, 2) := by decide +kernel
theorem dL_law_19 : decode cL_law 19 = .ok (.astore_n 3, 1) := by decide +kernel
theorem dL_law_20 : decode cL_law 20 = .ok (.iconst 0, 1) := by decide +kernel
theorem dL_law_21 : decode cL_law 21 = .ok (.istore 4, 2) := by decide +kernel
theorem dL_law_23 : decode cL_law 23 = .ok (.iload 4, 2) := by decide +kernel
theorem dL_law_25 : decode cL_law 25 = .ok (.aload_n 0, 1) := by decide +kernel
theorem dL_law_26 : decode cL_law 26 = .ok (.arraylength, 1) := by decide +kernel
theorem dL_law_27 : decode cL_law 27 = .ok (.bipush 6, 2) := by decide +kernel
theorem dL_law_29 : decode cL_law 29 = .ok (.isub, 1) := by decide +kernel
theorem dL_law_30 : decode cL_law 30 = .ok (.if_icmp .gt 1607, 3) := by decide +kernel
theorem dL_law_33 : decode cL_law 33 = .ok (.aload_n 0, 1) := by decide +kernel
theorem dL_law_34 : decode cL_law 34 = .ok (.iload 4, 2) := by decide +kernel
theorem dL_law_36 : decode cL_law 36 = .ok (.iaload, 1) := by decide +kernel
theorem dL_law_37 : decode cL_law 37 = .ok (.bipush 31, 2) := by decide +kernel
theorem dL_law_39 : decode cL_law 39 = .ok (.iand, 1) := by decide +kernel
theorem dL_law_40 : decode cL_law 40 = .ok (.tableswitch 1591 0 20 #[100, 156, 192, 260, 352, 420, 476, 544, 647, 751, 854, 957, 1044, 1100, 1168, 1224, 1292, 1367, 1423, 1479, 1535], 100) := by decide +kernel
theorem dL_law_140 : decode cL_law 140 = .ok (.aload_n 1, 1) := by decide +kernel
theorem dL_law_141 : decode cL_law 141 = .ok (.aload_n 0, 1) := by decide +kernel
theorem dL_law_142 : decode cL_law 142 = .ok (.iload 4, 2) := by decide +kernel
theorem dL_law_144 : decode cL_law 144 = .ok (.iconst 1, 1) := by decide +kernel
theorem dL_law_145 : decode cL_law 145 = .ok (.iadd, 1) := by decide +kernel
theorem dL_law_146 : decode cL_law 146 = .ok (.iaload, 1) := by decide +kernel
theorem dL_law_147 : decode cL_law 147 = .ok (.aload_n 3, 1) := by decide +kernel
theorem dL_law_148 : decode cL_law 148 = .ok (.invokestatic 90, 3) := by decide +kernel
theorem dL_law_151 : decode cL_law 151 = .ok (.istore 5, 2) := by decide +kernel
theorem dL_law_153 : decode cL_law 153 = .ok (.aload_n 2, 1) := by decide +kernel
theorem dL_law_154 : decode cL_law 154 = .ok (.aload_n 0, 1) := by decide +kernel
theorem dL_law_155 : decode cL_law 155 = .ok (.iload 4, 2) := by decide +kernel
theorem dL_law_157 : decode cL_law 157 = .ok (.iconst 1, 1) := by decide +kernel
theorem dL_law_158 : decode cL_law 158 = .ok (.iadd, 1) := by decide +kernel
theorem dL_law_159 : decode cL_law 159 = .ok (.iaload, 1) := by decide +kernel
theorem dL_law_160 : decode cL_law 160 = .ok (.invokevirtual 95, 3) := by decide +kernel
