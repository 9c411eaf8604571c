theorem dX12_init_0 : decode cX12_init 0 = .ok (.aload_n 0, 1) := by decide +kernel
theorem dX12_init_1 : decode cX12_init 1 = .ok (.invokespecial 1, 3) := by decide +kernel
theorem dX12_init_4 : decode cX12_init 4 = .ok (.aload_n 0, 1) := by decide +kernel
theorem dX12_init_5 : decode cX12_init 5 = .ok (.bipush 32, 2) := by decide +kernel
theorem dX12_init_7 : decode cX12_init 7 = .ok (.newarray .int, 2) := by decide +kernel
theorem dX12_init_9 : decode cX12_init 9 = .ok (.putfield 7, 3) := by decide +kernel
theorem dX12_init_12 : decode cX12_init 12 = .ok (.aload_n 0, 1) := by decide +kernel
theorem dX12_init_13 : decode cX12_init 13 = .ok (.bipush 8, 2) := by decide +kernel
theorem dX12_init_15 : decode cX12_init 15 = .ok (.newarray .int, 2) := by decide +kernel
theorem dX12_init_17 : decode cX12_init 17 = .ok (.putfield 13, 3) := by decide +kernel
theorem dX12_init_20 : decode cX12_init 20 = .ok (.aload_n 0, 1) := by decide +kernel
theorem dX12_init_21 : decode cX12_init 21 = .ok (.bipush 8, 2) := by decide +kernel
theorem dX12_init_23 : decode cX12_init 23 = .ok (.newarray .int, 2) := by decide +kernel
theorem dX12_init_25 : decode cX12_init 25 = .ok (.putfield 16, 3) := by decide +kernel
theorem dX12_init_28 : decode cX12_init 28 = .ok (.aload_n 0, 1) := by decide +kernel
theorem dX12_init_29 : decode cX12_init 29 = .ok (.bipush 8, 2) := by decide +kernel
theorem dX12_init_31 : decode cX12_init 31 = .ok (.newarray .int, 2) := by decide +kernel
theorem dX12_init_33 : decode cX12_init 33 = .ok (.putfield 19, 3) := by decide +kernel
theorem dX12_init_36 : decode cX12_init 36 = .ok (.aload_n 0, 1) := by decide +kernel
theorem dX12_init_37 : decode cX12_init 37 = .ok (.bipush 8, 2) := by decide +kernel
theorem dX12_init_39 : decode cX12_init 39 = .ok (.newarray .int, 2) := by decide +kernel
theorem dX12_init_41 : decode cX12_init 41 = .ok (.putfield 22, 3) := by decide +kernel
theorem dX12_init_44 : decode cX12_init 44 = .ok (.aload_n 0, 1) := by decide +kernel
theorem dX12_init_45 : decode cX12_init 45 = .ok (.bipush 8, 2) := by decide +kernel
theorem dX12_init_47 : decode cX12_init 47 = .ok (.newarray .int, 2) := by decide +kernel
theorem dX12_init_49 : decode cX12_init 49 = .ok (.putfield 25, 3) := by decide +kernel
theorem dX12_init_52 : decode cX12_init 52 = .ok (.aload_n 0, 1) := by decide +kernel
theorem dX12_init_53 : decode cX12_init 53 = .ok (.bipush 8, 2) := by decide +kernel
theorem dX12_init_55 : decode cX12_init 55 = .ok (.newarray .int, 2) := by decide +kernel
theorem dX12_init_57 : decode cX12_init 57 = .ok (.putfield 28, 3) := by decide +kernel
theorem dX12_init_60 : decode cX12_init 60 = .ok (.aload_n 0, 1) := by decide +kernel
theorem dX12_init_61 : decode cX12_init 61 = .ok (.iconst 3, 1) := by decide +kernel
theorem dX12_init_62 : decode cX12_init 62 = .ok (.putfield 31, 3) := by decide +kernel
theorem dX12_init_65 : decode cX12_init 65 = .ok (.aload_n 0, 1) := by decide +kernel
theorem dX12_init_66 : decode cX12_init 66 = .ok (.sipush 1000, 3) := by decide +kernel
theorem dX12_init_69 : decode cX12_init 69 = .ok (.putfield 35, 3) := by decide +kernel
theorem dX12_init_72 : decode cX12_init 72 = .ok (.aload_n 0, 1) := by decide +kernel
theorem dX12_init_73 : decode cX12_init 73 = .ok (.bipush 100, 2) := by decide +kernel
theorem dX12_init_75 : decode cX12_init 75 = .ok (.putfield 38, 3) := by decide +kernel
theorem dX12_init_78 : decode cX12_init 78 = .ok (.aload_n 0, 1) := by decide +kernel
theorem dX12_init_79 : decode cX12_init 79 = .ok (.iconst (-1), 1) := by decide +kernel
theorem dX12_init_80 : decode cX12_init 80 = .ok (.putfield 41, 3) := by decide +kernel
theorem dX12_init_83 : decode cX12_init 83 = .ok (.aload_n 0, 1) := by decide +kernel
theorem dX12_init_84 : decode cX12_init 84 = .ok (.sipush 192, 3) := by decide +kernel
theorem dX12_init_87 : decode cX12_init 87 = .ok (.newarray .int, 2) := by decide +kernel
theorem dX12_init_89 : decode cX12_init 89 = .ok (.putfield 44, 3) := by decide +kernel
theorem dX12_init_92 : decode cX12_init 92 = .ok (.aload_n 0, 1) := by decide +kernel
theorem dX12_init_93 : decode cX12_init 93 = .ok (.sipush 192, 3) := by decide +kernel
theorem dX12_init_96 : decode cX12_init 96 = .ok (.newarray .int, 2) := by decide +kernel
theorem dX12_init_98 : decode cX12_init 98 = .ok (.putfield 47, 3) := by decide +kernel
theorem dX12_init_101 : decode cX12_init 101 = .ok (.aload_n 0, 1) := by decide +kernel
theorem dX12_init_102 : decode cX12_init 102 = .ok (.sipush 192, 3) := by decide +kernel
theorem dX12_init_105 : decode cX12_init 105 = .ok (.newarray .int, 2) := by decide +kernel
theorem dX12_init_107 : decode cX12_init 107 = .ok (.putfield 50, 3) := by decide +kernel
theorem dX12_init_110 : decode cX12_init 110 = .ok (.aload_n 0, 1) := by decide +kernel
theorem dX12_init_111 : decode cX12_init 111 = .ok (.bipush 32, 2) := by decide +kernel
theorem dX12_init_113 : decode cX12_init 113 = .ok (.newarray .int, 2) := by decide +kernel
theorem dX12_init_115 : decode cX12_init 115 = .ok (.putfield 53, 3) := by decide +kernel
theorem dX12_init_118 : decode cX12_init 118 = .ok (.aload_n 0, 1) := by decide +kernel
theorem dX12_init_119 : decode cX12_init 119 = .ok (.bipush 32, 2) := by decide +kernel
theorem dX12_init_121 : decode cX12_init 121 = .ok (.newarray .int, 2) := by decide +kernel
theorem dX12_init_123 : decode cX12_init 123 = .ok (.putfield 56, 3) := by decide +kernel
theorem dX12_init_126 : decode cX12_init 126 = .ok (.aload_n 0, 1) := by decide +kernel
theorem dX12_init_127 : decode cX12_init 127 = .ok (.bipush 24, 2) := by decide +kernel
theorem dX12_init_129 : decode cX12_init 129 = .ok (.newarray .int, 2) := by decide +kernel
theorem dX12_init_131 : decode cX12_init 131 = .ok (.putfield 59, 3) := by decide +kernel
theorem dX12_init_134 : decode cX12_init 134 = .ok (.aload_n 0, 1) := by decide +kernel
theorem dX12_init_135 : decode cX12_init 135 = .ok (.bipush 24, 2) := by decide +kernel
theorem dX12_init_137 : decode cX12_init 137 = .ok (.newarray .int, 2) := by decide +kernel
theorem dX12_init_139 : decode cX12_init 139 = .ok (.putfield 62, 3) := by decide +kernel
theorem dX12_init_142 : decode cX12_init 142 = .ok (.aload_n 0, 1) := by decide +kernel
theorem dX12_init_143 : decode cX12_init 143 = .ok (.bipush 36, 2) := by decide +kernel
theorem dX12_init_145 : decode cX12_init 145 = .ok (.newarray .int, 2) := by decide +kernel
theorem dX12_init_147 : decode cX12_init 147 = .ok (.putfield 65, 3) := by decide +kernel
theorem dX12_init_150 : decode cX12_init 150 = .ok (.aload_n 0, 1) := by decide +kernel
theorem dX12_init_151 : decode cX12_init 151 = .ok (.sipush 1600, 3) := by decide +kernel
theorem dX12_init_154 : decode cX12_init 154 = .ok (.newarray .int, 2) := by decide +kernel
theorem dX12_init_156 : decode cX12_init 156 = .ok (.putfield 68, 3) := by decide +kernel
theorem dX12_init_159 : decode cX12_init 159 = .ok (.aload_n 0, 1) := by decide +kernel
theorem dX12_init_160 : decode cX12_init 160 = .ok (.sipush 3200, 3) := by decide +kernel
theorem dX12_init_163 : decode cX12_init 163 = .ok (.newarray .int, 2) := by decide +kernel
theorem dX12_init_165 : decode cX12_init 165 = .ok (.putfield 71, 3) := by decide +kernel
theorem dX12_init_168 : decode cX12_init 168 = .ok (.aload_n 0, 1) := by decide +kernel
theorem dX12_init_169 : decode cX12_init 169 = .ok (.sipush 400, 3) := by decide +kernel
theorem dX12_init_172 : decode cX12_init 172 = .ok (.newarray .int, 2) := by decide +kernel
theorem dX12_init_174 : decode cX12_init 174 = .ok (.putfield 74, 3) := by decide +kernel
theorem dX12_init_177 : decode cX12_init 177 = .ok (.aload_n 0, 1) := by decide +kernel
theorem dX12_init_178 : decode cX12_init 178 = .ok (.sipush 400, 3) := by decide +kernel
theorem dX12_init_181 : decode cX12_init 181 = .ok (.newarray .int, 2) := by decide +kernel
theorem dX12_init_183 : decode cX12_init 183 = .ok (.putfield 77, 3) := by decide +kernel
theorem dX12_init_186 : decode cX12_init 186 = .ok (.aload_n 0, 1) := by decide +kernel
theorem dX12_init_187 : decode cX12_init 187 = .ok (.sipush 400, 3) := by decide +kernel
theorem dX12_init_190 : decode cX12_init 190 = .ok (.newarray .int, 2) := by decide +kernel
theorem dX12_init_192 : decode cX12_init 192 = .ok (.putfield 80, 3) := by decide +kernel
theorem dX12_init_195 : decode cX12_init 195 = .ok (.aload_n 0, 1) := by decide +kernel
theorem dX12_init_196 : decode cX12_init 196 = .ok (.bipush 32, 2) := by decide +kernel
theorem dX12_init_198 : decode cX12_init 198 = .ok (.newarray .long, 2) := by decide +kernel
theorem dX12_init_200 : decode cX12_init 200 = .ok (.putfield 83, 3) := by decide +kernel
theorem dX12_init_203 : decode cX12_init 203 = .ok (.aload_n 0, 1) := by decide +kernel
theorem dX12_init_204 : decode cX12_init 204 = .ok (.bipush 32, 2) := by decide +kernel
theorem dX12_init_206 : decode cX12_init 206 = .ok (.newarray .long, 2) := by decide +kernel
theorem dX12_init_208 : decode cX12_init 208 = .ok (.putfield 87, 3) := by decide +kernel
theorem dX12_init_211 : decode cX12_init 211 = .ok (.aload_n 0, 1) := by decide +kernel
theorem dX12_init_212 : decode cX12_init 212 = .ok (.bipush 32, 2) := by decide +kernel
theorem dX12_init_214 : decode cX12_init 214 = .ok (.newarray .int, 2) := by decide +kernel
theorem dX12_init_216 : decode cX12_init 216 = .ok (.putfield 90, 3) := by decide +kernel
theorem dX12_init_219 : decode cX12_init 219 = .ok (.aload_n 0, 1) := by decide +kernel
theorem dX12_init_220 : decode cX12_init 220 = .ok (.bipush 8, 2) := by decide +kernel
theorem dX12_init_222 : decode cX12_init 222 = .ok (.newarray .int, 2) := by decide +kernel
theorem dX12_init_224 : decode cX12_init 224 = .ok (.putfield 93, 3) := by decide +kernel
theorem dX12_init_227 : decode cX12_init 227 = .ok (.aload_n 0, 1) := by decide +kernel
theorem dX12_init_228 : decode cX12_init 228 = .ok (.bipush 8, 2) := by decide +kernel
theorem dX12_init_230 : decode cX12_init 230 = .ok (.newarray .int, 2) := by decide +kernel
theorem dX12_init_232 : decode cX12_init 232 = .ok (.putfield 96, 3) := by decide +kernel
theorem dX12_init_235 : decode cX12_init 235 = .ok (.aload_n 0, 1) := by decide +kernel
theorem dX12_init_236 : decode cX12_init 236 = .ok (.bipush 8, 2) := by decide +kernel
theorem dX12_init_238 : decode cX12_init 238 = .ok (.newarray .int, 2) := by decide +kernel
theorem dX12_init_240 : decode cX12_init 240 = .ok (.putfield 99, 3) := by decide +kernel
theorem dX12_init_243 : decode cX12_init 243 = .ok (.aload_n 0, 1) := by decide +kernel
theorem dX12_init_244 : decode cX12_init 244 = .ok (.bipush 6, 2) := by decide +kernel
theorem dX12_init_246 : decode cX12_init 246 = .ok (.newarray .int, 2) := by decide +kernel
theorem dX12_init_248 : decode cX12_init 248 = .ok (.putfield 102, 3) := by decide +kernel
theorem dX12_init_251 : decode cX12_init 251 = .ok (.aload_n 0, 1) := by decide +kernel
theorem dX12_init_252 : decode cX12_init 252 = .ok (.bipush 6, 2) := by decide +kernel
theorem dX12_init_254 : decode cX12_init 254 = .ok (.newarray .int, 2) := by decide +kernel
theorem dX12_init_256 : decode cX12_init 256 = .ok (.putfield 105, 3) := by decide +kernel
theorem dX12_init_259 : decode cX12_init 259 = .ok (.return_, 1) := by decide +kernel
theorem dX12_in_0 : decode cX12_in 0 = .ok (.iload_n 0, 1) := by decide +kernel
theorem dX12_in_1 : decode cX12_in 1 = .ok (.iload_n 1, 1) := by decide +kernel
theorem dX12_in_2 : decode cX12_in 2 = .ok (.if_icmp .lt 12, 3) := by decide +kernel
theorem dX12_in_5 : decode cX12_in 5 = .ok (.iload_n 0, 1) := by decide +kernel
theorem dX12_in_6 : decode cX12_in 6 = .ok (.iload_n 2, 1) := by decide +kernel
theorem dX12_in_7 : decode cX12_in 7 = .ok (.if_icmp .gt 7, 3) := by decide +kernel
theorem dX12_in_10 : decode cX12_in 10 = .ok (.iconst 1, 1) := by decide +kernel
theorem dX12_in_11 : decode cX12_in 11 = .ok (.goto 4, 3) := by decide +kernel
theorem dX12_in_14 : decode cX12_in 14 = .ok (.iconst 0, 1) := by decide +kernel
theorem dX12_in_15 : decode cX12_in 15 = .ok (.ireturn, 1) := by decide +kernel
theorem dX12_isFeed_0 : decode cX12_isFeed 0 = .ok (.iload_n 1, 1) := by decide +kernel
theorem dX12_isFeed_1 : decode cX12_isFeed 1 = .ok (.iconst 0, 1) := by decide +kernel
theorem dX12_isFeed_2 : decode cX12_isFeed 2 = .ok (.aload_n 0, 1) := by decide +kernel
theorem dX12_isFeed_3 : decode cX12_isFeed 3 = .ok (.getfield 108, 3) := by decide +kernel
theorem dX12_isFeed_6 : decode cX12_isFeed 6 = .ok (.iconst 1, 1) := by decide +kernel
theorem dX12_isFeed_7 : decode cX12_isFeed 7 = .ok (.isub, 1) := by decide +kernel
theorem dX12_isFeed_8 : decode cX12_isFeed 8 = .ok (.invokestatic 111, 3) := by decide +kernel
theorem dX12_isFeed_11 : decode cX12_isFeed 11 = .ok (.ireturn, 1) := by decide +kernel
theorem dX12_isColour_0 : decode cX12_isColour 0 = .ok (.iload_n 1, 1) := by decide +kernel
theorem dX12_isColour_1 : decode cX12_isColour 1 = .ok (.iconst 0, 1) := by decide +kernel
theorem dX12_isColour_2 : decode cX12_isColour 2 = .ok (.aload_n 0, 1) := by decide +kernel
theorem dX12_isColour_3 : decode cX12_isColour 3 = .ok (.getfield 115, 3) := by decide +kernel
theorem dX12_isColour_6 : decode cX12_isColour 6 = .ok (.iconst 1, 1) := by decide +kernel
theorem dX12_isColour_7 : decode cX12_isColour 7 = .ok (.isub, 1) := by decide +kernel
theorem dX12_isColour_8 : decode cX12_isColour 8 = .ok (.invokestatic 111, 3) := by decide +kernel
theorem dX12_isColour_11 : decode cX12_isColour 11 = .ok (.ireturn, 1) := by decide +kernel
theorem dX12_feed_0 : decode cX12_feed 0 = .ok (.iload_n 1, 1) := by decide +kernel
theorem dX12_feed_1 : decode cX12_feed 1 = .ok (.iconst 1, 1) := by decide +kernel
theorem dX12_feed_2 : decode cX12_feed 2 = .ok (.if_icmp .eq 8, 3) := by decide +kernel
theorem dX12_feed_5 : decode cX12_feed 5 = .ok (.iload_n 1, 1) := by decide +kernel
theorem dX12_feed_6 : decode cX12_feed 6 = .ok (.iconst 3, 1) := by decide +kernel
theorem dX12_feed_7 : decode cX12_feed 7 = .ok (.if_icmp .ne 7, 3) := by decide +kernel
theorem dX12_feed_10 : decode cX12_feed 10 = .ok (.iconst 1, 1) := by decide +kernel
theorem dX12_feed_11 : decode cX12_feed 11 = .ok (.goto 4, 3) := by decide +kernel
theorem dX12_feed_14 : decode cX12_feed 14 = .ok (.iconst 0, 1) := by decide +kernel
theorem dX12_feed_15 : decode cX12_feed 15 = .ok (.istore 8, 2) := by decide +kernel
theorem dX12_feed_17 : decode cX12_feed 17 = .ok (.iload_n 1, 1) := by decide +kernel
theorem dX12_feed_18 : decode cX12_feed 18 = .ok (.iconst 0, 1) := by decide +kernel
theorem dX12_feed_19 : decode cX12_feed 19 = .ok (.iconst 3, 1) := by decide +kernel
theorem dX12_feed_20 : decode cX12_feed 20 = .ok (.invokestatic 111, 3) := by decide +kernel
theorem dX12_feed_23 : decode cX12_feed 23 = .ok (.ifCond .eq 64, 3) := by decide +kernel
theorem dX12_feed_26 : decode cX12_feed 26 = .ok (.iload_n 2, 1) := by decide +kernel
theorem dX12_feed_27 : decode cX12_feed 27 = .ok (.iconst 0, 1) := by decide +kernel
theorem dX12_feed_28 : decode cX12_feed 28 = .ok (.sipush 1000, 3) := by decide +kernel
theorem dX12_feed_31 : decode cX12_feed 31 = .ok (.invokestatic 111, 3) := by decide +kernel
theorem dX12_feed_34 : decode cX12_feed 34 = .ok (.ifCond .eq 53, 3) := by decide +kernel
theorem dX12_feed_37 : decode cX12_feed 37 = .ok (.iload_n 3, 1) := by decide +kernel
theorem dX12_feed_38 : decode cX12_feed 38 = .ok (.iconst 0, 1) := by decide +kernel
theorem dX12_feed_39 : decode cX12_feed 39 = .ok (.sipush 1000, 3) := by decide +kernel
theorem dX12_feed_42 : decode cX12_feed 42 = .ok (.invokestatic 111, 3) := by decide +kernel
theorem dX12_feed_45 : decode cX12_feed 45 = .ok (.ifCond .eq 42, 3) := by decide +kernel
theorem dX12_feed_48 : decode cX12_feed 48 = .ok (.iload 4, 2) := by decide +kernel
theorem dX12_feed_50 : decode cX12_feed 50 = .ok (.iconst 0, 1) := by decide +kernel
theorem dX12_feed_51 : decode cX12_feed 51 = .ok (.sipush 1000, 3) := by decide +kernel
theorem dX12_feed_54 : decode cX12_feed 54 = .ok (.invokestatic 111, 3) := by decide +kernel
theorem dX12_feed_57 : decode cX12_feed 57 = .ok (.ifCond .eq 30, 3) := by decide +kernel
theorem dX12_feed_60 : decode cX12_feed 60 = .ok (.iload 5, 2) := by decide +kernel
theorem dX12_feed_62 : decode cX12_feed 62 = .ok (.iconst 0, 1) := by decide +kernel
theorem dX12_feed_63 : decode cX12_feed 63 = .ok (.sipush 1000, 3) := by decide +kernel
theorem dX12_feed_66 : decode cX12_feed 66 = .ok (.invokestatic 111, 3) := by decide +kernel
theorem dX12_feed_69 : decode cX12_feed 69 = .ok (.ifCond .eq 18, 3) := by decide +kernel
theorem dX12_feed_72 : decode cX12_feed 72 = .ok (.iload_n 2, 1) := by decide +kernel
theorem dX12_feed_73 : decode cX12_feed 73 = .ok (.iload_n 3, 1) := by decide +kernel
theorem dX12_feed_74 : decode cX12_feed 74 = .ok (.iadd, 1) := by decide +kernel
theorem dX12_feed_75 : decode cX12_feed 75 = .ok (.iload 4, 2) := by decide +kernel
theorem dX12_feed_77 : decode cX12_feed 77 = .ok (.iadd, 1) := by decide +kernel
theorem dX12_feed_78 : decode cX12_feed 78 = .ok (.iload 5, 2) := by decide +kernel
theorem dX12_feed_80 : decode cX12_feed 80 = .ok (.iadd, 1) := by decide +kernel
theorem dX12_feed_81 : decode cX12_feed 81 = .ok (.sipush 1000, 3) := by decide +kernel
theorem dX12_feed_84 : decode cX12_feed 84 = .ok (.if_icmp .eq 6, 3) := by decide +kernel
theorem dX12_feed_87 : decode cX12_feed 87 = .ok (.ldc 118, 2) := by decide +kernel
theorem dX12_feed_89 : decode cX12_feed 89 = .ok (.ireturn, 1) := by decide +kernel
theorem dX12_feed_90 : decode cX12_feed 90 = .ok (.iload 6, 2) := by decide +kernel
theorem dX12_feed_92 : decode cX12_feed 92 = .ok (.iconst 0, 1) := by decide +kernel
theorem dX12_feed_93 : decode cX12_feed 93 = .ok (.iload 8, 2) := by decide +kernel
theorem dX12_feed_95 : decode cX12_feed 95 = .ok (.ifCond .eq 8, 3) := by decide +kernel
theorem dX12_feed_98 : decode cX12_feed 98 = .ok (.bipush 100, 2) := by decide +kernel
theorem dX12_feed_100 : decode cX12_feed 100 = .ok (.goto 4, 3) := by decide +kernel
theorem dX12_feed_103 : decode cX12_feed 103 = .ok (.iconst 0, 1) := by decide +kernel
theorem dX12_feed_104 : decode cX12_feed 104 = .ok (.invokestatic 111, 3) := by decide +kernel
theorem dX12_feed_107 : decode cX12_feed 107 = .ok (.ifCond .eq 24, 3) := by decide +kernel
theorem dX12_feed_110 : decode cX12_feed 110 = .ok (.iload 7, 2) := by decide +kernel
theorem dX12_feed_112 : decode cX12_feed 112 = .ok (.iconst 0, 1) := by decide +kernel
theorem dX12_feed_113 : decode cX12_feed 113 = .ok (.sipush 10000, 3) := by decide +kernel
theorem dX12_feed_116 : decode cX12_feed 116 = .ok (.invokestatic 111, 3) := by decide +kernel
theorem dX12_feed_119 : decode cX12_feed 119 = .ok (.ifCond .eq 12, 3) := by decide +kernel
theorem dX12_feed_122 : decode cX12_feed 122 = .ok (.aload_n 0, 1) := by decide +kernel
theorem dX12_feed_123 : decode cX12_feed 123 = .ok (.getfield 108, 3) := by decide +kernel
theorem dX12_feed_126 : decode cX12_feed 126 = .ok (.bipush 8, 2) := by decide +kernel
theorem dX12_feed_128 : decode cX12_feed 128 = .ok (.if_icmp .ne 6, 3) := by decide +kernel
theorem dX12_feed_131 : decode cX12_feed 131 = .ok (.ldc 118, 2) := by decide +kernel
theorem dX12_feed_133 : decode cX12_feed 133 = .ok (.ireturn, 1) := by decide +kernel
theorem dX12_feed_134 : decode cX12_feed 134 = .ok (.aload_n 0, 1) := by decide +kernel
theorem dX12_feed_135 : decode cX12_feed 135 = .ok (.getfield 108, 3) := by decide +kernel
theorem dX12_feed_138 : decode cX12_feed 138 = .ok (.istore 9, 2) := by decide +kernel
theorem dX12_feed_140 : decode cX12_feed 140 = .ok (.aload_n 0, 1) := by decide +kernel
theorem dX12_feed_141 : decode cX12_feed 141 = .ok (.getfield 7, 3) := by decide +kernel
theorem dX12_feed_144 : decode cX12_feed 144 = .ok (.iconst 4, 1) := by decide +kernel
theorem dX12_feed_145 : decode cX12_feed 145 = .ok (.iload 9, 2) := by decide +kernel
theorem dX12_feed_147 : decode cX12_feed 147 = .ok (.imul, 1) := by decide +kernel
theorem dX12_feed_148 : decode cX12_feed 148 = .ok (.iload_n 2, 1) := by decide +kernel
theorem dX12_feed_149 : decode cX12_feed 149 = .ok (.iastore, 1) := by decide +kernel
theorem dX12_feed_150 : decode cX12_feed 150 = .ok (.aload_n 0, 1) := by decide +kernel
theorem dX12_feed_151 : decode cX12_feed 151 = .ok (.getfield 7, 3) := by decide +kernel
theorem dX12_feed_154 : decode cX12_feed 154 = .ok (.iconst 4, 1) := by decide +kernel
theorem dX12_feed_155 : decode cX12_feed 155 = .ok (.iload 9, 2) := by decide +kernel
theorem dX12_feed_157 : decode cX12_feed 157 = .ok (.imul, 1) := by decide +kernel
theorem dX12_feed_158 : decode cX12_feed 158 = .ok (.iconst 1, 1) := by decide +kernel
theorem dX12_feed_159 : decode cX12_feed 159 = .ok (.iadd, 1) := by decide +kernel
theorem dX12_feed_160 : decode cX12_feed 160 = .ok (.iload_n 3, 1) := by decide +kernel
theorem dX12_feed_161 : decode cX12_feed 161 = .ok (.iastore, 1) := by decide +kernel
theorem dX12_feed_162 : decode cX12_feed 162 = .ok (.aload_n 0, 1) := by decide +kernel
theorem dX12_feed_163 : decode cX12_feed 163 = .ok (.getfield 7, 3) := by decide +kernel
theorem dX12_feed_166 : decode cX12_feed 166 = .ok (.iconst 4, 1) := by decide +kernel
theorem dX12_feed_167 : decode cX12_feed 167 = .ok (.iload 9, 2) := by decide +kernel
theorem dX12_feed_169 : decode cX12_feed 169 = .ok (.imul, 1) := by decide +kernel
theorem dX12_feed_170 : decode cX12_feed 170 = .ok (.iconst 2, 1) := by decide +kernel
theorem dX12_feed_171 : decode cX12_feed 171 = .ok (.iadd, 1) := by decide +kernel
theorem dX12_feed_172 : decode cX12_feed 172 = .ok (.iload 4, 2) := by decide +kernel
theorem dX12_feed_174 : decode cX12_feed 174 = .ok (.iastore, 1) := by decide +kernel
theorem dX12_feed_175 : decode cX12_feed 175 = .ok (.aload_n 0, 1) := by decide +kernel
theorem dX12_feed_176 : decode cX12_feed 176 = .ok (.getfield 7, 3) := by decide +kernel
theorem dX12_feed_179 : decode cX12_feed 179 = .ok (.iconst 4, 1) := by decide +kernel
theorem dX12_feed_180 : decode cX12_feed 180 = .ok (.iload 9, 2) := by decide +kernel
theorem dX12_feed_182 : decode cX12_feed 182 = .ok (.imul, 1) := by decide +kernel
theorem dX12_feed_183 : decode cX12_feed 183 = .ok (.iconst 3, 1) := by decide +kernel
theorem dX12_feed_184 : decode cX12_feed 184 = .ok (.iadd, 1) := by decide +kernel
theorem dX12_feed_185 : decode cX12_feed 185 = .ok (.iload 5, 2) := by decide +kernel
theorem dX12_feed_187 : decode cX12_feed 187 = .ok (.iastore, 1) := by decide +kernel
theorem dX12_feed_188 : decode cX12_feed 188 = .ok (.aload_n 0, 1) := by decide +kernel
theorem dX12_feed_189 : decode cX12_feed 189 = .ok (.getfield 13, 3) := by decide +kernel
theorem dX12_feed_192 : decode cX12_feed 192 = .ok (.iload 9, 2) := by decide +kernel
theorem dX12_feed_194 : decode cX12_feed 194 = .ok (.iload_n 1, 1) := by decide +kernel
theorem dX12_feed_195 : decode cX12_feed 195 = .ok (.iastore, 1) := by decide +kernel
theorem dX12_feed_196 : decode cX12_feed 196 = .ok (.aload_n 0, 1) := by decide +kernel
theorem dX12_feed_197 : decode cX12_feed 197 = .ok (.getfield 16, 3) := by decide +kernel
theorem dX12_feed_200 : decode cX12_feed 200 = .ok (.iload 9, 2) := by decide +kernel
theorem dX12_feed_202 : decode cX12_feed 202 = .ok (.iload 6, 2) := by decide +kernel
theorem dX12_feed_204 : decode cX12_feed 204 = .ok (.iastore, 1) := by decide +kernel
theorem dX12_feed_205 : decode cX12_feed 205 = .ok (.aload_n 0, 1) := by decide +kernel
theorem dX12_feed_206 : decode cX12_feed 206 = .ok (.getfield 19, 3) := by decide +kernel
theorem dX12_feed_209 : decode cX12_feed 209 = .ok (.iload 9, 2) := by decide +kernel
theorem dX12_feed_211 : decode cX12_feed 211 = .ok (.iload 7, 2) := by decide +kernel
theorem dX12_feed_213 : decode cX12_feed 213 = .ok (.iastore, 1) := by decide +kernel
theorem dX12_feed_214 : decode cX12_feed 214 = .ok (.aload_n 0, 1) := by decide +kernel
theorem dX12_feed_215 : decode cX12_feed 215 = .ok (.dup, 1) := by decide +kernel
theorem dX12_feed_216 : decode cX12_feed 216 = .ok (.getfield 108, 3) := by decide +kernel
theorem dX12_feed_219 : decode cX12_feed 219 = .ok (.iconst 1, 1) := by decide +kernel
theorem dX12_feed_220 : decode cX12_feed 220 = .ok (.iadd, 1) := by decide +kernel
theorem dX12_feed_221 : decode cX12_feed 221 = .ok (.putfield 108, 3) := by decide +kernel
theorem dX12_feed_224 : decode cX12_feed 224 = .ok (.iload 9, 2) := by decide +kernel
theorem dX12_feed_226 : decode cX12_feed 226 = .ok (.ireturn, 1) := by decide +kernel
theorem dX12_stock_0 : decode cX12_stock 0 = .ok (.aload_n 0, 1) := by decide +kernel
theorem dX12_stock_1 : decode cX12_stock 1 = .ok (.iload_n 1, 1) := by decide +kernel
theorem dX12_stock_2 : decode cX12_stock 2 = .ok (.invokevirtual 119, 3) := by decide +kernel
theorem dX12_stock_5 : decode cX12_stock 5 = .ok (.ifCond .eq 20, 3) := by decide +kernel
theorem dX12_stock_8 : decode cX12_stock 8 = .ok (.iload_n 2, 1) := by decide +kernel
theorem dX12_stock_9 : decode cX12_stock 9 = .ok (.ifCond .lt 16, 3) := by decide +kernel
theorem dX12_stock_12 : decode cX12_stock 12 = .ok (.iload_n 2, 1) := by decide +kernel
theorem dX12_stock_13 : decode cX12_stock 13 = .ok (.ldc 123, 2) := by decide +kernel
theorem dX12_stock_15 : decode cX12_stock 15 = .ok (.aload_n 0, 1) := by decide +kernel
theorem dX12_stock_16 : decode cX12_stock 16 = .ok (.getfield 22, 3) := by decide +kernel
theorem dX12_stock_19 : decode cX12_stock 19 = .ok (.iload_n 1, 1) := by decide +kernel
theorem dX12_stock_20 : decode cX12_stock 20 = .ok (.iaload, 1) := by decide +kernel
theorem dX12_stock_21 : decode cX12_stock 21 = .ok (.isub, 1) := by decide +kernel
theorem dX12_stock_22 : decode cX12_stock 22 = .ok (.if_icmp .le 6, 3) := by decide +kernel
theorem dX12_stock_25 : decode cX12_stock 25 = .ok (.ldc 118, 2) := by decide +kernel
theorem dX12_stock_27 : decode cX12_stock 27 = .ok (.ireturn, 1) := by decide +kernel
theorem dX12_stock_28 : decode cX12_stock 28 = .ok (.aload_n 0, 1) := by decide +kernel
theorem dX12_stock_29 : decode cX12_stock 29 = .ok (.getfield 22, 3) := by decide +kernel
theorem dX12_stock_32 : decode cX12_stock 32 = .ok (.iload_n 1, 1) := by decide +kernel
theorem dX12_stock_33 : decode cX12_stock 33 = .ok (.dup2, 1) := by decide +kernel
theorem dX12_stock_34 : decode cX12_stock 34 = .ok (.iaload, 1) := by decide +kernel
theorem dX12_stock_35 : decode cX12_stock 35 = .ok (.iload_n 2, 1) := by decide +kernel
theorem dX12_stock_36 : decode cX12_stock 36 = .ok (.iadd, 1) := by decide +kernel
theorem dX12_stock_37 : decode cX12_stock 37 = .ok (.iastore, 1) := by decide +kernel
theorem dX12_stock_38 : decode cX12_stock 38 = .ok (.aload_n 0, 1) := by decide +kernel
theorem dX12_stock_39 : decode cX12_stock 39 = .ok (.getfield 22, 3) := by decide +kernel
theorem dX12_stock_42 : decode cX12_stock 42 = .ok (.iload_n 1, 1) := by decide +kernel
theorem dX12_stock_43 : decode cX12_stock 43 = .ok (.iaload, 1) := by decide +kernel
theorem dX12_stock_44 : decode cX12_stock 44 = .ok (.ireturn, 1) := by decide +kernel
theorem dX12_of_0 : decode cX12_of 0 = .ok (.aload_n 0, 1) := by decide +kernel
theorem dX12_of_1 : decode cX12_of 1 = .ok (.iload_n 1, 1) := by decide +kernel
theorem dX12_of_2 : decode cX12_of 2 = .ok (.invokevirtual 119, 3) := by decide +kernel
theorem dX12_of_5 : decode cX12_of 5 = .ok (.ifCond .eq 13, 3) := by decide +kernel
theorem dX12_of_8 : decode cX12_of 8 = .ok (.iload_n 2, 1) := by decide +kernel
theorem dX12_of_9 : decode cX12_of 9 = .ok (.iconst 0, 1) := by decide +kernel
theorem dX12_of_10 : decode cX12_of 10 = .ok (.bipush 8, 2) := by decide +kernel
theorem dX12_of_12 : decode cX12_of 12 = .ok (.invokestatic 111, 3) := by decide +kernel
theorem dX12_of_15 : decode cX12_of 15 = .ok (.ifCond .ne 6, 3) := by decide +kernel
theorem dX12_of_18 : decode cX12_of 18 = .ok (.ldc 118, 2) := by decide +kernel
theorem dX12_of_20 : decode cX12_of 20 = .ok (.ireturn, 1) := by decide +kernel
theorem dX12_of_21 : decode cX12_of 21 = .ok (.iload_n 2, 1) := by decide +kernel
theorem dX12_of_22 : decode cX12_of 22 = .ok (.tableswitch 80 4 8 #[34, 41, 48, 55, 62], 34) := by decide +kernel
theorem dX12_of_56 : decode cX12_of 56 = .ok (.aload_n 0, 1) := by decide +kernel
theorem dX12_of_57 : decode cX12_of 57 = .ok (.getfield 13, 3) := by decide +kernel
theorem dX12_of_60 : decode cX12_of 60 = .ok (.iload_n 1, 1) := by decide +kernel
theorem dX12_of_61 : decode cX12_of 61 = .ok (.iaload, 1) := by decide +kernel
theorem dX12_of_62 : decode cX12_of 62 = .ok (.ireturn, 1) := by decide +kernel
theorem dX12_of_63 : decode cX12_of 63 = .ok (.aload_n 0, 1) := by decide +kernel
theorem dX12_of_64 : decode cX12_of 64 = .ok (.getfield 16, 3) := by decide +kernel
theorem dX12_of_67 : decode cX12_of 67 = .ok (.iload_n 1, 1) := by decide +kernel
theorem dX12_of_68 : decode cX12_of 68 = .ok (.iaload, 1) := by decide +kernel
theorem dX12_of_69 : decode cX12_of 69 = .ok (.ireturn, 1) := by decide +kernel
theorem dX12_of_70 : decode cX12_of 70 = .ok (.aload_n 0, 1) := by decide +kernel
theorem dX12_of_71 : decode cX12_of 71 = .ok (.getfield 19, 3) := by decide +kernel
theorem dX12_of_74 : decode cX12_of 74 = .ok (.iload_n 1, 1) := by decide +kernel
theorem dX12_of_75 : decode cX12_of 75 = .ok (.iaload, 1) := by decide +kernel
theorem dX12_of_76 : decode cX12_of 76 = .ok (.ireturn, 1) := by decide +kernel
theorem dX12_of_77 : decode cX12_of 77 = .ok (.aload_n 0, 1) := by decide +kernel
theorem dX12_of_78 : decode cX12_of 78 = .ok (.getfield 22, 3) := by decide +kernel
theorem dX12_of_81 : decode cX12_of 81 = .ok (.iload_n 1, 1) := by decide +kernel
theorem dX12_of_82 : decode cX12_of 82 = .ok (.iaload, 1) := by decide +kernel
theorem dX12_of_83 : decode cX12_of 83 = .ok (.ireturn, 1) := by decide +kernel
theorem dX12_of_84 : decode cX12_of 84 = .ok (.aload_n 0, 1) := by decide +kernel
theorem dX12_of_85 : decode cX12_of 85 = .ok (.getfield 124, 3) := by decide +kernel
theorem dX12_of_88 : decode cX12_of 88 = .ok (.ifCond .eq 12, 3) := by decide +kernel
theorem dX12_of_91 : decode cX12_of 91 = .ok (.aload_n 0, 1) := by decide +kernel
theorem dX12_of_92 : decode cX12_of 92 = .ok (.getfield 28, 3) := by decide +kernel
theorem dX12_of_95 : decode cX12_of 95 = .ok (.iload_n 1, 1) := by decide +kernel
theorem dX12_of_96 : decode cX12_of 96 = .ok (.iaload, 1) := by decide +kernel
theorem dX12_of_97 : decode cX12_of 97 = .ok (.goto 4, 3) := by decide +kernel
theorem dX12_of_100 : decode cX12_of 100 = .ok (.iconst 0, 1) := by decide +kernel
theorem dX12_of_101 : decode cX12_of 101 = .ok (.ireturn, 1) := by decide +kernel
theorem dX12_of_102 : decode cX12_of 102 = .ok (.aload_n 0, 1) := by decide +kernel
theorem dX12_of_103 : decode cX12_of 103 = .ok (.getfield 7, 3) := by decide +kernel
theorem dX12_of_106 : decode cX12_of 106 = .ok (.iconst 4, 1) := by decide +kernel
theorem dX12_of_107 : decode cX12_of 107 = .ok (.iload_n 1, 1) := by decide +kernel
theorem dX12_of_108 : decode cX12_of 108 = .ok (.imul, 1) := by decide +kernel
theorem dX12_of_109 : decode cX12_of 109 = .ok (.iload_n 2, 1) := by decide +kernel
theorem dX12_of_110 : decode cX12_of 110 = .ok (.iadd, 1) := by decide +kernel
theorem dX12_of_111 : decode cX12_of 111 = .ok (.iaload, 1) := by decide +kernel
theorem dX12_of_112 : decode cX12_of 112 = .ok (.ireturn, 1) := by decide +kernel
theorem dX12_shareOut_0 : decode cX12_shareOut 0 = .ok (.lconst 0, 1) := by decide +kernel
theorem dX12_shareOut_1 : decode cX12_shareOut 1 = .ok (.lstore_n 3, 1) := by decide +kernel
theorem dX12_shareOut_2 : decode cX12_shareOut 2 = .ok (.iconst 0, 1) := by decide +kernel
theorem dX12_shareOut_3 : decode cX12_shareOut 3 = .ok (.istore 5, 2) := by decide +kernel
theorem dX12_shareOut_5 : decode cX12_shareOut 5 = .ok (.iload 5, 2) := by decide +kernel
theorem dX12_shareOut_7 : decode cX12_shareOut 7 = .ok (.iload_n 2, 1) := by decide +kernel
theorem dX12_shareOut_8 : decode cX12_shareOut 8 = .ok (.if_icmp .ge 19, 3) := by decide +kernel
theorem dX12_shareOut_11 : decode cX12_shareOut 11 = .ok (.lload_n 3, 1) := by decide +kernel
theorem dX12_shareOut_12 : decode cX12_shareOut 12 = .ok (.aload_n 0, 1) := by decide +kernel
theorem dX12_shareOut_13 : decode cX12_shareOut 13 = .ok (.getfield 83, 3) := by decide +kernel
theorem dX12_shareOut_16 : decode cX12_shareOut 16 = .ok (.iload 5, 2) := by decide +kernel
theorem dX12_shareOut_18 : decode cX12_shareOut 18 = .ok (.laload, 1) := by decide +kernel
theorem dX12_shareOut_19 : decode cX12_shareOut 19 = .ok (.ladd, 1) := by decide +kernel
theorem dX12_shareOut_20 : decode cX12_shareOut 20 = .ok (.lstore_n 3, 1) := by decide +kernel
theorem dX12_shareOut_21 : decode cX12_shareOut 21 = .ok (.iinc 5 1, 3) := by decide +kernel
theorem dX12_shareOut_24 : decode cX12_shareOut 24 = .ok (.goto (-19), 3) := by decide +kernel
theorem dX12_shareOut_27 : decode cX12_shareOut 27 = .ok (.iload_n 1, 1) := by decide +kernel
theorem dX12_shareOut_28 : decode cX12_shareOut 28 = .ok (.istore 5, 2) := by decide +kernel
theorem dX12_shareOut_30 : decode cX12_shareOut 30 = .ok (.iconst 0, 1) := by decide +kernel
theorem dX12_shareOut_31 : decode cX12_shareOut 31 = .ok (.istore 6, 2) := by decide +kernel
theorem dX12_shareOut_33 : decode cX12_shareOut 33 = .ok (.iload 6, 2) := by decide +kernel
theorem dX12_shareOut_35 : decode cX12_shareOut 35 = .ok (.iload_n 2, 1) := by decide +kernel
theorem dX12_shareOut_36 : decode cX12_shareOut 36 = .ok (.if_icmp .ge 60, 3) := by decide +kernel
theorem dX12_shareOut_39 : decode cX12_shareOut 39 = .ok (.aload_n 0, 1) := by decide +kernel
theorem dX12_shareOut_40 : decode cX12_shareOut 40 = .ok (.getfield 90, 3) := by decide +kernel
theorem dX12_shareOut_43 : decode cX12_shareOut 43 = .ok (.iload 6, 2) := by decide +kernel
theorem dX12_shareOut_45 : decode cX12_shareOut 45 = .ok (.iload_n 1, 1) := by decide +kernel
theorem dX12_shareOut_46 : decode cX12_shareOut 46 = .ok (.i2l, 1) := by decide +kernel
theorem dX12_shareOut_47 : decode cX12_shareOut 47 = .ok (.aload_n 0, 1) := by decide +kernel
theorem dX12_shareOut_48 : decode cX12_shareOut 48 = .ok (.getfield 83, 3) := by decide +kernel
theorem dX12_shareOut_51 : decode cX12_shareOut 51 = .ok (.iload 6, 2) := by decide +kernel
theorem dX12_shareOut_53 : decode cX12_shareOut 53 = .ok (.laload, 1) := by decide +kernel
theorem dX12_shareOut_54 : decode cX12_shareOut 54 = .ok (.lmul, 1) := by decide +kernel
theorem dX12_shareOut_55 : decode cX12_shareOut 55 = .ok (.lload_n 3, 1) := by decide +kernel
theorem dX12_shareOut_56 : decode cX12_shareOut 56 = .ok (.ldiv, 1) := by decide +kernel
theorem dX12_shareOut_57 : decode cX12_shareOut 57 = .ok (.l2i, 1) := by decide +kernel
theorem dX12_shareOut_58 : decode cX12_shareOut 58 = .ok (.iastore, 1) := by decide +kernel
theorem dX12_shareOut_59 : decode cX12_shareOut 59 = .ok (.aload_n 0, 1) := by decide +kernel
theorem dX12_shareOut_60 : decode cX12_shareOut 60 = .ok (.getfield 87, 3) := by decide +kernel
theorem dX12_shareOut_63 : decode cX12_shareOut 63 = .ok (.iload 6, 2) := by decide +kernel
theorem dX12_shareOut_65 : decode cX12_shareOut 65 = .ok (.iload_n 1, 1) := by decide +kernel
theorem dX12_shareOut_66 : decode cX12_shareOut 66 = .ok (.i2l, 1) := by decide +kernel
theorem dX12_shareOut_67 : decode cX12_shareOut 67 = .ok (.aload_n 0, 1) := by decide +kernel
theorem dX12_shareOut_68 : decode cX12_shareOut 68 = .ok (.getfield 83, 3) := by decide +kernel
theorem dX12_shareOut_71 : decode cX12_shareOut 71 = .ok (.iload 6, 2) := by decide +kernel
theorem dX12_shareOut_73 : decode cX12_shareOut 73 = .ok (.laload, 1) := by decide +kernel
theorem dX12_shareOut_74 : decode cX12_shareOut 74 = .ok (.lmul, 1) := by decide +kernel
theorem dX12_shareOut_75 : decode cX12_shareOut 75 = .ok (.lload_n 3, 1) := by decide +kernel
theorem dX12_shareOut_76 : decode cX12_shareOut 76 = .ok (.lrem, 1) := by decide +kernel
theorem dX12_shareOut_77 : decode cX12_shareOut 77 = .ok (.lastore, 1) := by decide +kernel
theorem dX12_shareOut_78 : decode cX12_shareOut 78 = .ok (.iload 5, 2) := by decide +kernel
theorem dX12_shareOut_80 : decode cX12_shareOut 80 = .ok (.aload_n 0, 1) := by decide +kernel
theorem dX12_shareOut_81 : decode cX12_shareOut 81 = .ok (.getfield 90, 3) := by decide +kernel
theorem dX12_shareOut_84 : decode cX12_shareOut 84 = .ok (.iload 6, 2) := by decide +kernel
theorem dX12_shareOut_86 : decode cX12_shareOut 86 = .ok (.iaload, 1) := by decide +kernel
theorem dX12_shareOut_87 : decode cX12_shareOut 87 = .ok (.isub, 1) := by decide +kernel
theorem dX12_shareOut_88 : decode cX12_shareOut 88 = .ok (.istore 5, 2) := by decide +kernel
theorem dX12_shareOut_90 : decode cX12_shareOut 90 = .ok (.iinc 6 1, 3) := by decide +kernel
theorem dX12_shareOut_93 : decode cX12_shareOut 93 = .ok (.goto (-60), 3) := by decide +kernel
theorem dX12_shareOut_96 : decode cX12_shareOut 96 = .ok (.iload 5, 2) := by decide +kernel
theorem dX12_shareOut_98 : decode cX12_shareOut 98 = .ok (.ifCond .le 70, 3) := by decide +kernel
theorem dX12_shareOut_101 : decode cX12_shareOut 101 = .ok (.iconst 0, 1) := by decide +kernel
theorem dX12_shareOut_102 : decode cX12_shareOut 102 = .ok (.istore 6, 2) := by decide +kernel
theorem dX12_shareOut_104 : decode cX12_shareOut 104 = .ok (.iconst 0, 1) := by decide +kernel
theorem dX12_shareOut_105 : decode cX12_shareOut 105 = .ok (.istore 7, 2) := by decide +kernel
theorem dX12_shareOut_107 : decode cX12_shareOut 107 = .ok (.iload 7, 2) := by decide +kernel
theorem dX12_shareOut_109 : decode cX12_shareOut 109 = .ok (.iload_n 2, 1) := by decide +kernel
theorem dX12_shareOut_110 : decode cX12_shareOut 110 = .ok (.if_icmp .ge 31, 3) := by decide +kernel
theorem dX12_shareOut_113 : decode cX12_shareOut 113 = .ok (.aload_n 0, 1) := by decide +kernel
theorem dX12_shareOut_114 : decode cX12_shareOut 114 = .ok (.getfield 87, 3) := by decide +kernel
theorem dX12_shareOut_117 : decode cX12_shareOut 117 = .ok (.iload 7, 2) := by decide +kernel
theorem dX12_shareOut_119 : decode cX12_shareOut 119 = .ok (.laload, 1) := by decide +kernel
theorem dX12_shareOut_120 : decode cX12_shareOut 120 = .ok (.aload_n 0, 1) := by decide +kernel
theorem dX12_shareOut_121 : decode cX12_shareOut 121 = .ok (.getfield 87, 3) := by decide +kernel
theorem dX12_shareOut_124 : decode cX12_shareOut 124 = .ok (.iload 6, 2) := by decide +kernel
theorem dX12_shareOut_126 : decode cX12_shareOut 126 = .ok (.laload, 1) := by decide +kernel
theorem dX12_shareOut_127 : decode cX12_shareOut 127 = .ok (.lcmp, 1) := by decide +kernel
theorem dX12_shareOut_128 : decode cX12_shareOut 128 = .ok (.ifCond .le 7, 3) := by decide +kernel
theorem dX12_shareOut_131 : decode cX12_shareOut 131 = .ok (.iload 7, 2) := by decide +kernel
theorem dX12_shareOut_133 : decode cX12_shareOut 133 = .ok (.istore 6, 2) := by decide +kernel
theorem dX12_shareOut_135 : decode cX12_shareOut 135 = .ok (.iinc 7 1, 3) := by decide +kernel
theorem dX12_shareOut_138 : decode cX12_shareOut 138 = .ok (.goto (-31), 3) := by decide +kernel
theorem dX12_shareOut_141 : decode cX12_shareOut 141 = .ok (.aload_n 0, 1) := by decide +kernel
theorem dX12_shareOut_142 : decode cX12_shareOut 142 = .ok (.getfield 90, 3) := by decide +kernel
theorem dX12_shareOut_145 : decode cX12_shareOut 145 = .ok (.iload 6, 2) := by decide +kernel
theorem dX12_shareOut_147 : decode cX12_shareOut 147 = .ok (.dup2, 1) := by decide +kernel
theorem dX12_shareOut_148 : decode cX12_shareOut 148 = .ok (.iaload, 1) := by decide +kernel
theorem dX12_shareOut_149 : decode cX12_shareOut 149 = .ok (.iconst 1, 1) := by decide +kernel
theorem dX12_shareOut_150 : decode cX12_shareOut 150 = .ok (.iadd, 1) := by decide +kernel
theorem dX12_shareOut_151 : decode cX12_shareOut 151 = .ok (.iastore, 1) := by decide +kernel
theorem dX12_shareOut_152 : decode cX12_shareOut 152 = .ok (.aload_n 0, 1) := by decide +kernel
theorem dX12_shareOut_153 : decode cX12_shareOut 153 = .ok (.getfield 87, 3) := by decide +kernel
theorem dX12_shareOut_156 : decode cX12_shareOut 156 = .ok (.iload 6, 2) := by decide +kernel
theorem dX12_shareOut_158 : decode cX12_shareOut 158 = .ok (.ldc2_w 128, 3) := by decide +kernel
theorem dX12_shareOut_161 : decode cX12_shareOut 161 = .ok (.lastore, 1) := by decide +kernel
theorem dX12_shareOut_162 : decode cX12_shareOut 162 = .ok (.iinc 5 (-1), 3) := by decide +kernel
theorem dX12_shareOut_165 : decode cX12_shareOut 165 = .ok (.goto (-69), 3) := by decide +kernel
theorem dX12_shareOut_168 : decode cX12_shareOut 168 = .ok (.return_, 1) := by decide +kernel
theorem dX12_byThings_0 : decode cX12_byThings 0 = .ok (.iconst 0, 1) := by decide +kernel
theorem dX12_byThings_1 : decode cX12_byThings 1 = .ok (.istore 5, 2) := by decide +kernel
theorem dX12_byThings_3 : decode cX12_byThings 3 = .ok (.iload 5, 2) := by decide +kernel
theorem dX12_byThings_5 : decode cX12_byThings 5 = .ok (.iconst 4, 1) := by decide +kernel
theorem dX12_byThings_6 : decode cX12_byThings 6 = .ok (.if_icmp .ge 28, 3) := by decide +kernel
theorem dX12_byThings_9 : decode cX12_byThings 9 = .ok (.aload_n 0, 1) := by decide +kernel
theorem dX12_byThings_10 : decode cX12_byThings 10 = .ok (.getfield 83, 3) := by decide +kernel
theorem dX12_byThings_13 : decode cX12_byThings 13 = .ok (.iload 5, 2) := by decide +kernel
theorem dX12_byThings_15 : decode cX12_byThings 15 = .ok (.aload_n 0, 1) := by decide +kernel
theorem dX12_byThings_16 : decode cX12_byThings 16 = .ok (.getfield 7, 3) := by decide +kernel
theorem dX12_byThings_19 : decode cX12_byThings 19 = .ok (.iconst 4, 1) := by decide +kernel
theorem dX12_byThings_20 : decode cX12_byThings 20 = .ok (.iload_n 2, 1) := by decide +kernel
theorem dX12_byThings_21 : decode cX12_byThings 21 = .ok (.imul, 1) := by decide +kernel
theorem dX12_byThings_22 : decode cX12_byThings 22 = .ok (.iload 5, 2) := by decide +kernel
theorem dX12_byThings_24 : decode cX12_byThings 24 = .ok (.iadd, 1) := by decide +kernel
theorem dX12_byThings_25 : decode cX12_byThings 25 = .ok (.iaload, 1) := by decide +kernel
theorem dX12_byThings_26 : decode cX12_byThings 26 = .ok (.i2l, 1) := by decide +kernel
theorem dX12_byThings_27 : decode cX12_byThings 27 = .ok (.lastore, 1) := by decide +kernel
theorem dX12_byThings_28 : decode cX12_byThings 28 = .ok (.iinc 5 1, 3) := by decide +kernel
theorem dX12_byThings_31 : decode cX12_byThings 31 = .ok (.goto (-28), 3) := by decide +kernel
theorem dX12_byThings_34 : decode cX12_byThings 34 = .ok (.aload_n 0, 1) := by decide +kernel
theorem dX12_byThings_35 : decode cX12_byThings 35 = .ok (.iload_n 1, 1) := by decide +kernel
theorem dX12_byThings_36 : decode cX12_byThings 36 = .ok (.iconst 4, 1) := by decide +kernel
theorem dX12_byThings_37 : decode cX12_byThings 37 = .ok (.invokevirtual 130, 3) := by decide +kernel
theorem dX12_byThings_40 : decode cX12_byThings 40 = .ok (.iconst 0, 1) := by decide +kernel
theorem dX12_byThings_41 : decode cX12_byThings 41 = .ok (.istore 5, 2) := by decide +kernel
theorem dX12_byThings_43 : decode cX12_byThings 43 = .ok (.iload 5, 2) := by decide +kernel
theorem dX12_byThings_45 : decode cX12_byThings 45 = .ok (.iconst 4, 1) := by decide +kernel
theorem dX12_byThings_46 : decode cX12_byThings 46 = .ok (.if_icmp .ge 23, 3) := by decide +kernel
theorem dX12_byThings_49 : decode cX12_byThings 49 = .ok (.aload_n 3, 1) := by decide +kernel
theorem dX12_byThings_50 : decode cX12_byThings 50 = .ok (.iload 4, 2) := by decide +kernel
theorem dX12_byThings_52 : decode cX12_byThings 52 = .ok (.iload 5, 2) := by decide +kernel
theorem dX12_byThings_54 : decode cX12_byThings 54 = .ok (.iadd, 1) := by decide +kernel
theorem dX12_byThings_55 : decode cX12_byThings 55 = .ok (.aload_n 0, 1) := by decide +kernel
theorem dX12_byThings_56 : decode cX12_byThings 56 = .ok (.getfield 90, 3) := by decide +kernel
theorem dX12_byThings_59 : decode cX12_byThings 59 = .ok (.iload 5, 2) := by decide +kernel
theorem dX12_byThings_61 : decode cX12_byThings 61 = .ok (.iaload, 1) := by decide +kernel
theorem dX12_byThings_62 : decode cX12_byThings 62 = .ok (.iastore, 1) := by decide +kernel
theorem dX12_byThings_63 : decode cX12_byThings 63 = .ok (.iinc 5 1, 3) := by decide +kernel
theorem dX12_byThings_66 : decode cX12_byThings 66 = .ok (.goto (-23), 3) := by decide +kernel
theorem dX12_byThings_69 : decode cX12_byThings 69 = .ok (.return_, 1) := by decide +kernel
theorem dX12_tank_0 : decode cX12_tank 0 = .ok (.iload_n 1, 1) := by decide +kernel
theorem dX12_tank_1 : decode cX12_tank 1 = .ok (.iconst 2, 1) := by decide +kernel
theorem dX12_tank_2 : decode cX12_tank 2 = .ok (.bipush 6, 2) := by decide +kernel
theorem dX12_tank_4 : decode cX12_tank 4 = .ok (.invokestatic 111, 3) := by decide +kernel
theorem dX12_tank_7 : decode cX12_tank 7 = .ok (.ifCond .eq 32, 3) := by decide +kernel
theorem dX12_tank_10 : decode cX12_tank 10 = .ok (.iload_n 2, 1) := by decide +kernel
theorem dX12_tank_11 : decode cX12_tank 11 = .ok (.bipush 100, 2) := by decide +kernel
theorem dX12_tank_13 : decode cX12_tank 13 = .ok (.ldc 134, 2) := by decide +kernel
theorem dX12_tank_15 : decode cX12_tank 15 = .ok (.invokestatic 111, 3) := by decide +kernel
theorem dX12_tank_18 : decode cX12_tank 18 = .ok (.ifCond .eq 21, 3) := by decide +kernel
theorem dX12_tank_21 : decode cX12_tank 21 = .ok (.iload_n 3, 1) := by decide +kernel
theorem dX12_tank_22 : decode cX12_tank 22 = .ok (.iconst 1, 1) := by decide +kernel
theorem dX12_tank_23 : decode cX12_tank 23 = .ok (.iload_n 2, 1) := by decide +kernel
theorem dX12_tank_24 : decode cX12_tank 24 = .ok (.invokestatic 111, 3) := by decide +kernel
theorem dX12_tank_27 : decode cX12_tank 27 = .ok (.ifCond .eq 12, 3) := by decide +kernel
theorem dX12_tank_30 : decode cX12_tank 30 = .ok (.aload_n 0, 1) := by decide +kernel
theorem dX12_tank_31 : decode cX12_tank 31 = .ok (.iload 4, 2) := by decide +kernel
theorem dX12_tank_33 : decode cX12_tank 33 = .ok (.invokevirtual 119, 3) := by decide +kernel
theorem dX12_tank_36 : decode cX12_tank 36 = .ok (.ifCond .ne 6, 3) := by decide +kernel
theorem dX12_tank_39 : decode cX12_tank 39 = .ok (.ldc 118, 2) := by decide +kernel
theorem dX12_tank_41 : decode cX12_tank 41 = .ok (.ireturn, 1) := by decide +kernel
theorem dX12_tank_42 : decode cX12_tank 42 = .ok (.aload_n 0, 1) := by decide +kernel
theorem dX12_tank_43 : decode cX12_tank 43 = .ok (.iload_n 1, 1) := by decide +kernel
theorem dX12_tank_44 : decode cX12_tank 44 = .ok (.putfield 31, 3) := by decide +kernel
theorem dX12_tank_47 : decode cX12_tank 47 = .ok (.aload_n 0, 1) := by decide +kernel
theorem dX12_tank_48 : decode cX12_tank 48 = .ok (.iload_n 2, 1) := by decide +kernel
theorem dX12_tank_49 : decode cX12_tank 49 = .ok (.putfield 35, 3) := by decide +kernel
theorem dX12_tank_52 : decode cX12_tank 52 = .ok (.aload_n 0, 1) := by decide +kernel
theorem dX12_tank_53 : decode cX12_tank 53 = .ok (.iload_n 3, 1) := by decide +kernel
theorem dX12_tank_54 : decode cX12_tank 54 = .ok (.putfield 38, 3) := by decide +kernel
theorem dX12_tank_57 : decode cX12_tank 57 = .ok (.aload_n 0, 1) := by decide +kernel
theorem dX12_tank_58 : decode cX12_tank 58 = .ok (.iconst 1, 1) := by decide +kernel
theorem dX12_tank_59 : decode cX12_tank 59 = .ok (.putfield 135, 3) := by decide +kernel
theorem dX12_tank_62 : decode cX12_tank 62 = .ok (.aload_n 0, 1) := by decide +kernel
theorem dX12_tank_63 : decode cX12_tank 63 = .ok (.iconst 0, 1) := by decide +kernel
theorem dX12_tank_64 : decode cX12_tank 64 = .ok (.putfield 138, 3) := by decide +kernel
theorem dX12_tank_67 : decode cX12_tank 67 = .ok (.aload_n 0, 1) := by decide +kernel
theorem dX12_tank_68 : decode cX12_tank 68 = .ok (.lconst 0, 1) := by decide +kernel
theorem dX12_tank_69 : decode cX12_tank 69 = .ok (.putfield 141, 3) := by decide +kernel
theorem dX12_tank_72 : decode cX12_tank 72 = .ok (.aload_n 0, 1) := by decide +kernel
theorem dX12_tank_73 : decode cX12_tank 73 = .ok (.lconst 0, 1) := by decide +kernel
theorem dX12_tank_74 : decode cX12_tank 74 = .ok (.putfield 145, 3) := by decide +kernel
theorem dX12_tank_77 : decode cX12_tank 77 = .ok (.iconst 0, 1) := by decide +kernel
theorem dX12_tank_78 : decode cX12_tank 78 = .ok (.istore 5, 2) := by decide +kernel
theorem dX12_tank_80 : decode cX12_tank 80 = .ok (.iload 5, 2) := by decide +kernel
theorem dX12_tank_82 : decode cX12_tank 82 = .ok (.sipush 192, 3) := by decide +kernel
theorem dX12_tank_85 : decode cX12_tank 85 = .ok (.if_icmp .ge 17, 3) := by decide +kernel
theorem dX12_tank_88 : decode cX12_tank 88 = .ok (.aload_n 0, 1) := by decide +kernel
theorem dX12_tank_89 : decode cX12_tank 89 = .ok (.getfield 44, 3) := by decide +kernel
theorem dX12_tank_92 : decode cX12_tank 92 = .ok (.iload 5, 2) := by decide +kernel
theorem dX12_tank_94 : decode cX12_tank 94 = .ok (.iconst 0, 1) := by decide +kernel
theorem dX12_tank_95 : decode cX12_tank 95 = .ok (.iastore, 1) := by decide +kernel
theorem dX12_tank_96 : decode cX12_tank 96 = .ok (.iinc 5 1, 3) := by decide +kernel
theorem dX12_tank_99 : decode cX12_tank 99 = .ok (.goto (-19), 3) := by decide +kernel
theorem dX12_tank_102 : decode cX12_tank 102 = .ok (.iconst 0, 1) := by decide +kernel
theorem dX12_tank_103 : decode cX12_tank 103 = .ok (.istore 5, 2) := by decide +kernel
theorem dX12_tank_105 : decode cX12_tank 105 = .ok (.iload 5, 2) := by decide +kernel
theorem dX12_tank_107 : decode cX12_tank 107 = .ok (.iload_n 1, 1) := by decide +kernel
theorem dX12_tank_108 : decode cX12_tank 108 = .ok (.if_icmp .ge 30, 3) := by decide +kernel
theorem dX12_tank_111 : decode cX12_tank 111 = .ok (.aload_n 0, 1) := by decide +kernel
theorem dX12_tank_112 : decode cX12_tank 112 = .ok (.iload_n 2, 1) := by decide +kernel
theorem dX12_tank_113 : decode cX12_tank 113 = .ok (.iload 4, 2) := by decide +kernel
theorem dX12_tank_115 : decode cX12_tank 115 = .ok (.aload_n 0, 1) := by decide +kernel
theorem dX12_tank_116 : decode cX12_tank 116 = .ok (.getfield 44, 3) := by decide +kernel
theorem dX12_tank_119 : decode cX12_tank 119 = .ok (.bipush 32, 2) := by decide +kernel
theorem dX12_tank_121 : decode cX12_tank 121 = .ok (.iload 5, 2) := by decide +kernel
theorem dX12_tank_123 : decode cX12_tank 123 = .ok (.imul, 1) := by decide +kernel
theorem dX12_tank_124 : decode cX12_tank 124 = .ok (.iconst 4, 1) := by decide +kernel
theorem dX12_tank_125 : decode cX12_tank 125 = .ok (.iload 4, 2) := by decide +kernel
theorem dX12_tank_127 : decode cX12_tank 127 = .ok (.imul, 1) := by decide +kernel
theorem dX12_tank_128 : decode cX12_tank 128 = .ok (.iadd, 1) := by decide +kernel
theorem dX12_tank_129 : decode cX12_tank 129 = .ok (.invokevirtual 148, 3) := by decide +kernel
theorem dX12_tank_132 : decode cX12_tank 132 = .ok (.iinc 5 1, 3) := by decide +kernel
theorem dX12_tank_135 : decode cX12_tank 135 = .ok (.goto (-30), 3) := by decide +kernel
theorem dX12_tank_138 : decode cX12_tank 138 = .ok (.iconst 1, 1) := by decide +kernel
theorem dX12_tank_139 : decode cX12_tank 139 = .ok (.ireturn, 1) := by decide +kernel
theorem dX12_pull_0 : decode cX12_pull 0 = .ok (.iload_n 1, 1) := by decide +kernel
theorem dX12_pull_1 : decode cX12_pull 1 = .ok (.iconst 1, 1) := by decide +kernel
theorem dX12_pull_2 : decode cX12_pull 2 = .ok (.aload_n 0, 1) := by decide +kernel
theorem dX12_pull_3 : decode cX12_pull 3 = .ok (.getfield 35, 3) := by decide +kernel
theorem dX12_pull_6 : decode cX12_pull 6 = .ok (.invokestatic 111, 3) := by decide +kernel
theorem dX12_pull_9 : decode cX12_pull 9 = .ok (.ifCond .ne 6, 3) := by decide +kernel
theorem dX12_pull_12 : decode cX12_pull 12 = .ok (.ldc 118, 2) := by decide +kernel
theorem dX12_pull_14 : decode cX12_pull 14 = .ok (.ireturn, 1) := by decide +kernel
theorem dX12_pull_15 : decode cX12_pull 15 = .ok (.aload_n 0, 1) := by decide +kernel
theorem dX12_pull_16 : decode cX12_pull 16 = .ok (.getfield 38, 3) := by decide +kernel
theorem dX12_pull_19 : decode cX12_pull 19 = .ok (.istore_n 2, 1) := by decide +kernel
theorem dX12_pull_20 : decode cX12_pull 20 = .ok (.aload_n 0, 1) := by decide +kernel
theorem dX12_pull_21 : decode cX12_pull 21 = .ok (.iload_n 1, 1) := by decide +kernel
theorem dX12_pull_22 : decode cX12_pull 22 = .ok (.putfield 38, 3) := by decide +kernel
theorem dX12_pull_25 : decode cX12_pull 25 = .ok (.iload_n 2, 1) := by decide +kernel
theorem dX12_pull_26 : decode cX12_pull 26 = .ok (.ireturn, 1) := by decide +kernel
theorem dX12_cell_0 : decode cX12_cell 0 = .ok (.aload_n 0, 1) := by decide +kernel
theorem dX12_cell_1 : decode cX12_cell 1 = .ok (.getfield 135, 3) := by decide +kernel
theorem dX12_cell_4 : decode cX12_cell 4 = .ok (.ifCond .eq 39, 3) := by decide +kernel
theorem dX12_cell_7 : decode cX12_cell 7 = .ok (.iload_n 1, 1) := by decide +kernel
theorem dX12_cell_8 : decode cX12_cell 8 = .ok (.iconst 0, 1) := by decide +kernel
theorem dX12_cell_9 : decode cX12_cell 9 = .ok (.aload_n 0, 1) := by decide +kernel
theorem dX12_cell_10 : decode cX12_cell 10 = .ok (.getfield 31, 3) := by decide +kernel
theorem dX12_cell_13 : decode cX12_cell 13 = .ok (.iconst 1, 1) := by decide +kernel
theorem dX12_cell_14 : decode cX12_cell 14 = .ok (.isub, 1) := by decide +kernel
theorem dX12_cell_15 : decode cX12_cell 15 = .ok (.invokestatic 111, 3) := by decide +kernel
theorem dX12_cell_18 : decode cX12_cell 18 = .ok (.ifCond .eq 25, 3) := by decide +kernel
theorem dX12_cell_21 : decode cX12_cell 21 = .ok (.iload_n 2, 1) := by decide +kernel
theorem dX12_cell_22 : decode cX12_cell 22 = .ok (.iconst (-1), 1) := by decide +kernel
theorem dX12_cell_23 : decode cX12_cell 23 = .ok (.if_icmp .eq 11, 3) := by decide +kernel
theorem dX12_cell_26 : decode cX12_cell 26 = .ok (.aload_n 0, 1) := by decide +kernel
theorem dX12_cell_27 : decode cX12_cell 27 = .ok (.iload_n 2, 1) := by decide +kernel
theorem dX12_cell_28 : decode cX12_cell 28 = .ok (.invokevirtual 119, 3) := by decide +kernel
theorem dX12_cell_31 : decode cX12_cell 31 = .ok (.ifCond .eq 12, 3) := by decide +kernel
theorem dX12_cell_34 : decode cX12_cell 34 = .ok (.iload_n 3, 1) := by decide +kernel
theorem dX12_cell_35 : decode cX12_cell 35 = .ok (.iconst (-1), 1) := by decide +kernel
theorem dX12_cell_36 : decode cX12_cell 36 = .ok (.iconst 3, 1) := by decide +kernel
theorem dX12_cell_37 : decode cX12_cell 37 = .ok (.invokestatic 111, 3) := by decide +kernel
theorem dX12_cell_40 : decode cX12_cell 40 = .ok (.ifCond .ne 6, 3) := by decide +kernel
theorem dX12_cell_43 : decode cX12_cell 43 = .ok (.ldc 118, 2) := by decide +kernel
theorem dX12_cell_45 : decode cX12_cell 45 = .ok (.ireturn, 1) := by decide +kernel
theorem dX12_cell_46 : decode cX12_cell 46 = .ok (.iconst 0, 1) := by decide +kernel
theorem dX12_cell_47 : decode cX12_cell 47 = .ok (.istore 4, 2) := by decide +kernel
theorem dX12_cell_49 : decode cX12_cell 49 = .ok (.iconst 0, 1) := by decide +kernel
theorem dX12_cell_50 : decode cX12_cell 50 = .ok (.istore 5, 2) := by decide +kernel
theorem dX12_cell_52 : decode cX12_cell 52 = .ok (.iload 5, 2) := by decide +kernel
theorem dX12_cell_54 : decode cX12_cell 54 = .ok (.bipush 32, 2) := by decide +kernel
theorem dX12_cell_56 : decode cX12_cell 56 = .ok (.if_icmp .ge 56, 3) := by decide +kernel
theorem dX12_cell_59 : decode cX12_cell 59 = .ok (.iload 4, 2) := by decide +kernel
theorem dX12_cell_61 : decode cX12_cell 61 = .ok (.iload_n 2, 1) := by decide +kernel
theorem dX12_cell_62 : decode cX12_cell 62 = .ok (.iconst (-1), 1) := by decide +kernel
theorem dX12_cell_63 : decode cX12_cell 63 = .ok (.if_icmp .eq 11, 3) := by decide +kernel
theorem dX12_cell_66 : decode cX12_cell 66 = .ok (.iload 5, 2) := by decide +kernel
theorem dX12_cell_68 : decode cX12_cell 68 = .ok (.iconst 4, 1) := by decide +kernel
theorem dX12_cell_69 : decode cX12_cell 69 = .ok (.idiv, 1) := by decide +kernel
theorem dX12_cell_70 : decode cX12_cell 70 = .ok (.iload_n 2, 1) := by decide +kernel
theorem dX12_cell_71 : decode cX12_cell 71 = .ok (.if_icmp .ne 31, 3) := by decide +kernel
theorem dX12_cell_74 : decode cX12_cell 74 = .ok (.iload_n 3, 1) := by decide +kernel
theorem dX12_cell_75 : decode cX12_cell 75 = .ok (.iconst (-1), 1) := by decide +kernel
theorem dX12_cell_76 : decode cX12_cell 76 = .ok (.if_icmp .eq 11, 3) := by decide +kernel
theorem dX12_cell_79 : decode cX12_cell 79 = .ok (.iload 5, 2) := by decide +kernel
theorem dX12_cell_81 : decode cX12_cell 81 = .ok (.iconst 4, 1) := by decide +kernel
theorem dX12_cell_82 : decode cX12_cell 82 = .ok (.irem, 1) := by decide +kernel
theorem dX12_cell_83 : decode cX12_cell 83 = .ok (.iload_n 3, 1) := by decide +kernel
theorem dX12_cell_84 : decode cX12_cell 84 = .ok (.if_icmp .ne 18, 3) := by decide +kernel
theorem dX12_cell_87 : decode cX12_cell 87 = .ok (.aload_n 0, 1) := by decide +kernel
theorem dX12_cell_88 : decode cX12_cell 88 = .ok (.getfield 44, 3) := by decide +kernel
theorem dX12_cell_91 : decode cX12_cell 91 = .ok (.bipush 32, 2) := by decide +kernel
theorem dX12_cell_93 : decode cX12_cell 93 = .ok (.iload_n 1, 1) := by decide +kernel
theorem dX12_cell_94 : decode cX12_cell 94 = .ok (.imul, 1) := by decide +kernel
theorem dX12_cell_95 : decode cX12_cell 95 = .ok (.iload 5, 2) := by decide +kernel
theorem dX12_cell_97 : decode cX12_cell 97 = .ok (.iadd, 1) := by decide +kernel
theorem dX12_cell_98 : decode cX12_cell 98 = .ok (.iaload, 1) := by decide +kernel
theorem dX12_cell_99 : decode cX12_cell 99 = .ok (.goto 4, 3) := by decide +kernel
theorem dX12_cell_102 : decode cX12_cell 102 = .ok (.iconst 0, 1) := by decide +kernel
theorem dX12_cell_103 : decode cX12_cell 103 = .ok (.iadd, 1) := by decide +kernel
theorem dX12_cell_104 : decode cX12_cell 104 = .ok (.istore 4, 2) := by decide +kernel
theorem dX12_cell_106 : decode cX12_cell 106 = .ok (.iinc 5 1, 3) := by decide +kernel
theorem dX12_cell_109 : decode cX12_cell 109 = .ok (.goto (-57), 3) := by decide +kernel
theorem dX12_cell_112 : decode cX12_cell 112 = .ok (.iload 4, 2) := by decide +kernel
theorem dX12_cell_114 : decode cX12_cell 114 = .ok (.ireturn, 1) := by decide +kernel
theorem dX12_share_0 : decode cX12_share 0 = .ok (.aload_n 0, 1) := by decide +kernel
theorem dX12_share_1 : decode cX12_share 1 = .ok (.iload_n 1, 1) := by decide +kernel
theorem dX12_share_2 : decode cX12_share 2 = .ok (.invokevirtual 119, 3) := by decide +kernel
theorem dX12_share_5 : decode cX12_share 5 = .ok (.ifCond .eq 14, 3) := by decide +kernel
theorem dX12_share_8 : decode cX12_share 8 = .ok (.iload_n 2, 1) := by decide +kernel
theorem dX12_share_9 : decode cX12_share 9 = .ok (.iconst 0, 1) := by decide +kernel
theorem dX12_share_10 : decode cX12_share 10 = .ok (.sipush 1000, 3) := by decide +kernel
theorem dX12_share_13 : decode cX12_share 13 = .ok (.invokestatic 111, 3) := by decide +kernel
theorem dX12_share_16 : decode cX12_share 16 = .ok (.ifCond .ne 6, 3) := by decide +kernel
theorem dX12_share_19 : decode cX12_share 19 = .ok (.ldc 118, 2) := by decide +kernel
theorem dX12_share_21 : decode cX12_share 21 = .ok (.ireturn, 1) := by decide +kernel
theorem dX12_share_22 : decode cX12_share 22 = .ok (.aload_n 0, 1) := by decide +kernel
theorem dX12_share_23 : decode cX12_share 23 = .ok (.getfield 25, 3) := by decide +kernel
theorem dX12_share_26 : decode cX12_share 26 = .ok (.iload_n 1, 1) := by decide +kernel
theorem dX12_share_27 : decode cX12_share 27 = .ok (.iaload, 1) := by decide +kernel
theorem dX12_share_28 : decode cX12_share 28 = .ok (.istore_n 3, 1) := by decide +kernel
theorem dX12_share_29 : decode cX12_share 29 = .ok (.aload_n 0, 1) := by decide +kernel
theorem dX12_share_30 : decode cX12_share 30 = .ok (.getfield 25, 3) := by decide +kernel
theorem dX12_share_33 : decode cX12_share 33 = .ok (.iload_n 1, 1) := by decide +kernel
theorem dX12_share_34 : decode cX12_share 34 = .ok (.iload_n 2, 1) := by decide +kernel
theorem dX12_share_35 : decode cX12_share 35 = .ok (.iastore, 1) := by decide +kernel
theorem dX12_share_36 : decode cX12_share 36 = .ok (.iload_n 3, 1) := by decide +kernel
theorem dX12_share_37 : decode cX12_share 37 = .ok (.ireturn, 1) := by decide +kernel
theorem dX12_mix_0 : decode cX12_mix 0 = .ok (.iconst 0, 1) := by decide +kernel
theorem dX12_mix_1 : decode cX12_mix 1 = .ok (.istore_n 1, 1) := by decide +kernel
theorem dX12_mix_2 : decode cX12_mix 2 = .ok (.iconst 0, 1) := by decide +kernel
theorem dX12_mix_3 : decode cX12_mix 3 = .ok (.istore_n 2, 1) := by decide +kernel
theorem dX12_mix_4 : decode cX12_mix 4 = .ok (.iload_n 2, 1) := by decide +kernel
theorem dX12_mix_5 : decode cX12_mix 5 = .ok (.aload_n 0, 1) := by decide +kernel
theorem dX12_mix_6 : decode cX12_mix 6 = .ok (.getfield 108, 3) := by decide +kernel
theorem dX12_mix_9 : decode cX12_mix 9 = .ok (.if_icmp .ge 18, 3) := by decide +kernel
theorem dX12_mix_12 : decode cX12_mix 12 = .ok (.iload_n 1, 1) := by decide +kernel
theorem dX12_mix_13 : decode cX12_mix 13 = .ok (.aload_n 0, 1) := by decide +kernel
theorem dX12_mix_14 : decode cX12_mix 14 = .ok (.getfield 25, 3) := by decide +kernel
theorem dX12_mix_17 : decode cX12_mix 17 = .ok (.iload_n 2, 1) := by decide +kernel
theorem dX12_mix_18 : decode cX12_mix 18 = .ok (.iaload, 1) := by decide +kernel
theorem dX12_mix_19 : decode cX12_mix 19 = .ok (.iadd, 1) := by decide +kernel
theorem dX12_mix_20 : decode cX12_mix 20 = .ok (.istore_n 1, 1) := by decide +kernel
theorem dX12_mix_21 : decode cX12_mix 21 = .ok (.iinc 2 1, 3) := by decide +kernel
theorem dX12_mix_24 : decode cX12_mix 24 = .ok (.goto (-20), 3) := by decide +kernel
theorem dX12_mix_27 : decode cX12_mix 27 = .ok (.iload_n 1, 1) := by decide +kernel
theorem dX12_mix_28 : decode cX12_mix 28 = .ok (.sipush 1000, 3) := by decide +kernel
theorem dX12_mix_31 : decode cX12_mix 31 = .ok (.if_icmp .eq 6, 3) := by decide +kernel
theorem dX12_mix_34 : decode cX12_mix 34 = .ok (.ldc 118, 2) := by decide +kernel
theorem dX12_mix_36 : decode cX12_mix 36 = .ok (.ireturn, 1) := by decide +kernel
theorem dX12_mix_37 : decode cX12_mix 37 = .ok (.iconst 0, 1) := by decide +kernel
theorem dX12_mix_38 : decode cX12_mix 38 = .ok (.istore_n 2, 1) := by decide +kernel
theorem dX12_mix_39 : decode cX12_mix 39 = .ok (.iload_n 2, 1) := by decide +kernel
theorem dX12_mix_40 : decode cX12_mix 40 = .ok (.bipush 8, 2) := by decide +kernel
theorem dX12_mix_42 : decode cX12_mix 42 = .ok (.if_icmp .ge 33, 3) := by decide +kernel
theorem dX12_mix_45 : decode cX12_mix 45 = .ok (.aload_n 0, 1) := by decide +kernel
theorem dX12_mix_46 : decode cX12_mix 46 = .ok (.getfield 28, 3) := by decide +kernel
theorem dX12_mix_49 : decode cX12_mix 49 = .ok (.iload_n 2, 1) := by decide +kernel
theorem dX12_mix_50 : decode cX12_mix 50 = .ok (.iload_n 2, 1) := by decide +kernel
theorem dX12_mix_51 : decode cX12_mix 51 = .ok (.aload_n 0, 1) := by decide +kernel
theorem dX12_mix_52 : decode cX12_mix 52 = .ok (.getfield 108, 3) := by decide +kernel
theorem dX12_mix_55 : decode cX12_mix 55 = .ok (.if_icmp .ge 12, 3) := by decide +kernel
theorem dX12_mix_58 : decode cX12_mix 58 = .ok (.aload_n 0, 1) := by decide +kernel
theorem dX12_mix_59 : decode cX12_mix 59 = .ok (.getfield 25, 3) := by decide +kernel
theorem dX12_mix_62 : decode cX12_mix 62 = .ok (.iload_n 2, 1) := by decide +kernel
theorem dX12_mix_63 : decode cX12_mix 63 = .ok (.iaload, 1) := by decide +kernel
theorem dX12_mix_64 : decode cX12_mix 64 = .ok (.goto 4, 3) := by decide +kernel
theorem dX12_mix_67 : decode cX12_mix 67 = .ok (.iconst 0, 1) := by decide +kernel
theorem dX12_mix_68 : decode cX12_mix 68 = .ok (.iastore, 1) := by decide +kernel
theorem dX12_mix_69 : decode cX12_mix 69 = .ok (.iinc 2 1, 3) := by decide +kernel
theorem dX12_mix_72 : decode cX12_mix 72 = .ok (.goto (-33), 3) := by decide +kernel
theorem dX12_mix_75 : decode cX12_mix 75 = .ok (.aload_n 0, 1) := by decide +kernel
theorem dX12_mix_76 : decode cX12_mix 76 = .ok (.iconst 1, 1) := by decide +kernel
theorem dX12_mix_77 : decode cX12_mix 77 = .ok (.putfield 124, 3) := by decide +kernel
theorem dX12_mix_80 : decode cX12_mix 80 = .ok (.iconst 1, 1) := by decide +kernel
theorem dX12_mix_81 : decode cX12_mix 81 = .ok (.ireturn, 1) := by decide +kernel
theorem dX12_colour_0 : decode cX12_colour 0 = .ok (.aload_n 0, 1) := by decide +kernel
theorem dX12_colour_1 : decode cX12_colour 1 = .ok (.getfield 115, 3) := by decide +kernel
theorem dX12_colour_4 : decode cX12_colour 4 = .ok (.bipush 6, 2) := by decide +kernel
theorem dX12_colour_6 : decode cX12_colour 6 = .ok (.if_icmp .ne 6, 3) := by decide +kernel
theorem dX12_colour_9 : decode cX12_colour 9 = .ok (.ldc 118, 2) := by decide +kernel
theorem dX12_colour_11 : decode cX12_colour 11 = .ok (.ireturn, 1) := by decide +kernel
theorem dX12_colour_12 : decode cX12_colour 12 = .ok (.iconst 0, 1) := by decide +kernel
theorem dX12_colour_13 : decode cX12_colour 13 = .ok (.istore_n 1, 1) := by decide +kernel
theorem dX12_colour_14 : decode cX12_colour 14 = .ok (.iload_n 1, 1) := by decide +kernel
theorem dX12_colour_15 : decode cX12_colour 15 = .ok (.iconst 4, 1) := by decide +kernel
theorem dX12_colour_16 : decode cX12_colour 16 = .ok (.if_icmp .ge 39, 3) := by decide +kernel
theorem dX12_colour_19 : decode cX12_colour 19 = .ok (.aload_n 0, 1) := by decide +kernel
theorem dX12_colour_20 : decode cX12_colour 20 = .ok (.getfield 59, 3) := by decide +kernel
theorem dX12_colour_23 : decode cX12_colour 23 = .ok (.iconst 4, 1) := by decide +kernel
theorem dX12_colour_24 : decode cX12_colour 24 = .ok (.aload_n 0, 1) := by decide +kernel
theorem dX12_colour_25 : decode cX12_colour 25 = .ok (.getfield 115, 3) := by decide +kernel
theorem dX12_colour_28 : decode cX12_colour 28 = .ok (.imul, 1) := by decide +kernel
theorem dX12_colour_29 : decode cX12_colour 29 = .ok (.iload_n 1, 1) := by decide +kernel
theorem dX12_colour_30 : decode cX12_colour 30 = .ok (.iadd, 1) := by decide +kernel
theorem dX12_colour_31 : decode cX12_colour 31 = .ok (.iconst 0, 1) := by decide +kernel
theorem dX12_colour_32 : decode cX12_colour 32 = .ok (.iastore, 1) := by decide +kernel
theorem dX12_colour_33 : decode cX12_colour 33 = .ok (.aload_n 0, 1) := by decide +kernel
theorem dX12_colour_34 : decode cX12_colour 34 = .ok (.getfield 62, 3) := by decide +kernel
theorem dX12_colour_37 : decode cX12_colour 37 = .ok (.iconst 4, 1) := by decide +kernel
theorem dX12_colour_38 : decode cX12_colour 38 = .ok (.aload_n 0, 1) := by decide +kernel
theorem dX12_colour_39 : decode cX12_colour 39 = .ok (.getfield 115, 3) := by decide +kernel
theorem dX12_colour_42 : decode cX12_colour 42 = .ok (.imul, 1) := by decide +kernel
theorem dX12_colour_43 : decode cX12_colour 43 = .ok (.iload_n 1, 1) := by decide +kernel
theorem dX12_colour_44 : decode cX12_colour 44 = .ok (.iadd, 1) := by decide +kernel
theorem dX12_colour_45 : decode cX12_colour 45 = .ok (.sipush 1000, 3) := by decide +kernel
theorem dX12_colour_48 : decode cX12_colour 48 = .ok (.iastore, 1) := by decide +kernel
theorem dX12_colour_49 : decode cX12_colour 49 = .ok (.iinc 1 1, 3) := by decide +kernel
theorem dX12_colour_52 : decode cX12_colour 52 = .ok (.goto (-38), 3) := by decide +kernel
theorem dX12_colour_55 : decode cX12_colour 55 = .ok (.aload_n 0, 1) := by decide +kernel
theorem dX12_colour_56 : decode cX12_colour 56 = .ok (.dup, 1) := by decide +kernel
theorem dX12_colour_57 : decode cX12_colour 57 = .ok (.getfield 115, 3) := by decide +kernel
theorem dX12_colour_60 : decode cX12_colour 60 = .ok (.iconst 1, 1) := by decide +kernel
theorem dX12_colour_61 : decode cX12_colour 61 = .ok (.iadd, 1) := by decide +kernel
theorem dX12_colour_62 : decode cX12_colour 62 = .ok (.putfield 115, 3) := by decide +kernel
theorem dX12_colour_65 : decode cX12_colour 65 = .ok (.aload_n 0, 1) := by decide +kernel
theorem dX12_colour_66 : decode cX12_colour 66 = .ok (.getfield 115, 3) := by decide +kernel
theorem dX12_colour_69 : decode cX12_colour 69 = .ok (.iconst 1, 1) := by decide +kernel
theorem dX12_colour_70 : decode cX12_colour 70 = .ok (.isub, 1) := by decide +kernel
theorem dX12_colour_71 : decode cX12_colour 71 = .ok (.ireturn, 1) := by decide +kernel
theorem dX12_span_0 : decode cX12_span 0 = .ok (.aload_n 0, 1) := by decide +kernel
theorem dX12_span_1 : decode cX12_span 1 = .ok (.iload_n 1, 1) := by decide +kernel
theorem dX12_span_2 : decode cX12_span 2 = .ok (.invokevirtual 152, 3) := by decide +kernel
theorem dX12_span_5 : decode cX12_span 5 = .ok (.ifCond .eq 41, 3) := by decide +kernel
theorem dX12_span_8 : decode cX12_span 8 = .ok (.iload_n 2, 1) := by decide +kernel
theorem dX12_span_9 : decode cX12_span 9 = .ok (.iconst 0, 1) := by decide +kernel
theorem dX12_span_10 : decode cX12_span 10 = .ok (.iconst 3, 1) := by decide +kernel
theorem dX12_span_11 : decode cX12_span 11 = .ok (.invokestatic 111, 3) := by decide +kernel
theorem dX12_span_14 : decode cX12_span 14 = .ok (.ifCond .eq 32, 3) := by decide +kernel
theorem dX12_span_17 : decode cX12_span 17 = .ok (.iload_n 3, 1) := by decide +kernel
theorem dX12_span_18 : decode cX12_span 18 = .ok (.iconst 0, 1) := by decide +kernel
theorem dX12_span_19 : decode cX12_span 19 = .ok (.sipush 1000, 3) := by decide +kernel
theorem dX12_span_22 : decode cX12_span 22 = .ok (.invokestatic 111, 3) := by decide +kernel
theorem dX12_span_25 : decode cX12_span 25 = .ok (.ifCond .eq 21, 3) := by decide +kernel
theorem dX12_span_28 : decode cX12_span 28 = .ok (.iload 4, 2) := by decide +kernel
theorem dX12_span_30 : decode cX12_span 30 = .ok (.iconst 0, 1) := by decide +kernel
theorem dX12_span_31 : decode cX12_span 31 = .ok (.sipush 1000, 3) := by decide +kernel
theorem dX12_span_34 : decode cX12_span 34 = .ok (.invokestatic 111, 3) := by decide +kernel
theorem dX12_span_37 : decode cX12_span 37 = .ok (.ifCond .eq 9, 3) := by decide +kernel
theorem dX12_span_40 : decode cX12_span 40 = .ok (.iload_n 3, 1) := by decide +kernel
theorem dX12_span_41 : decode cX12_span 41 = .ok (.iload 4, 2) := by decide +kernel
theorem dX12_span_43 : decode cX12_span 43 = .ok (.if_icmp .le 6, 3) := by decide +kernel
theorem dX12_span_46 : decode cX12_span 46 = .ok (.ldc 118, 2) := by decide +kernel
theorem dX12_span_48 : decode cX12_span 48 = .ok (.ireturn, 1) := by decide +kernel
theorem dX12_span_49 : decode cX12_span 49 = .ok (.aload_n 0, 1) := by decide +kernel
theorem dX12_span_50 : decode cX12_span 50 = .ok (.getfield 59, 3) := by decide +kernel
theorem dX12_span_53 : decode cX12_span 53 = .ok (.iconst 4, 1) := by decide +kernel
theorem dX12_span_54 : decode cX12_span 54 = .ok (.iload_n 1, 1) := by decide +kernel
theorem dX12_span_55 : decode cX12_span 55 = .ok (.imul, 1) := by decide +kernel
theorem dX12_span_56 : decode cX12_span 56 = .ok (.iload_n 2, 1) := by decide +kernel
theorem dX12_span_57 : decode cX12_span 57 = .ok (.iadd, 1) := by decide +kernel
theorem dX12_span_58 : decode cX12_span 58 = .ok (.iload_n 3, 1) := by decide +kernel
theorem dX12_span_59 : decode cX12_span 59 = .ok (.iastore, 1) := by decide +kernel
theorem dX12_span_60 : decode cX12_span 60 = .ok (.aload_n 0, 1) := by decide +kernel
theorem dX12_span_61 : decode cX12_span 61 = .ok (.getfield 62, 3) := by decide +kernel
theorem dX12_span_64 : decode cX12_span 64 = .ok (.iconst 4, 1) := by decide +kernel
theorem dX12_span_65 : decode cX12_span 65 = .ok (.iload_n 1, 1) := by decide +kernel
theorem dX12_span_66 : decode cX12_span 66 = .ok (.imul, 1) := by decide +kernel
theorem dX12_span_67 : decode cX12_span 67 = .ok (.iload_n 2, 1) := by decide +kernel
theorem dX12_span_68 : decode cX12_span 68 = .ok (.iadd, 1) := by decide +kernel
theorem dX12_span_69 : decode cX12_span 69 = .ok (.iload 4, 2) := by decide +kernel
theorem dX12_span_71 : decode cX12_span 71 = .ok (.iastore, 1) := by decide +kernel
theorem dX12_span_72 : decode cX12_span 72 = .ok (.iconst 1, 1) := by decide +kernel
theorem dX12_span_73 : decode cX12_span 73 = .ok (.ireturn, 1) := by decide +kernel
theorem dX12_isSure_0 : decode cX12_isSure 0 = .ok (.iconst 0, 1) := by decide +kernel
theorem dX12_isSure_1 : decode cX12_isSure 1 = .ok (.istore_n 3, 1) := by decide +kernel
theorem dX12_isSure_2 : decode cX12_isSure 2 = .ok (.iload_n 3, 1) := by decide +kernel
theorem dX12_isSure_3 : decode cX12_isSure 3 = .ok (.iconst 4, 1) := by decide +kernel
theorem dX12_isSure_4 : decode cX12_isSure 4 = .ok (.if_icmp .ge 164, 3) := by decide +kernel
theorem dX12_isSure_7 : decode cX12_isSure 7 = .ok (.iconst 0, 1) := by decide +kernel
theorem dX12_isSure_8 : decode cX12_isSure 8 = .ok (.istore 4, 2) := by decide +kernel
theorem dX12_isSure_10 : decode cX12_isSure 10 = .ok (.iconst 0, 1) := by decide +kernel
theorem dX12_isSure_11 : decode cX12_isSure 11 = .ok (.istore 5, 2) := by decide +kernel
theorem dX12_isSure_13 : decode cX12_isSure 13 = .ok (.iconst 0, 1) := by decide +kernel
theorem dX12_isSure_14 : decode cX12_isSure 14 = .ok (.istore 6, 2) := by decide +kernel
theorem dX12_isSure_16 : decode cX12_isSure 16 = .ok (.iload 6, 2) := by decide +kernel
theorem dX12_isSure_18 : decode cX12_isSure 18 = .ok (.aload_n 0, 1) := by decide +kernel
theorem dX12_isSure_19 : decode cX12_isSure 19 = .ok (.getfield 108, 3) := by decide +kernel
theorem dX12_isSure_22 : decode cX12_isSure 22 = .ok (.if_icmp .ge 100, 3) := by decide +kernel
theorem dX12_isSure_25 : decode cX12_isSure 25 = .ok (.aload_n 0, 1) := by decide +kernel
theorem dX12_isSure_26 : decode cX12_isSure 26 = .ok (.getfield 7, 3) := by decide +kernel
theorem dX12_isSure_29 : decode cX12_isSure 29 = .ok (.iconst 4, 1) := by decide +kernel
theorem dX12_isSure_30 : decode cX12_isSure 30 = .ok (.iload 6, 2) := by decide +kernel
theorem dX12_isSure_32 : decode cX12_isSure 32 = .ok (.imul, 1) := by decide +kernel
theorem dX12_isSure_33 : decode cX12_isSure 33 = .ok (.iload_n 3, 1) := by decide +kernel
theorem dX12_isSure_34 : decode cX12_isSure 34 = .ok (.iadd, 1) := by decide +kernel
theorem dX12_isSure_35 : decode cX12_isSure 35 = .ok (.iaload, 1) := by decide +kernel
theorem dX12_isSure_36 : decode cX12_isSure 36 = .ok (.istore 7, 2) := by decide +kernel
theorem dX12_isSure_38 : decode cX12_isSure 38 = .ok (.iload 4, 2) := by decide +kernel
theorem dX12_isSure_40 : decode cX12_isSure 40 = .ok (.aload_n 2, 1) := by decide +kernel
theorem dX12_isSure_41 : decode cX12_isSure 41 = .ok (.iload 6, 2) := by decide +kernel
theorem dX12_isSure_43 : decode cX12_isSure 43 = .ok (.iaload, 1) := by decide +kernel
theorem dX12_isSure_44 : decode cX12_isSure 44 = .ok (.iload 7, 2) := by decide +kernel
theorem dX12_isSure_46 : decode cX12_isSure 46 = .ok (.aload_n 0, 1) := by decide +kernel
theorem dX12_isSure_47 : decode cX12_isSure 47 = .ok (.getfield 16, 3) := by decide +kernel
theorem dX12_isSure_50 : decode cX12_isSure 50 = .ok (.iload 6, 2) := by decide +kernel
theorem dX12_isSure_52 : decode cX12_isSure 52 = .ok (.iaload, 1) := by decide +kernel
theorem dX12_isSure_53 : decode cX12_isSure 53 = .ok (.if_icmp .ge 7, 3) := by decide +kernel
theorem dX12_isSure_56 : decode cX12_isSure 56 = .ok (.iconst 0, 1) := by decide +kernel
theorem dX12_isSure_57 : decode cX12_isSure 57 = .ok (.goto 13, 3) := by decide +kernel
theorem dX12_isSure_60 : decode cX12_isSure 60 = .ok (.iload 7, 2) := by decide +kernel
theorem dX12_isSure_62 : decode cX12_isSure 62 = .ok (.aload_n 0, 1) := by decide +kernel
theorem dX12_isSure_63 : decode cX12_isSure 63 = .ok (.getfield 16, 3) := by decide +kernel
theorem dX12_isSure_66 : decode cX12_isSure 66 = .ok (.iload 6, 2) := by decide +kernel
theorem dX12_isSure_68 : decode cX12_isSure 68 = .ok (.iaload, 1) := by decide +kernel
theorem dX12_isSure_69 : decode cX12_isSure 69 = .ok (.isub, 1) := by decide +kernel
theorem dX12_isSure_70 : decode cX12_isSure 70 = .ok (.imul, 1) := by decide +kernel
theorem dX12_isSure_71 : decode cX12_isSure 71 = .ok (.iadd, 1) := by decide +kernel
theorem dX12_isSure_72 : decode cX12_isSure 72 = .ok (.istore 4, 2) := by decide +kernel
theorem dX12_isSure_74 : decode cX12_isSure 74 = .ok (.iload 5, 2) := by decide +kernel
theorem dX12_isSure_76 : decode cX12_isSure 76 = .ok (.aload_n 2, 1) := by decide +kernel
theorem dX12_isSure_77 : decode cX12_isSure 77 = .ok (.iload 6, 2) := by decide +kernel
theorem dX12_isSure_79 : decode cX12_isSure 79 = .ok (.iaload, 1) := by decide +kernel
theorem dX12_isSure_80 : decode cX12_isSure 80 = .ok (.iload 7, 2) := by decide +kernel
theorem dX12_isSure_82 : decode cX12_isSure 82 = .ok (.aload_n 0, 1) := by decide +kernel
theorem dX12_isSure_83 : decode cX12_isSure 83 = .ok (.getfield 16, 3) := by decide +kernel
theorem dX12_isSure_86 : decode cX12_isSure 86 = .ok (.iload 6, 2) := by decide +kernel
theorem dX12_isSure_88 : decode cX12_isSure 88 = .ok (.iaload, 1) := by decide +kernel
theorem dX12_isSure_89 : decode cX12_isSure 89 = .ok (.iadd, 1) := by decide +kernel
theorem dX12_isSure_90 : decode cX12_isSure 90 = .ok (.sipush 1000, 3) := by decide +kernel
theorem dX12_isSure_93 : decode cX12_isSure 93 = .ok (.if_icmp .le 9, 3) := by decide +kernel
theorem dX12_isSure_96 : decode cX12_isSure 96 = .ok (.sipush 1000, 3) := by decide +kernel
theorem dX12_isSure_99 : decode cX12_isSure 99 = .ok (.goto 13, 3) := by decide +kernel
theorem dX12_isSure_102 : decode cX12_isSure 102 = .ok (.iload 7, 2) := by decide +kernel
theorem dX12_isSure_104 : decode cX12_isSure 104 = .ok (.aload_n 0, 1) := by decide +kernel
theorem dX12_isSure_105 : decode cX12_isSure 105 = .ok (.getfield 16, 3) := by decide +kernel
theorem dX12_isSure_108 : decode cX12_isSure 108 = .ok (.iload 6, 2) := by decide +kernel
theorem dX12_isSure_110 : decode cX12_isSure 110 = .ok (.iaload, 1) := by decide +kernel
theorem dX12_isSure_111 : decode cX12_isSure 111 = .ok (.iadd, 1) := by decide +kernel
theorem dX12_isSure_112 : decode cX12_isSure 112 = .ok (.imul, 1) := by decide +kernel
theorem dX12_isSure_113 : decode cX12_isSure 113 = .ok (.iadd, 1) := by decide +kernel
theorem dX12_isSure_114 : decode cX12_isSure 114 = .ok (.istore 5, 2) := by decide +kernel
theorem dX12_isSure_116 : decode cX12_isSure 116 = .ok (.iinc 6 1, 3) := by decide +kernel
theorem dX12_isSure_119 : decode cX12_isSure 119 = .ok (.goto (-103), 3) := by decide +kernel
theorem dX12_isSure_122 : decode cX12_isSure 122 = .ok (.iload 4, 2) := by decide +kernel
theorem dX12_isSure_124 : decode cX12_isSure 124 = .ok (.sipush 1000, 3) := by decide +kernel
theorem dX12_isSure_127 : decode cX12_isSure 127 = .ok (.aload_n 0, 1) := by decide +kernel
theorem dX12_isSure_128 : decode cX12_isSure 128 = .ok (.getfield 59, 3) := by decide +kernel
theorem dX12_isSure_131 : decode cX12_isSure 131 = .ok (.iconst 4, 1) := by decide +kernel
theorem dX12_isSure_132 : decode cX12_isSure 132 = .ok (.iload_n 1, 1) := by decide +kernel
theorem dX12_isSure_133 : decode cX12_isSure 133 = .ok (.imul, 1) := by decide +kernel
theorem dX12_isSure_134 : decode cX12_isSure 134 = .ok (.iload_n 3, 1) := by decide +kernel
theorem dX12_isSure_135 : decode cX12_isSure 135 = .ok (.iadd, 1) := by decide +kernel
theorem dX12_isSure_136 : decode cX12_isSure 136 = .ok (.iaload, 1) := by decide +kernel
theorem dX12_isSure_137 : decode cX12_isSure 137 = .ok (.imul, 1) := by decide +kernel
theorem dX12_isSure_138 : decode cX12_isSure 138 = .ok (.if_icmp .lt 22, 3) := by decide +kernel
theorem dX12_isSure_141 : decode cX12_isSure 141 = .ok (.iload 5, 2) := by decide +kernel
theorem dX12_isSure_143 : decode cX12_isSure 143 = .ok (.sipush 1000, 3) := by decide +kernel
theorem dX12_isSure_146 : decode cX12_isSure 146 = .ok (.aload_n 0, 1) := by decide +kernel
theorem dX12_isSure_147 : decode cX12_isSure 147 = .ok (.getfield 62, 3) := by decide +kernel
theorem dX12_isSure_150 : decode cX12_isSure 150 = .ok (.iconst 4, 1) := by decide +kernel
theorem dX12_isSure_151 : decode cX12_isSure 151 = .ok (.iload_n 1, 1) := by decide +kernel
theorem dX12_isSure_152 : decode cX12_isSure 152 = .ok (.imul, 1) := by decide +kernel
theorem dX12_isSure_153 : decode cX12_isSure 153 = .ok (.iload_n 3, 1) := by decide +kernel
theorem dX12_isSure_154 : decode cX12_isSure 154 = .ok (.iadd, 1) := by decide +kernel
theorem dX12_isSure_155 : decode cX12_isSure 155 = .ok (.iaload, 1) := by decide +kernel
theorem dX12_isSure_156 : decode cX12_isSure 156 = .ok (.imul, 1) := by decide +kernel
theorem dX12_isSure_157 : decode cX12_isSure 157 = .ok (.if_icmp .le 5, 3) := by decide +kernel
theorem dX12_isSure_160 : decode cX12_isSure 160 = .ok (.iconst 0, 1) := by decide +kernel
theorem dX12_isSure_161 : decode cX12_isSure 161 = .ok (.ireturn, 1) := by decide +kernel
theorem dX12_isSure_162 : decode cX12_isSure 162 = .ok (.iinc 3 1, 3) := by decide +kernel
theorem dX12_isSure_165 : decode cX12_isSure 165 = .ok (.goto (-163), 3) := by decide +kernel
theorem dX12_isSure_168 : decode cX12_isSure 168 = .ok (.iconst 1, 1) := by decide +kernel
theorem dX12_isSure_169 : decode cX12_isSure 169 = .ok (.ireturn, 1) := by decide +kernel
theorem dX12_sure_0 : decode cX12_sure 0 = .ok (.aload_n 0, 1) := by decide +kernel
theorem dX12_sure_1 : decode cX12_sure 1 = .ok (.iload_n 1, 1) := by decide +kernel
theorem dX12_sure_2 : decode cX12_sure 2 = .ok (.invokevirtual 152, 3) := by decide +kernel
theorem dX12_sure_5 : decode cX12_sure 5 = .ok (.ifCond .eq 30, 3) := by decide +kernel
theorem dX12_sure_8 : decode cX12_sure 8 = .ok (.aload_n 0, 1) := by decide +kernel
theorem dX12_sure_9 : decode cX12_sure 9 = .ok (.getfield 124, 3) := by decide +kernel
theorem dX12_sure_12 : decode cX12_sure 12 = .ok (.ifCond .eq 23, 3) := by decide +kernel
theorem dX12_sure_15 : decode cX12_sure 15 = .ok (.aload_n 0, 1) := by decide +kernel
theorem dX12_sure_16 : decode cX12_sure 16 = .ok (.iload_n 1, 1) := by decide +kernel
theorem dX12_sure_17 : decode cX12_sure 17 = .ok (.aload_n 0, 1) := by decide +kernel
theorem dX12_sure_18 : decode cX12_sure 18 = .ok (.getfield 28, 3) := by decide +kernel
theorem dX12_sure_21 : decode cX12_sure 21 = .ok (.invokevirtual 155, 3) := by decide +kernel
theorem dX12_sure_24 : decode cX12_sure 24 = .ok (.ifCond .eq 7, 3) := by decide +kernel
theorem dX12_sure_27 : decode cX12_sure 27 = .ok (.iconst 1, 1) := by decide +kernel
theorem dX12_sure_28 : decode cX12_sure 28 = .ok (.goto 9, 3) := by decide +kernel
theorem dX12_sure_31 : decode cX12_sure 31 = .ok (.iconst 0, 1) := by decide +kernel
theorem dX12_sure_32 : decode cX12_sure 32 = .ok (.goto 5, 3) := by decide +kernel
theorem dX12_sure_35 : decode cX12_sure 35 = .ok (.ldc 118, 2) := by decide +kernel
theorem dX12_sure_37 : decode cX12_sure 37 = .ok (.ireturn, 1) := by decide +kernel
theorem dX12_cheapest_0 : decode cX12_cheapest 0 = .ok (.aload_n 0, 1) := by decide +kernel
theorem dX12_cheapest_1 : decode cX12_cheapest 1 = .ok (.iload_n 1, 1) := by decide +kernel
theorem dX12_cheapest_2 : decode cX12_cheapest 2 = .ok (.invokevirtual 152, 3) := by decide +kernel
theorem dX12_cheapest_5 : decode cX12_cheapest 5 = .ok (.ifCond .eq 10, 3) := by decide +kernel
theorem dX12_cheapest_8 : decode cX12_cheapest 8 = .ok (.aload_n 0, 1) := by decide +kernel
theorem dX12_cheapest_9 : decode cX12_cheapest 9 = .ok (.getfield 108, 3) := by decide +kernel
theorem dX12_cheapest_12 : decode cX12_cheapest 12 = .ok (.ifCond .ne 6, 3) := by decide +kernel
theorem dX12_cheapest_15 : decode cX12_cheapest 15 = .ok (.ldc 118, 2) := by decide +kernel
theorem dX12_cheapest_17 : decode cX12_cheapest 17 = .ok (.ireturn, 1) := by decide +kernel
theorem dX12_cheapest_18 : decode cX12_cheapest 18 = .ok (.iconst (-1), 1) := by decide +kernel
theorem dX12_cheapest_19 : decode cX12_cheapest 19 = .ok (.istore_n 2, 1) := by decide +kernel
theorem dX12_cheapest_20 : decode cX12_cheapest 20 = .ok (.iconst 0, 1) := by decide +kernel
theorem dX12_cheapest_21 : decode cX12_cheapest 21 = .ok (.istore_n 3, 1) := by decide +kernel
theorem dX12_cheapest_22 : decode cX12_cheapest 22 = .ok (.iload_n 3, 1) := by decide +kernel
theorem dX12_cheapest_23 : decode cX12_cheapest 23 = .ok (.bipush 8, 2) := by decide +kernel
theorem dX12_cheapest_25 : decode cX12_cheapest 25 = .ok (.if_icmp .ge 26, 3) := by decide +kernel
theorem dX12_cheapest_28 : decode cX12_cheapest 28 = .ok (.aload_n 0, 1) := by decide +kernel
theorem dX12_cheapest_29 : decode cX12_cheapest 29 = .ok (.getfield 93, 3) := by decide +kernel
theorem dX12_cheapest_32 : decode cX12_cheapest 32 = .ok (.iload_n 3, 1) := by decide +kernel
theorem dX12_cheapest_33 : decode cX12_cheapest 33 = .ok (.iload_n 3, 1) := by decide +kernel
theorem dX12_cheapest_34 : decode cX12_cheapest 34 = .ok (.ifCond .ne 9, 3) := by decide +kernel
theorem dX12_cheapest_37 : decode cX12_cheapest 37 = .ok (.sipush 1000, 3) := by decide +kernel
theorem dX12_cheapest_40 : decode cX12_cheapest 40 = .ok (.goto 4, 3) := by decide +kernel
theorem dX12_cheapest_43 : decode cX12_cheapest 43 = .ok (.iconst 0, 1) := by decide +kernel
theorem dX12_cheapest_44 : decode cX12_cheapest 44 = .ok (.iastore, 1) := by decide +kernel
theorem dX12_cheapest_45 : decode cX12_cheapest 45 = .ok (.iinc 3 1, 3) := by decide +kernel
theorem dX12_cheapest_48 : decode cX12_cheapest 48 = .ok (.goto (-26), 3) := by decide +kernel
theorem dX12_cheapest_51 : decode cX12_cheapest 51 = .ok (.iconst 1, 1) := by decide +kernel
theorem dX12_cheapest_52 : decode cX12_cheapest 52 = .ok (.istore_n 3, 1) := by decide +kernel
theorem dX12_cheapest_53 : decode cX12_cheapest 53 = .ok (.iload_n 3, 1) := by decide +kernel
theorem dX12_cheapest_54 : decode cX12_cheapest 54 = .ok (.ifCond .eq 217, 3) := by decide +kernel
theorem dX12_cheapest_57 : decode cX12_cheapest 57 = .ok (.aload_n 0, 1) := by decide +kernel
theorem dX12_cheapest_58 : decode cX12_cheapest 58 = .ok (.iload_n 1, 1) := by decide +kernel
theorem dX12_cheapest_59 : decode cX12_cheapest 59 = .ok (.aload_n 0, 1) := by decide +kernel
theorem dX12_cheapest_60 : decode cX12_cheapest 60 = .ok (.getfield 93, 3) := by decide +kernel
theorem dX12_cheapest_63 : decode cX12_cheapest 63 = .ok (.invokevirtual 155, 3) := by decide +kernel
theorem dX12_cheapest_66 : decode cX12_cheapest 66 = .ok (.ifCond .eq 87, 3) := by decide +kernel
theorem dX12_cheapest_69 : decode cX12_cheapest 69 = .ok (.iconst 0, 1) := by decide +kernel
theorem dX12_cheapest_70 : decode cX12_cheapest 70 = .ok (.istore 4, 2) := by decide +kernel
theorem dX12_cheapest_72 : decode cX12_cheapest 72 = .ok (.iconst 0, 1) := by decide +kernel
theorem dX12_cheapest_73 : decode cX12_cheapest 73 = .ok (.istore 5, 2) := by decide +kernel
theorem dX12_cheapest_75 : decode cX12_cheapest 75 = .ok (.iload 5, 2) := by decide +kernel
theorem dX12_cheapest_77 : decode cX12_cheapest 77 = .ok (.aload_n 0, 1) := by decide +kernel
theorem dX12_cheapest_78 : decode cX12_cheapest 78 = .ok (.getfield 108, 3) := by decide +kernel
theorem dX12_cheapest_81 : decode cX12_cheapest 81 = .ok (.if_icmp .ge 29, 3) := by decide +kernel
theorem dX12_cheapest_84 : decode cX12_cheapest 84 = .ok (.iload 4, 2) := by decide +kernel
theorem dX12_cheapest_86 : decode cX12_cheapest 86 = .ok (.aload_n 0, 1) := by decide +kernel
theorem dX12_cheapest_87 : decode cX12_cheapest 87 = .ok (.getfield 93, 3) := by decide +kernel
theorem dX12_cheapest_90 : decode cX12_cheapest 90 = .ok (.iload 5, 2) := by decide +kernel
theorem dX12_cheapest_92 : decode cX12_cheapest 92 = .ok (.iaload, 1) := by decide +kernel
theorem dX12_cheapest_93 : decode cX12_cheapest 93 = .ok (.aload_n 0, 1) := by decide +kernel
theorem dX12_cheapest_94 : decode cX12_cheapest 94 = .ok (.getfield 19, 3) := by decide +kernel
theorem dX12_cheapest_97 : decode cX12_cheapest 97 = .ok (.iload 5, 2) := by decide +kernel
theorem dX12_cheapest_99 : decode cX12_cheapest 99 = .ok (.iaload, 1) := by decide +kernel
theorem dX12_cheapest_100 : decode cX12_cheapest 100 = .ok (.imul, 1) := by decide +kernel
theorem dX12_cheapest_101 : decode cX12_cheapest 101 = .ok (.iadd, 1) := by decide +kernel
theorem dX12_cheapest_102 : decode cX12_cheapest 102 = .ok (.istore 4, 2) := by decide +kernel
theorem dX12_cheapest_104 : decode cX12_cheapest 104 = .ok (.iinc 5 1, 3) := by decide +kernel
theorem dX12_cheapest_107 : decode cX12_cheapest 107 = .ok (.goto (-32), 3) := by decide +kernel
theorem dX12_cheapest_110 : decode cX12_cheapest 110 = .ok (.iload_n 2, 1) := by decide +kernel
theorem dX12_cheapest_111 : decode cX12_cheapest 111 = .ok (.ifCond .lt 9, 3) := by decide +kernel
theorem dX12_cheapest_114 : decode cX12_cheapest 114 = .ok (.iload 4, 2) := by decide +kernel
theorem dX12_cheapest_116 : decode cX12_cheapest 116 = .ok (.iload_n 2, 1) := by decide +kernel
theorem dX12_cheapest_117 : decode cX12_cheapest 117 = .ok (.if_icmp .ge 36, 3) := by decide +kernel
theorem dX12_cheapest_120 : decode cX12_cheapest 120 = .ok (.iload 4, 2) := by decide +kernel
theorem dX12_cheapest_122 : decode cX12_cheapest 122 = .ok (.istore_n 2, 1) := by decide +kernel
theorem dX12_cheapest_123 : decode cX12_cheapest 123 = .ok (.iconst 0, 1) := by decide +kernel
theorem dX12_cheapest_124 : decode cX12_cheapest 124 = .ok (.istore 5, 2) := by decide +kernel
theorem dX12_cheapest_126 : decode cX12_cheapest 126 = .ok (.iload 5, 2) := by decide +kernel
theorem dX12_cheapest_128 : decode cX12_cheapest 128 = .ok (.bipush 8, 2) := by decide +kernel
theorem dX12_cheapest_130 : decode cX12_cheapest 130 = .ok (.if_icmp .ge 23, 3) := by decide +kernel
theorem dX12_cheapest_133 : decode cX12_cheapest 133 = .ok (.aload_n 0, 1) := by decide +kernel
theorem dX12_cheapest_134 : decode cX12_cheapest 134 = .ok (.getfield 96, 3) := by decide +kernel
theorem dX12_cheapest_137 : decode cX12_cheapest 137 = .ok (.iload 5, 2) := by decide +kernel
theorem dX12_cheapest_139 : decode cX12_cheapest 139 = .ok (.aload_n 0, 1) := by decide +kernel
theorem dX12_cheapest_140 : decode cX12_cheapest 140 = .ok (.getfield 93, 3) := by decide +kernel
theorem dX12_cheapest_143 : decode cX12_cheapest 143 = .ok (.iload 5, 2) := by decide +kernel
theorem dX12_cheapest_145 : decode cX12_cheapest 145 = .ok (.iaload, 1) := by decide +kernel
theorem dX12_cheapest_146 : decode cX12_cheapest 146 = .ok (.iastore, 1) := by decide +kernel
theorem dX12_cheapest_147 : decode cX12_cheapest 147 = .ok (.iinc 5 1, 3) := by decide +kernel
theorem dX12_cheapest_150 : decode cX12_cheapest 150 = .ok (.goto (-24), 3) := by decide +kernel
theorem dX12_cheapest_153 : decode cX12_cheapest 153 = .ok (.aload_n 0, 1) := by decide +kernel
theorem dX12_cheapest_154 : decode cX12_cheapest 154 = .ok (.getfield 108, 3) := by decide +kernel
theorem dX12_cheapest_157 : decode cX12_cheapest 157 = .ok (.iconst 2, 1) := by decide +kernel
theorem dX12_cheapest_158 : decode cX12_cheapest 158 = .ok (.isub, 1) := by decide +kernel
theorem dX12_cheapest_159 : decode cX12_cheapest 159 = .ok (.istore 4, 2) := by decide +kernel
theorem dX12_cheapest_161 : decode cX12_cheapest 161 = .ok (.iload 4, 2) := by decide +kernel
theorem dX12_cheapest_163 : decode cX12_cheapest 163 = .ok (.ifCond .lt 19, 3) := by decide +kernel
theorem dX12_cheapest_166 : decode cX12_cheapest 166 = .ok (.aload_n 0, 1) := by decide +kernel
theorem dX12_cheapest_167 : decode cX12_cheapest 167 = .ok (.getfield 93, 3) := by decide +kernel
theorem dX12_cheapest_170 : decode cX12_cheapest 170 = .ok (.iload 4, 2) := by decide +kernel
theorem dX12_cheapest_172 : decode cX12_cheapest 172 = .ok (.iaload, 1) := by decide +kernel
theorem dX12_cheapest_173 : decode cX12_cheapest 173 = .ok (.ifCond .ne 9, 3) := by decide +kernel
theorem dX12_cheapest_176 : decode cX12_cheapest 176 = .ok (.iinc 4 (-1), 3) := by decide +kernel
theorem dX12_cheapest_179 : decode cX12_cheapest 179 = .ok (.goto (-18), 3) := by decide +kernel
theorem dX12_cheapest_182 : decode cX12_cheapest 182 = .ok (.iload 4, 2) := by decide +kernel
theorem dX12_cheapest_184 : decode cX12_cheapest 184 = .ok (.ifCond .lt 7, 3) := by decide +kernel
theorem dX12_cheapest_187 : decode cX12_cheapest 187 = .ok (.iconst 1, 1) := by decide +kernel
theorem dX12_cheapest_188 : decode cX12_cheapest 188 = .ok (.goto 4, 3) := by decide +kernel
theorem dX12_cheapest_191 : decode cX12_cheapest 191 = .ok (.iconst 0, 1) := by decide +kernel
theorem dX12_cheapest_192 : decode cX12_cheapest 192 = .ok (.istore_n 3, 1) := by decide +kernel
theorem dX12_cheapest_193 : decode cX12_cheapest 193 = .ok (.iload_n 3, 1) := by decide +kernel
theorem dX12_cheapest_194 : decode cX12_cheapest 194 = .ok (.ifCond .ne 6, 3) := by decide +kernel
theorem dX12_cheapest_197 : decode cX12_cheapest 197 = .ok (.goto (-144), 3) := by decide +kernel
theorem dX12_cheapest_200 : decode cX12_cheapest 200 = .ok (.bipush 100, 2) := by decide +kernel
theorem dX12_cheapest_202 : decode cX12_cheapest 202 = .ok (.istore 5, 2) := by decide +kernel
theorem dX12_cheapest_204 : decode cX12_cheapest 204 = .ok (.iload 4, 2) := by decide +kernel
theorem dX12_cheapest_206 : decode cX12_cheapest 206 = .ok (.iconst 1, 1) := by decide +kernel
theorem dX12_cheapest_207 : decode cX12_cheapest 207 = .ok (.iadd, 1) := by decide +kernel
theorem dX12_cheapest_208 : decode cX12_cheapest 208 = .ok (.istore 6, 2) := by decide +kernel
theorem dX12_cheapest_210 : decode cX12_cheapest 210 = .ok (.iload 6, 2) := by decide +kernel
theorem dX12_cheapest_212 : decode cX12_cheapest 212 = .ok (.aload_n 0, 1) := by decide +kernel
theorem dX12_cheapest_213 : decode cX12_cheapest 213 = .ok (.getfield 108, 3) := by decide +kernel
theorem dX12_cheapest_216 : decode cX12_cheapest 216 = .ok (.if_icmp .ge 29, 3) := by decide +kernel
theorem dX12_cheapest_219 : decode cX12_cheapest 219 = .ok (.iload 5, 2) := by decide +kernel
theorem dX12_cheapest_221 : decode cX12_cheapest 221 = .ok (.aload_n 0, 1) := by decide +kernel
theorem dX12_cheapest_222 : decode cX12_cheapest 222 = .ok (.getfield 93, 3) := by decide +kernel
theorem dX12_cheapest_225 : decode cX12_cheapest 225 = .ok (.iload 6, 2) := by decide +kernel
theorem dX12_cheapest_227 : decode cX12_cheapest 227 = .ok (.iaload, 1) := by decide +kernel
theorem dX12_cheapest_228 : decode cX12_cheapest 228 = .ok (.iadd, 1) := by decide +kernel
theorem dX12_cheapest_229 : decode cX12_cheapest 229 = .ok (.istore 5, 2) := by decide +kernel
theorem dX12_cheapest_231 : decode cX12_cheapest 231 = .ok (.aload_n 0, 1) := by decide +kernel
theorem dX12_cheapest_232 : decode cX12_cheapest 232 = .ok (.getfield 93, 3) := by decide +kernel
theorem dX12_cheapest_235 : decode cX12_cheapest 235 = .ok (.iload 6, 2) := by decide +kernel
theorem dX12_cheapest_237 : decode cX12_cheapest 237 = .ok (.iconst 0, 1) := by decide +kernel
theorem dX12_cheapest_238 : decode cX12_cheapest 238 = .ok (.iastore, 1) := by decide +kernel
theorem dX12_cheapest_239 : decode cX12_cheapest 239 = .ok (.iinc 6 1, 3) := by decide +kernel
theorem dX12_cheapest_242 : decode cX12_cheapest 242 = .ok (.goto (-32), 3) := by decide +kernel
theorem dX12_cheapest_245 : decode cX12_cheapest 245 = .ok (.aload_n 0, 1) := by decide +kernel
theorem dX12_cheapest_246 : decode cX12_cheapest 246 = .ok (.getfield 93, 3) := by decide +kernel
theorem dX12_cheapest_249 : decode cX12_cheapest 249 = .ok (.iload 4, 2) := by decide +kernel
theorem dX12_cheapest_251 : decode cX12_cheapest 251 = .ok (.dup2, 1) := by decide +kernel
theorem dX12_cheapest_252 : decode cX12_cheapest 252 = .ok (.iaload, 1) := by decide +kernel
theorem dX12_cheapest_253 : decode cX12_cheapest 253 = .ok (.bipush 100, 2) := by decide +kernel
theorem dX12_cheapest_255 : decode cX12_cheapest 255 = .ok (.isub, 1) := by decide +kernel
theorem dX12_cheapest_256 : decode cX12_cheapest 256 = .ok (.iastore, 1) := by decide +kernel
theorem dX12_cheapest_257 : decode cX12_cheapest 257 = .ok (.aload_n 0, 1) := by decide +kernel
theorem dX12_cheapest_258 : decode cX12_cheapest 258 = .ok (.getfield 93, 3) := by decide +kernel
theorem dX12_cheapest_261 : decode cX12_cheapest 261 = .ok (.iload 4, 2) := by decide +kernel
theorem dX12_cheapest_263 : decode cX12_cheapest 263 = .ok (.iconst 1, 1) := by decide +kernel
theorem dX12_cheapest_264 : decode cX12_cheapest 264 = .ok (.iadd, 1) := by decide +kernel
theorem dX12_cheapest_265 : decode cX12_cheapest 265 = .ok (.iload 5, 2) := by decide +kernel
theorem dX12_cheapest_267 : decode cX12_cheapest 267 = .ok (.iastore, 1) := by decide +kernel
theorem dX12_cheapest_268 : decode cX12_cheapest 268 = .ok (.goto (-215), 3) := by decide +kernel
theorem dX12_cheapest_271 : decode cX12_cheapest 271 = .ok (.iload_n 2, 1) := by decide +kernel
theorem dX12_cheapest_272 : decode cX12_cheapest 272 = .ok (.ifCond .ge 6, 3) := by decide +kernel
theorem dX12_cheapest_275 : decode cX12_cheapest 275 = .ok (.ldc 118, 2) := by decide +kernel
theorem dX12_cheapest_277 : decode cX12_cheapest 277 = .ok (.ireturn, 1) := by decide +kernel
theorem dX12_cheapest_278 : decode cX12_cheapest 278 = .ok (.iconst 0, 1) := by decide +kernel
theorem dX12_cheapest_279 : decode cX12_cheapest 279 = .ok (.istore 4, 2) := by decide +kernel
theorem dX12_cheapest_281 : decode cX12_cheapest 281 = .ok (.iload 4, 2) := by decide +kernel
theorem dX12_cheapest_283 : decode cX12_cheapest 283 = .ok (.bipush 8, 2) := by decide +kernel
theorem dX12_cheapest_285 : decode cX12_cheapest 285 = .ok (.if_icmp .ge 37, 3) := by decide +kernel
theorem dX12_cheapest_288 : decode cX12_cheapest 288 = .ok (.aload_n 0, 1) := by decide +kernel
theorem dX12_cheapest_289 : decode cX12_cheapest 289 = .ok (.getfield 28, 3) := by decide +kernel
theorem dX12_cheapest_292 : decode cX12_cheapest 292 = .ok (.iload 4, 2) := by decide +kernel
theorem dX12_cheapest_294 : decode cX12_cheapest 294 = .ok (.aload_n 0, 1) := by decide +kernel
theorem dX12_cheapest_295 : decode cX12_cheapest 295 = .ok (.getfield 96, 3) := by decide +kernel
theorem dX12_cheapest_298 : decode cX12_cheapest 298 = .ok (.iload 4, 2) := by decide +kernel
theorem dX12_cheapest_300 : decode cX12_cheapest 300 = .ok (.iaload, 1) := by decide +kernel
theorem dX12_cheapest_301 : decode cX12_cheapest 301 = .ok (.iastore, 1) := by decide +kernel
theorem dX12_cheapest_302 : decode cX12_cheapest 302 = .ok (.aload_n 0, 1) := by decide +kernel
theorem dX12_cheapest_303 : decode cX12_cheapest 303 = .ok (.getfield 25, 3) := by decide +kernel
theorem dX12_cheapest_306 : decode cX12_cheapest 306 = .ok (.iload 4, 2) := by decide +kernel
theorem dX12_cheapest_308 : decode cX12_cheapest 308 = .ok (.aload_n 0, 1) := by decide +kernel
theorem dX12_cheapest_309 : decode cX12_cheapest 309 = .ok (.getfield 96, 3) := by decide +kernel
theorem dX12_cheapest_312 : decode cX12_cheapest 312 = .ok (.iload 4, 2) := by decide +kernel
theorem dX12_cheapest_314 : decode cX12_cheapest 314 = .ok (.iaload, 1) := by decide +kernel
theorem dX12_cheapest_315 : decode cX12_cheapest 315 = .ok (.iastore, 1) := by decide +kernel
theorem dX12_cheapest_316 : decode cX12_cheapest 316 = .ok (.iinc 4 1, 3) := by decide +kernel
theorem dX12_cheapest_319 : decode cX12_cheapest 319 = .ok (.goto (-38), 3) := by decide +kernel
theorem dX12_cheapest_322 : decode cX12_cheapest 322 = .ok (.aload_n 0, 1) := by decide +kernel
theorem dX12_cheapest_323 : decode cX12_cheapest 323 = .ok (.iconst 1, 1) := by decide +kernel
theorem dX12_cheapest_324 : decode cX12_cheapest 324 = .ok (.putfield 124, 3) := by decide +kernel
theorem dX12_cheapest_327 : decode cX12_cheapest 327 = .ok (.iload_n 2, 1) := by decide +kernel
theorem dX12_cheapest_328 : decode cX12_cheapest 328 = .ok (.ireturn, 1) := by decide +kernel
theorem dX12_want_0 : decode cX12_want 0 = .ok (.iload_n 1, 1) := by decide +kernel
theorem dX12_want_1 : decode cX12_want 1 = .ok (.iconst (-1), 1) := by decide +kernel
theorem dX12_want_2 : decode cX12_want 2 = .ok (.if_icmp .eq 14, 3) := by decide +kernel
theorem dX12_want_5 : decode cX12_want 5 = .ok (.aload_n 0, 1) := by decide +kernel
theorem dX12_want_6 : decode cX12_want 6 = .ok (.iload_n 1, 1) := by decide +kernel
theorem dX12_want_7 : decode cX12_want 7 = .ok (.invokevirtual 152, 3) := by decide +kernel
theorem dX12_want_10 : decode cX12_want 10 = .ok (.ifCond .ne 6, 3) := by decide +kernel
theorem dX12_want_13 : decode cX12_want 13 = .ok (.ldc 118, 2) := by decide +kernel
theorem dX12_want_15 : decode cX12_want 15 = .ok (.ireturn, 1) := by decide +kernel
theorem dX12_want_16 : decode cX12_want 16 = .ok (.aload_n 0, 1) := by decide +kernel
theorem dX12_want_17 : decode cX12_want 17 = .ok (.getfield 41, 3) := by decide +kernel
theorem dX12_want_20 : decode cX12_want 20 = .ok (.istore_n 2, 1) := by decide +kernel
theorem dX12_want_21 : decode cX12_want 21 = .ok (.aload_n 0, 1) := by decide +kernel
theorem dX12_want_22 : decode cX12_want 22 = .ok (.iload_n 1, 1) := by decide +kernel
theorem dX12_want_23 : decode cX12_want 23 = .ok (.putfield 41, 3) := by decide +kernel
theorem dX12_want_26 : decode cX12_want 26 = .ok (.iload_n 2, 1) := by decide +kernel
theorem dX12_want_27 : decode cX12_want 27 = .ok (.ireturn, 1) := by decide +kernel
theorem dX12_comes_0 : decode cX12_comes 0 = .ok (.iconst 0, 1) := by decide +kernel
theorem dX12_comes_1 : decode cX12_comes 1 = .ok (.istore_n 3, 1) := by decide +kernel
theorem dX12_comes_2 : decode cX12_comes 2 = .ok (.iload_n 3, 1) := by decide +kernel
theorem dX12_comes_3 : decode cX12_comes 3 = .ok (.bipush 8, 2) := by decide +kernel
theorem dX12_comes_5 : decode cX12_comes 5 = .ok (.if_icmp .ge 59, 3) := by decide +kernel
theorem dX12_comes_8 : decode cX12_comes 8 = .ok (.aload_n 0, 1) := by decide +kernel
theorem dX12_comes_9 : decode cX12_comes 9 = .ok (.getfield 83, 3) := by decide +kernel
theorem dX12_comes_12 : decode cX12_comes 12 = .ok (.iload_n 3, 1) := by decide +kernel
theorem dX12_comes_13 : decode cX12_comes 13 = .ok (.iload_n 1, 1) := by decide +kernel
theorem dX12_comes_14 : decode cX12_comes 14 = .ok (.ifCond .ge 13, 3) := by decide +kernel
theorem dX12_comes_17 : decode cX12_comes 17 = .ok (.aload_n 0, 1) := by decide +kernel
theorem dX12_comes_18 : decode cX12_comes 18 = .ok (.getfield 28, 3) := by decide +kernel
theorem dX12_comes_21 : decode cX12_comes 21 = .ok (.iload_n 3, 1) := by decide +kernel
theorem dX12_comes_22 : decode cX12_comes 22 = .ok (.iaload, 1) := by decide +kernel
theorem dX12_comes_23 : decode cX12_comes 23 = .ok (.i2l, 1) := by decide +kernel
theorem dX12_comes_24 : decode cX12_comes 24 = .ok (.goto 33, 3) := by decide +kernel
theorem dX12_comes_27 : decode cX12_comes 27 = .ok (.aload_n 0, 1) := by decide +kernel
theorem dX12_comes_28 : decode cX12_comes 28 = .ok (.getfield 28, 3) := by decide +kernel
theorem dX12_comes_31 : decode cX12_comes 31 = .ok (.iload_n 3, 1) := by decide +kernel
theorem dX12_comes_32 : decode cX12_comes 32 = .ok (.iaload, 1) := by decide +kernel
theorem dX12_comes_33 : decode cX12_comes 33 = .ok (.i2l, 1) := by decide +kernel
theorem dX12_comes_34 : decode cX12_comes 34 = .ok (.sipush 1000, 3) := by decide +kernel
theorem dX12_comes_37 : decode cX12_comes 37 = .ok (.iload_n 2, 1) := by decide +kernel
theorem dX12_comes_38 : decode cX12_comes 38 = .ok (.isub, 1) := by decide +kernel
theorem dX12_comes_39 : decode cX12_comes 39 = .ok (.i2l, 1) := by decide +kernel
theorem dX12_comes_40 : decode cX12_comes 40 = .ok (.lmul, 1) := by decide +kernel
theorem dX12_comes_41 : decode cX12_comes 41 = .ok (.iload_n 3, 1) := by decide +kernel
theorem dX12_comes_42 : decode cX12_comes 42 = .ok (.iload_n 1, 1) := by decide +kernel
theorem dX12_comes_43 : decode cX12_comes 43 = .ok (.if_icmp .ne 12, 3) := by decide +kernel
theorem dX12_comes_46 : decode cX12_comes 46 = .ok (.ldc2_w 159, 3) := by decide +kernel
theorem dX12_comes_49 : decode cX12_comes 49 = .ok (.iload_n 2, 1) := by decide +kernel
theorem dX12_comes_50 : decode cX12_comes 50 = .ok (.i2l, 1) := by decide +kernel
theorem dX12_comes_51 : decode cX12_comes 51 = .ok (.lmul, 1) := by decide +kernel
theorem dX12_comes_52 : decode cX12_comes 52 = .ok (.goto 4, 3) := by decide +kernel
theorem dX12_comes_55 : decode cX12_comes 55 = .ok (.lconst 0, 1) := by decide +kernel
theorem dX12_comes_56 : decode cX12_comes 56 = .ok (.ladd, 1) := by decide +kernel
theorem dX12_comes_57 : decode cX12_comes 57 = .ok (.lastore, 1) := by decide +kernel
theorem dX12_comes_58 : decode cX12_comes 58 = .ok (.iinc 3 1, 3) := by decide +kernel
theorem dX12_comes_61 : decode cX12_comes 61 = .ok (.goto (-59), 3) := by decide +kernel
theorem dX12_comes_64 : decode cX12_comes 64 = .ok (.aload_n 0, 1) := by decide +kernel
theorem dX12_comes_65 : decode cX12_comes 65 = .ok (.aload_n 0, 1) := by decide +kernel
theorem dX12_comes_66 : decode cX12_comes 66 = .ok (.getfield 38, 3) := by decide +kernel
theorem dX12_comes_69 : decode cX12_comes 69 = .ok (.bipush 8, 2) := by decide +kernel
theorem dX12_comes_71 : decode cX12_comes 71 = .ok (.invokevirtual 130, 3) := by decide +kernel
theorem dX12_comes_74 : decode cX12_comes 74 = .ok (.iconst 0, 1) := by decide +kernel
theorem dX12_comes_75 : decode cX12_comes 75 = .ok (.istore_n 3, 1) := by decide +kernel
theorem dX12_comes_76 : decode cX12_comes 76 = .ok (.iload_n 3, 1) := by decide +kernel
theorem dX12_comes_77 : decode cX12_comes 77 = .ok (.bipush 8, 2) := by decide +kernel
theorem dX12_comes_79 : decode cX12_comes 79 = .ok (.if_icmp .ge 21, 3) := by decide +kernel
theorem dX12_comes_82 : decode cX12_comes 82 = .ok (.aload_n 0, 1) := by decide +kernel
theorem dX12_comes_83 : decode cX12_comes 83 = .ok (.getfield 99, 3) := by decide +kernel
theorem dX12_comes_86 : decode cX12_comes 86 = .ok (.iload_n 3, 1) := by decide +kernel
theorem dX12_comes_87 : decode cX12_comes 87 = .ok (.aload_n 0, 1) := by decide +kernel
theorem dX12_comes_88 : decode cX12_comes 88 = .ok (.getfield 90, 3) := by decide +kernel
theorem dX12_comes_91 : decode cX12_comes 91 = .ok (.iload_n 3, 1) := by decide +kernel
theorem dX12_comes_92 : decode cX12_comes 92 = .ok (.iaload, 1) := by decide +kernel
theorem dX12_comes_93 : decode cX12_comes 93 = .ok (.iastore, 1) := by decide +kernel
theorem dX12_comes_94 : decode cX12_comes 94 = .ok (.iinc 3 1, 3) := by decide +kernel
theorem dX12_comes_97 : decode cX12_comes 97 = .ok (.goto (-21), 3) := by decide +kernel
theorem dX12_comes_100 : decode cX12_comes 100 = .ok (.iconst 0, 1) := by decide +kernel
theorem dX12_comes_101 : decode cX12_comes 101 = .ok (.istore_n 3, 1) := by decide +kernel
theorem dX12_comes_102 : decode cX12_comes 102 = .ok (.iload_n 3, 1) := by decide +kernel
theorem dX12_comes_103 : decode cX12_comes 103 = .ok (.bipush 8, 2) := by decide +kernel
theorem dX12_comes_105 : decode cX12_comes 105 = .ok (.if_icmp .ge 36, 3) := by decide +kernel
theorem dX12_comes_108 : decode cX12_comes 108 = .ok (.iconst 0, 1) := by decide +kernel
theorem dX12_comes_109 : decode cX12_comes 109 = .ok (.istore 4, 2) := by decide +kernel
theorem dX12_comes_111 : decode cX12_comes 111 = .ok (.iload 4, 2) := by decide +kernel
theorem dX12_comes_113 : decode cX12_comes 113 = .ok (.iconst 4, 1) := by decide +kernel
theorem dX12_comes_114 : decode cX12_comes 114 = .ok (.if_icmp .ge 21, 3) := by decide +kernel
theorem dX12_comes_117 : decode cX12_comes 117 = .ok (.aload_n 0, 1) := by decide +kernel
theorem dX12_comes_118 : decode cX12_comes 118 = .ok (.getfield 53, 3) := by decide +kernel
theorem dX12_comes_121 : decode cX12_comes 121 = .ok (.iconst 4, 1) := by decide +kernel
theorem dX12_comes_122 : decode cX12_comes 122 = .ok (.iload_n 3, 1) := by decide +kernel
theorem dX12_comes_123 : decode cX12_comes 123 = .ok (.imul, 1) := by decide +kernel
theorem dX12_comes_124 : decode cX12_comes 124 = .ok (.iload 4, 2) := by decide +kernel
theorem dX12_comes_126 : decode cX12_comes 126 = .ok (.iadd, 1) := by decide +kernel
theorem dX12_comes_127 : decode cX12_comes 127 = .ok (.iconst 0, 1) := by decide +kernel
theorem dX12_comes_128 : decode cX12_comes 128 = .ok (.iastore, 1) := by decide +kernel
theorem dX12_comes_129 : decode cX12_comes 129 = .ok (.iinc 4 1, 3) := by decide +kernel
theorem dX12_comes_132 : decode cX12_comes 132 = .ok (.goto (-21), 3) := by decide +kernel
theorem dX12_comes_135 : decode cX12_comes 135 = .ok (.iinc 3 1, 3) := by decide +kernel
theorem dX12_comes_138 : decode cX12_comes 138 = .ok (.goto (-36), 3) := by decide +kernel
theorem dX12_comes_141 : decode cX12_comes 141 = .ok (.iconst 0, 1) := by decide +kernel
theorem dX12_comes_142 : decode cX12_comes 142 = .ok (.istore_n 3, 1) := by decide +kernel
theorem dX12_comes_143 : decode cX12_comes 143 = .ok (.iload_n 3, 1) := by decide +kernel
theorem dX12_comes_144 : decode cX12_comes 144 = .ok (.aload_n 0, 1) := by decide +kernel
theorem dX12_comes_145 : decode cX12_comes 145 = .ok (.getfield 108, 3) := by decide +kernel
theorem dX12_comes_148 : decode cX12_comes 148 = .ok (.if_icmp .ge 27, 3) := by decide +kernel
theorem dX12_comes_151 : decode cX12_comes 151 = .ok (.aload_n 0, 1) := by decide +kernel
theorem dX12_comes_152 : decode cX12_comes 152 = .ok (.aload_n 0, 1) := by decide +kernel
theorem dX12_comes_153 : decode cX12_comes 153 = .ok (.getfield 99, 3) := by decide +kernel
theorem dX12_comes_156 : decode cX12_comes 156 = .ok (.iload_n 3, 1) := by decide +kernel
theorem dX12_comes_157 : decode cX12_comes 157 = .ok (.iaload, 1) := by decide +kernel
theorem dX12_comes_158 : decode cX12_comes 158 = .ok (.iload_n 3, 1) := by decide +kernel
theorem dX12_comes_159 : decode cX12_comes 159 = .ok (.aload_n 0, 1) := by decide +kernel
theorem dX12_comes_160 : decode cX12_comes 160 = .ok (.getfield 53, 3) := by decide +kernel
theorem dX12_comes_163 : decode cX12_comes 163 = .ok (.iconst 4, 1) := by decide +kernel
theorem dX12_comes_164 : decode cX12_comes 164 = .ok (.iload_n 3, 1) := by decide +kernel
theorem dX12_comes_165 : decode cX12_comes 165 = .ok (.imul, 1) := by decide +kernel
theorem dX12_comes_166 : decode cX12_comes 166 = .ok (.invokevirtual 148, 3) := by decide +kernel
theorem dX12_comes_169 : decode cX12_comes 169 = .ok (.iinc 3 1, 3) := by decide +kernel
theorem dX12_comes_172 : decode cX12_comes 172 = .ok (.goto (-29), 3) := by decide +kernel
theorem dX12_comes_175 : decode cX12_comes 175 = .ok (.return_, 1) := by decide +kernel
theorem dX12_goes_0 : decode cX12_goes 0 = .ok (.iconst 0, 1) := by decide +kernel
theorem dX12_goes_1 : decode cX12_goes 1 = .ok (.istore_n 2, 1) := by decide +kernel
theorem dX12_goes_2 : decode cX12_goes 2 = .ok (.iload_n 2, 1) := by decide +kernel
theorem dX12_goes_3 : decode cX12_goes 3 = .ok (.aload_n 0, 1) := by decide +kernel
theorem dX12_goes_4 : decode cX12_goes 4 = .ok (.getfield 31, 3) := by decide +kernel
theorem dX12_goes_7 : decode cX12_goes 7 = .ok (.if_icmp .ge 79, 3) := by decide +kernel
theorem dX12_goes_10 : decode cX12_goes 10 = .ok (.iconst 0, 1) := by decide +kernel
theorem dX12_goes_11 : decode cX12_goes 11 = .ok (.istore_n 3, 1) := by decide +kernel
theorem dX12_goes_12 : decode cX12_goes 12 = .ok (.iload_n 3, 1) := by decide +kernel
theorem dX12_goes_13 : decode cX12_goes 13 = .ok (.bipush 32, 2) := by decide +kernel
theorem dX12_goes_15 : decode cX12_goes 15 = .ok (.if_icmp .ge 24, 3) := by decide +kernel
theorem dX12_goes_18 : decode cX12_goes 18 = .ok (.aload_n 0, 1) := by decide +kernel
theorem dX12_goes_19 : decode cX12_goes 19 = .ok (.getfield 83, 3) := by decide +kernel
theorem dX12_goes_22 : decode cX12_goes 22 = .ok (.iload_n 3, 1) := by decide +kernel
theorem dX12_goes_23 : decode cX12_goes 23 = .ok (.aload_n 1, 1) := by decide +kernel
theorem dX12_goes_24 : decode cX12_goes 24 = .ok (.bipush 32, 2) := by decide +kernel
theorem dX12_goes_26 : decode cX12_goes 26 = .ok (.iload_n 2, 1) := by decide +kernel
theorem dX12_goes_27 : decode cX12_goes 27 = .ok (.imul, 1) := by decide +kernel
theorem dX12_goes_28 : decode cX12_goes 28 = .ok (.iload_n 3, 1) := by decide +kernel
theorem dX12_goes_29 : decode cX12_goes 29 = .ok (.iadd, 1) := by decide +kernel
theorem dX12_goes_30 : decode cX12_goes 30 = .ok (.iaload, 1) := by decide +kernel
theorem dX12_goes_31 : decode cX12_goes 31 = .ok (.i2l, 1) := by decide +kernel
theorem dX12_goes_32 : decode cX12_goes 32 = .ok (.lastore, 1) := by decide +kernel
theorem dX12_goes_33 : decode cX12_goes 33 = .ok (.iinc 3 1, 3) := by decide +kernel
theorem dX12_goes_36 : decode cX12_goes 36 = .ok (.goto (-24), 3) := by decide +kernel
theorem dX12_goes_39 : decode cX12_goes 39 = .ok (.aload_n 0, 1) := by decide +kernel
theorem dX12_goes_40 : decode cX12_goes 40 = .ok (.aload_n 0, 1) := by decide +kernel
theorem dX12_goes_41 : decode cX12_goes 41 = .ok (.getfield 38, 3) := by decide +kernel
theorem dX12_goes_44 : decode cX12_goes 44 = .ok (.bipush 32, 2) := by decide +kernel
theorem dX12_goes_46 : decode cX12_goes 46 = .ok (.invokevirtual 130, 3) := by decide +kernel
theorem dX12_goes_49 : decode cX12_goes 49 = .ok (.iconst 0, 1) := by decide +kernel
theorem dX12_goes_50 : decode cX12_goes 50 = .ok (.istore_n 3, 1) := by decide +kernel
theorem dX12_goes_51 : decode cX12_goes 51 = .ok (.iload_n 3, 1) := by decide +kernel
theorem dX12_goes_52 : decode cX12_goes 52 = .ok (.bipush 32, 2) := by decide +kernel
theorem dX12_goes_54 : decode cX12_goes 54 = .ok (.if_icmp .ge 26, 3) := by decide +kernel
theorem dX12_goes_57 : decode cX12_goes 57 = .ok (.aload_n 0, 1) := by decide +kernel
theorem dX12_goes_58 : decode cX12_goes 58 = .ok (.getfield 50, 3) := by decide +kernel
theorem dX12_goes_61 : decode cX12_goes 61 = .ok (.bipush 32, 2) := by decide +kernel
theorem dX12_goes_63 : decode cX12_goes 63 = .ok (.iload_n 2, 1) := by decide +kernel
theorem dX12_goes_64 : decode cX12_goes 64 = .ok (.imul, 1) := by decide +kernel
theorem dX12_goes_65 : decode cX12_goes 65 = .ok (.iload_n 3, 1) := by decide +kernel
theorem dX12_goes_66 : decode cX12_goes 66 = .ok (.iadd, 1) := by decide +kernel
theorem dX12_goes_67 : decode cX12_goes 67 = .ok (.aload_n 0, 1) := by decide +kernel
theorem dX12_goes_68 : decode cX12_goes 68 = .ok (.getfield 90, 3) := by decide +kernel
theorem dX12_goes_71 : decode cX12_goes 71 = .ok (.iload_n 3, 1) := by decide +kernel
theorem dX12_goes_72 : decode cX12_goes 72 = .ok (.iaload, 1) := by decide +kernel
theorem dX12_goes_73 : decode cX12_goes 73 = .ok (.iastore, 1) := by decide +kernel
theorem dX12_goes_74 : decode cX12_goes 74 = .ok (.iinc 3 1, 3) := by decide +kernel
theorem dX12_goes_77 : decode cX12_goes 77 = .ok (.goto (-26), 3) := by decide +kernel
theorem dX12_goes_80 : decode cX12_goes 80 = .ok (.iinc 2 1, 3) := by decide +kernel
theorem dX12_goes_83 : decode cX12_goes 83 = .ok (.goto (-81), 3) := by decide +kernel
theorem dX12_goes_86 : decode cX12_goes 86 = .ok (.iconst 0, 1) := by decide +kernel
theorem dX12_goes_87 : decode cX12_goes 87 = .ok (.istore_n 2, 1) := by decide +kernel
theorem dX12_goes_88 : decode cX12_goes 88 = .ok (.iload_n 2, 1) := by decide +kernel
theorem dX12_goes_89 : decode cX12_goes 89 = .ok (.aload_n 0, 1) := by decide +kernel
theorem dX12_goes_90 : decode cX12_goes 90 = .ok (.getfield 31, 3) := by decide +kernel
theorem dX12_goes_93 : decode cX12_goes 93 = .ok (.if_icmp .ge 72, 3) := by decide +kernel
theorem dX12_goes_96 : decode cX12_goes 96 = .ok (.iconst 0, 1) := by decide +kernel
theorem dX12_goes_97 : decode cX12_goes 97 = .ok (.istore_n 3, 1) := by decide +kernel
theorem dX12_goes_98 : decode cX12_goes 98 = .ok (.iload_n 3, 1) := by decide +kernel
theorem dX12_goes_99 : decode cX12_goes 99 = .ok (.bipush 32, 2) := by decide +kernel
theorem dX12_goes_101 : decode cX12_goes 101 = .ok (.if_icmp .ge 58, 3) := by decide +kernel
theorem dX12_goes_104 : decode cX12_goes 104 = .ok (.aload_n 1, 1) := by decide +kernel
theorem dX12_goes_105 : decode cX12_goes 105 = .ok (.bipush 32, 2) := by decide +kernel
theorem dX12_goes_107 : decode cX12_goes 107 = .ok (.iload_n 2, 1) := by decide +kernel
theorem dX12_goes_108 : decode cX12_goes 108 = .ok (.imul, 1) := by decide +kernel
theorem dX12_goes_109 : decode cX12_goes 109 = .ok (.iload_n 3, 1) := by decide +kernel
theorem dX12_goes_110 : decode cX12_goes 110 = .ok (.iadd, 1) := by decide +kernel
theorem dX12_goes_111 : decode cX12_goes 111 = .ok (.dup2, 1) := by decide +kernel
theorem dX12_goes_112 : decode cX12_goes 112 = .ok (.iaload, 1) := by decide +kernel
theorem dX12_goes_113 : decode cX12_goes 113 = .ok (.iload_n 2, 1) := by decide +kernel
theorem dX12_goes_114 : decode cX12_goes 114 = .ok (.ifCond .ne 12, 3) := by decide +kernel
theorem dX12_goes_117 : decode cX12_goes 117 = .ok (.aload_n 0, 1) := by decide +kernel
theorem dX12_goes_118 : decode cX12_goes 118 = .ok (.getfield 53, 3) := by decide +kernel
theorem dX12_goes_121 : decode cX12_goes 121 = .ok (.iload_n 3, 1) := by decide +kernel
theorem dX12_goes_122 : decode cX12_goes 122 = .ok (.iaload, 1) := by decide +kernel
theorem dX12_goes_123 : decode cX12_goes 123 = .ok (.goto 16, 3) := by decide +kernel
theorem dX12_goes_126 : decode cX12_goes 126 = .ok (.aload_n 0, 1) := by decide +kernel
theorem dX12_goes_127 : decode cX12_goes 127 = .ok (.getfield 50, 3) := by decide +kernel
theorem dX12_goes_130 : decode cX12_goes 130 = .ok (.bipush 32, 2) := by decide +kernel
theorem dX12_goes_132 : decode cX12_goes 132 = .ok (.iload_n 2, 1) := by decide +kernel
theorem dX12_goes_133 : decode cX12_goes 133 = .ok (.iconst 1, 1) := by decide +kernel
theorem dX12_goes_134 : decode cX12_goes 134 = .ok (.isub, 1) := by decide +kernel
theorem dX12_goes_135 : decode cX12_goes 135 = .ok (.imul, 1) := by decide +kernel
theorem dX12_goes_136 : decode cX12_goes 136 = .ok (.iload_n 3, 1) := by decide +kernel
theorem dX12_goes_137 : decode cX12_goes 137 = .ok (.iadd, 1) := by decide +kernel
theorem dX12_goes_138 : decode cX12_goes 138 = .ok (.iaload, 1) := by decide +kernel
theorem dX12_goes_139 : decode cX12_goes 139 = .ok (.aload_n 0, 1) := by decide +kernel
theorem dX12_goes_140 : decode cX12_goes 140 = .ok (.getfield 50, 3) := by decide +kernel
theorem dX12_goes_143 : decode cX12_goes 143 = .ok (.bipush 32, 2) := by decide +kernel
theorem dX12_goes_145 : decode cX12_goes 145 = .ok (.iload_n 2, 1) := by decide +kernel
theorem dX12_goes_146 : decode cX12_goes 146 = .ok (.imul, 1) := by decide +kernel
theorem dX12_goes_147 : decode cX12_goes 147 = .ok (.iload_n 3, 1) := by decide +kernel
theorem dX12_goes_148 : decode cX12_goes 148 = .ok (.iadd, 1) := by decide +kernel
theorem dX12_goes_149 : decode cX12_goes 149 = .ok (.iaload, 1) := by decide +kernel
theorem dX12_goes_150 : decode cX12_goes 150 = .ok (.isub, 1) := by decide +kernel
theorem dX12_goes_151 : decode cX12_goes 151 = .ok (.iadd, 1) := by decide +kernel
theorem dX12_goes_152 : decode cX12_goes 152 = .ok (.iastore, 1) := by decide +kernel
theorem dX12_goes_153 : decode cX12_goes 153 = .ok (.iinc 3 1, 3) := by decide +kernel
theorem dX12_goes_156 : decode cX12_goes 156 = .ok (.goto (-58), 3) := by decide +kernel
theorem dX12_goes_159 : decode cX12_goes 159 = .ok (.iinc 2 1, 3) := by decide +kernel
theorem dX12_goes_162 : decode cX12_goes 162 = .ok (.goto (-74), 3) := by decide +kernel
theorem dX12_goes_165 : decode cX12_goes 165 = .ok (.iconst 0, 1) := by decide +kernel
theorem dX12_goes_166 : decode cX12_goes 166 = .ok (.istore_n 2, 1) := by decide +kernel
theorem dX12_goes_167 : decode cX12_goes 167 = .ok (.iload_n 2, 1) := by decide +kernel
theorem dX12_goes_168 : decode cX12_goes 168 = .ok (.bipush 32, 2) := by decide +kernel
theorem dX12_goes_170 : decode cX12_goes 170 = .ok (.if_icmp .ge 31, 3) := by decide +kernel
theorem dX12_goes_173 : decode cX12_goes 173 = .ok (.aload_n 0, 1) := by decide +kernel
theorem dX12_goes_174 : decode cX12_goes 174 = .ok (.getfield 56, 3) := by decide +kernel
theorem dX12_goes_177 : decode cX12_goes 177 = .ok (.iload_n 2, 1) := by decide +kernel
theorem dX12_goes_178 : decode cX12_goes 178 = .ok (.aload_n 0, 1) := by decide +kernel
theorem dX12_goes_179 : decode cX12_goes 179 = .ok (.getfield 50, 3) := by decide +kernel
theorem dX12_goes_182 : decode cX12_goes 182 = .ok (.bipush 32, 2) := by decide +kernel
theorem dX12_goes_184 : decode cX12_goes 184 = .ok (.aload_n 0, 1) := by decide +kernel
theorem dX12_goes_185 : decode cX12_goes 185 = .ok (.getfield 31, 3) := by decide +kernel
theorem dX12_goes_188 : decode cX12_goes 188 = .ok (.iconst 1, 1) := by decide +kernel
theorem dX12_goes_189 : decode cX12_goes 189 = .ok (.isub, 1) := by decide +kernel
theorem dX12_goes_190 : decode cX12_goes 190 = .ok (.imul, 1) := by decide +kernel
theorem dX12_goes_191 : decode cX12_goes 191 = .ok (.iload_n 2, 1) := by decide +kernel
theorem dX12_goes_192 : decode cX12_goes 192 = .ok (.iadd, 1) := by decide +kernel
theorem dX12_goes_193 : decode cX12_goes 193 = .ok (.iaload, 1) := by decide +kernel
theorem dX12_goes_194 : decode cX12_goes 194 = .ok (.iastore, 1) := by decide +kernel
theorem dX12_goes_195 : decode cX12_goes 195 = .ok (.iinc 2 1, 3) := by decide +kernel
theorem dX12_goes_198 : decode cX12_goes 198 = .ok (.goto (-31), 3) := by decide +kernel
theorem dX12_goes_201 : decode cX12_goes 201 = .ok (.return_, 1) := by decide +kernel
theorem dX12_glassOf_0 : decode cX12_glassOf 0 = .ok (.iconst 0, 1) := by decide +kernel
theorem dX12_glassOf_1 : decode cX12_glassOf 1 = .ok (.istore_n 2, 1) := by decide +kernel
theorem dX12_glassOf_2 : decode cX12_glassOf 2 = .ok (.iconst 0, 1) := by decide +kernel
theorem dX12_glassOf_3 : decode cX12_glassOf 3 = .ok (.istore_n 3, 1) := by decide +kernel
theorem dX12_glassOf_4 : decode cX12_glassOf 4 = .ok (.iload_n 3, 1) := by decide +kernel
theorem dX12_glassOf_5 : decode cX12_glassOf 5 = .ok (.bipush 8, 2) := by decide +kernel
theorem dX12_glassOf_7 : decode cX12_glassOf 7 = .ok (.if_icmp .ge 22, 3) := by decide +kernel
theorem dX12_glassOf_10 : decode cX12_glassOf 10 = .ok (.iload_n 2, 1) := by decide +kernel
theorem dX12_glassOf_11 : decode cX12_glassOf 11 = .ok (.aload_n 0, 1) := by decide +kernel
theorem dX12_glassOf_12 : decode cX12_glassOf 12 = .ok (.getfield 56, 3) := by decide +kernel
theorem dX12_glassOf_15 : decode cX12_glassOf 15 = .ok (.iconst 4, 1) := by decide +kernel
theorem dX12_glassOf_16 : decode cX12_glassOf 16 = .ok (.iload_n 3, 1) := by decide +kernel
theorem dX12_glassOf_17 : decode cX12_glassOf 17 = .ok (.imul, 1) := by decide +kernel
theorem dX12_glassOf_18 : decode cX12_glassOf 18 = .ok (.iload_n 1, 1) := by decide +kernel
theorem dX12_glassOf_19 : decode cX12_glassOf 19 = .ok (.iadd, 1) := by decide +kernel
theorem dX12_glassOf_20 : decode cX12_glassOf 20 = .ok (.iaload, 1) := by decide +kernel
theorem dX12_glassOf_21 : decode cX12_glassOf 21 = .ok (.iadd, 1) := by decide +kernel
theorem dX12_glassOf_22 : decode cX12_glassOf 22 = .ok (.istore_n 2, 1) := by decide +kernel
theorem dX12_glassOf_23 : decode cX12_glassOf 23 = .ok (.iinc 3 1, 3) := by decide +kernel
theorem dX12_glassOf_26 : decode cX12_glassOf 26 = .ok (.goto (-22), 3) := by decide +kernel
theorem dX12_glassOf_29 : decode cX12_glassOf 29 = .ok (.iload_n 2, 1) := by decide +kernel
theorem dX12_glassOf_30 : decode cX12_glassOf 30 = .ok (.ireturn, 1) := by decide +kernel
theorem dX12_isOf_0 : decode cX12_isOf 0 = .ok (.iconst 0, 1) := by decide +kernel
theorem dX12_isOf_1 : decode cX12_isOf 1 = .ok (.istore_n 2, 1) := by decide +kernel
theorem dX12_isOf_2 : decode cX12_isOf 2 = .ok (.iload_n 2, 1) := by decide +kernel
theorem dX12_isOf_3 : decode cX12_isOf 3 = .ok (.iconst 4, 1) := by decide +kernel
theorem dX12_isOf_4 : decode cX12_isOf 4 = .ok (.if_icmp .ge 66, 3) := by decide +kernel
theorem dX12_isOf_7 : decode cX12_isOf 7 = .ok (.ldc2_w 159, 3) := by decide +kernel
theorem dX12_isOf_10 : decode cX12_isOf 10 = .ok (.aload_n 0, 1) := by decide +kernel
theorem dX12_isOf_11 : decode cX12_isOf 11 = .ok (.iload_n 2, 1) := by decide +kernel
theorem dX12_isOf_12 : decode cX12_isOf 12 = .ok (.invokevirtual 161, 3) := by decide +kernel
theorem dX12_isOf_15 : decode cX12_isOf 15 = .ok (.i2l, 1) := by decide +kernel
theorem dX12_isOf_16 : decode cX12_isOf 16 = .ok (.lmul, 1) := by decide +kernel
theorem dX12_isOf_17 : decode cX12_isOf 17 = .ok (.lstore_n 3, 1) := by decide +kernel
theorem dX12_isOf_18 : decode cX12_isOf 18 = .ok (.lload_n 3, 1) := by decide +kernel
theorem dX12_isOf_19 : decode cX12_isOf 19 = .ok (.aload_n 0, 1) := by decide +kernel
theorem dX12_isOf_20 : decode cX12_isOf 20 = .ok (.getfield 59, 3) := by decide +kernel
theorem dX12_isOf_23 : decode cX12_isOf 23 = .ok (.iconst 4, 1) := by decide +kernel
theorem dX12_isOf_24 : decode cX12_isOf 24 = .ok (.iload_n 1, 1) := by decide +kernel
theorem dX12_isOf_25 : decode cX12_isOf 25 = .ok (.imul, 1) := by decide +kernel
theorem dX12_isOf_26 : decode cX12_isOf 26 = .ok (.iload_n 2, 1) := by decide +kernel
theorem dX12_isOf_27 : decode cX12_isOf 27 = .ok (.iadd, 1) := by decide +kernel
theorem dX12_isOf_28 : decode cX12_isOf 28 = .ok (.iaload, 1) := by decide +kernel
theorem dX12_isOf_29 : decode cX12_isOf 29 = .ok (.i2l, 1) := by decide +kernel
theorem dX12_isOf_30 : decode cX12_isOf 30 = .ok (.aload_n 0, 1) := by decide +kernel
theorem dX12_isOf_31 : decode cX12_isOf 31 = .ok (.getfield 38, 3) := by decide +kernel
theorem dX12_isOf_34 : decode cX12_isOf 34 = .ok (.i2l, 1) := by decide +kernel
theorem dX12_isOf_35 : decode cX12_isOf 35 = .ok (.lmul, 1) := by decide +kernel
theorem dX12_isOf_36 : decode cX12_isOf 36 = .ok (.lcmp, 1) := by decide +kernel
theorem dX12_isOf_37 : decode cX12_isOf 37 = .ok (.ifCond .lt 25, 3) := by decide +kernel
theorem dX12_isOf_40 : decode cX12_isOf 40 = .ok (.lload_n 3, 1) := by decide +kernel
theorem dX12_isOf_41 : decode cX12_isOf 41 = .ok (.aload_n 0, 1) := by decide +kernel
theorem dX12_isOf_42 : decode cX12_isOf 42 = .ok (.getfield 62, 3) := by decide +kernel
theorem dX12_isOf_45 : decode cX12_isOf 45 = .ok (.iconst 4, 1) := by decide +kernel
theorem dX12_isOf_46 : decode cX12_isOf 46 = .ok (.iload_n 1, 1) := by decide +kernel
theorem dX12_isOf_47 : decode cX12_isOf 47 = .ok (.imul, 1) := by decide +kernel
theorem dX12_isOf_48 : decode cX12_isOf 48 = .ok (.iload_n 2, 1) := by decide +kernel
theorem dX12_isOf_49 : decode cX12_isOf 49 = .ok (.iadd, 1) := by decide +kernel
theorem dX12_isOf_50 : decode cX12_isOf 50 = .ok (.iaload, 1) := by decide +kernel
theorem dX12_isOf_51 : decode cX12_isOf 51 = .ok (.i2l, 1) := by decide +kernel
theorem dX12_isOf_52 : decode cX12_isOf 52 = .ok (.aload_n 0, 1) := by decide +kernel
theorem dX12_isOf_53 : decode cX12_isOf 53 = .ok (.getfield 38, 3) := by decide +kernel
theorem dX12_isOf_56 : decode cX12_isOf 56 = .ok (.i2l, 1) := by decide +kernel
theorem dX12_isOf_57 : decode cX12_isOf 57 = .ok (.lmul, 1) := by decide +kernel
theorem dX12_isOf_58 : decode cX12_isOf 58 = .ok (.lcmp, 1) := by decide +kernel
theorem dX12_isOf_59 : decode cX12_isOf 59 = .ok (.ifCond .le 5, 3) := by decide +kernel
theorem dX12_isOf_62 : decode cX12_isOf 62 = .ok (.iconst 0, 1) := by decide +kernel
theorem dX12_isOf_63 : decode cX12_isOf 63 = .ok (.ireturn, 1) := by decide +kernel
theorem dX12_isOf_64 : decode cX12_isOf 64 = .ok (.iinc 2 1, 3) := by decide +kernel
theorem dX12_isOf_67 : decode cX12_isOf 67 = .ok (.goto (-65), 3) := by decide +kernel
theorem dX12_isOf_70 : decode cX12_isOf 70 = .ok (.iconst 1, 1) := by decide +kernel
theorem dX12_isOf_71 : decode cX12_isOf 71 = .ok (.ireturn, 1) := by decide +kernel
theorem dX12_nameOf_0 : decode cX12_nameOf 0 = .ok (.iconst 0, 1) := by decide +kernel
theorem dX12_nameOf_1 : decode cX12_nameOf 1 = .ok (.istore_n 1, 1) := by decide +kernel
theorem dX12_nameOf_2 : decode cX12_nameOf 2 = .ok (.iload_n 1, 1) := by decide +kernel
theorem dX12_nameOf_3 : decode cX12_nameOf 3 = .ok (.aload_n 0, 1) := by decide +kernel
theorem dX12_nameOf_4 : decode cX12_nameOf 4 = .ok (.getfield 115, 3) := by decide +kernel
theorem dX12_nameOf_7 : decode cX12_nameOf 7 = .ok (.if_icmp .ge 19, 3) := by decide +kernel
theorem dX12_nameOf_10 : decode cX12_nameOf 10 = .ok (.aload_n 0, 1) := by decide +kernel
theorem dX12_nameOf_11 : decode cX12_nameOf 11 = .ok (.iload_n 1, 1) := by decide +kernel
theorem dX12_nameOf_12 : decode cX12_nameOf 12 = .ok (.invokevirtual 165, 3) := by decide +kernel
theorem dX12_nameOf_15 : decode cX12_nameOf 15 = .ok (.ifCond .eq 5, 3) := by decide +kernel
theorem dX12_nameOf_18 : decode cX12_nameOf 18 = .ok (.iload_n 1, 1) := by decide +kernel
theorem dX12_nameOf_19 : decode cX12_nameOf 19 = .ok (.ireturn, 1) := by decide +kernel
theorem dX12_nameOf_20 : decode cX12_nameOf 20 = .ok (.iinc 1 1, 3) := by decide +kernel
theorem dX12_nameOf_23 : decode cX12_nameOf 23 = .ok (.goto (-21), 3) := by decide +kernel
theorem dX12_nameOf_26 : decode cX12_nameOf 26 = .ok (.iconst (-1), 1) := by decide +kernel
theorem dX12_nameOf_27 : decode cX12_nameOf 27 = .ok (.ireturn, 1) := by decide +kernel
theorem dX12_goesBy_0 : decode cX12_goesBy 0 = .ok (.aload_n 0, 1) := by decide +kernel
theorem dX12_goesBy_1 : decode cX12_goesBy 1 = .ok (.iconst (-1), 1) := by decide +kernel
theorem dX12_goesBy_2 : decode cX12_goesBy 2 = .ok (.iconst 0, 1) := by decide +kernel
theorem dX12_goesBy_3 : decode cX12_goesBy 3 = .ok (.invokevirtual 168, 3) := by decide +kernel
theorem dX12_goesBy_6 : decode cX12_goesBy 6 = .ok (.iconst 0, 1) := by decide +kernel
theorem dX12_goesBy_7 : decode cX12_goesBy 7 = .ok (.istore_n 1, 1) := by decide +kernel
theorem dX12_goesBy_8 : decode cX12_goesBy 8 = .ok (.iload_n 1, 1) := by decide +kernel
theorem dX12_goesBy_9 : decode cX12_goesBy 9 = .ok (.aload_n 0, 1) := by decide +kernel
theorem dX12_goesBy_10 : decode cX12_goesBy 10 = .ok (.getfield 108, 3) := by decide +kernel
theorem dX12_goesBy_13 : decode cX12_goesBy 13 = .ok (.if_icmp .ge 26, 3) := by decide +kernel
theorem dX12_goesBy_16 : decode cX12_goesBy 16 = .ok (.aload_n 0, 1) := by decide +kernel
theorem dX12_goesBy_17 : decode cX12_goesBy 17 = .ok (.getfield 99, 3) := by decide +kernel
theorem dX12_goesBy_20 : decode cX12_goesBy 20 = .ok (.iload_n 1, 1) := by decide +kernel
theorem dX12_goesBy_21 : decode cX12_goesBy 21 = .ok (.iaload, 1) := by decide +kernel
theorem dX12_goesBy_22 : decode cX12_goesBy 22 = .ok (.aload_n 0, 1) := by decide +kernel
theorem dX12_goesBy_23 : decode cX12_goesBy 23 = .ok (.getfield 22, 3) := by decide +kernel
theorem dX12_goesBy_26 : decode cX12_goesBy 26 = .ok (.iload_n 1, 1) := by decide +kernel
theorem dX12_goesBy_27 : decode cX12_goesBy 27 = .ok (.iaload, 1) := by decide +kernel
theorem dX12_goesBy_28 : decode cX12_goesBy 28 = .ok (.if_icmp .le 5, 3) := by decide +kernel
theorem dX12_goesBy_31 : decode cX12_goesBy 31 = .ok (.iconst 0, 1) := by decide +kernel
theorem dX12_goesBy_32 : decode cX12_goesBy 32 = .ok (.ireturn, 1) := by decide +kernel
theorem dX12_goesBy_33 : decode cX12_goesBy 33 = .ok (.iinc 1 1, 3) := by decide +kernel
theorem dX12_goesBy_36 : decode cX12_goesBy 36 = .ok (.goto (-28), 3) := by decide +kernel
theorem dX12_goesBy_39 : decode cX12_goesBy 39 = .ok (.aload_n 0, 1) := by decide +kernel
theorem dX12_goesBy_40 : decode cX12_goesBy 40 = .ok (.aload_n 0, 1) := by decide +kernel
theorem dX12_goesBy_41 : decode cX12_goesBy 41 = .ok (.getfield 44, 3) := by decide +kernel
theorem dX12_goesBy_44 : decode cX12_goesBy 44 = .ok (.invokevirtual 171, 3) := by decide +kernel
theorem dX12_goesBy_47 : decode cX12_goesBy 47 = .ok (.iconst 0, 1) := by decide +kernel
theorem dX12_goesBy_48 : decode cX12_goesBy 48 = .ok (.istore_n 1, 1) := by decide +kernel
theorem dX12_goesBy_49 : decode cX12_goesBy 49 = .ok (.iload_n 1, 1) := by decide +kernel
theorem dX12_goesBy_50 : decode cX12_goesBy 50 = .ok (.aload_n 0, 1) := by decide +kernel
theorem dX12_goesBy_51 : decode cX12_goesBy 51 = .ok (.getfield 108, 3) := by decide +kernel
theorem dX12_goesBy_54 : decode cX12_goesBy 54 = .ok (.if_icmp .ge 24, 3) := by decide +kernel
theorem dX12_goesBy_57 : decode cX12_goesBy 57 = .ok (.aload_n 0, 1) := by decide +kernel
theorem dX12_goesBy_58 : decode cX12_goesBy 58 = .ok (.getfield 22, 3) := by decide +kernel
theorem dX12_goesBy_61 : decode cX12_goesBy 61 = .ok (.iload_n 1, 1) := by decide +kernel
theorem dX12_goesBy_62 : decode cX12_goesBy 62 = .ok (.dup2, 1) := by decide +kernel
theorem dX12_goesBy_63 : decode cX12_goesBy 63 = .ok (.iaload, 1) := by decide +kernel
theorem dX12_goesBy_64 : decode cX12_goesBy 64 = .ok (.aload_n 0, 1) := by decide +kernel
theorem dX12_goesBy_65 : decode cX12_goesBy 65 = .ok (.getfield 99, 3) := by decide +kernel
theorem dX12_goesBy_68 : decode cX12_goesBy 68 = .ok (.iload_n 1, 1) := by decide +kernel
theorem dX12_goesBy_69 : decode cX12_goesBy 69 = .ok (.iaload, 1) := by decide +kernel
theorem dX12_goesBy_70 : decode cX12_goesBy 70 = .ok (.isub, 1) := by decide +kernel
theorem dX12_goesBy_71 : decode cX12_goesBy 71 = .ok (.iastore, 1) := by decide +kernel
theorem dX12_goesBy_72 : decode cX12_goesBy 72 = .ok (.iinc 1 1, 3) := by decide +kernel
theorem dX12_goesBy_75 : decode cX12_goesBy 75 = .ok (.goto (-26), 3) := by decide +kernel
theorem dX12_goesBy_78 : decode cX12_goesBy 78 = .ok (.aload_n 0, 1) := by decide +kernel
theorem dX12_goesBy_79 : decode cX12_goesBy 79 = .ok (.dup, 1) := by decide +kernel
theorem dX12_goesBy_80 : decode cX12_goesBy 80 = .ok (.getfield 145, 3) := by decide +kernel
theorem dX12_goesBy_83 : decode cX12_goesBy 83 = .ok (.aload_n 0, 1) := by decide +kernel
theorem dX12_goesBy_84 : decode cX12_goesBy 84 = .ok (.getfield 38, 3) := by decide +kernel
theorem dX12_goesBy_87 : decode cX12_goesBy 87 = .ok (.i2l, 1) := by decide +kernel
theorem dX12_goesBy_88 : decode cX12_goesBy 88 = .ok (.ladd, 1) := by decide +kernel
theorem dX12_goesBy_89 : decode cX12_goesBy 89 = .ok (.putfield 145, 3) := by decide +kernel
theorem dX12_goesBy_92 : decode cX12_goesBy 92 = .ok (.aload_n 0, 1) := by decide +kernel
theorem dX12_goesBy_93 : decode cX12_goesBy 93 = .ok (.invokevirtual 175, 3) := by decide +kernel
theorem dX12_goesBy_96 : decode cX12_goesBy 96 = .ok (.istore_n 1, 1) := by decide +kernel
theorem dX12_goesBy_97 : decode cX12_goesBy 97 = .ok (.iconst 0, 1) := by decide +kernel
theorem dX12_goesBy_98 : decode cX12_goesBy 98 = .ok (.istore_n 2, 1) := by decide +kernel
theorem dX12_goesBy_99 : decode cX12_goesBy 99 = .ok (.iload_n 2, 1) := by decide +kernel
theorem dX12_goesBy_100 : decode cX12_goesBy 100 = .ok (.iconst 4, 1) := by decide +kernel
theorem dX12_goesBy_101 : decode cX12_goesBy 101 = .ok (.if_icmp .ge 27, 3) := by decide +kernel
theorem dX12_goesBy_104 : decode cX12_goesBy 104 = .ok (.aload_n 0, 1) := by decide +kernel
theorem dX12_goesBy_105 : decode cX12_goesBy 105 = .ok (.getfield 68, 3) := by decide +kernel
theorem dX12_goesBy_108 : decode cX12_goesBy 108 = .ok (.iconst 4, 1) := by decide +kernel
theorem dX12_goesBy_109 : decode cX12_goesBy 109 = .ok (.aload_n 0, 1) := by decide +kernel
theorem dX12_goesBy_110 : decode cX12_goesBy 110 = .ok (.getfield 138, 3) := by decide +kernel
theorem dX12_goesBy_113 : decode cX12_goesBy 113 = .ok (.imul, 1) := by decide +kernel
theorem dX12_goesBy_114 : decode cX12_goesBy 114 = .ok (.iload_n 2, 1) := by decide +kernel
theorem dX12_goesBy_115 : decode cX12_goesBy 115 = .ok (.iadd, 1) := by decide +kernel
theorem dX12_goesBy_116 : decode cX12_goesBy 116 = .ok (.aload_n 0, 1) := by decide +kernel
theorem dX12_goesBy_117 : decode cX12_goesBy 117 = .ok (.iload_n 2, 1) := by decide +kernel
theorem dX12_goesBy_118 : decode cX12_goesBy 118 = .ok (.invokevirtual 161, 3) := by decide +kernel
theorem dX12_goesBy_121 : decode cX12_goesBy 121 = .ok (.iastore, 1) := by decide +kernel
theorem dX12_goesBy_122 : decode cX12_goesBy 122 = .ok (.iinc 2 1, 3) := by decide +kernel
theorem dX12_goesBy_125 : decode cX12_goesBy 125 = .ok (.goto (-26), 3) := by decide +kernel
theorem dX12_goesBy_128 : decode cX12_goesBy 128 = .ok (.iconst 0, 1) := by decide +kernel
theorem dX12_goesBy_129 : decode cX12_goesBy 129 = .ok (.istore_n 2, 1) := by decide +kernel
theorem dX12_goesBy_130 : decode cX12_goesBy 130 = .ok (.iload_n 2, 1) := by decide +kernel
theorem dX12_goesBy_131 : decode cX12_goesBy 131 = .ok (.bipush 8, 2) := by decide +kernel
theorem dX12_goesBy_133 : decode cX12_goesBy 133 = .ok (.if_icmp .ge 64, 3) := by decide +kernel
theorem dX12_goesBy_136 : decode cX12_goesBy 136 = .ok (.aload_n 0, 1) := by decide +kernel
theorem dX12_goesBy_137 : decode cX12_goesBy 137 = .ok (.getfield 71, 3) := by decide +kernel
theorem dX12_goesBy_140 : decode cX12_goesBy 140 = .ok (.bipush 8, 2) := by decide +kernel
theorem dX12_goesBy_142 : decode cX12_goesBy 142 = .ok (.aload_n 0, 1) := by decide +kernel
theorem dX12_goesBy_143 : decode cX12_goesBy 143 = .ok (.getfield 138, 3) := by decide +kernel
theorem dX12_goesBy_146 : decode cX12_goesBy 146 = .ok (.imul, 1) := by decide +kernel
theorem dX12_goesBy_147 : decode cX12_goesBy 147 = .ok (.iload_n 2, 1) := by decide +kernel
theorem dX12_goesBy_148 : decode cX12_goesBy 148 = .ok (.iadd, 1) := by decide +kernel
theorem dX12_goesBy_149 : decode cX12_goesBy 149 = .ok (.aload_n 0, 1) := by decide +kernel
theorem dX12_goesBy_150 : decode cX12_goesBy 150 = .ok (.getfield 56, 3) := by decide +kernel
theorem dX12_goesBy_153 : decode cX12_goesBy 153 = .ok (.iconst 4, 1) := by decide +kernel
theorem dX12_goesBy_154 : decode cX12_goesBy 154 = .ok (.iload_n 2, 1) := by decide +kernel
theorem dX12_goesBy_155 : decode cX12_goesBy 155 = .ok (.imul, 1) := by decide +kernel
theorem dX12_goesBy_156 : decode cX12_goesBy 156 = .ok (.iaload, 1) := by decide +kernel
theorem dX12_goesBy_157 : decode cX12_goesBy 157 = .ok (.aload_n 0, 1) := by decide +kernel
theorem dX12_goesBy_158 : decode cX12_goesBy 158 = .ok (.getfield 56, 3) := by decide +kernel
theorem dX12_goesBy_161 : decode cX12_goesBy 161 = .ok (.iconst 4, 1) := by decide +kernel
theorem dX12_goesBy_162 : decode cX12_goesBy 162 = .ok (.iload_n 2, 1) := by decide +kernel
theorem dX12_goesBy_163 : decode cX12_goesBy 163 = .ok (.imul, 1) := by decide +kernel
theorem dX12_goesBy_164 : decode cX12_goesBy 164 = .ok (.iconst 1, 1) := by decide +kernel
theorem dX12_goesBy_165 : decode cX12_goesBy 165 = .ok (.iadd, 1) := by decide +kernel
theorem dX12_goesBy_166 : decode cX12_goesBy 166 = .ok (.iaload, 1) := by decide +kernel
theorem dX12_goesBy_167 : decode cX12_goesBy 167 = .ok (.iadd, 1) := by decide +kernel
theorem dX12_goesBy_168 : decode cX12_goesBy 168 = .ok (.aload_n 0, 1) := by decide +kernel
theorem dX12_goesBy_169 : decode cX12_goesBy 169 = .ok (.getfield 56, 3) := by decide +kernel
theorem dX12_goesBy_172 : decode cX12_goesBy 172 = .ok (.iconst 4, 1) := by decide +kernel
theorem dX12_goesBy_173 : decode cX12_goesBy 173 = .ok (.iload_n 2, 1) := by decide +kernel
theorem dX12_goesBy_174 : decode cX12_goesBy 174 = .ok (.imul, 1) := by decide +kernel
theorem dX12_goesBy_175 : decode cX12_goesBy 175 = .ok (.iconst 2, 1) := by decide +kernel
theorem dX12_goesBy_176 : decode cX12_goesBy 176 = .ok (.iadd, 1) := by decide +kernel
theorem dX12_goesBy_177 : decode cX12_goesBy 177 = .ok (.iaload, 1) := by decide +kernel
theorem dX12_goesBy_178 : decode cX12_goesBy 178 = .ok (.iadd, 1) := by decide +kernel
theorem dX12_goesBy_179 : decode cX12_goesBy 179 = .ok (.aload_n 0, 1) := by decide +kernel
theorem dX12_goesBy_180 : decode cX12_goesBy 180 = .ok (.getfield 56, 3) := by decide +kernel
theorem dX12_goesBy_183 : decode cX12_goesBy 183 = .ok (.iconst 4, 1) := by decide +kernel
theorem dX12_goesBy_184 : decode cX12_goesBy 184 = .ok (.iload_n 2, 1) := by decide +kernel
theorem dX12_goesBy_185 : decode cX12_goesBy 185 = .ok (.imul, 1) := by decide +kernel
theorem dX12_goesBy_186 : decode cX12_goesBy 186 = .ok (.iconst 3, 1) := by decide +kernel
theorem dX12_goesBy_187 : decode cX12_goesBy 187 = .ok (.iadd, 1) := by decide +kernel
theorem dX12_goesBy_188 : decode cX12_goesBy 188 = .ok (.iaload, 1) := by decide +kernel
theorem dX12_goesBy_189 : decode cX12_goesBy 189 = .ok (.iadd, 1) := by decide +kernel
theorem dX12_goesBy_190 : decode cX12_goesBy 190 = .ok (.iastore, 1) := by decide +kernel
theorem dX12_goesBy_191 : decode cX12_goesBy 191 = .ok (.iinc 2 1, 3) := by decide +kernel
theorem dX12_goesBy_194 : decode cX12_goesBy 194 = .ok (.goto (-64), 3) := by decide +kernel
theorem dX12_goesBy_197 : decode cX12_goesBy 197 = .ok (.aload_n 0, 1) := by decide +kernel
theorem dX12_goesBy_198 : decode cX12_goesBy 198 = .ok (.getfield 74, 3) := by decide +kernel
theorem dX12_goesBy_201 : decode cX12_goesBy 201 = .ok (.aload_n 0, 1) := by decide +kernel
theorem dX12_goesBy_202 : decode cX12_goesBy 202 = .ok (.getfield 138, 3) := by decide +kernel
theorem dX12_goesBy_205 : decode cX12_goesBy 205 = .ok (.iload_n 1, 1) := by decide +kernel
theorem dX12_goesBy_206 : decode cX12_goesBy 206 = .ok (.iastore, 1) := by decide +kernel
theorem dX12_goesBy_207 : decode cX12_goesBy 207 = .ok (.aload_n 0, 1) := by decide +kernel
theorem dX12_goesBy_208 : decode cX12_goesBy 208 = .ok (.getfield 80, 3) := by decide +kernel
theorem dX12_goesBy_211 : decode cX12_goesBy 211 = .ok (.aload_n 0, 1) := by decide +kernel
theorem dX12_goesBy_212 : decode cX12_goesBy 212 = .ok (.getfield 138, 3) := by decide +kernel
theorem dX12_goesBy_215 : decode cX12_goesBy 215 = .ok (.aload_n 0, 1) := by decide +kernel
theorem dX12_goesBy_216 : decode cX12_goesBy 216 = .ok (.getfield 38, 3) := by decide +kernel
theorem dX12_goesBy_219 : decode cX12_goesBy 219 = .ok (.iastore, 1) := by decide +kernel
theorem dX12_goesBy_220 : decode cX12_goesBy 220 = .ok (.aload_n 0, 1) := by decide +kernel
theorem dX12_goesBy_221 : decode cX12_goesBy 221 = .ok (.getfield 41, 3) := by decide +kernel
theorem dX12_goesBy_224 : decode cX12_goesBy 224 = .ok (.ifCond .lt 11, 3) := by decide +kernel
theorem dX12_goesBy_227 : decode cX12_goesBy 227 = .ok (.iload_n 1, 1) := by decide +kernel
theorem dX12_goesBy_228 : decode cX12_goesBy 228 = .ok (.aload_n 0, 1) := by decide +kernel
theorem dX12_goesBy_229 : decode cX12_goesBy 229 = .ok (.getfield 41, 3) := by decide +kernel
theorem dX12_goesBy_232 : decode cX12_goesBy 232 = .ok (.if_icmp .eq 7, 3) := by decide +kernel
theorem dX12_goesBy_235 : decode cX12_goesBy 235 = .ok (.iconst 1, 1) := by decide +kernel
theorem dX12_goesBy_236 : decode cX12_goesBy 236 = .ok (.goto 4, 3) := by decide +kernel
theorem dX12_goesBy_239 : decode cX12_goesBy 239 = .ok (.iconst 0, 1) := by decide +kernel
theorem dX12_goesBy_240 : decode cX12_goesBy 240 = .ok (.istore_n 2, 1) := by decide +kernel
theorem dX12_goesBy_241 : decode cX12_goesBy 241 = .ok (.aload_n 0, 1) := by decide +kernel
theorem dX12_goesBy_242 : decode cX12_goesBy 242 = .ok (.getfield 77, 3) := by decide +kernel
theorem dX12_goesBy_245 : decode cX12_goesBy 245 = .ok (.aload_n 0, 1) := by decide +kernel
theorem dX12_goesBy_246 : decode cX12_goesBy 246 = .ok (.getfield 138, 3) := by decide +kernel
theorem dX12_goesBy_249 : decode cX12_goesBy 249 = .ok (.iload_n 2, 1) := by decide +kernel
theorem dX12_goesBy_250 : decode cX12_goesBy 250 = .ok (.ifCond .eq 7, 3) := by decide +kernel
theorem dX12_goesBy_253 : decode cX12_goesBy 253 = .ok (.iconst 1, 1) := by decide +kernel
theorem dX12_goesBy_254 : decode cX12_goesBy 254 = .ok (.goto 4, 3) := by decide +kernel
theorem dX12_goesBy_257 : decode cX12_goesBy 257 = .ok (.iconst 0, 1) := by decide +kernel
theorem dX12_goesBy_258 : decode cX12_goesBy 258 = .ok (.iastore, 1) := by decide +kernel
theorem dX12_goesBy_259 : decode cX12_goesBy 259 = .ok (.aload_n 0, 1) := by decide +kernel
theorem dX12_goesBy_260 : decode cX12_goesBy 260 = .ok (.dup, 1) := by decide +kernel
theorem dX12_goesBy_261 : decode cX12_goesBy 261 = .ok (.getfield 138, 3) := by decide +kernel
theorem dX12_goesBy_264 : decode cX12_goesBy 264 = .ok (.iconst 1, 1) := by decide +kernel
theorem dX12_goesBy_265 : decode cX12_goesBy 265 = .ok (.iadd, 1) := by decide +kernel
theorem dX12_goesBy_266 : decode cX12_goesBy 266 = .ok (.putfield 138, 3) := by decide +kernel
theorem dX12_goesBy_269 : decode cX12_goesBy 269 = .ok (.iload_n 2, 1) := by decide +kernel
theorem dX12_goesBy_270 : decode cX12_goesBy 270 = .ok (.ifCond .ne 5, 3) := by decide +kernel
theorem dX12_goesBy_273 : decode cX12_goesBy 273 = .ok (.iconst 1, 1) := by decide +kernel
theorem dX12_goesBy_274 : decode cX12_goesBy 274 = .ok (.ireturn, 1) := by decide +kernel
theorem dX12_goesBy_275 : decode cX12_goesBy 275 = .ok (.aload_n 0, 1) := by decide +kernel
theorem dX12_goesBy_276 : decode cX12_goesBy 276 = .ok (.dup, 1) := by decide +kernel
theorem dX12_goesBy_277 : decode cX12_goesBy 277 = .ok (.getfield 141, 3) := by decide +kernel
theorem dX12_goesBy_280 : decode cX12_goesBy 280 = .ok (.aload_n 0, 1) := by decide +kernel
theorem dX12_goesBy_281 : decode cX12_goesBy 281 = .ok (.getfield 38, 3) := by decide +kernel
theorem dX12_goesBy_284 : decode cX12_goesBy 284 = .ok (.i2l, 1) := by decide +kernel
theorem dX12_goesBy_285 : decode cX12_goesBy 285 = .ok (.ladd, 1) := by decide +kernel
theorem dX12_goesBy_286 : decode cX12_goesBy 286 = .ok (.putfield 141, 3) := by decide +kernel
theorem dX12_goesBy_289 : decode cX12_goesBy 289 = .ok (.iconst 0, 1) := by decide +kernel
theorem dX12_goesBy_290 : decode cX12_goesBy 290 = .ok (.istore_n 3, 1) := by decide +kernel
theorem dX12_goesBy_291 : decode cX12_goesBy 291 = .ok (.iload_n 3, 1) := by decide +kernel
theorem dX12_goesBy_292 : decode cX12_goesBy 292 = .ok (.aload_n 0, 1) := by decide +kernel
theorem dX12_goesBy_293 : decode cX12_goesBy 293 = .ok (.getfield 108, 3) := by decide +kernel
theorem dX12_goesBy_296 : decode cX12_goesBy 296 = .ok (.if_icmp .ge 62, 3) := by decide +kernel
theorem dX12_goesBy_299 : decode cX12_goesBy 299 = .ok (.aload_n 0, 1) := by decide +kernel
theorem dX12_goesBy_300 : decode cX12_goesBy 300 = .ok (.getfield 13, 3) := by decide +kernel
theorem dX12_goesBy_303 : decode cX12_goesBy 303 = .ok (.iload_n 3, 1) := by decide +kernel
theorem dX12_goesBy_304 : decode cX12_goesBy 304 = .ok (.iaload, 1) := by decide +kernel
theorem dX12_goesBy_305 : decode cX12_goesBy 305 = .ok (.iconst 3, 1) := by decide +kernel
theorem dX12_goesBy_306 : decode cX12_goesBy 306 = .ok (.if_icmp .eq 6, 3) := by decide +kernel
theorem dX12_goesBy_309 : decode cX12_goesBy 309 = .ok (.goto 43, 3) := by decide +kernel
theorem dX12_goesBy_312 : decode cX12_goesBy 312 = .ok (.aload_n 0, 1) := by decide +kernel
theorem dX12_goesBy_313 : decode cX12_goesBy 313 = .ok (.getfield 22, 3) := by decide +kernel
theorem dX12_goesBy_316 : decode cX12_goesBy 316 = .ok (.iload_n 3, 1) := by decide +kernel
theorem dX12_goesBy_317 : decode cX12_goesBy 317 = .ok (.aload_n 0, 1) := by decide +kernel
theorem dX12_goesBy_318 : decode cX12_goesBy 318 = .ok (.getfield 22, 3) := by decide +kernel
theorem dX12_goesBy_321 : decode cX12_goesBy 321 = .ok (.iload_n 3, 1) := by decide +kernel
theorem dX12_goesBy_322 : decode cX12_goesBy 322 = .ok (.iaload, 1) := by decide +kernel
theorem dX12_goesBy_323 : decode cX12_goesBy 323 = .ok (.aload_n 0, 1) := by decide +kernel
theorem dX12_goesBy_324 : decode cX12_goesBy 324 = .ok (.getfield 38, 3) := by decide +kernel
theorem dX12_goesBy_327 : decode cX12_goesBy 327 = .ok (.iadd, 1) := by decide +kernel
theorem dX12_goesBy_328 : decode cX12_goesBy 328 = .ok (.ldc 123, 2) := by decide +kernel
theorem dX12_goesBy_330 : decode cX12_goesBy 330 = .ok (.if_icmp .le 8, 3) := by decide +kernel
theorem dX12_goesBy_333 : decode cX12_goesBy 333 = .ok (.ldc 123, 2) := by decide +kernel
theorem dX12_goesBy_335 : decode cX12_goesBy 335 = .ok (.goto 14, 3) := by decide +kernel
theorem dX12_goesBy_338 : decode cX12_goesBy 338 = .ok (.aload_n 0, 1) := by decide +kernel
theorem dX12_goesBy_339 : decode cX12_goesBy 339 = .ok (.getfield 22, 3) := by decide +kernel
theorem dX12_goesBy_342 : decode cX12_goesBy 342 = .ok (.iload_n 3, 1) := by decide +kernel
theorem dX12_goesBy_343 : decode cX12_goesBy 343 = .ok (.iaload, 1) := by decide +kernel
theorem dX12_goesBy_344 : decode cX12_goesBy 344 = .ok (.aload_n 0, 1) := by decide +kernel
theorem dX12_goesBy_345 : decode cX12_goesBy 345 = .ok (.getfield 38, 3) := by decide +kernel
theorem dX12_goesBy_348 : decode cX12_goesBy 348 = .ok (.iadd, 1) := by decide +kernel
theorem dX12_goesBy_349 : decode cX12_goesBy 349 = .ok (.iastore, 1) := by decide +kernel
theorem dX12_goesBy_350 : decode cX12_goesBy 350 = .ok (.iconst 1, 1) := by decide +kernel
theorem dX12_goesBy_351 : decode cX12_goesBy 351 = .ok (.ireturn, 1) := by decide +kernel
theorem dX12_goesBy_352 : decode cX12_goesBy 352 = .ok (.iinc 3 1, 3) := by decide +kernel
theorem dX12_goesBy_355 : decode cX12_goesBy 355 = .ok (.goto (-64), 3) := by decide +kernel
theorem dX12_goesBy_358 : decode cX12_goesBy 358 = .ok (.iconst 1, 1) := by decide +kernel
theorem dX12_goesBy_359 : decode cX12_goesBy 359 = .ok (.ireturn, 1) := by decide +kernel
theorem dX12_hours_0 : decode cX12_hours 0 = .ok (.iload_n 1, 1) := by decide +kernel
theorem dX12_hours_1 : decode cX12_hours 1 = .ok (.iconst 1, 1) := by decide +kernel
theorem dX12_hours_2 : decode cX12_hours 2 = .ok (.bipush 50, 2) := by decide +kernel
theorem dX12_hours_4 : decode cX12_hours 4 = .ok (.invokestatic 111, 3) := by decide +kernel
theorem dX12_hours_7 : decode cX12_hours 7 = .ok (.ifCond .eq 29, 3) := by decide +kernel
theorem dX12_hours_10 : decode cX12_hours 10 = .ok (.aload_n 0, 1) := by decide +kernel
theorem dX12_hours_11 : decode cX12_hours 11 = .ok (.getfield 135, 3) := by decide +kernel
theorem dX12_hours_14 : decode cX12_hours 14 = .ok (.ifCond .eq 22, 3) := by decide +kernel
theorem dX12_hours_17 : decode cX12_hours 17 = .ok (.aload_n 0, 1) := by decide +kernel
theorem dX12_hours_18 : decode cX12_hours 18 = .ok (.getfield 124, 3) := by decide +kernel
theorem dX12_hours_21 : decode cX12_hours 21 = .ok (.ifCond .eq 15, 3) := by decide +kernel
theorem dX12_hours_24 : decode cX12_hours 24 = .ok (.aload_n 0, 1) := by decide +kernel
theorem dX12_hours_25 : decode cX12_hours 25 = .ok (.getfield 138, 3) := by decide +kernel
theorem dX12_hours_28 : decode cX12_hours 28 = .ok (.iload_n 1, 1) := by decide +kernel
theorem dX12_hours_29 : decode cX12_hours 29 = .ok (.iadd, 1) := by decide +kernel
theorem dX12_hours_30 : decode cX12_hours 30 = .ok (.sipush 400, 3) := by decide +kernel
theorem dX12_hours_33 : decode cX12_hours 33 = .ok (.if_icmp .le 6, 3) := by decide +kernel
theorem dX12_hours_36 : decode cX12_hours 36 = .ok (.ldc 118, 2) := by decide +kernel
theorem dX12_hours_38 : decode cX12_hours 38 = .ok (.ireturn, 1) := by decide +kernel
theorem dX12_hours_39 : decode cX12_hours 39 = .ok (.iconst 0, 1) := by decide +kernel
theorem dX12_hours_40 : decode cX12_hours 40 = .ok (.istore_n 2, 1) := by decide +kernel
theorem dX12_hours_41 : decode cX12_hours 41 = .ok (.iload_n 2, 1) := by decide +kernel
theorem dX12_hours_42 : decode cX12_hours 42 = .ok (.iload_n 1, 1) := by decide +kernel
theorem dX12_hours_43 : decode cX12_hours 43 = .ok (.if_icmp .ge 16, 3) := by decide +kernel
theorem dX12_hours_46 : decode cX12_hours 46 = .ok (.aload_n 0, 1) := by decide +kernel
theorem dX12_hours_47 : decode cX12_hours 47 = .ok (.invokevirtual 179, 3) := by decide +kernel
theorem dX12_hours_50 : decode cX12_hours 50 = .ok (.ifCond .eq 9, 3) := by decide +kernel
theorem dX12_hours_53 : decode cX12_hours 53 = .ok (.iinc 2 1, 3) := by decide +kernel
theorem dX12_hours_56 : decode cX12_hours 56 = .ok (.goto (-15), 3) := by decide +kernel
theorem dX12_hours_59 : decode cX12_hours 59 = .ok (.iload_n 2, 1) := by decide +kernel
theorem dX12_hours_60 : decode cX12_hours 60 = .ok (.ireturn, 1) := by decide +kernel
theorem dX12_isHour_0 : decode cX12_isHour 0 = .ok (.iload_n 1, 1) := by decide +kernel
theorem dX12_isHour_1 : decode cX12_isHour 1 = .ok (.iconst 0, 1) := by decide +kernel
theorem dX12_isHour_2 : decode cX12_isHour 2 = .ok (.aload_n 0, 1) := by decide +kernel
theorem dX12_isHour_3 : decode cX12_isHour 3 = .ok (.getfield 138, 3) := by decide +kernel
theorem dX12_isHour_6 : decode cX12_isHour 6 = .ok (.iconst 1, 1) := by decide +kernel
theorem dX12_isHour_7 : decode cX12_isHour 7 = .ok (.isub, 1) := by decide +kernel
theorem dX12_isHour_8 : decode cX12_isHour 8 = .ok (.invokestatic 111, 3) := by decide +kernel
theorem dX12_isHour_11 : decode cX12_isHour 11 = .ok (.ireturn, 1) := by decide +kernel
theorem dX12_glass_0 : decode cX12_glass 0 = .ok (.aload_n 0, 1) := by decide +kernel
theorem dX12_glass_1 : decode cX12_glass 1 = .ok (.iload_n 1, 1) := by decide +kernel
theorem dX12_glass_2 : decode cX12_glass 2 = .ok (.invokevirtual 183, 3) := by decide +kernel
theorem dX12_glass_5 : decode cX12_glass 5 = .ok (.ifCond .eq 13, 3) := by decide +kernel
theorem dX12_glass_8 : decode cX12_glass 8 = .ok (.iload_n 2, 1) := by decide +kernel
theorem dX12_glass_9 : decode cX12_glass 9 = .ok (.iconst 0, 1) := by decide +kernel
theorem dX12_glass_10 : decode cX12_glass 10 = .ok (.bipush 6, 2) := by decide +kernel
theorem dX12_glass_12 : decode cX12_glass 12 = .ok (.invokestatic 111, 3) := by decide +kernel
theorem dX12_glass_15 : decode cX12_glass 15 = .ok (.ifCond .ne 6, 3) := by decide +kernel
theorem dX12_glass_18 : decode cX12_glass 18 = .ok (.ldc 118, 2) := by decide +kernel
theorem dX12_glass_20 : decode cX12_glass 20 = .ok (.ireturn, 1) := by decide +kernel
theorem dX12_glass_21 : decode cX12_glass 21 = .ok (.iload_n 2, 1) := by decide +kernel
theorem dX12_glass_22 : decode cX12_glass 22 = .ok (.iconst 4, 1) := by decide +kernel
theorem dX12_glass_23 : decode cX12_glass 23 = .ok (.if_icmp .ge 16, 3) := by decide +kernel
theorem dX12_glass_26 : decode cX12_glass 26 = .ok (.aload_n 0, 1) := by decide +kernel
theorem dX12_glass_27 : decode cX12_glass 27 = .ok (.getfield 68, 3) := by decide +kernel
theorem dX12_glass_30 : decode cX12_glass 30 = .ok (.iconst 4, 1) := by decide +kernel
theorem dX12_glass_31 : decode cX12_glass 31 = .ok (.iload_n 1, 1) := by decide +kernel
theorem dX12_glass_32 : decode cX12_glass 32 = .ok (.imul, 1) := by decide +kernel
theorem dX12_glass_33 : decode cX12_glass 33 = .ok (.iload_n 2, 1) := by decide +kernel
theorem dX12_glass_34 : decode cX12_glass 34 = .ok (.iadd, 1) := by decide +kernel
theorem dX12_glass_35 : decode cX12_glass 35 = .ok (.iaload, 1) := by decide +kernel
theorem dX12_glass_36 : decode cX12_glass 36 = .ok (.goto 37, 3) := by decide +kernel
theorem dX12_glass_39 : decode cX12_glass 39 = .ok (.iload_n 2, 1) := by decide +kernel
theorem dX12_glass_40 : decode cX12_glass 40 = .ok (.iconst 4, 1) := by decide +kernel
theorem dX12_glass_41 : decode cX12_glass 41 = .ok (.if_icmp .ne 12, 3) := by decide +kernel
theorem dX12_glass_44 : decode cX12_glass 44 = .ok (.aload_n 0, 1) := by decide +kernel
theorem dX12_glass_45 : decode cX12_glass 45 = .ok (.getfield 74, 3) := by decide +kernel
theorem dX12_glass_48 : decode cX12_glass 48 = .ok (.iload_n 1, 1) := by decide +kernel
theorem dX12_glass_49 : decode cX12_glass 49 = .ok (.iaload, 1) := by decide +kernel
theorem dX12_glass_50 : decode cX12_glass 50 = .ok (.goto 23, 3) := by decide +kernel
theorem dX12_glass_53 : decode cX12_glass 53 = .ok (.iload_n 2, 1) := by decide +kernel
theorem dX12_glass_54 : decode cX12_glass 54 = .ok (.iconst 5, 1) := by decide +kernel
theorem dX12_glass_55 : decode cX12_glass 55 = .ok (.if_icmp .ne 12, 3) := by decide +kernel
theorem dX12_glass_58 : decode cX12_glass 58 = .ok (.aload_n 0, 1) := by decide +kernel
theorem dX12_glass_59 : decode cX12_glass 59 = .ok (.getfield 77, 3) := by decide +kernel
theorem dX12_glass_62 : decode cX12_glass 62 = .ok (.iload_n 1, 1) := by decide +kernel
theorem dX12_glass_63 : decode cX12_glass 63 = .ok (.iaload, 1) := by decide +kernel
theorem dX12_glass_64 : decode cX12_glass 64 = .ok (.goto 9, 3) := by decide +kernel
theorem dX12_glass_67 : decode cX12_glass 67 = .ok (.aload_n 0, 1) := by decide +kernel
theorem dX12_glass_68 : decode cX12_glass 68 = .ok (.getfield 80, 3) := by decide +kernel
theorem dX12_glass_71 : decode cX12_glass 71 = .ok (.iload_n 1, 1) := by decide +kernel
theorem dX12_glass_72 : decode cX12_glass 72 = .ok (.iaload, 1) := by decide +kernel
theorem dX12_glass_73 : decode cX12_glass 73 = .ok (.ireturn, 1) := by decide +kernel
theorem dX12_lead_0 : decode cX12_lead 0 = .ok (.aload_n 0, 1) := by decide +kernel
theorem dX12_lead_1 : decode cX12_lead 1 = .ok (.iload_n 1, 1) := by decide +kernel
theorem dX12_lead_2 : decode cX12_lead 2 = .ok (.invokevirtual 183, 3) := by decide +kernel
theorem dX12_lead_5 : decode cX12_lead 5 = .ok (.ifCond .eq 25, 3) := by decide +kernel
theorem dX12_lead_8 : decode cX12_lead 8 = .ok (.aload_n 0, 1) := by decide +kernel
theorem dX12_lead_9 : decode cX12_lead 9 = .ok (.iload_n 2, 1) := by decide +kernel
theorem dX12_lead_10 : decode cX12_lead 10 = .ok (.invokevirtual 119, 3) := by decide +kernel
theorem dX12_lead_13 : decode cX12_lead 13 = .ok (.ifCond .eq 17, 3) := by decide +kernel
theorem dX12_lead_16 : decode cX12_lead 16 = .ok (.aload_n 0, 1) := by decide +kernel
theorem dX12_lead_17 : decode cX12_lead 17 = .ok (.getfield 71, 3) := by decide +kernel
theorem dX12_lead_20 : decode cX12_lead 20 = .ok (.bipush 8, 2) := by decide +kernel
theorem dX12_lead_22 : decode cX12_lead 22 = .ok (.iload_n 1, 1) := by decide +kernel
theorem dX12_lead_23 : decode cX12_lead 23 = .ok (.imul, 1) := by decide +kernel
theorem dX12_lead_24 : decode cX12_lead 24 = .ok (.iload_n 2, 1) := by decide +kernel
theorem dX12_lead_25 : decode cX12_lead 25 = .ok (.iadd, 1) := by decide +kernel
theorem dX12_lead_26 : decode cX12_lead 26 = .ok (.iaload, 1) := by decide +kernel
theorem dX12_lead_27 : decode cX12_lead 27 = .ok (.goto 5, 3) := by decide +kernel
theorem dX12_lead_30 : decode cX12_lead 30 = .ok (.ldc 118, 2) := by decide +kernel
theorem dX12_lead_32 : decode cX12_lead 32 = .ok (.ireturn, 1) := by decide +kernel
theorem dX12_first_0 : decode cX12_first 0 = .ok (.iconst 0, 1) := by decide +kernel
theorem dX12_first_1 : decode cX12_first 1 = .ok (.istore 5, 2) := by decide +kernel
theorem dX12_first_3 : decode cX12_first 3 = .ok (.iload 5, 2) := by decide +kernel
theorem dX12_first_5 : decode cX12_first 5 = .ok (.sipush 192, 3) := by decide +kernel
theorem dX12_first_8 : decode cX12_first 8 = .ok (.if_icmp .ge 23, 3) := by decide +kernel
theorem dX12_first_11 : decode cX12_first 11 = .ok (.aload_n 0, 1) := by decide +kernel
theorem dX12_first_12 : decode cX12_first 12 = .ok (.getfield 47, 3) := by decide +kernel
theorem dX12_first_15 : decode cX12_first 15 = .ok (.iload 5, 2) := by decide +kernel
theorem dX12_first_17 : decode cX12_first 17 = .ok (.aload_n 0, 1) := by decide +kernel
theorem dX12_first_18 : decode cX12_first 18 = .ok (.getfield 44, 3) := by decide +kernel
theorem dX12_first_21 : decode cX12_first 21 = .ok (.iload 5, 2) := by decide +kernel
theorem dX12_first_23 : decode cX12_first 23 = .ok (.iaload, 1) := by decide +kernel
theorem dX12_first_24 : decode cX12_first 24 = .ok (.iastore, 1) := by decide +kernel
theorem dX12_first_25 : decode cX12_first 25 = .ok (.iinc 5 1, 3) := by decide +kernel
theorem dX12_first_28 : decode cX12_first 28 = .ok (.goto (-25), 3) := by decide +kernel
theorem dX12_first_31 : decode cX12_first 31 = .ok (.iconst 1, 1) := by decide +kernel
theorem dX12_first_32 : decode cX12_first 32 = .ok (.istore 5, 2) := by decide +kernel
theorem dX12_first_34 : decode cX12_first 34 = .ok (.iload 5, 2) := by decide +kernel
theorem dX12_first_36 : decode cX12_first 36 = .ok (.bipush 100, 2) := by decide +kernel
theorem dX12_first_38 : decode cX12_first 38 = .ok (.if_icmp .gt 45, 3) := by decide +kernel
theorem dX12_first_41 : decode cX12_first 41 = .ok (.aload_n 0, 1) := by decide +kernel
theorem dX12_first_42 : decode cX12_first 42 = .ok (.iload 5, 2) := by decide +kernel
theorem dX12_first_44 : decode cX12_first 44 = .ok (.iload 4, 2) := by decide +kernel
theorem dX12_first_46 : decode cX12_first 46 = .ok (.if_icmp .gt 7, 3) := by decide +kernel
theorem dX12_first_49 : decode cX12_first 49 = .ok (.iload_n 2, 1) := by decide +kernel
theorem dX12_first_50 : decode cX12_first 50 = .ok (.goto 4, 3) := by decide +kernel
theorem dX12_first_53 : decode cX12_first 53 = .ok (.iconst (-1), 1) := by decide +kernel
theorem dX12_first_54 : decode cX12_first 54 = .ok (.iload_n 3, 1) := by decide +kernel
theorem dX12_first_55 : decode cX12_first 55 = .ok (.invokevirtual 168, 3) := by decide +kernel
theorem dX12_first_58 : decode cX12_first 58 = .ok (.aload_n 0, 1) := by decide +kernel
theorem dX12_first_59 : decode cX12_first 59 = .ok (.aload_n 0, 1) := by decide +kernel
theorem dX12_first_60 : decode cX12_first 60 = .ok (.getfield 47, 3) := by decide +kernel
theorem dX12_first_63 : decode cX12_first 63 = .ok (.invokevirtual 171, 3) := by decide +kernel
theorem dX12_first_66 : decode cX12_first 66 = .ok (.aload_n 0, 1) := by decide +kernel
theorem dX12_first_67 : decode cX12_first 67 = .ok (.iload_n 1, 1) := by decide +kernel
theorem dX12_first_68 : decode cX12_first 68 = .ok (.invokevirtual 165, 3) := by decide +kernel
theorem dX12_first_71 : decode cX12_first 71 = .ok (.ifCond .eq 6, 3) := by decide +kernel
theorem dX12_first_74 : decode cX12_first 74 = .ok (.iload 5, 2) := by decide +kernel
theorem dX12_first_76 : decode cX12_first 76 = .ok (.ireturn, 1) := by decide +kernel
theorem dX12_first_77 : decode cX12_first 77 = .ok (.iinc 5 1, 3) := by decide +kernel
theorem dX12_first_80 : decode cX12_first 80 = .ok (.goto (-46), 3) := by decide +kernel
theorem dX12_first_83 : decode cX12_first 83 = .ok (.iconst 0, 1) := by decide +kernel
theorem dX12_first_84 : decode cX12_first 84 = .ok (.ireturn, 1) := by decide +kernel
theorem dX12_when_0 : decode cX12_when 0 = .ok (.aload_n 0, 1) := by decide +kernel
theorem dX12_when_1 : decode cX12_when 1 = .ok (.iload_n 1, 1) := by decide +kernel
theorem dX12_when_2 : decode cX12_when 2 = .ok (.invokevirtual 152, 3) := by decide +kernel
theorem dX12_when_5 : decode cX12_when 5 = .ok (.ifCond .eq 28, 3) := by decide +kernel
theorem dX12_when_8 : decode cX12_when 8 = .ok (.aload_n 0, 1) := by decide +kernel
theorem dX12_when_9 : decode cX12_when 9 = .ok (.getfield 135, 3) := by decide +kernel
theorem dX12_when_12 : decode cX12_when 12 = .ok (.ifCond .eq 21, 3) := by decide +kernel
theorem dX12_when_15 : decode cX12_when 15 = .ok (.aload_n 0, 1) := by decide +kernel
theorem dX12_when_16 : decode cX12_when 16 = .ok (.getfield 124, 3) := by decide +kernel
theorem dX12_when_19 : decode cX12_when 19 = .ok (.ifCond .eq 14, 3) := by decide +kernel
theorem dX12_when_22 : decode cX12_when 22 = .ok (.aload_n 0, 1) := by decide +kernel
theorem dX12_when_23 : decode cX12_when 23 = .ok (.iload_n 1, 1) := by decide +kernel
theorem dX12_when_24 : decode cX12_when 24 = .ok (.iconst (-1), 1) := by decide +kernel
theorem dX12_when_25 : decode cX12_when 25 = .ok (.iconst 0, 1) := by decide +kernel
theorem dX12_when_26 : decode cX12_when 26 = .ok (.iconst 0, 1) := by decide +kernel
theorem dX12_when_27 : decode cX12_when 27 = .ok (.invokevirtual 186, 3) := by decide +kernel
theorem dX12_when_30 : decode cX12_when 30 = .ok (.goto 5, 3) := by decide +kernel
theorem dX12_when_33 : decode cX12_when 33 = .ok (.ldc 118, 2) := by decide +kernel
theorem dX12_when_35 : decode cX12_when 35 = .ok (.ireturn, 1) := by decide +kernel
theorem dX12_between_0 : decode cX12_between 0 = .ok (.aload_n 0, 1) := by decide +kernel
theorem dX12_between_1 : decode cX12_between 1 = .ok (.getfield 135, 3) := by decide +kernel
theorem dX12_between_4 : decode cX12_between 4 = .ok (.ifCond .eq 10, 3) := by decide +kernel
theorem dX12_between_7 : decode cX12_between 7 = .ok (.aload_n 0, 1) := by decide +kernel
theorem dX12_between_8 : decode cX12_between 8 = .ok (.getfield 124, 3) := by decide +kernel
theorem dX12_between_11 : decode cX12_between 11 = .ok (.ifCond .ne 6, 3) := by decide +kernel
theorem dX12_between_14 : decode cX12_between 14 = .ok (.ldc 118, 2) := by decide +kernel
theorem dX12_between_16 : decode cX12_between 16 = .ok (.ireturn, 1) := by decide +kernel
theorem dX12_between_17 : decode cX12_between 17 = .ok (.iconst 0, 1) := by decide +kernel
theorem dX12_between_18 : decode cX12_between 18 = .ok (.istore_n 1, 1) := by decide +kernel
theorem dX12_between_19 : decode cX12_between 19 = .ok (.iconst 0, 1) := by decide +kernel
theorem dX12_between_20 : decode cX12_between 20 = .ok (.istore_n 2, 1) := by decide +kernel
theorem dX12_between_21 : decode cX12_between 21 = .ok (.iload_n 2, 1) := by decide +kernel
theorem dX12_between_22 : decode cX12_between 22 = .ok (.sipush 192, 3) := by decide +kernel
theorem dX12_between_25 : decode cX12_between 25 = .ok (.if_icmp .ge 21, 3) := by decide +kernel
theorem dX12_between_28 : decode cX12_between 28 = .ok (.aload_n 0, 1) := by decide +kernel
theorem dX12_between_29 : decode cX12_between 29 = .ok (.getfield 47, 3) := by decide +kernel
theorem dX12_between_32 : decode cX12_between 32 = .ok (.iload_n 2, 1) := by decide +kernel
theorem dX12_between_33 : decode cX12_between 33 = .ok (.aload_n 0, 1) := by decide +kernel
theorem dX12_between_34 : decode cX12_between 34 = .ok (.getfield 44, 3) := by decide +kernel
theorem dX12_between_37 : decode cX12_between 37 = .ok (.iload_n 2, 1) := by decide +kernel
theorem dX12_between_38 : decode cX12_between 38 = .ok (.iaload, 1) := by decide +kernel
theorem dX12_between_39 : decode cX12_between 39 = .ok (.iastore, 1) := by decide +kernel
theorem dX12_between_40 : decode cX12_between 40 = .ok (.iinc 2 1, 3) := by decide +kernel
theorem dX12_between_43 : decode cX12_between 43 = .ok (.goto (-22), 3) := by decide +kernel
theorem dX12_between_46 : decode cX12_between 46 = .ok (.iconst 1, 1) := by decide +kernel
theorem dX12_between_47 : decode cX12_between 47 = .ok (.istore_n 2, 1) := by decide +kernel
theorem dX12_between_48 : decode cX12_between 48 = .ok (.iload_n 2, 1) := by decide +kernel
theorem dX12_between_49 : decode cX12_between 49 = .ok (.bipush 100, 2) := by decide +kernel
theorem dX12_between_51 : decode cX12_between 51 = .ok (.if_icmp .gt 38, 3) := by decide +kernel
theorem dX12_between_54 : decode cX12_between 54 = .ok (.aload_n 0, 1) := by decide +kernel
theorem dX12_between_55 : decode cX12_between 55 = .ok (.iconst (-1), 1) := by decide +kernel
theorem dX12_between_56 : decode cX12_between 56 = .ok (.iconst 0, 1) := by decide +kernel
theorem dX12_between_57 : decode cX12_between 57 = .ok (.invokevirtual 168, 3) := by decide +kernel
theorem dX12_between_60 : decode cX12_between 60 = .ok (.aload_n 0, 1) := by decide +kernel
theorem dX12_between_61 : decode cX12_between 61 = .ok (.aload_n 0, 1) := by decide +kernel
theorem dX12_between_62 : decode cX12_between 62 = .ok (.getfield 47, 3) := by decide +kernel
theorem dX12_between_65 : decode cX12_between 65 = .ok (.invokevirtual 171, 3) := by decide +kernel
theorem dX12_between_68 : decode cX12_between 68 = .ok (.iload_n 1, 1) := by decide +kernel
theorem dX12_between_69 : decode cX12_between 69 = .ok (.aload_n 0, 1) := by decide +kernel
theorem dX12_between_70 : decode cX12_between 70 = .ok (.invokevirtual 175, 3) := by decide +kernel
theorem dX12_between_73 : decode cX12_between 73 = .ok (.ifCond .ge 7, 3) := by decide +kernel
theorem dX12_between_76 : decode cX12_between 76 = .ok (.iconst 1, 1) := by decide +kernel
theorem dX12_between_77 : decode cX12_between 77 = .ok (.goto 4, 3) := by decide +kernel
theorem dX12_between_80 : decode cX12_between 80 = .ok (.iconst 0, 1) := by decide +kernel
theorem dX12_between_81 : decode cX12_between 81 = .ok (.iadd, 1) := by decide +kernel
theorem dX12_between_82 : decode cX12_between 82 = .ok (.istore_n 1, 1) := by decide +kernel
theorem dX12_between_83 : decode cX12_between 83 = .ok (.iinc 2 1, 3) := by decide +kernel
theorem dX12_between_86 : decode cX12_between 86 = .ok (.goto (-38), 3) := by decide +kernel
theorem dX12_between_89 : decode cX12_between 89 = .ok (.iload_n 1, 1) := by decide +kernel
theorem dX12_between_90 : decode cX12_between 90 = .ok (.ireturn, 1) := by decide +kernel
theorem dX12_dose_0 : decode cX12_dose 0 = .ok (.aload_n 0, 1) := by decide +kernel
theorem dX12_dose_1 : decode cX12_dose 1 = .ok (.iload_n 1, 1) := by decide +kernel
theorem dX12_dose_2 : decode cX12_dose 2 = .ok (.invokevirtual 152, 3) := by decide +kernel
theorem dX12_dose_5 : decode cX12_dose 5 = .ok (.ifCond .eq 35, 3) := by decide +kernel
theorem dX12_dose_8 : decode cX12_dose 8 = .ok (.aload_n 0, 1) := by decide +kernel
theorem dX12_dose_9 : decode cX12_dose 9 = .ok (.iload_n 2, 1) := by decide +kernel
theorem dX12_dose_10 : decode cX12_dose 10 = .ok (.invokevirtual 119, 3) := by decide +kernel
theorem dX12_dose_13 : decode cX12_dose 13 = .ok (.ifCond .eq 27, 3) := by decide +kernel
theorem dX12_dose_16 : decode cX12_dose 16 = .ok (.aload_n 0, 1) := by decide +kernel
theorem dX12_dose_17 : decode cX12_dose 17 = .ok (.getfield 13, 3) := by decide +kernel
theorem dX12_dose_20 : decode cX12_dose 20 = .ok (.iload_n 2, 1) := by decide +kernel
theorem dX12_dose_21 : decode cX12_dose 21 = .ok (.iaload, 1) := by decide +kernel
theorem dX12_dose_22 : decode cX12_dose 22 = .ok (.iconst 2, 1) := by decide +kernel
theorem dX12_dose_23 : decode cX12_dose 23 = .ok (.if_icmp .ne 17, 3) := by decide +kernel
theorem dX12_dose_26 : decode cX12_dose 26 = .ok (.aload_n 0, 1) := by decide +kernel
theorem dX12_dose_27 : decode cX12_dose 27 = .ok (.getfield 135, 3) := by decide +kernel
theorem dX12_dose_30 : decode cX12_dose 30 = .ok (.ifCond .eq 10, 3) := by decide +kernel
theorem dX12_dose_33 : decode cX12_dose 33 = .ok (.aload_n 0, 1) := by decide +kernel
theorem dX12_dose_34 : decode cX12_dose 34 = .ok (.getfield 124, 3) := by decide +kernel
theorem dX12_dose_37 : decode cX12_dose 37 = .ok (.ifCond .ne 6, 3) := by decide +kernel
theorem dX12_dose_40 : decode cX12_dose 40 = .ok (.ldc 118, 2) := by decide +kernel
theorem dX12_dose_42 : decode cX12_dose 42 = .ok (.ireturn, 1) := by decide +kernel
theorem dX12_dose_43 : decode cX12_dose 43 = .ok (.aload_n 0, 1) := by decide +kernel
theorem dX12_dose_44 : decode cX12_dose 44 = .ok (.iload_n 1, 1) := by decide +kernel
theorem dX12_dose_45 : decode cX12_dose 45 = .ok (.iconst (-1), 1) := by decide +kernel
theorem dX12_dose_46 : decode cX12_dose 46 = .ok (.iconst 0, 1) := by decide +kernel
theorem dX12_dose_47 : decode cX12_dose 47 = .ok (.iconst 0, 1) := by decide +kernel
theorem dX12_dose_48 : decode cX12_dose 48 = .ok (.invokevirtual 186, 3) := by decide +kernel
theorem dX12_dose_51 : decode cX12_dose 51 = .ok (.istore_n 3, 1) := by decide +kernel
theorem dX12_dose_52 : decode cX12_dose 52 = .ok (.ldc 134, 2) := by decide +kernel
theorem dX12_dose_54 : decode cX12_dose 54 = .ok (.iload_n 3, 1) := by decide +kernel
theorem dX12_dose_55 : decode cX12_dose 55 = .ok (.imul, 1) := by decide +kernel
theorem dX12_dose_56 : decode cX12_dose 56 = .ok (.istore 4, 2) := by decide +kernel
theorem dX12_dose_58 : decode cX12_dose 58 = .ok (.bipush 100, 2) := by decide +kernel
theorem dX12_dose_60 : decode cX12_dose 60 = .ok (.istore 5, 2) := by decide +kernel
theorem dX12_dose_62 : decode cX12_dose 62 = .ok (.iload 5, 2) := by decide +kernel
theorem dX12_dose_64 : decode cX12_dose 64 = .ok (.sipush 500, 3) := by decide +kernel
theorem dX12_dose_67 : decode cX12_dose 67 = .ok (.if_icmp .gt 74, 3) := by decide +kernel
theorem dX12_dose_70 : decode cX12_dose 70 = .ok (.iconst 1, 1) := by decide +kernel
theorem dX12_dose_71 : decode cX12_dose 71 = .ok (.istore 6, 2) := by decide +kernel
theorem dX12_dose_73 : decode cX12_dose 73 = .ok (.iload 6, 2) := by decide +kernel
theorem dX12_dose_75 : decode cX12_dose 75 = .ok (.bipush 10, 2) := by decide +kernel
theorem dX12_dose_77 : decode cX12_dose 77 = .ok (.if_icmp .gt 58, 3) := by decide +kernel
theorem dX12_dose_80 : decode cX12_dose 80 = .ok (.aload_n 0, 1) := by decide +kernel
theorem dX12_dose_81 : decode cX12_dose 81 = .ok (.iload_n 1, 1) := by decide +kernel
theorem dX12_dose_82 : decode cX12_dose 82 = .ok (.iload_n 2, 1) := by decide +kernel
theorem dX12_dose_83 : decode cX12_dose 83 = .ok (.iload 5, 2) := by decide +kernel
theorem dX12_dose_85 : decode cX12_dose 85 = .ok (.iload 6, 2) := by decide +kernel
theorem dX12_dose_87 : decode cX12_dose 87 = .ok (.invokevirtual 186, 3) := by decide +kernel
theorem dX12_dose_90 : decode cX12_dose 90 = .ok (.istore 7, 2) := by decide +kernel
theorem dX12_dose_92 : decode cX12_dose 92 = .ok (.iload 7, 2) := by decide +kernel
theorem dX12_dose_94 : decode cX12_dose 94 = .ok (.ifCond .eq 35, 3) := by decide +kernel
theorem dX12_dose_97 : decode cX12_dose 97 = .ok (.iload_n 3, 1) := by decide +kernel
theorem dX12_dose_98 : decode cX12_dose 98 = .ok (.ifCond .eq 12, 3) := by decide +kernel
theorem dX12_dose_101 : decode cX12_dose 101 = .ok (.iload 7, 2) := by decide +kernel
theorem dX12_dose_103 : decode cX12_dose 103 = .ok (.iload_n 3, 1) := by decide +kernel
theorem dX12_dose_104 : decode cX12_dose 104 = .ok (.if_icmp .lt 6, 3) := by decide +kernel
theorem dX12_dose_107 : decode cX12_dose 107 = .ok (.goto 22, 3) := by decide +kernel
theorem dX12_dose_110 : decode cX12_dose 110 = .ok (.iload 7, 2) := by decide +kernel
theorem dX12_dose_112 : decode cX12_dose 112 = .ok (.istore_n 3, 1) := by decide +kernel
theorem dX12_dose_113 : decode cX12_dose 113 = .ok (.ldc 134, 2) := by decide +kernel
theorem dX12_dose_115 : decode cX12_dose 115 = .ok (.iload 7, 2) := by decide +kernel
theorem dX12_dose_117 : decode cX12_dose 117 = .ok (.imul, 1) := by decide +kernel
theorem dX12_dose_118 : decode cX12_dose 118 = .ok (.bipush 100, 2) := by decide +kernel
theorem dX12_dose_120 : decode cX12_dose 120 = .ok (.iload 5, 2) := by decide +kernel
theorem dX12_dose_122 : decode cX12_dose 122 = .ok (.imul, 1) := by decide +kernel
theorem dX12_dose_123 : decode cX12_dose 123 = .ok (.iadd, 1) := by decide +kernel
theorem dX12_dose_124 : decode cX12_dose 124 = .ok (.iload 6, 2) := by decide +kernel
theorem dX12_dose_126 : decode cX12_dose 126 = .ok (.iadd, 1) := by decide +kernel
theorem dX12_dose_127 : decode cX12_dose 127 = .ok (.istore 4, 2) := by decide +kernel
theorem dX12_dose_129 : decode cX12_dose 129 = .ok (.iinc 6 1, 3) := by decide +kernel
theorem dX12_dose_132 : decode cX12_dose 132 = .ok (.goto (-59), 3) := by decide +kernel
theorem dX12_dose_135 : decode cX12_dose 135 = .ok (.iinc 5 100, 3) := by decide +kernel
theorem dX12_dose_138 : decode cX12_dose 138 = .ok (.goto (-76), 3) := by decide +kernel
theorem dX12_dose_141 : decode cX12_dose 141 = .ok (.iload_n 3, 1) := by decide +kernel
theorem dX12_dose_142 : decode cX12_dose 142 = .ok (.ifCond .ne 7, 3) := by decide +kernel
theorem dX12_dose_145 : decode cX12_dose 145 = .ok (.iconst 0, 1) := by decide +kernel
theorem dX12_dose_146 : decode cX12_dose 146 = .ok (.goto 5, 3) := by decide +kernel
theorem dX12_dose_149 : decode cX12_dose 149 = .ok (.iload 4, 2) := by decide +kernel
theorem dX12_dose_151 : decode cX12_dose 151 = .ok (.ireturn, 1) := by decide +kernel
theorem dX12_change_0 : decode cX12_change 0 = .ok (.aload_n 0, 1) := by decide +kernel
theorem dX12_change_1 : decode cX12_change 1 = .ok (.iload_n 1, 1) := by decide +kernel
theorem dX12_change_2 : decode cX12_change 2 = .ok (.invokevirtual 152, 3) := by decide +kernel
theorem dX12_change_5 : decode cX12_change 5 = .ok (.ifCond .eq 27, 3) := by decide +kernel
theorem dX12_change_8 : decode cX12_change 8 = .ok (.aload_n 0, 1) := by decide +kernel
theorem dX12_change_9 : decode cX12_change 9 = .ok (.iload_n 2, 1) := by decide +kernel
theorem dX12_change_10 : decode cX12_change 10 = .ok (.invokevirtual 152, 3) := by decide +kernel
theorem dX12_change_13 : decode cX12_change 13 = .ok (.ifCond .eq 19, 3) := by decide +kernel
theorem dX12_change_16 : decode cX12_change 16 = .ok (.iload_n 1, 1) := by decide +kernel
theorem dX12_change_17 : decode cX12_change 17 = .ok (.iload_n 2, 1) := by decide +kernel
theorem dX12_change_18 : decode cX12_change 18 = .ok (.if_icmp .eq 14, 3) := by decide +kernel
theorem dX12_change_21 : decode cX12_change 21 = .ok (.iload_n 3, 1) := by decide +kernel
theorem dX12_change_22 : decode cX12_change 22 = .ok (.iconst 0, 1) := by decide +kernel
theorem dX12_change_23 : decode cX12_change 23 = .ok (.sipush 1000, 3) := by decide +kernel
theorem dX12_change_26 : decode cX12_change 26 = .ok (.invokestatic 111, 3) := by decide +kernel
theorem dX12_change_29 : decode cX12_change 29 = .ok (.ifCond .ne 6, 3) := by decide +kernel
theorem dX12_change_32 : decode cX12_change 32 = .ok (.ldc 118, 2) := by decide +kernel
theorem dX12_change_34 : decode cX12_change 34 = .ok (.ireturn, 1) := by decide +kernel
theorem dX12_change_35 : decode cX12_change 35 = .ok (.aload_n 0, 1) := by decide +kernel
theorem dX12_change_36 : decode cX12_change 36 = .ok (.getfield 65, 3) := by decide +kernel
theorem dX12_change_39 : decode cX12_change 39 = .ok (.bipush 6, 2) := by decide +kernel
theorem dX12_change_41 : decode cX12_change 41 = .ok (.iload_n 1, 1) := by decide +kernel
theorem dX12_change_42 : decode cX12_change 42 = .ok (.imul, 1) := by decide +kernel
theorem dX12_change_43 : decode cX12_change 43 = .ok (.iload_n 2, 1) := by decide +kernel
theorem dX12_change_44 : decode cX12_change 44 = .ok (.iadd, 1) := by decide +kernel
theorem dX12_change_45 : decode cX12_change 45 = .ok (.iaload, 1) := by decide +kernel
theorem dX12_change_46 : decode cX12_change 46 = .ok (.istore 4, 2) := by decide +kernel
theorem dX12_change_48 : decode cX12_change 48 = .ok (.aload_n 0, 1) := by decide +kernel
theorem dX12_change_49 : decode cX12_change 49 = .ok (.getfield 65, 3) := by decide +kernel
theorem dX12_change_52 : decode cX12_change 52 = .ok (.bipush 6, 2) := by decide +kernel
theorem dX12_change_54 : decode cX12_change 54 = .ok (.iload_n 1, 1) := by decide +kernel
theorem dX12_change_55 : decode cX12_change 55 = .ok (.imul, 1) := by decide +kernel
theorem dX12_change_56 : decode cX12_change 56 = .ok (.iload_n 2, 1) := by decide +kernel
theorem dX12_change_57 : decode cX12_change 57 = .ok (.iadd, 1) := by decide +kernel
theorem dX12_change_58 : decode cX12_change 58 = .ok (.iload_n 3, 1) := by decide +kernel
theorem dX12_change_59 : decode cX12_change 59 = .ok (.iastore, 1) := by decide +kernel
theorem dX12_change_60 : decode cX12_change 60 = .ok (.iload 4, 2) := by decide +kernel
theorem dX12_change_62 : decode cX12_change 62 = .ok (.ireturn, 1) := by decide +kernel
theorem dX12_ring_0 : decode cX12_ring 0 = .ok (.iload_n 1, 1) := by decide +kernel
theorem dX12_ring_1 : decode cX12_ring 1 = .ok (.ifCond .le 13, 3) := by decide +kernel
theorem dX12_ring_4 : decode cX12_ring 4 = .ok (.iload_n 1, 1) := by decide +kernel
theorem dX12_ring_5 : decode cX12_ring 5 = .ok (.iconst 1, 1) := by decide +kernel
theorem dX12_ring_6 : decode cX12_ring 6 = .ok (.aload_n 0, 1) := by decide +kernel
theorem dX12_ring_7 : decode cX12_ring 7 = .ok (.getfield 115, 3) := by decide +kernel
theorem dX12_ring_10 : decode cX12_ring 10 = .ok (.ishl, 1) := by decide +kernel
theorem dX12_ring_11 : decode cX12_ring 11 = .ok (.if_icmp .lt 6, 3) := by decide +kernel
theorem dX12_ring_14 : decode cX12_ring 14 = .ok (.ldc 118, 2) := by decide +kernel
theorem dX12_ring_16 : decode cX12_ring 16 = .ok (.ireturn, 1) := by decide +kernel
theorem dX12_ring_17 : decode cX12_ring 17 = .ok (.iconst 0, 1) := by decide +kernel
theorem dX12_ring_18 : decode cX12_ring 18 = .ok (.istore_n 2, 1) := by decide +kernel
theorem dX12_ring_19 : decode cX12_ring 19 = .ok (.iconst 0, 1) := by decide +kernel
theorem dX12_ring_20 : decode cX12_ring 20 = .ok (.istore_n 3, 1) := by decide +kernel
theorem dX12_ring_21 : decode cX12_ring 21 = .ok (.iload_n 3, 1) := by decide +kernel
theorem dX12_ring_22 : decode cX12_ring 22 = .ok (.aload_n 0, 1) := by decide +kernel
theorem dX12_ring_23 : decode cX12_ring 23 = .ok (.getfield 115, 3) := by decide +kernel
theorem dX12_ring_26 : decode cX12_ring 26 = .ok (.if_icmp .ge 30, 3) := by decide +kernel
theorem dX12_ring_29 : decode cX12_ring 29 = .ok (.iload_n 1, 1) := by decide +kernel
theorem dX12_ring_30 : decode cX12_ring 30 = .ok (.iload_n 3, 1) := by decide +kernel
theorem dX12_ring_31 : decode cX12_ring 31 = .ok (.ishr, 1) := by decide +kernel
theorem dX12_ring_32 : decode cX12_ring 32 = .ok (.iconst 1, 1) := by decide +kernel
theorem dX12_ring_33 : decode cX12_ring 33 = .ok (.iand, 1) := by decide +kernel
theorem dX12_ring_34 : decode cX12_ring 34 = .ok (.ifCond .ne 6, 3) := by decide +kernel
theorem dX12_ring_37 : decode cX12_ring 37 = .ok (.goto 13, 3) := by decide +kernel
theorem dX12_ring_40 : decode cX12_ring 40 = .ok (.aload_n 0, 1) := by decide +kernel
theorem dX12_ring_41 : decode cX12_ring 41 = .ok (.getfield 102, 3) := by decide +kernel
theorem dX12_ring_44 : decode cX12_ring 44 = .ok (.iload_n 2, 1) := by decide +kernel
theorem dX12_ring_45 : decode cX12_ring 45 = .ok (.iload_n 3, 1) := by decide +kernel
theorem dX12_ring_46 : decode cX12_ring 46 = .ok (.iastore, 1) := by decide +kernel
theorem dX12_ring_47 : decode cX12_ring 47 = .ok (.iinc 2 1, 3) := by decide +kernel
theorem dX12_ring_50 : decode cX12_ring 50 = .ok (.iinc 3 1, 3) := by decide +kernel
theorem dX12_ring_53 : decode cX12_ring 53 = .ok (.goto (-32), 3) := by decide +kernel
theorem dX12_ring_56 : decode cX12_ring 56 = .ok (.iconst (-1), 1) := by decide +kernel
theorem dX12_ring_57 : decode cX12_ring 57 = .ok (.istore_n 3, 1) := by decide +kernel
theorem dX12_ring_58 : decode cX12_ring 58 = .ok (.iconst 1, 1) := by decide +kernel
theorem dX12_ring_59 : decode cX12_ring 59 = .ok (.istore 4, 2) := by decide +kernel
theorem dX12_ring_61 : decode cX12_ring 61 = .ok (.iload 4, 2) := by decide +kernel
theorem dX12_ring_63 : decode cX12_ring 63 = .ok (.ifCond .eq 134, 3) := by decide +kernel
theorem dX12_ring_66 : decode cX12_ring 66 = .ok (.iload_n 2, 1) := by decide +kernel
theorem dX12_ring_67 : decode cX12_ring 67 = .ok (.iconst 1, 1) := by decide +kernel
theorem dX12_ring_68 : decode cX12_ring 68 = .ok (.if_icmp .ne 7, 3) := by decide +kernel
theorem dX12_ring_71 : decode cX12_ring 71 = .ok (.iconst 0, 1) := by decide +kernel
theorem dX12_ring_72 : decode cX12_ring 72 = .ok (.goto 26, 3) := by decide +kernel
theorem dX12_ring_75 : decode cX12_ring 75 = .ok (.aload_n 0, 1) := by decide +kernel
theorem dX12_ring_76 : decode cX12_ring 76 = .ok (.getfield 65, 3) := by decide +kernel
theorem dX12_ring_79 : decode cX12_ring 79 = .ok (.bipush 6, 2) := by decide +kernel
theorem dX12_ring_81 : decode cX12_ring 81 = .ok (.aload_n 0, 1) := by decide +kernel
theorem dX12_ring_82 : decode cX12_ring 82 = .ok (.getfield 102, 3) := by decide +kernel
theorem dX12_ring_85 : decode cX12_ring 85 = .ok (.iload_n 2, 1) := by decide +kernel
theorem dX12_ring_86 : decode cX12_ring 86 = .ok (.iconst 1, 1) := by decide +kernel
theorem dX12_ring_87 : decode cX12_ring 87 = .ok (.isub, 1) := by decide +kernel
theorem dX12_ring_88 : decode cX12_ring 88 = .ok (.iaload, 1) := by decide +kernel
theorem dX12_ring_89 : decode cX12_ring 89 = .ok (.imul, 1) := by decide +kernel
theorem dX12_ring_90 : decode cX12_ring 90 = .ok (.aload_n 0, 1) := by decide +kernel
theorem dX12_ring_91 : decode cX12_ring 91 = .ok (.getfield 102, 3) := by decide +kernel
theorem dX12_ring_94 : decode cX12_ring 94 = .ok (.iconst 0, 1) := by decide +kernel
theorem dX12_ring_95 : decode cX12_ring 95 = .ok (.iaload, 1) := by decide +kernel
theorem dX12_ring_96 : decode cX12_ring 96 = .ok (.iadd, 1) := by decide +kernel
theorem dX12_ring_97 : decode cX12_ring 97 = .ok (.iaload, 1) := by decide +kernel
theorem dX12_ring_98 : decode cX12_ring 98 = .ok (.istore 5, 2) := by decide +kernel
theorem dX12_ring_100 : decode cX12_ring 100 = .ok (.iconst 1, 1) := by decide +kernel
theorem dX12_ring_101 : decode cX12_ring 101 = .ok (.istore 6, 2) := by decide +kernel
theorem dX12_ring_103 : decode cX12_ring 103 = .ok (.iload 6, 2) := by decide +kernel
theorem dX12_ring_105 : decode cX12_ring 105 = .ok (.iload_n 2, 1) := by decide +kernel
theorem dX12_ring_106 : decode cX12_ring 106 = .ok (.if_icmp .ge 39, 3) := by decide +kernel
theorem dX12_ring_109 : decode cX12_ring 109 = .ok (.iload 5, 2) := by decide +kernel
theorem dX12_ring_111 : decode cX12_ring 111 = .ok (.aload_n 0, 1) := by decide +kernel
theorem dX12_ring_112 : decode cX12_ring 112 = .ok (.getfield 65, 3) := by decide +kernel
theorem dX12_ring_115 : decode cX12_ring 115 = .ok (.bipush 6, 2) := by decide +kernel
theorem dX12_ring_117 : decode cX12_ring 117 = .ok (.aload_n 0, 1) := by decide +kernel
theorem dX12_ring_118 : decode cX12_ring 118 = .ok (.getfield 102, 3) := by decide +kernel
theorem dX12_ring_121 : decode cX12_ring 121 = .ok (.iload 6, 2) := by decide +kernel
theorem dX12_ring_123 : decode cX12_ring 123 = .ok (.iconst 1, 1) := by decide +kernel
theorem dX12_ring_124 : decode cX12_ring 124 = .ok (.isub, 1) := by decide +kernel
theorem dX12_ring_125 : decode cX12_ring 125 = .ok (.iaload, 1) := by decide +kernel
theorem dX12_ring_126 : decode cX12_ring 126 = .ok (.imul, 1) := by decide +kernel
theorem dX12_ring_127 : decode cX12_ring 127 = .ok (.aload_n 0, 1) := by decide +kernel
theorem dX12_ring_128 : decode cX12_ring 128 = .ok (.getfield 102, 3) := by decide +kernel
theorem dX12_ring_131 : decode cX12_ring 131 = .ok (.iload 6, 2) := by decide +kernel
theorem dX12_ring_133 : decode cX12_ring 133 = .ok (.iaload, 1) := by decide +kernel
theorem dX12_ring_134 : decode cX12_ring 134 = .ok (.iadd, 1) := by decide +kernel
theorem dX12_ring_135 : decode cX12_ring 135 = .ok (.iaload, 1) := by decide +kernel
theorem dX12_ring_136 : decode cX12_ring 136 = .ok (.iadd, 1) := by decide +kernel
theorem dX12_ring_137 : decode cX12_ring 137 = .ok (.istore 5, 2) := by decide +kernel
theorem dX12_ring_139 : decode cX12_ring 139 = .ok (.iinc 6 1, 3) := by decide +kernel
theorem dX12_ring_142 : decode cX12_ring 142 = .ok (.goto (-39), 3) := by decide +kernel
theorem dX12_ring_145 : decode cX12_ring 145 = .ok (.iload_n 3, 1) := by decide +kernel
theorem dX12_ring_146 : decode cX12_ring 146 = .ok (.ifCond .lt 9, 3) := by decide +kernel
theorem dX12_ring_149 : decode cX12_ring 149 = .ok (.iload 5, 2) := by decide +kernel
theorem dX12_ring_151 : decode cX12_ring 151 = .ok (.iload_n 3, 1) := by decide +kernel
theorem dX12_ring_152 : decode cX12_ring 152 = .ok (.if_icmp .ge 35, 3) := by decide +kernel
theorem dX12_ring_155 : decode cX12_ring 155 = .ok (.iload 5, 2) := by decide +kernel
theorem dX12_ring_157 : decode cX12_ring 157 = .ok (.istore_n 3, 1) := by decide +kernel
theorem dX12_ring_158 : decode cX12_ring 158 = .ok (.iconst 0, 1) := by decide +kernel
theorem dX12_ring_159 : decode cX12_ring 159 = .ok (.istore 6, 2) := by decide +kernel
theorem dX12_ring_161 : decode cX12_ring 161 = .ok (.iload 6, 2) := by decide +kernel
theorem dX12_ring_163 : decode cX12_ring 163 = .ok (.iload_n 2, 1) := by decide +kernel
theorem dX12_ring_164 : decode cX12_ring 164 = .ok (.if_icmp .ge 23, 3) := by decide +kernel
theorem dX12_ring_167 : decode cX12_ring 167 = .ok (.aload_n 0, 1) := by decide +kernel
theorem dX12_ring_168 : decode cX12_ring 168 = .ok (.getfield 105, 3) := by decide +kernel
theorem dX12_ring_171 : decode cX12_ring 171 = .ok (.iload 6, 2) := by decide +kernel
theorem dX12_ring_173 : decode cX12_ring 173 = .ok (.aload_n 0, 1) := by decide +kernel
theorem dX12_ring_174 : decode cX12_ring 174 = .ok (.getfield 102, 3) := by decide +kernel
theorem dX12_ring_177 : decode cX12_ring 177 = .ok (.iload 6, 2) := by decide +kernel
theorem dX12_ring_179 : decode cX12_ring 179 = .ok (.iaload, 1) := by decide +kernel
theorem dX12_ring_180 : decode cX12_ring 180 = .ok (.iastore, 1) := by decide +kernel
theorem dX12_ring_181 : decode cX12_ring 181 = .ok (.iinc 6 1, 3) := by decide +kernel
theorem dX12_ring_184 : decode cX12_ring 184 = .ok (.goto (-23), 3) := by decide +kernel
theorem dX12_ring_187 : decode cX12_ring 187 = .ok (.aload_n 0, 1) := by decide +kernel
theorem dX12_ring_188 : decode cX12_ring 188 = .ok (.iload_n 2, 1) := by decide +kernel
theorem dX12_ring_189 : decode cX12_ring 189 = .ok (.invokevirtual 190, 3) := by decide +kernel
theorem dX12_ring_192 : decode cX12_ring 192 = .ok (.istore 4, 2) := by decide +kernel
theorem dX12_ring_194 : decode cX12_ring 194 = .ok (.goto (-133), 3) := by decide +kernel
theorem dX12_ring_197 : decode cX12_ring 197 = .ok (.aload_n 0, 1) := by decide +kernel
theorem dX12_ring_198 : decode cX12_ring 198 = .ok (.iload_n 2, 1) := by decide +kernel
theorem dX12_ring_199 : decode cX12_ring 199 = .ok (.putfield 193, 3) := by decide +kernel
theorem dX12_ring_202 : decode cX12_ring 202 = .ok (.iload_n 3, 1) := by decide +kernel
theorem dX12_ring_203 : decode cX12_ring 203 = .ok (.ireturn, 1) := by decide +kernel
theorem dX12_turns_0 : decode cX12_turns 0 = .ok (.iload_n 1, 1) := by decide +kernel
theorem dX12_turns_1 : decode cX12_turns 1 = .ok (.iconst 2, 1) := by decide +kernel
theorem dX12_turns_2 : decode cX12_turns 2 = .ok (.isub, 1) := by decide +kernel
theorem dX12_turns_3 : decode cX12_turns 3 = .ok (.istore_n 2, 1) := by decide +kernel
theorem dX12_turns_4 : decode cX12_turns 4 = .ok (.iload_n 2, 1) := by decide +kernel
theorem dX12_turns_5 : decode cX12_turns 5 = .ok (.ifCond .le 26, 3) := by decide +kernel
theorem dX12_turns_8 : decode cX12_turns 8 = .ok (.aload_n 0, 1) := by decide +kernel
theorem dX12_turns_9 : decode cX12_turns 9 = .ok (.getfield 102, 3) := by decide +kernel
theorem dX12_turns_12 : decode cX12_turns 12 = .ok (.iload_n 2, 1) := by decide +kernel
theorem dX12_turns_13 : decode cX12_turns 13 = .ok (.iaload, 1) := by decide +kernel
theorem dX12_turns_14 : decode cX12_turns 14 = .ok (.aload_n 0, 1) := by decide +kernel
theorem dX12_turns_15 : decode cX12_turns 15 = .ok (.getfield 102, 3) := by decide +kernel
theorem dX12_turns_18 : decode cX12_turns 18 = .ok (.iload_n 2, 1) := by decide +kernel
theorem dX12_turns_19 : decode cX12_turns 19 = .ok (.iconst 1, 1) := by decide +kernel
theorem dX12_turns_20 : decode cX12_turns 20 = .ok (.iadd, 1) := by decide +kernel
theorem dX12_turns_21 : decode cX12_turns 21 = .ok (.iaload, 1) := by decide +kernel
theorem dX12_turns_22 : decode cX12_turns 22 = .ok (.if_icmp .le 9, 3) := by decide +kernel
theorem dX12_turns_25 : decode cX12_turns 25 = .ok (.iinc 2 (-1), 3) := by decide +kernel
theorem dX12_turns_28 : decode cX12_turns 28 = .ok (.goto (-24), 3) := by decide +kernel
theorem dX12_turns_31 : decode cX12_turns 31 = .ok (.iload_n 2, 1) := by decide +kernel
theorem dX12_turns_32 : decode cX12_turns 32 = .ok (.ifCond .gt 5, 3) := by decide +kernel
theorem dX12_turns_35 : decode cX12_turns 35 = .ok (.iconst 0, 1) := by decide +kernel
theorem dX12_turns_36 : decode cX12_turns 36 = .ok (.ireturn, 1) := by decide +kernel
theorem dX12_turns_37 : decode cX12_turns 37 = .ok (.iload_n 1, 1) := by decide +kernel
theorem dX12_turns_38 : decode cX12_turns 38 = .ok (.iconst 1, 1) := by decide +kernel
theorem dX12_turns_39 : decode cX12_turns 39 = .ok (.isub, 1) := by decide +kernel
theorem dX12_turns_40 : decode cX12_turns 40 = .ok (.istore_n 3, 1) := by decide +kernel
theorem dX12_turns_41 : decode cX12_turns 41 = .ok (.aload_n 0, 1) := by decide +kernel
theorem dX12_turns_42 : decode cX12_turns 42 = .ok (.getfield 102, 3) := by decide +kernel
theorem dX12_turns_45 : decode cX12_turns 45 = .ok (.iload_n 3, 1) := by decide +kernel
theorem dX12_turns_46 : decode cX12_turns 46 = .ok (.iaload, 1) := by decide +kernel
theorem dX12_turns_47 : decode cX12_turns 47 = .ok (.aload_n 0, 1) := by decide +kernel
theorem dX12_turns_48 : decode cX12_turns 48 = .ok (.getfield 102, 3) := by decide +kernel
theorem dX12_turns_51 : decode cX12_turns 51 = .ok (.iload_n 2, 1) := by decide +kernel
theorem dX12_turns_52 : decode cX12_turns 52 = .ok (.iaload, 1) := by decide +kernel
theorem dX12_turns_53 : decode cX12_turns 53 = .ok (.if_icmp .ge 9, 3) := by decide +kernel
theorem dX12_turns_56 : decode cX12_turns 56 = .ok (.iinc 3 (-1), 3) := by decide +kernel
theorem dX12_turns_59 : decode cX12_turns 59 = .ok (.goto (-18), 3) := by decide +kernel
theorem dX12_turns_62 : decode cX12_turns 62 = .ok (.aload_n 0, 1) := by decide +kernel
theorem dX12_turns_63 : decode cX12_turns 63 = .ok (.getfield 102, 3) := by decide +kernel
theorem dX12_turns_66 : decode cX12_turns 66 = .ok (.iload_n 2, 1) := by decide +kernel
theorem dX12_turns_67 : decode cX12_turns 67 = .ok (.iaload, 1) := by decide +kernel
theorem dX12_turns_68 : decode cX12_turns 68 = .ok (.istore 4, 2) := by decide +kernel
theorem dX12_turns_70 : decode cX12_turns 70 = .ok (.aload_n 0, 1) := by decide +kernel
theorem dX12_turns_71 : decode cX12_turns 71 = .ok (.getfield 102, 3) := by decide +kernel
theorem dX12_turns_74 : decode cX12_turns 74 = .ok (.iload_n 2, 1) := by decide +kernel
theorem dX12_turns_75 : decode cX12_turns 75 = .ok (.aload_n 0, 1) := by decide +kernel
theorem dX12_turns_76 : decode cX12_turns 76 = .ok (.getfield 102, 3) := by decide +kernel
theorem dX12_turns_79 : decode cX12_turns 79 = .ok (.iload_n 3, 1) := by decide +kernel
theorem dX12_turns_80 : decode cX12_turns 80 = .ok (.iaload, 1) := by decide +kernel
theorem dX12_turns_81 : decode cX12_turns 81 = .ok (.iastore, 1) := by decide +kernel
theorem dX12_turns_82 : decode cX12_turns 82 = .ok (.aload_n 0, 1) := by decide +kernel
theorem dX12_turns_83 : decode cX12_turns 83 = .ok (.getfield 102, 3) := by decide +kernel
theorem dX12_turns_86 : decode cX12_turns 86 = .ok (.iload_n 3, 1) := by decide +kernel
theorem dX12_turns_87 : decode cX12_turns 87 = .ok (.iload 4, 2) := by decide +kernel
theorem dX12_turns_89 : decode cX12_turns 89 = .ok (.iastore, 1) := by decide +kernel
theorem dX12_turns_90 : decode cX12_turns 90 = .ok (.iload_n 1, 1) := by decide +kernel
theorem dX12_turns_91 : decode cX12_turns 91 = .ok (.iconst 1, 1) := by decide +kernel
theorem dX12_turns_92 : decode cX12_turns 92 = .ok (.isub, 1) := by decide +kernel
theorem dX12_turns_93 : decode cX12_turns 93 = .ok (.istore 5, 2) := by decide +kernel
theorem dX12_turns_95 : decode cX12_turns 95 = .ok (.iload_n 2, 1) := by decide +kernel
theorem dX12_turns_96 : decode cX12_turns 96 = .ok (.iconst 1, 1) := by decide +kernel
theorem dX12_turns_97 : decode cX12_turns 97 = .ok (.iadd, 1) := by decide +kernel
theorem dX12_turns_98 : decode cX12_turns 98 = .ok (.istore 6, 2) := by decide +kernel
theorem dX12_turns_100 : decode cX12_turns 100 = .ok (.iload 6, 2) := by decide +kernel
theorem dX12_turns_102 : decode cX12_turns 102 = .ok (.iload 5, 2) := by decide +kernel
theorem dX12_turns_104 : decode cX12_turns 104 = .ok (.if_icmp .ge 44, 3) := by decide +kernel
theorem dX12_turns_107 : decode cX12_turns 107 = .ok (.aload_n 0, 1) := by decide +kernel
theorem dX12_turns_108 : decode cX12_turns 108 = .ok (.getfield 102, 3) := by decide +kernel
theorem dX12_turns_111 : decode cX12_turns 111 = .ok (.iload 6, 2) := by decide +kernel
theorem dX12_turns_113 : decode cX12_turns 113 = .ok (.iaload, 1) := by decide +kernel
theorem dX12_turns_114 : decode cX12_turns 114 = .ok (.istore 4, 2) := by decide +kernel
theorem dX12_turns_116 : decode cX12_turns 116 = .ok (.aload_n 0, 1) := by decide +kernel
theorem dX12_turns_117 : decode cX12_turns 117 = .ok (.getfield 102, 3) := by decide +kernel
theorem dX12_turns_120 : decode cX12_turns 120 = .ok (.iload 6, 2) := by decide +kernel
theorem dX12_turns_122 : decode cX12_turns 122 = .ok (.aload_n 0, 1) := by decide +kernel
theorem dX12_turns_123 : decode cX12_turns 123 = .ok (.getfield 102, 3) := by decide +kernel
theorem dX12_turns_126 : decode cX12_turns 126 = .ok (.iload 5, 2) := by decide +kernel
theorem dX12_turns_128 : decode cX12_turns 128 = .ok (.iaload, 1) := by decide +kernel
theorem dX12_turns_129 : decode cX12_turns 129 = .ok (.iastore, 1) := by decide +kernel
theorem dX12_turns_130 : decode cX12_turns 130 = .ok (.aload_n 0, 1) := by decide +kernel
theorem dX12_turns_131 : decode cX12_turns 131 = .ok (.getfield 102, 3) := by decide +kernel
theorem dX12_turns_134 : decode cX12_turns 134 = .ok (.iload 5, 2) := by decide +kernel
theorem dX12_turns_136 : decode cX12_turns 136 = .ok (.iload 4, 2) := by decide +kernel
theorem dX12_turns_138 : decode cX12_turns 138 = .ok (.iastore, 1) := by decide +kernel
theorem dX12_turns_139 : decode cX12_turns 139 = .ok (.iinc 5 (-1), 3) := by decide +kernel
theorem dX12_turns_142 : decode cX12_turns 142 = .ok (.iinc 6 1, 3) := by decide +kernel
theorem dX12_turns_145 : decode cX12_turns 145 = .ok (.goto (-45), 3) := by decide +kernel
theorem dX12_turns_148 : decode cX12_turns 148 = .ok (.iconst 1, 1) := by decide +kernel
theorem dX12_turns_149 : decode cX12_turns 149 = .ok (.ireturn, 1) := by decide +kernel
theorem dX12_next_0 : decode cX12_next 0 = .ok (.iload_n 1, 1) := by decide +kernel
theorem dX12_next_1 : decode cX12_next 1 = .ok (.iconst 0, 1) := by decide +kernel
theorem dX12_next_2 : decode cX12_next 2 = .ok (.aload_n 0, 1) := by decide +kernel
theorem dX12_next_3 : decode cX12_next 3 = .ok (.getfield 193, 3) := by decide +kernel
theorem dX12_next_6 : decode cX12_next 6 = .ok (.iconst 1, 1) := by decide +kernel
theorem dX12_next_7 : decode cX12_next 7 = .ok (.isub, 1) := by decide +kernel
theorem dX12_next_8 : decode cX12_next 8 = .ok (.invokestatic 111, 3) := by decide +kernel
theorem dX12_next_11 : decode cX12_next 11 = .ok (.ifCond .eq 12, 3) := by decide +kernel
theorem dX12_next_14 : decode cX12_next 14 = .ok (.aload_n 0, 1) := by decide +kernel
theorem dX12_next_15 : decode cX12_next 15 = .ok (.getfield 105, 3) := by decide +kernel
theorem dX12_next_18 : decode cX12_next 18 = .ok (.iload_n 1, 1) := by decide +kernel
theorem dX12_next_19 : decode cX12_next 19 = .ok (.iaload, 1) := by decide +kernel
theorem dX12_next_20 : decode cX12_next 20 = .ok (.goto 4, 3) := by decide +kernel
theorem dX12_next_23 : decode cX12_next 23 = .ok (.iconst (-1), 1) := by decide +kernel
theorem dX12_next_24 : decode cX12_next 24 = .ok (.ireturn, 1) := by decide +kernel
theorem dX12_told_0 : decode cX12_told 0 = .ok (.iload_n 1, 1) := by decide +kernel
theorem dX12_told_1 : decode cX12_told 1 = .ok (.tableswitch 96 0 6 #[43, 48, 53, 58, 63, 69, 75], 43) := by decide +kernel
theorem dX12_told_44 : decode cX12_told 44 = .ok (.aload_n 0, 1) := by decide +kernel
theorem dX12_told_45 : decode cX12_told 45 = .ok (.getfield 108, 3) := by decide +kernel
theorem dX12_told_48 : decode cX12_told 48 = .ok (.ireturn, 1) := by decide +kernel
theorem dX12_told_49 : decode cX12_told 49 = .ok (.aload_n 0, 1) := by decide +kernel
theorem dX12_told_50 : decode cX12_told 50 = .ok (.getfield 31, 3) := by decide +kernel
theorem dX12_told_53 : decode cX12_told 53 = .ok (.ireturn, 1) := by decide +kernel
theorem dX12_told_54 : decode cX12_told 54 = .ok (.aload_n 0, 1) := by decide +kernel
theorem dX12_told_55 : decode cX12_told 55 = .ok (.getfield 115, 3) := by decide +kernel
theorem dX12_told_58 : decode cX12_told 58 = .ok (.ireturn, 1) := by decide +kernel
theorem dX12_told_59 : decode cX12_told 59 = .ok (.aload_n 0, 1) := by decide +kernel
theorem dX12_told_60 : decode cX12_told 60 = .ok (.getfield 138, 3) := by decide +kernel
theorem dX12_told_63 : decode cX12_told 63 = .ok (.ireturn, 1) := by decide +kernel
theorem dX12_told_64 : decode cX12_told 64 = .ok (.aload_n 0, 1) := by decide +kernel
theorem dX12_told_65 : decode cX12_told 65 = .ok (.getfield 141, 3) := by decide +kernel
theorem dX12_told_68 : decode cX12_told 68 = .ok (.l2i, 1) := by decide +kernel
theorem dX12_told_69 : decode cX12_told 69 = .ok (.ireturn, 1) := by decide +kernel
theorem dX12_told_70 : decode cX12_told 70 = .ok (.aload_n 0, 1) := by decide +kernel
theorem dX12_told_71 : decode cX12_told 71 = .ok (.getfield 145, 3) := by decide +kernel
theorem dX12_told_74 : decode cX12_told 74 = .ok (.l2i, 1) := by decide +kernel
theorem dX12_told_75 : decode cX12_told 75 = .ok (.ireturn, 1) := by decide +kernel
theorem dX12_told_76 : decode cX12_told 76 = .ok (.aload_n 0, 1) := by decide +kernel
theorem dX12_told_77 : decode cX12_told 77 = .ok (.getfield 135, 3) := by decide +kernel
theorem dX12_told_80 : decode cX12_told 80 = .ok (.ifCond .eq 15, 3) := by decide +kernel
theorem dX12_told_83 : decode cX12_told 83 = .ok (.aload_n 0, 1) := by decide +kernel
theorem dX12_told_84 : decode cX12_told 84 = .ok (.getfield 31, 3) := by decide +kernel
theorem dX12_told_87 : decode cX12_told 87 = .ok (.aload_n 0, 1) := by decide +kernel
theorem dX12_told_88 : decode cX12_told 88 = .ok (.getfield 35, 3) := by decide +kernel
theorem dX12_told_91 : decode cX12_told 91 = .ok (.imul, 1) := by decide +kernel
theorem dX12_told_92 : decode cX12_told 92 = .ok (.goto 4, 3) := by decide +kernel
theorem dX12_told_95 : decode cX12_told 95 = .ok (.iconst 0, 1) := by decide +kernel
theorem dX12_told_96 : decode cX12_told 96 = .ok (.ireturn, 1) := by decide +kernel
theorem dX12_told_97 : decode cX12_told 97 = .ok (.ldc 118, 2) := by decide +kernel
theorem dX12_told_99 : decode cX12_told 99 = .ok (.ireturn, 1) := by decide +kernel
