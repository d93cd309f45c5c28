theorem dX11_lay_244 : decode cX11_lay 244 = .ok (.aload_n 0, 1) := by decide +kernel
theorem dX11_lay_245 : decode cX11_lay 245 = .ok (.getfield 101, 3) := by decide +kernel
theorem dX11_lay_248 : decode cX11_lay 248 = .ok (.iload 9, 2) := by decide +kernel
theorem dX11_lay_250 : decode cX11_lay 250 = .ok (.iaload, 1) := by decide +kernel
theorem dX11_lay_251 : decode cX11_lay 251 = .ok (.iload_n 1, 1) := by decide +kernel
theorem dX11_lay_252 : decode cX11_lay 252 = .ok (.iastore, 1) := by decide +kernel
theorem dX11_lay_253 : decode cX11_lay 253 = .ok (.aload_n 0, 1) := by decide +kernel
theorem dX11_lay_254 : decode cX11_lay 254 = .ok (.getfield 34, 3) := by decide +kernel
theorem dX11_lay_257 : decode cX11_lay 257 = .ok (.aload_n 0, 1) := by decide +kernel
theorem dX11_lay_258 : decode cX11_lay 258 = .ok (.getfield 101, 3) := by decide +kernel
theorem dX11_lay_261 : decode cX11_lay 261 = .ok (.iload 9, 2) := by decide +kernel
theorem dX11_lay_263 : decode cX11_lay 263 = .ok (.iaload, 1) := by decide +kernel
theorem dX11_lay_264 : decode cX11_lay 264 = .ok (.iload 8, 2) := by decide +kernel
theorem dX11_lay_266 : decode cX11_lay 266 = .ok (.iastore, 1) := by decide +kernel
theorem dX11_lay_267 : decode cX11_lay 267 = .ok (.iload 8, 2) := by decide +kernel
theorem dX11_lay_269 : decode cX11_lay 269 = .ok (.aload_n 0, 1) := by decide +kernel
theorem dX11_lay_270 : decode cX11_lay 270 = .ok (.aload_n 0, 1) := by decide +kernel
theorem dX11_lay_271 : decode cX11_lay 271 = .ok (.getfield 101, 3) := by decide +kernel
theorem dX11_lay_274 : decode cX11_lay 274 = .ok (.iload 9, 2) := by decide +kernel
theorem dX11_lay_276 : decode cX11_lay 276 = .ok (.iaload, 1) := by decide +kernel
theorem dX11_lay_277 : decode cX11_lay 277 = .ok (.invokevirtual 197, 3) := by decide +kernel
theorem dX11_lay_280 : decode cX11_lay 280 = .ok (.iadd, 1) := by decide +kernel
theorem dX11_lay_281 : decode cX11_lay 281 = .ok (.istore 8, 2) := by decide +kernel
theorem dX11_lay_283 : decode cX11_lay 283 = .ok (.iinc 9 1, 3) := by decide +kernel
theorem dX11_lay_286 : decode cX11_lay 286 = .ok (.goto (-52), 3) := by decide +kernel
theorem dX11_lay_289 : decode cX11_lay 289 = .ok (.iload 6, 2) := by decide +kernel
theorem dX11_lay_291 : decode cX11_lay 291 = .ok (.ireturn, 1) := by decide +kernel
theorem dX11_ask_0 : decode cX11_ask 0 = .ok (.iconst 0, 1) := by decide +kernel
theorem dX11_ask_1 : decode cX11_ask 1 = .ok (.istore_n 1, 1) := by decide +kernel
theorem dX11_ask_2 : decode cX11_ask 2 = .ok (.iload_n 1, 1) := by decide +kernel
theorem dX11_ask_3 : decode cX11_ask 3 = .ok (.aload_n 0, 1) := by decide +kernel
theorem dX11_ask_4 : decode cX11_ask 4 = .ok (.getfield 137, 3) := by decide +kernel
theorem dX11_ask_7 : decode cX11_ask 7 = .ok (.if_icmp .ge 101, 3) := by decide +kernel
theorem dX11_ask_10 : decode cX11_ask 10 = .ok (.aload_n 0, 1) := by decide +kernel
theorem dX11_ask_11 : decode cX11_ask 11 = .ok (.getfield 107, 3) := by decide +kernel
theorem dX11_ask_14 : decode cX11_ask 14 = .ok (.iload_n 1, 1) := by decide +kernel
theorem dX11_ask_15 : decode cX11_ask 15 = .ok (.iconst 0, 1) := by decide +kernel
theorem dX11_ask_16 : decode cX11_ask 16 = .ok (.bastore, 1) := by decide +kernel
theorem dX11_ask_17 : decode cX11_ask 17 = .ok (.iconst 0, 1) := by decide +kernel
theorem dX11_ask_18 : decode cX11_ask 18 = .ok (.istore_n 2, 1) := by decide +kernel
theorem dX11_ask_19 : decode cX11_ask 19 = .ok (.iload_n 2, 1) := by decide +kernel
theorem dX11_ask_20 : decode cX11_ask 20 = .ok (.aload_n 0, 1) := by decide +kernel
theorem dX11_ask_21 : decode cX11_ask 21 = .ok (.getfield 134, 3) := by decide +kernel
theorem dX11_ask_24 : decode cX11_ask 24 = .ok (.if_icmp .ge 78, 3) := by decide +kernel
theorem dX11_ask_27 : decode cX11_ask 27 = .ok (.aload_n 0, 1) := by decide +kernel
theorem dX11_ask_28 : decode cX11_ask 28 = .ok (.getfield 104, 3) := by decide +kernel
theorem dX11_ask_31 : decode cX11_ask 31 = .ok (.bipush 16, 2) := by decide +kernel
theorem dX11_ask_33 : decode cX11_ask 33 = .ok (.iload_n 1, 1) := by decide +kernel
theorem dX11_ask_34 : decode cX11_ask 34 = .ok (.imul, 1) := by decide +kernel
theorem dX11_ask_35 : decode cX11_ask 35 = .ok (.iload_n 2, 1) := by decide +kernel
theorem dX11_ask_36 : decode cX11_ask 36 = .ok (.iadd, 1) := by decide +kernel
theorem dX11_ask_37 : decode cX11_ask 37 = .ok (.aload_n 0, 1) := by decide +kernel
theorem dX11_ask_38 : decode cX11_ask 38 = .ok (.iload_n 2, 1) := by decide +kernel
theorem dX11_ask_39 : decode cX11_ask 39 = .ok (.iload_n 1, 1) := by decide +kernel
theorem dX11_ask_40 : decode cX11_ask 40 = .ok (.invokevirtual 258, 3) := by decide +kernel
theorem dX11_ask_43 : decode cX11_ask 43 = .ok (.ifCond .ne 7, 3) := by decide +kernel
theorem dX11_ask_46 : decode cX11_ask 46 = .ok (.iconst 1, 1) := by decide +kernel
theorem dX11_ask_47 : decode cX11_ask 47 = .ok (.goto 4, 3) := by decide +kernel
theorem dX11_ask_50 : decode cX11_ask 50 = .ok (.iconst 0, 1) := by decide +kernel
theorem dX11_ask_51 : decode cX11_ask 51 = .ok (.bastore, 1) := by decide +kernel
theorem dX11_ask_52 : decode cX11_ask 52 = .ok (.aload_n 0, 1) := by decide +kernel
theorem dX11_ask_53 : decode cX11_ask 53 = .ok (.getfield 107, 3) := by decide +kernel
theorem dX11_ask_56 : decode cX11_ask 56 = .ok (.iload_n 1, 1) := by decide +kernel
theorem dX11_ask_57 : decode cX11_ask 57 = .ok (.aload_n 0, 1) := by decide +kernel
theorem dX11_ask_58 : decode cX11_ask 58 = .ok (.getfield 107, 3) := by decide +kernel
theorem dX11_ask_61 : decode cX11_ask 61 = .ok (.iload_n 1, 1) := by decide +kernel
theorem dX11_ask_62 : decode cX11_ask 62 = .ok (.baload, 1) := by decide +kernel
theorem dX11_ask_63 : decode cX11_ask 63 = .ok (.ifCond .ne 27, 3) := by decide +kernel
theorem dX11_ask_66 : decode cX11_ask 66 = .ok (.aload_n 0, 1) := by decide +kernel
theorem dX11_ask_67 : decode cX11_ask 67 = .ok (.getfield 104, 3) := by decide +kernel
theorem dX11_ask_70 : decode cX11_ask 70 = .ok (.bipush 16, 2) := by decide +kernel
theorem dX11_ask_72 : decode cX11_ask 72 = .ok (.iload_n 1, 1) := by decide +kernel
theorem dX11_ask_73 : decode cX11_ask 73 = .ok (.imul, 1) := by decide +kernel
theorem dX11_ask_74 : decode cX11_ask 74 = .ok (.iload_n 2, 1) := by decide +kernel
theorem dX11_ask_75 : decode cX11_ask 75 = .ok (.iadd, 1) := by decide +kernel
theorem dX11_ask_76 : decode cX11_ask 76 = .ok (.baload, 1) := by decide +kernel
theorem dX11_ask_77 : decode cX11_ask 77 = .ok (.ifCond .eq 17, 3) := by decide +kernel
theorem dX11_ask_80 : decode cX11_ask 80 = .ok (.aload_n 0, 1) := by decide +kernel
theorem dX11_ask_81 : decode cX11_ask 81 = .ok (.getfield 7, 3) := by decide +kernel
theorem dX11_ask_84 : decode cX11_ask 84 = .ok (.iload_n 2, 1) := by decide +kernel
theorem dX11_ask_85 : decode cX11_ask 85 = .ok (.iaload, 1) := by decide +kernel
theorem dX11_ask_86 : decode cX11_ask 86 = .ok (.iconst 3, 1) := by decide +kernel
theorem dX11_ask_87 : decode cX11_ask 87 = .ok (.if_icmp .ne 7, 3) := by decide +kernel
theorem dX11_ask_90 : decode cX11_ask 90 = .ok (.iconst 1, 1) := by decide +kernel
theorem dX11_ask_91 : decode cX11_ask 91 = .ok (.goto 4, 3) := by decide +kernel
theorem dX11_ask_94 : decode cX11_ask 94 = .ok (.iconst 0, 1) := by decide +kernel
theorem dX11_ask_95 : decode cX11_ask 95 = .ok (.bastore, 1) := by decide +kernel
theorem dX11_ask_96 : decode cX11_ask 96 = .ok (.iinc 2 1, 3) := by decide +kernel
theorem dX11_ask_99 : decode cX11_ask 99 = .ok (.goto (-80), 3) := by decide +kernel
theorem dX11_ask_102 : decode cX11_ask 102 = .ok (.iinc 1 1, 3) := by decide +kernel
theorem dX11_ask_105 : decode cX11_ask 105 = .ok (.goto (-103), 3) := by decide +kernel
theorem dX11_ask_108 : decode cX11_ask 108 = .ok (.iconst 0, 1) := by decide +kernel
theorem dX11_ask_109 : decode cX11_ask 109 = .ok (.istore_n 1, 1) := by decide +kernel
theorem dX11_ask_110 : decode cX11_ask 110 = .ok (.iload_n 1, 1) := by decide +kernel
theorem dX11_ask_111 : decode cX11_ask 111 = .ok (.aload_n 0, 1) := by decide +kernel
theorem dX11_ask_112 : decode cX11_ask 112 = .ok (.getfield 137, 3) := by decide +kernel
theorem dX11_ask_115 : decode cX11_ask 115 = .ok (.if_icmp .ge 101, 3) := by decide +kernel
theorem dX11_ask_118 : decode cX11_ask 118 = .ok (.iconst 0, 1) := by decide +kernel
theorem dX11_ask_119 : decode cX11_ask 119 = .ok (.istore_n 2, 1) := by decide +kernel
theorem dX11_ask_120 : decode cX11_ask 120 = .ok (.iload_n 2, 1) := by decide +kernel
theorem dX11_ask_121 : decode cX11_ask 121 = .ok (.aload_n 0, 1) := by decide +kernel
theorem dX11_ask_122 : decode cX11_ask 122 = .ok (.getfield 137, 3) := by decide +kernel
theorem dX11_ask_125 : decode cX11_ask 125 = .ok (.if_icmp .ge 85, 3) := by decide +kernel
theorem dX11_ask_128 : decode cX11_ask 128 = .ok (.iconst 0, 1) := by decide +kernel
theorem dX11_ask_129 : decode cX11_ask 129 = .ok (.istore_n 3, 1) := by decide +kernel
theorem dX11_ask_130 : decode cX11_ask 130 = .ok (.iconst 0, 1) := by decide +kernel
theorem dX11_ask_131 : decode cX11_ask 131 = .ok (.istore 4, 2) := by decide +kernel
theorem dX11_ask_133 : decode cX11_ask 133 = .ok (.iload 4, 2) := by decide +kernel
theorem dX11_ask_135 : decode cX11_ask 135 = .ok (.aload_n 0, 1) := by decide +kernel
theorem dX11_ask_136 : decode cX11_ask 136 = .ok (.getfield 134, 3) := by decide +kernel
theorem dX11_ask_139 : decode cX11_ask 139 = .ok (.if_icmp .ge 53, 3) := by decide +kernel
theorem dX11_ask_142 : decode cX11_ask 142 = .ok (.iload_n 3, 1) := by decide +kernel
theorem dX11_ask_143 : decode cX11_ask 143 = .ok (.aload_n 0, 1) := by decide +kernel
theorem dX11_ask_144 : decode cX11_ask 144 = .ok (.getfield 104, 3) := by decide +kernel
theorem dX11_ask_147 : decode cX11_ask 147 = .ok (.bipush 16, 2) := by decide +kernel
theorem dX11_ask_149 : decode cX11_ask 149 = .ok (.iload_n 1, 1) := by decide +kernel
theorem dX11_ask_150 : decode cX11_ask 150 = .ok (.imul, 1) := by decide +kernel
theorem dX11_ask_151 : decode cX11_ask 151 = .ok (.iload 4, 2) := by decide +kernel
theorem dX11_ask_153 : decode cX11_ask 153 = .ok (.iadd, 1) := by decide +kernel
theorem dX11_ask_154 : decode cX11_ask 154 = .ok (.baload, 1) := by decide +kernel
theorem dX11_ask_155 : decode cX11_ask 155 = .ok (.aload_n 0, 1) := by decide +kernel
theorem dX11_ask_156 : decode cX11_ask 156 = .ok (.getfield 104, 3) := by decide +kernel
theorem dX11_ask_159 : decode cX11_ask 159 = .ok (.bipush 16, 2) := by decide +kernel
theorem dX11_ask_161 : decode cX11_ask 161 = .ok (.iload_n 2, 1) := by decide +kernel
theorem dX11_ask_162 : decode cX11_ask 162 = .ok (.imul, 1) := by decide +kernel
theorem dX11_ask_163 : decode cX11_ask 163 = .ok (.iload 4, 2) := by decide +kernel
theorem dX11_ask_165 : decode cX11_ask 165 = .ok (.iadd, 1) := by decide +kernel
theorem dX11_ask_166 : decode cX11_ask 166 = .ok (.baload, 1) := by decide +kernel
theorem dX11_ask_167 : decode cX11_ask 167 = .ok (.if_icmp .eq 16, 3) := by decide +kernel
theorem dX11_ask_170 : decode cX11_ask 170 = .ok (.aload_n 0, 1) := by decide +kernel
theorem dX11_ask_171 : decode cX11_ask 171 = .ok (.iload 4, 2) := by decide +kernel
theorem dX11_ask_173 : decode cX11_ask 173 = .ok (.invokevirtual 197, 3) := by decide +kernel
theorem dX11_ask_176 : decode cX11_ask 176 = .ok (.iconst 5, 1) := by decide +kernel
theorem dX11_ask_177 : decode cX11_ask 177 = .ok (.invokestatic 191, 3) := by decide +kernel
theorem dX11_ask_180 : decode cX11_ask 180 = .ok (.goto 4, 3) := by decide +kernel
theorem dX11_ask_183 : decode cX11_ask 183 = .ok (.iconst 0, 1) := by decide +kernel
theorem dX11_ask_184 : decode cX11_ask 184 = .ok (.iadd, 1) := by decide +kernel
theorem dX11_ask_185 : decode cX11_ask 185 = .ok (.istore_n 3, 1) := by decide +kernel
theorem dX11_ask_186 : decode cX11_ask 186 = .ok (.iinc 4 1, 3) := by decide +kernel
theorem dX11_ask_189 : decode cX11_ask 189 = .ok (.goto (-56), 3) := by decide +kernel
theorem dX11_ask_192 : decode cX11_ask 192 = .ok (.aload_n 0, 1) := by decide +kernel
theorem dX11_ask_193 : decode cX11_ask 193 = .ok (.getfield 110, 3) := by decide +kernel
theorem dX11_ask_196 : decode cX11_ask 196 = .ok (.bipush 9, 2) := by decide +kernel
theorem dX11_ask_198 : decode cX11_ask 198 = .ok (.iload_n 1, 1) := by decide +kernel
theorem dX11_ask_199 : decode cX11_ask 199 = .ok (.imul, 1) := by decide +kernel
theorem dX11_ask_200 : decode cX11_ask 200 = .ok (.iload_n 2, 1) := by decide +kernel
theorem dX11_ask_201 : decode cX11_ask 201 = .ok (.iadd, 1) := by decide +kernel
theorem dX11_ask_202 : decode cX11_ask 202 = .ok (.iload_n 3, 1) := by decide +kernel
theorem dX11_ask_203 : decode cX11_ask 203 = .ok (.iastore, 1) := by decide +kernel
theorem dX11_ask_204 : decode cX11_ask 204 = .ok (.iinc 2 1, 3) := by decide +kernel
theorem dX11_ask_207 : decode cX11_ask 207 = .ok (.goto (-87), 3) := by decide +kernel
theorem dX11_ask_210 : decode cX11_ask 210 = .ok (.iinc 1 1, 3) := by decide +kernel
theorem dX11_ask_213 : decode cX11_ask 213 = .ok (.goto (-103), 3) := by decide +kernel
theorem dX11_ask_216 : decode cX11_ask 216 = .ok (.return_, 1) := by decide +kernel
theorem dX11_change_0 : decode cX11_change 0 = .ok (.aload_n 0, 1) := by decide +kernel
theorem dX11_change_1 : decode cX11_change 1 = .ok (.iload_n 1, 1) := by decide +kernel
theorem dX11_change_2 : decode cX11_change 2 = .ok (.invokevirtual 255, 3) := by decide +kernel
theorem dX11_change_5 : decode cX11_change 5 = .ok (.ifCond .eq 11, 3) := by decide +kernel
theorem dX11_change_8 : decode cX11_change 8 = .ok (.aload_n 0, 1) := by decide +kernel
theorem dX11_change_9 : decode cX11_change 9 = .ok (.iload_n 2, 1) := by decide +kernel
theorem dX11_change_10 : decode cX11_change 10 = .ok (.invokevirtual 255, 3) := by decide +kernel
theorem dX11_change_13 : decode cX11_change 13 = .ok (.ifCond .ne 5, 3) := by decide +kernel
theorem dX11_change_16 : decode cX11_change 16 = .ok (.iconst (-1), 1) := by decide +kernel
theorem dX11_change_17 : decode cX11_change 17 = .ok (.ireturn, 1) := by decide +kernel
theorem dX11_change_18 : decode cX11_change 18 = .ok (.iload_n 1, 1) := by decide +kernel
theorem dX11_change_19 : decode cX11_change 19 = .ok (.iload_n 2, 1) := by decide +kernel
theorem dX11_change_20 : decode cX11_change 20 = .ok (.if_icmp .ne 6, 3) := by decide +kernel
theorem dX11_change_23 : decode cX11_change 23 = .ok (.bipush (-2), 2) := by decide +kernel
theorem dX11_change_25 : decode cX11_change 25 = .ok (.ireturn, 1) := by decide +kernel
theorem dX11_change_26 : decode cX11_change 26 = .ok (.aload_n 0, 1) := by decide +kernel
theorem dX11_change_27 : decode cX11_change 27 = .ok (.invokevirtual 287, 3) := by decide +kernel
theorem dX11_change_30 : decode cX11_change 30 = .ok (.aload_n 0, 1) := by decide +kernel
theorem dX11_change_31 : decode cX11_change 31 = .ok (.getfield 110, 3) := by decide +kernel
theorem dX11_change_34 : decode cX11_change 34 = .ok (.bipush 9, 2) := by decide +kernel
theorem dX11_change_36 : decode cX11_change 36 = .ok (.iload_n 1, 1) := by decide +kernel
theorem dX11_change_37 : decode cX11_change 37 = .ok (.imul, 1) := by decide +kernel
theorem dX11_change_38 : decode cX11_change 38 = .ok (.iload_n 2, 1) := by decide +kernel
theorem dX11_change_39 : decode cX11_change 39 = .ok (.iadd, 1) := by decide +kernel
theorem dX11_change_40 : decode cX11_change 40 = .ok (.iaload, 1) := by decide +kernel
theorem dX11_change_41 : decode cX11_change 41 = .ok (.ireturn, 1) := by decide +kernel
theorem dX11_mayCome_0 : decode cX11_mayCome 0 = .ok (.aload_n 0, 1) := by decide +kernel
theorem dX11_mayCome_1 : decode cX11_mayCome 1 = .ok (.getfield 107, 3) := by decide +kernel
theorem dX11_mayCome_4 : decode cX11_mayCome 4 = .ok (.iload_n 1, 1) := by decide +kernel
theorem dX11_mayCome_5 : decode cX11_mayCome 5 = .ok (.baload, 1) := by decide +kernel
theorem dX11_mayCome_6 : decode cX11_mayCome 6 = .ok (.ifCond .eq 12, 3) := by decide +kernel
theorem dX11_mayCome_9 : decode cX11_mayCome 9 = .ok (.aload_n 0, 1) := by decide +kernel
theorem dX11_mayCome_10 : decode cX11_mayCome 10 = .ok (.getfield 107, 3) := by decide +kernel
theorem dX11_mayCome_13 : decode cX11_mayCome 13 = .ok (.iload_n 2, 1) := by decide +kernel
theorem dX11_mayCome_14 : decode cX11_mayCome 14 = .ok (.baload, 1) := by decide +kernel
theorem dX11_mayCome_15 : decode cX11_mayCome 15 = .ok (.ifCond .ne 7, 3) := by decide +kernel
theorem dX11_mayCome_18 : decode cX11_mayCome 18 = .ok (.iconst 1, 1) := by decide +kernel
theorem dX11_mayCome_19 : decode cX11_mayCome 19 = .ok (.goto 4, 3) := by decide +kernel
theorem dX11_mayCome_22 : decode cX11_mayCome 22 = .ok (.iconst 0, 1) := by decide +kernel
theorem dX11_mayCome_23 : decode cX11_mayCome 23 = .ok (.ireturn, 1) := by decide +kernel
theorem dX11_findLeast_0 : decode cX11_findLeast 0 = .ok (.iconst 0, 1) := by decide +kernel
theorem dX11_findLeast_1 : decode cX11_findLeast 1 = .ok (.istore_n 1, 1) := by decide +kernel
theorem dX11_findLeast_2 : decode cX11_findLeast 2 = .ok (.iload_n 1, 1) := by decide +kernel
theorem dX11_findLeast_3 : decode cX11_findLeast 3 = .ok (.iconst 1, 1) := by decide +kernel
theorem dX11_findLeast_4 : decode cX11_findLeast 4 = .ok (.aload_n 0, 1) := by decide +kernel
theorem dX11_findLeast_5 : decode cX11_findLeast 5 = .ok (.getfield 137, 3) := by decide +kernel
theorem dX11_findLeast_8 : decode cX11_findLeast 8 = .ok (.ishl, 1) := by decide +kernel
theorem dX11_findLeast_9 : decode cX11_findLeast 9 = .ok (.if_icmp .ge 145, 3) := by decide +kernel
theorem dX11_findLeast_12 : decode cX11_findLeast 12 = .ok (.iconst 0, 1) := by decide +kernel
theorem dX11_findLeast_13 : decode cX11_findLeast 13 = .ok (.istore_n 2, 1) := by decide +kernel
theorem dX11_findLeast_14 : decode cX11_findLeast 14 = .ok (.iload_n 2, 1) := by decide +kernel
theorem dX11_findLeast_15 : decode cX11_findLeast 15 = .ok (.aload_n 0, 1) := by decide +kernel
theorem dX11_findLeast_16 : decode cX11_findLeast 16 = .ok (.getfield 137, 3) := by decide +kernel
theorem dX11_findLeast_19 : decode cX11_findLeast 19 = .ok (.if_icmp .ge 129, 3) := by decide +kernel
theorem dX11_findLeast_22 : decode cX11_findLeast 22 = .ok (.iload_n 1, 1) := by decide +kernel
theorem dX11_findLeast_23 : decode cX11_findLeast 23 = .ok (.ifCond .ne 7, 3) := by decide +kernel
theorem dX11_findLeast_26 : decode cX11_findLeast 26 = .ok (.iconst 0, 1) := by decide +kernel
theorem dX11_findLeast_27 : decode cX11_findLeast 27 = .ok (.goto 4, 3) := by decide +kernel
theorem dX11_findLeast_30 : decode cX11_findLeast 30 = .ok (.iconst (-1), 1) := by decide +kernel
theorem dX11_findLeast_31 : decode cX11_findLeast 31 = .ok (.istore_n 3, 1) := by decide +kernel
theorem dX11_findLeast_32 : decode cX11_findLeast 32 = .ok (.iconst 0, 1) := by decide +kernel
theorem dX11_findLeast_33 : decode cX11_findLeast 33 = .ok (.istore 4, 2) := by decide +kernel
theorem dX11_findLeast_35 : decode cX11_findLeast 35 = .ok (.iload 4, 2) := by decide +kernel
theorem dX11_findLeast_37 : decode cX11_findLeast 37 = .ok (.aload_n 0, 1) := by decide +kernel
theorem dX11_findLeast_38 : decode cX11_findLeast 38 = .ok (.getfield 137, 3) := by decide +kernel
theorem dX11_findLeast_41 : decode cX11_findLeast 41 = .ok (.if_icmp .ge 89, 3) := by decide +kernel
theorem dX11_findLeast_44 : decode cX11_findLeast 44 = .ok (.iload_n 1, 1) := by decide +kernel
theorem dX11_findLeast_45 : decode cX11_findLeast 45 = .ok (.iload 4, 2) := by decide +kernel
theorem dX11_findLeast_47 : decode cX11_findLeast 47 = .ok (.ishr, 1) := by decide +kernel
theorem dX11_findLeast_48 : decode cX11_findLeast 48 = .ok (.iconst 1, 1) := by decide +kernel
theorem dX11_findLeast_49 : decode cX11_findLeast 49 = .ok (.iand, 1) := by decide +kernel
theorem dX11_findLeast_50 : decode cX11_findLeast 50 = .ok (.iconst 1, 1) := by decide +kernel
theorem dX11_findLeast_51 : decode cX11_findLeast 51 = .ok (.if_icmp .ne 73, 3) := by decide +kernel
theorem dX11_findLeast_54 : decode cX11_findLeast 54 = .ok (.aload_n 0, 1) := by decide +kernel
theorem dX11_findLeast_55 : decode cX11_findLeast 55 = .ok (.iload_n 2, 1) := by decide +kernel
theorem dX11_findLeast_56 : decode cX11_findLeast 56 = .ok (.iload 4, 2) := by decide +kernel
theorem dX11_findLeast_58 : decode cX11_findLeast 58 = .ok (.invokevirtual 290, 3) := by decide +kernel
theorem dX11_findLeast_61 : decode cX11_findLeast 61 = .ok (.ifCond .eq 63, 3) := by decide +kernel
theorem dX11_findLeast_64 : decode cX11_findLeast 64 = .ok (.aload_n 0, 1) := by decide +kernel
theorem dX11_findLeast_65 : decode cX11_findLeast 65 = .ok (.getfield 113, 3) := by decide +kernel
theorem dX11_findLeast_68 : decode cX11_findLeast 68 = .ok (.bipush 9, 2) := by decide +kernel
theorem dX11_findLeast_70 : decode cX11_findLeast 70 = .ok (.iload_n 1, 1) := by decide +kernel
theorem dX11_findLeast_71 : decode cX11_findLeast 71 = .ok (.iconst 1, 1) := by decide +kernel
theorem dX11_findLeast_72 : decode cX11_findLeast 72 = .ok (.iload 4, 2) := by decide +kernel
theorem dX11_findLeast_74 : decode cX11_findLeast 74 = .ok (.ishl, 1) := by decide +kernel
theorem dX11_findLeast_75 : decode cX11_findLeast 75 = .ok (.iconst (-1), 1) := by decide +kernel
theorem dX11_findLeast_76 : decode cX11_findLeast 76 = .ok (.ixor, 1) := by decide +kernel
theorem dX11_findLeast_77 : decode cX11_findLeast 77 = .ok (.iand, 1) := by decide +kernel
theorem dX11_findLeast_78 : decode cX11_findLeast 78 = .ok (.imul, 1) := by decide +kernel
theorem dX11_findLeast_79 : decode cX11_findLeast 79 = .ok (.iload 4, 2) := by decide +kernel
theorem dX11_findLeast_81 : decode cX11_findLeast 81 = .ok (.iadd, 1) := by decide +kernel
theorem dX11_findLeast_82 : decode cX11_findLeast 82 = .ok (.iaload, 1) := by decide +kernel
theorem dX11_findLeast_83 : decode cX11_findLeast 83 = .ok (.istore 5, 2) := by decide +kernel
theorem dX11_findLeast_85 : decode cX11_findLeast 85 = .ok (.iload 5, 2) := by decide +kernel
theorem dX11_findLeast_87 : decode cX11_findLeast 87 = .ok (.aload_n 0, 1) := by decide +kernel
theorem dX11_findLeast_88 : decode cX11_findLeast 88 = .ok (.getfield 110, 3) := by decide +kernel
theorem dX11_findLeast_91 : decode cX11_findLeast 91 = .ok (.bipush 9, 2) := by decide +kernel
theorem dX11_findLeast_93 : decode cX11_findLeast 93 = .ok (.iload_n 2, 1) := by decide +kernel
theorem dX11_findLeast_94 : decode cX11_findLeast 94 = .ok (.imul, 1) := by decide +kernel
theorem dX11_findLeast_95 : decode cX11_findLeast 95 = .ok (.iload 4, 2) := by decide +kernel
theorem dX11_findLeast_97 : decode cX11_findLeast 97 = .ok (.iadd, 1) := by decide +kernel
theorem dX11_findLeast_98 : decode cX11_findLeast 98 = .ok (.iaload, 1) := by decide +kernel
theorem dX11_findLeast_99 : decode cX11_findLeast 99 = .ok (.iadd, 1) := by decide +kernel
theorem dX11_findLeast_100 : decode cX11_findLeast 100 = .ok (.istore 6, 2) := by decide +kernel
theorem dX11_findLeast_102 : decode cX11_findLeast 102 = .ok (.iload 5, 2) := by decide +kernel
theorem dX11_findLeast_104 : decode cX11_findLeast 104 = .ok (.ifCond .lt 18, 3) := by decide +kernel
theorem dX11_findLeast_107 : decode cX11_findLeast 107 = .ok (.iload_n 3, 1) := by decide +kernel
theorem dX11_findLeast_108 : decode cX11_findLeast 108 = .ok (.ifCond .lt 9, 3) := by decide +kernel
theorem dX11_findLeast_111 : decode cX11_findLeast 111 = .ok (.iload 6, 2) := by decide +kernel
theorem dX11_findLeast_113 : decode cX11_findLeast 113 = .ok (.iload_n 3, 1) := by decide +kernel
theorem dX11_findLeast_114 : decode cX11_findLeast 114 = .ok (.if_icmp .ge 8, 3) := by decide +kernel
theorem dX11_findLeast_117 : decode cX11_findLeast 117 = .ok (.iload 6, 2) := by decide +kernel
theorem dX11_findLeast_119 : decode cX11_findLeast 119 = .ok (.goto 4, 3) := by decide +kernel
theorem dX11_findLeast_122 : decode cX11_findLeast 122 = .ok (.iload_n 3, 1) := by decide +kernel
theorem dX11_findLeast_123 : decode cX11_findLeast 123 = .ok (.istore_n 3, 1) := by decide +kernel
theorem dX11_findLeast_124 : decode cX11_findLeast 124 = .ok (.iinc 4 1, 3) := by decide +kernel
theorem dX11_findLeast_127 : decode cX11_findLeast 127 = .ok (.goto (-92), 3) := by decide +kernel
theorem dX11_findLeast_130 : decode cX11_findLeast 130 = .ok (.aload_n 0, 1) := by decide +kernel
theorem dX11_findLeast_131 : decode cX11_findLeast 131 = .ok (.getfield 113, 3) := by decide +kernel
theorem dX11_findLeast_134 : decode cX11_findLeast 134 = .ok (.bipush 9, 2) := by decide +kernel
theorem dX11_findLeast_136 : decode cX11_findLeast 136 = .ok (.iload_n 1, 1) := by decide +kernel
theorem dX11_findLeast_137 : decode cX11_findLeast 137 = .ok (.imul, 1) := by decide +kernel
theorem dX11_findLeast_138 : decode cX11_findLeast 138 = .ok (.iload_n 2, 1) := by decide +kernel
theorem dX11_findLeast_139 : decode cX11_findLeast 139 = .ok (.iadd, 1) := by decide +kernel
theorem dX11_findLeast_140 : decode cX11_findLeast 140 = .ok (.iload_n 3, 1) := by decide +kernel
theorem dX11_findLeast_141 : decode cX11_findLeast 141 = .ok (.iastore, 1) := by decide +kernel
theorem dX11_findLeast_142 : decode cX11_findLeast 142 = .ok (.iinc 2 1, 3) := by decide +kernel
theorem dX11_findLeast_145 : decode cX11_findLeast 145 = .ok (.goto (-131), 3) := by decide +kernel
theorem dX11_findLeast_148 : decode cX11_findLeast 148 = .ok (.iinc 1 1, 3) := by decide +kernel
theorem dX11_findLeast_151 : decode cX11_findLeast 151 = .ok (.goto (-149), 3) := by decide +kernel
theorem dX11_findLeast_154 : decode cX11_findLeast 154 = .ok (.return_, 1) := by decide +kernel
theorem dX11_order_0 : decode cX11_order 0 = .ok (.iload_n 1, 1) := by decide +kernel
theorem dX11_order_1 : decode cX11_order 1 = .ok (.ifCond .le 13, 3) := by decide +kernel
theorem dX11_order_4 : decode cX11_order 4 = .ok (.iload_n 1, 1) := by decide +kernel
theorem dX11_order_5 : decode cX11_order 5 = .ok (.iconst 1, 1) := by decide +kernel
theorem dX11_order_6 : decode cX11_order 6 = .ok (.aload_n 0, 1) := by decide +kernel
theorem dX11_order_7 : decode cX11_order 7 = .ok (.getfield 137, 3) := by decide +kernel
theorem dX11_order_10 : decode cX11_order 10 = .ok (.ishl, 1) := by decide +kernel
theorem dX11_order_11 : decode cX11_order 11 = .ok (.if_icmp .lt 6, 3) := by decide +kernel
theorem dX11_order_14 : decode cX11_order 14 = .ok (.bipush (-2), 2) := by decide +kernel
theorem dX11_order_16 : decode cX11_order 16 = .ok (.ireturn, 1) := by decide +kernel
theorem dX11_order_17 : decode cX11_order 17 = .ok (.aload_n 0, 1) := by decide +kernel
theorem dX11_order_18 : decode cX11_order 18 = .ok (.invokevirtual 287, 3) := by decide +kernel
theorem dX11_order_21 : decode cX11_order 21 = .ok (.aload_n 0, 1) := by decide +kernel
theorem dX11_order_22 : decode cX11_order 22 = .ok (.invokevirtual 293, 3) := by decide +kernel
theorem dX11_order_25 : decode cX11_order 25 = .ok (.iconst (-1), 1) := by decide +kernel
theorem dX11_order_26 : decode cX11_order 26 = .ok (.istore_n 2, 1) := by decide +kernel
theorem dX11_order_27 : decode cX11_order 27 = .ok (.iconst (-1), 1) := by decide +kernel
theorem dX11_order_28 : decode cX11_order 28 = .ok (.istore_n 3, 1) := by decide +kernel
theorem dX11_order_29 : decode cX11_order 29 = .ok (.iconst 0, 1) := by decide +kernel
theorem dX11_order_30 : decode cX11_order 30 = .ok (.istore 4, 2) := by decide +kernel
theorem dX11_order_32 : decode cX11_order 32 = .ok (.iload 4, 2) := by decide +kernel
theorem dX11_order_34 : decode cX11_order 34 = .ok (.aload_n 0, 1) := by decide +kernel
theorem dX11_order_35 : decode cX11_order 35 = .ok (.getfield 137, 3) := by decide +kernel
theorem dX11_order_38 : decode cX11_order 38 = .ok (.if_icmp .ge 65, 3) := by decide +kernel
theorem dX11_order_41 : decode cX11_order 41 = .ok (.iload_n 1, 1) := by decide +kernel
theorem dX11_order_42 : decode cX11_order 42 = .ok (.iload 4, 2) := by decide +kernel
theorem dX11_order_44 : decode cX11_order 44 = .ok (.ishr, 1) := by decide +kernel
theorem dX11_order_45 : decode cX11_order 45 = .ok (.iconst 1, 1) := by decide +kernel
theorem dX11_order_46 : decode cX11_order 46 = .ok (.iand, 1) := by decide +kernel
theorem dX11_order_47 : decode cX11_order 47 = .ok (.iconst 1, 1) := by decide +kernel
theorem dX11_order_48 : decode cX11_order 48 = .ok (.if_icmp .ne 25, 3) := by decide +kernel
theorem dX11_order_51 : decode cX11_order 51 = .ok (.aload_n 0, 1) := by decide +kernel
theorem dX11_order_52 : decode cX11_order 52 = .ok (.getfield 113, 3) := by decide +kernel
theorem dX11_order_55 : decode cX11_order 55 = .ok (.bipush 9, 2) := by decide +kernel
theorem dX11_order_57 : decode cX11_order 57 = .ok (.iload_n 1, 1) := by decide +kernel
theorem dX11_order_58 : decode cX11_order 58 = .ok (.iconst 1, 1) := by decide +kernel
theorem dX11_order_59 : decode cX11_order 59 = .ok (.iload 4, 2) := by decide +kernel
theorem dX11_order_61 : decode cX11_order 61 = .ok (.ishl, 1) := by decide +kernel
theorem dX11_order_62 : decode cX11_order 62 = .ok (.iconst (-1), 1) := by decide +kernel
theorem dX11_order_63 : decode cX11_order 63 = .ok (.ixor, 1) := by decide +kernel
theorem dX11_order_64 : decode cX11_order 64 = .ok (.iand, 1) := by decide +kernel
theorem dX11_order_65 : decode cX11_order 65 = .ok (.imul, 1) := by decide +kernel
theorem dX11_order_66 : decode cX11_order 66 = .ok (.iload 4, 2) := by decide +kernel
theorem dX11_order_68 : decode cX11_order 68 = .ok (.iadd, 1) := by decide +kernel
theorem dX11_order_69 : decode cX11_order 69 = .ok (.iaload, 1) := by decide +kernel
theorem dX11_order_70 : decode cX11_order 70 = .ok (.goto 4, 3) := by decide +kernel
theorem dX11_order_73 : decode cX11_order 73 = .ok (.iconst (-1), 1) := by decide +kernel
theorem dX11_order_74 : decode cX11_order 74 = .ok (.istore 5, 2) := by decide +kernel
theorem dX11_order_76 : decode cX11_order 76 = .ok (.iload 5, 2) := by decide +kernel
theorem dX11_order_78 : decode cX11_order 78 = .ok (.ifCond .lt 19, 3) := by decide +kernel
theorem dX11_order_81 : decode cX11_order 81 = .ok (.iload_n 3, 1) := by decide +kernel
theorem dX11_order_82 : decode cX11_order 82 = .ok (.ifCond .lt 9, 3) := by decide +kernel
theorem dX11_order_85 : decode cX11_order 85 = .ok (.iload 5, 2) := by decide +kernel
theorem dX11_order_87 : decode cX11_order 87 = .ok (.iload_n 3, 1) := by decide +kernel
theorem dX11_order_88 : decode cX11_order 88 = .ok (.if_icmp .ge 9, 3) := by decide +kernel
theorem dX11_order_91 : decode cX11_order 91 = .ok (.iload 5, 2) := by decide +kernel
theorem dX11_order_93 : decode cX11_order 93 = .ok (.istore_n 3, 1) := by decide +kernel
theorem dX11_order_94 : decode cX11_order 94 = .ok (.iload 4, 2) := by decide +kernel
theorem dX11_order_96 : decode cX11_order 96 = .ok (.istore_n 2, 1) := by decide +kernel
theorem dX11_order_97 : decode cX11_order 97 = .ok (.iinc 4 1, 3) := by decide +kernel
theorem dX11_order_100 : decode cX11_order 100 = .ok (.goto (-68), 3) := by decide +kernel
theorem dX11_order_103 : decode cX11_order 103 = .ok (.iload_n 2, 1) := by decide +kernel
theorem dX11_order_104 : decode cX11_order 104 = .ok (.iconst (-1), 1) := by decide +kernel
theorem dX11_order_105 : decode cX11_order 105 = .ok (.if_icmp .ne 6, 3) := by decide +kernel
theorem dX11_order_108 : decode cX11_order 108 = .ok (.bipush (-3), 2) := by decide +kernel
theorem dX11_order_110 : decode cX11_order 110 = .ok (.ireturn, 1) := by decide +kernel
theorem dX11_order_111 : decode cX11_order 111 = .ok (.iload_n 1, 1) := by decide +kernel
theorem dX11_order_112 : decode cX11_order 112 = .ok (.iconst 1, 1) := by decide +kernel
theorem dX11_order_113 : decode cX11_order 113 = .ok (.iload_n 2, 1) := by decide +kernel
theorem dX11_order_114 : decode cX11_order 114 = .ok (.ishl, 1) := by decide +kernel
theorem dX11_order_115 : decode cX11_order 115 = .ok (.iconst (-1), 1) := by decide +kernel
theorem dX11_order_116 : decode cX11_order 116 = .ok (.ixor, 1) := by decide +kernel
theorem dX11_order_117 : decode cX11_order 117 = .ok (.iand, 1) := by decide +kernel
theorem dX11_order_118 : decode cX11_order 118 = .ok (.istore 4, 2) := by decide +kernel
theorem dX11_order_120 : decode cX11_order 120 = .ok (.aload_n 0, 1) := by decide +kernel
theorem dX11_order_121 : decode cX11_order 121 = .ok (.getfield 116, 3) := by decide +kernel
theorem dX11_order_124 : decode cX11_order 124 = .ok (.iconst 0, 1) := by decide +kernel
theorem dX11_order_125 : decode cX11_order 125 = .ok (.iload_n 2, 1) := by decide +kernel
theorem dX11_order_126 : decode cX11_order 126 = .ok (.iastore, 1) := by decide +kernel
theorem dX11_order_127 : decode cX11_order 127 = .ok (.aload_n 0, 1) := by decide +kernel
theorem dX11_order_128 : decode cX11_order 128 = .ok (.iconst 1, 1) := by decide +kernel
theorem dX11_order_129 : decode cX11_order 129 = .ok (.putfield 296, 3) := by decide +kernel
theorem dX11_order_132 : decode cX11_order 132 = .ok (.iload 4, 2) := by decide +kernel
theorem dX11_order_134 : decode cX11_order 134 = .ok (.ifCond .eq 163, 3) := by decide +kernel
theorem dX11_order_137 : decode cX11_order 137 = .ok (.aload_n 0, 1) := by decide +kernel
theorem dX11_order_138 : decode cX11_order 138 = .ok (.getfield 116, 3) := by decide +kernel
theorem dX11_order_141 : decode cX11_order 141 = .ok (.aload_n 0, 1) := by decide +kernel
theorem dX11_order_142 : decode cX11_order 142 = .ok (.getfield 296, 3) := by decide +kernel
theorem dX11_order_145 : decode cX11_order 145 = .ok (.iconst 1, 1) := by decide +kernel
theorem dX11_order_146 : decode cX11_order 146 = .ok (.isub, 1) := by decide +kernel
theorem dX11_order_147 : decode cX11_order 147 = .ok (.iaload, 1) := by decide +kernel
theorem dX11_order_148 : decode cX11_order 148 = .ok (.istore 5, 2) := by decide +kernel
theorem dX11_order_150 : decode cX11_order 150 = .ok (.iconst (-1), 1) := by decide +kernel
theorem dX11_order_151 : decode cX11_order 151 = .ok (.istore 6, 2) := by decide +kernel
theorem dX11_order_153 : decode cX11_order 153 = .ok (.aload_n 0, 1) := by decide +kernel
theorem dX11_order_154 : decode cX11_order 154 = .ok (.getfield 137, 3) := by decide +kernel
theorem dX11_order_157 : decode cX11_order 157 = .ok (.iconst 1, 1) := by decide +kernel
theorem dX11_order_158 : decode cX11_order 158 = .ok (.isub, 1) := by decide +kernel
theorem dX11_order_159 : decode cX11_order 159 = .ok (.istore 7, 2) := by decide +kernel
theorem dX11_order_161 : decode cX11_order 161 = .ok (.iload 7, 2) := by decide +kernel
theorem dX11_order_163 : decode cX11_order 163 = .ok (.ifCond .lt 99, 3) := by decide +kernel
theorem dX11_order_166 : decode cX11_order 166 = .ok (.iload 4, 2) := by decide +kernel
theorem dX11_order_168 : decode cX11_order 168 = .ok (.iload 7, 2) := by decide +kernel
theorem dX11_order_170 : decode cX11_order 170 = .ok (.ishr, 1) := by decide +kernel
theorem dX11_order_171 : decode cX11_order 171 = .ok (.iconst 1, 1) := by decide +kernel
theorem dX11_order_172 : decode cX11_order 172 = .ok (.iand, 1) := by decide +kernel
theorem dX11_order_173 : decode cX11_order 173 = .ok (.iconst 1, 1) := by decide +kernel
theorem dX11_order_174 : decode cX11_order 174 = .ok (.if_icmp .ne 82, 3) := by decide +kernel
theorem dX11_order_177 : decode cX11_order 177 = .ok (.aload_n 0, 1) := by decide +kernel
theorem dX11_order_178 : decode cX11_order 178 = .ok (.iload 5, 2) := by decide +kernel
theorem dX11_order_180 : decode cX11_order 180 = .ok (.iload 7, 2) := by decide +kernel
theorem dX11_order_182 : decode cX11_order 182 = .ok (.invokevirtual 290, 3) := by decide +kernel
theorem dX11_order_185 : decode cX11_order 185 = .ok (.ifCond .eq 71, 3) := by decide +kernel
theorem dX11_order_188 : decode cX11_order 188 = .ok (.aload_n 0, 1) := by decide +kernel
theorem dX11_order_189 : decode cX11_order 189 = .ok (.getfield 113, 3) := by decide +kernel
theorem dX11_order_192 : decode cX11_order 192 = .ok (.bipush 9, 2) := by decide +kernel
theorem dX11_order_194 : decode cX11_order 194 = .ok (.iload 4, 2) := by decide +kernel
theorem dX11_order_196 : decode cX11_order 196 = .ok (.iconst 1, 1) := by decide +kernel
theorem dX11_order_197 : decode cX11_order 197 = .ok (.iload 7, 2) := by decide +kernel
theorem dX11_order_199 : decode cX11_order 199 = .ok (.ishl, 1) := by decide +kernel
theorem dX11_order_200 : decode cX11_order 200 = .ok (.iconst (-1), 1) := by decide +kernel
theorem dX11_order_201 : decode cX11_order 201 = .ok (.ixor, 1) := by decide +kernel
theorem dX11_order_202 : decode cX11_order 202 = .ok (.iand, 1) := by decide +kernel
theorem dX11_order_203 : decode cX11_order 203 = .ok (.imul, 1) := by decide +kernel
theorem dX11_order_204 : decode cX11_order 204 = .ok (.iload 7, 2) := by decide +kernel
theorem dX11_order_206 : decode cX11_order 206 = .ok (.iadd, 1) := by decide +kernel
theorem dX11_order_207 : decode cX11_order 207 = .ok (.iaload, 1) := by decide +kernel
theorem dX11_order_208 : decode cX11_order 208 = .ok (.istore 8, 2) := by decide +kernel
theorem dX11_order_210 : decode cX11_order 210 = .ok (.iload 8, 2) := by decide +kernel
theorem dX11_order_212 : decode cX11_order 212 = .ok (.ifCond .lt 40, 3) := by decide +kernel
theorem dX11_order_215 : decode cX11_order 215 = .ok (.iload 8, 2) := by decide +kernel
theorem dX11_order_217 : decode cX11_order 217 = .ok (.aload_n 0, 1) := by decide +kernel
theorem dX11_order_218 : decode cX11_order 218 = .ok (.getfield 110, 3) := by decide +kernel
theorem dX11_order_221 : decode cX11_order 221 = .ok (.bipush 9, 2) := by decide +kernel
theorem dX11_order_223 : decode cX11_order 223 = .ok (.iload 5, 2) := by decide +kernel
theorem dX11_order_225 : decode cX11_order 225 = .ok (.imul, 1) := by decide +kernel
theorem dX11_order_226 : decode cX11_order 226 = .ok (.iload 7, 2) := by decide +kernel
theorem dX11_order_228 : decode cX11_order 228 = .ok (.iadd, 1) := by decide +kernel
theorem dX11_order_229 : decode cX11_order 229 = .ok (.iaload, 1) := by decide +kernel
theorem dX11_order_230 : decode cX11_order 230 = .ok (.iadd, 1) := by decide +kernel
theorem dX11_order_231 : decode cX11_order 231 = .ok (.aload_n 0, 1) := by decide +kernel
theorem dX11_order_232 : decode cX11_order 232 = .ok (.getfield 113, 3) := by decide +kernel
theorem dX11_order_235 : decode cX11_order 235 = .ok (.bipush 9, 2) := by decide +kernel
theorem dX11_order_237 : decode cX11_order 237 = .ok (.iload 4, 2) := by decide +kernel
theorem dX11_order_239 : decode cX11_order 239 = .ok (.imul, 1) := by decide +kernel
theorem dX11_order_240 : decode cX11_order 240 = .ok (.iload 5, 2) := by decide +kernel
theorem dX11_order_242 : decode cX11_order 242 = .ok (.iadd, 1) := by decide +kernel
theorem dX11_order_243 : decode cX11_order 243 = .ok (.iaload, 1) := by decide +kernel
theorem dX11_order_244 : decode cX11_order 244 = .ok (.if_icmp .ne 8, 3) := by decide +kernel
theorem dX11_order_247 : decode cX11_order 247 = .ok (.iload 7, 2) := by decide +kernel
theorem dX11_order_249 : decode cX11_order 249 = .ok (.goto 5, 3) := by decide +kernel
theorem dX11_order_252 : decode cX11_order 252 = .ok (.iload 6, 2) := by decide +kernel
theorem dX11_order_254 : decode cX11_order 254 = .ok (.istore 6, 2) := by decide +kernel
theorem dX11_order_256 : decode cX11_order 256 = .ok (.iinc 7 (-1), 3) := by decide +kernel
theorem dX11_order_259 : decode cX11_order 259 = .ok (.goto (-98), 3) := by decide +kernel
theorem dX11_order_262 : decode cX11_order 262 = .ok (.iload 4, 2) := by decide +kernel
theorem dX11_order_264 : decode cX11_order 264 = .ok (.iconst 1, 1) := by decide +kernel
theorem dX11_order_265 : decode cX11_order 265 = .ok (.iload 6, 2) := by decide +kernel
theorem dX11_order_267 : decode cX11_order 267 = .ok (.ishl, 1) := by decide +kernel
theorem dX11_order_268 : decode cX11_order 268 = .ok (.iconst (-1), 1) := by decide +kernel
theorem dX11_order_269 : decode cX11_order 269 = .ok (.ixor, 1) := by decide +kernel
theorem dX11_order_270 : decode cX11_order 270 = .ok (.iand, 1) := by decide +kernel
theorem dX11_order_271 : decode cX11_order 271 = .ok (.istore 4, 2) := by decide +kernel
theorem dX11_order_273 : decode cX11_order 273 = .ok (.aload_n 0, 1) := by decide +kernel
theorem dX11_order_274 : decode cX11_order 274 = .ok (.getfield 116, 3) := by decide +kernel
theorem dX11_order_277 : decode cX11_order 277 = .ok (.aload_n 0, 1) := by decide +kernel
theorem dX11_order_278 : decode cX11_order 278 = .ok (.getfield 296, 3) := by decide +kernel
theorem dX11_order_281 : decode cX11_order 281 = .ok (.iload 6, 2) := by decide +kernel
theorem dX11_order_283 : decode cX11_order 283 = .ok (.iastore, 1) := by decide +kernel
theorem dX11_order_284 : decode cX11_order 284 = .ok (.aload_n 0, 1) := by decide +kernel
theorem dX11_order_285 : decode cX11_order 285 = .ok (.dup, 1) := by decide +kernel
theorem dX11_order_286 : decode cX11_order 286 = .ok (.getfield 296, 3) := by decide +kernel
theorem dX11_order_289 : decode cX11_order 289 = .ok (.iconst 1, 1) := by decide +kernel
theorem dX11_order_290 : decode cX11_order 290 = .ok (.iadd, 1) := by decide +kernel
theorem dX11_order_291 : decode cX11_order 291 = .ok (.putfield 296, 3) := by decide +kernel
theorem dX11_order_294 : decode cX11_order 294 = .ok (.goto (-162), 3) := by decide +kernel
theorem dX11_order_297 : decode cX11_order 297 = .ok (.iload_n 3, 1) := by decide +kernel
theorem dX11_order_298 : decode cX11_order 298 = .ok (.ireturn, 1) := by decide +kernel
theorem dX11_ordered_0 : decode cX11_ordered 0 = .ok (.iload_n 1, 1) := by decide +kernel
theorem dX11_ordered_1 : decode cX11_ordered 1 = .ok (.ifCond .lt 20, 3) := by decide +kernel
theorem dX11_ordered_4 : decode cX11_ordered 4 = .ok (.iload_n 1, 1) := by decide +kernel
theorem dX11_ordered_5 : decode cX11_ordered 5 = .ok (.aload_n 0, 1) := by decide +kernel
theorem dX11_ordered_6 : decode cX11_ordered 6 = .ok (.getfield 296, 3) := by decide +kernel
theorem dX11_ordered_9 : decode cX11_ordered 9 = .ok (.if_icmp .ge 12, 3) := by decide +kernel
theorem dX11_ordered_12 : decode cX11_ordered 12 = .ok (.aload_n 0, 1) := by decide +kernel
theorem dX11_ordered_13 : decode cX11_ordered 13 = .ok (.getfield 116, 3) := by decide +kernel
theorem dX11_ordered_16 : decode cX11_ordered 16 = .ok (.iload_n 1, 1) := by decide +kernel
theorem dX11_ordered_17 : decode cX11_ordered 17 = .ok (.iaload, 1) := by decide +kernel
theorem dX11_ordered_18 : decode cX11_ordered 18 = .ok (.goto 4, 3) := by decide +kernel
theorem dX11_ordered_21 : decode cX11_ordered 21 = .ok (.iconst (-1), 1) := by decide +kernel
theorem dX11_ordered_22 : decode cX11_ordered 22 = .ok (.ireturn, 1) := by decide +kernel
theorem dX11_rehearse_0 : decode cX11_rehearse 0 = .ok (.iload_n 1, 1) := by decide +kernel
theorem dX11_rehearse_1 : decode cX11_rehearse 1 = .ok (.i2l, 1) := by decide +kernel
theorem dX11_rehearse_2 : decode cX11_rehearse 2 = .ok (.lconst 0, 1) := by decide +kernel
theorem dX11_rehearse_3 : decode cX11_rehearse 3 = .ok (.ldc2_w 156, 3) := by decide +kernel
theorem dX11_rehearse_6 : decode cX11_rehearse 6 = .ok (.invokestatic 145, 3) := by decide +kernel
theorem dX11_rehearse_9 : decode cX11_rehearse 9 = .ok (.ifCond .eq 23, 3) := by decide +kernel
theorem dX11_rehearse_12 : decode cX11_rehearse 12 = .ok (.iload_n 2, 1) := by decide +kernel
theorem dX11_rehearse_13 : decode cX11_rehearse 13 = .ok (.i2l, 1) := by decide +kernel
theorem dX11_rehearse_14 : decode cX11_rehearse 14 = .ok (.lconst 0, 1) := by decide +kernel
theorem dX11_rehearse_15 : decode cX11_rehearse 15 = .ok (.ldc2_w 299, 3) := by decide +kernel
theorem dX11_rehearse_18 : decode cX11_rehearse 18 = .ok (.invokestatic 145, 3) := by decide +kernel
theorem dX11_rehearse_21 : decode cX11_rehearse 21 = .ok (.ifCond .eq 11, 3) := by decide +kernel
theorem dX11_rehearse_24 : decode cX11_rehearse 24 = .ok (.aload_n 0, 1) := by decide +kernel
theorem dX11_rehearse_25 : decode cX11_rehearse 25 = .ok (.iload_n 3, 1) := by decide +kernel
theorem dX11_rehearse_26 : decode cX11_rehearse 26 = .ok (.invokevirtual 255, 3) := by decide +kernel
theorem dX11_rehearse_29 : decode cX11_rehearse 29 = .ok (.ifCond .ne 5, 3) := by decide +kernel
theorem dX11_rehearse_32 : decode cX11_rehearse 32 = .ok (.iconst (-1), 1) := by decide +kernel
theorem dX11_rehearse_33 : decode cX11_rehearse 33 = .ok (.ireturn, 1) := by decide +kernel
theorem dX11_rehearse_34 : decode cX11_rehearse 34 = .ok (.iload 4, 2) := by decide +kernel
theorem dX11_rehearse_36 : decode cX11_rehearse 36 = .ok (.ifCond .le 14, 3) := by decide +kernel
theorem dX11_rehearse_39 : decode cX11_rehearse 39 = .ok (.iload 4, 2) := by decide +kernel
theorem dX11_rehearse_41 : decode cX11_rehearse 41 = .ok (.iconst 1, 1) := by decide +kernel
theorem dX11_rehearse_42 : decode cX11_rehearse 42 = .ok (.aload_n 0, 1) := by decide +kernel
theorem dX11_rehearse_43 : decode cX11_rehearse 43 = .ok (.getfield 134, 3) := by decide +kernel
theorem dX11_rehearse_46 : decode cX11_rehearse 46 = .ok (.ishl, 1) := by decide +kernel
theorem dX11_rehearse_47 : decode cX11_rehearse 47 = .ok (.if_icmp .lt 6, 3) := by decide +kernel
theorem dX11_rehearse_50 : decode cX11_rehearse 50 = .ok (.bipush (-2), 2) := by decide +kernel
theorem dX11_rehearse_52 : decode cX11_rehearse 52 = .ok (.ireturn, 1) := by decide +kernel
theorem dX11_rehearse_53 : decode cX11_rehearse 53 = .ok (.aload_n 0, 1) := by decide +kernel
theorem dX11_rehearse_54 : decode cX11_rehearse 54 = .ok (.getfield 119, 3) := by decide +kernel
theorem dX11_rehearse_57 : decode cX11_rehearse 57 = .ok (.bipush 24, 2) := by decide +kernel
theorem dX11_rehearse_59 : decode cX11_rehearse 59 = .ok (.iload_n 1, 1) := by decide +kernel
theorem dX11_rehearse_60 : decode cX11_rehearse 60 = .ok (.imul, 1) := by decide +kernel
theorem dX11_rehearse_61 : decode cX11_rehearse 61 = .ok (.iload_n 2, 1) := by decide +kernel
theorem dX11_rehearse_62 : decode cX11_rehearse 62 = .ok (.iadd, 1) := by decide +kernel
theorem dX11_rehearse_63 : decode cX11_rehearse 63 = .ok (.iaload, 1) := by decide +kernel
theorem dX11_rehearse_64 : decode cX11_rehearse 64 = .ok (.ifCond .ne 7, 3) := by decide +kernel
theorem dX11_rehearse_67 : decode cX11_rehearse 67 = .ok (.iconst 1, 1) := by decide +kernel
theorem dX11_rehearse_68 : decode cX11_rehearse 68 = .ok (.goto 4, 3) := by decide +kernel
theorem dX11_rehearse_71 : decode cX11_rehearse 71 = .ok (.iconst 0, 1) := by decide +kernel
theorem dX11_rehearse_72 : decode cX11_rehearse 72 = .ok (.istore 5, 2) := by decide +kernel
theorem dX11_rehearse_74 : decode cX11_rehearse 74 = .ok (.iconst 0, 1) := by decide +kernel
theorem dX11_rehearse_75 : decode cX11_rehearse 75 = .ok (.istore 6, 2) := by decide +kernel
theorem dX11_rehearse_77 : decode cX11_rehearse 77 = .ok (.iload 6, 2) := by decide +kernel
theorem dX11_rehearse_79 : decode cX11_rehearse 79 = .ok (.iconst 4, 1) := by decide +kernel
theorem dX11_rehearse_80 : decode cX11_rehearse 80 = .ok (.if_icmp .ge 39, 3) := by decide +kernel
theorem dX11_rehearse_83 : decode cX11_rehearse 83 = .ok (.iload 5, 2) := by decide +kernel
theorem dX11_rehearse_85 : decode cX11_rehearse 85 = .ok (.ifCond .eq 25, 3) := by decide +kernel
theorem dX11_rehearse_88 : decode cX11_rehearse 88 = .ok (.aload_n 0, 1) := by decide +kernel
theorem dX11_rehearse_89 : decode cX11_rehearse 89 = .ok (.getfield 122, 3) := by decide +kernel
theorem dX11_rehearse_92 : decode cX11_rehearse 92 = .ok (.bipush 24, 2) := by decide +kernel
theorem dX11_rehearse_94 : decode cX11_rehearse 94 = .ok (.iload 6, 2) := by decide +kernel
theorem dX11_rehearse_96 : decode cX11_rehearse 96 = .ok (.imul, 1) := by decide +kernel
theorem dX11_rehearse_97 : decode cX11_rehearse 97 = .ok (.iload_n 2, 1) := by decide +kernel
theorem dX11_rehearse_98 : decode cX11_rehearse 98 = .ok (.iadd, 1) := by decide +kernel
theorem dX11_rehearse_99 : decode cX11_rehearse 99 = .ok (.iaload, 1) := by decide +kernel
theorem dX11_rehearse_100 : decode cX11_rehearse 100 = .ok (.iload 4, 2) := by decide +kernel
theorem dX11_rehearse_102 : decode cX11_rehearse 102 = .ok (.iand, 1) := by decide +kernel
theorem dX11_rehearse_103 : decode cX11_rehearse 103 = .ok (.ifCond .ne 7, 3) := by decide +kernel
theorem dX11_rehearse_106 : decode cX11_rehearse 106 = .ok (.iconst 1, 1) := by decide +kernel
theorem dX11_rehearse_107 : decode cX11_rehearse 107 = .ok (.goto 4, 3) := by decide +kernel
theorem dX11_rehearse_110 : decode cX11_rehearse 110 = .ok (.iconst 0, 1) := by decide +kernel
theorem dX11_rehearse_111 : decode cX11_rehearse 111 = .ok (.istore 5, 2) := by decide +kernel
theorem dX11_rehearse_113 : decode cX11_rehearse 113 = .ok (.iinc 6 1, 3) := by decide +kernel
theorem dX11_rehearse_116 : decode cX11_rehearse 116 = .ok (.goto (-39), 3) := by decide +kernel
theorem dX11_rehearse_119 : decode cX11_rehearse 119 = .ok (.iconst 0, 1) := by decide +kernel
theorem dX11_rehearse_120 : decode cX11_rehearse 120 = .ok (.istore 6, 2) := by decide +kernel
theorem dX11_rehearse_122 : decode cX11_rehearse 122 = .ok (.iload 6, 2) := by decide +kernel
theorem dX11_rehearse_124 : decode cX11_rehearse 124 = .ok (.aload_n 0, 1) := by decide +kernel
theorem dX11_rehearse_125 : decode cX11_rehearse 125 = .ok (.getfield 134, 3) := by decide +kernel
theorem dX11_rehearse_128 : decode cX11_rehearse 128 = .ok (.if_icmp .ge 41, 3) := by decide +kernel
theorem dX11_rehearse_131 : decode cX11_rehearse 131 = .ok (.iload 5, 2) := by decide +kernel
theorem dX11_rehearse_133 : decode cX11_rehearse 133 = .ok (.ifCond .eq 27, 3) := by decide +kernel
theorem dX11_rehearse_136 : decode cX11_rehearse 136 = .ok (.iload 4, 2) := by decide +kernel
theorem dX11_rehearse_138 : decode cX11_rehearse 138 = .ok (.iload 6, 2) := by decide +kernel
theorem dX11_rehearse_140 : decode cX11_rehearse 140 = .ok (.ishr, 1) := by decide +kernel
theorem dX11_rehearse_141 : decode cX11_rehearse 141 = .ok (.iconst 1, 1) := by decide +kernel
theorem dX11_rehearse_142 : decode cX11_rehearse 142 = .ok (.iand, 1) := by decide +kernel
theorem dX11_rehearse_143 : decode cX11_rehearse 143 = .ok (.ifCond .eq 13, 3) := by decide +kernel
theorem dX11_rehearse_146 : decode cX11_rehearse 146 = .ok (.aload_n 0, 1) := by decide +kernel
theorem dX11_rehearse_147 : decode cX11_rehearse 147 = .ok (.iload 6, 2) := by decide +kernel
theorem dX11_rehearse_149 : decode cX11_rehearse 149 = .ok (.iload_n 3, 1) := by decide +kernel
theorem dX11_rehearse_150 : decode cX11_rehearse 150 = .ok (.invokevirtual 258, 3) := by decide +kernel
theorem dX11_rehearse_153 : decode cX11_rehearse 153 = .ok (.ifCond .ne 7, 3) := by decide +kernel
theorem dX11_rehearse_156 : decode cX11_rehearse 156 = .ok (.iconst 1, 1) := by decide +kernel
theorem dX11_rehearse_157 : decode cX11_rehearse 157 = .ok (.goto 4, 3) := by decide +kernel
theorem dX11_rehearse_160 : decode cX11_rehearse 160 = .ok (.iconst 0, 1) := by decide +kernel
theorem dX11_rehearse_161 : decode cX11_rehearse 161 = .ok (.istore 5, 2) := by decide +kernel
theorem dX11_rehearse_163 : decode cX11_rehearse 163 = .ok (.iinc 6 1, 3) := by decide +kernel
theorem dX11_rehearse_166 : decode cX11_rehearse 166 = .ok (.goto (-44), 3) := by decide +kernel
theorem dX11_rehearse_169 : decode cX11_rehearse 169 = .ok (.iload 5, 2) := by decide +kernel
theorem dX11_rehearse_171 : decode cX11_rehearse 171 = .ok (.ifCond .ne 6, 3) := by decide +kernel
theorem dX11_rehearse_174 : decode cX11_rehearse 174 = .ok (.bipush (-3), 2) := by decide +kernel
theorem dX11_rehearse_176 : decode cX11_rehearse 176 = .ok (.ireturn, 1) := by decide +kernel
theorem dX11_rehearse_177 : decode cX11_rehearse 177 = .ok (.aload_n 0, 1) := by decide +kernel
theorem dX11_rehearse_178 : decode cX11_rehearse 178 = .ok (.getfield 119, 3) := by decide +kernel
theorem dX11_rehearse_181 : decode cX11_rehearse 181 = .ok (.bipush 24, 2) := by decide +kernel
theorem dX11_rehearse_183 : decode cX11_rehearse 183 = .ok (.iload_n 1, 1) := by decide +kernel
theorem dX11_rehearse_184 : decode cX11_rehearse 184 = .ok (.imul, 1) := by decide +kernel
theorem dX11_rehearse_185 : decode cX11_rehearse 185 = .ok (.iload_n 2, 1) := by decide +kernel
theorem dX11_rehearse_186 : decode cX11_rehearse 186 = .ok (.iadd, 1) := by decide +kernel
theorem dX11_rehearse_187 : decode cX11_rehearse 187 = .ok (.iload_n 3, 1) := by decide +kernel
theorem dX11_rehearse_188 : decode cX11_rehearse 188 = .ok (.iconst 1, 1) := by decide +kernel
theorem dX11_rehearse_189 : decode cX11_rehearse 189 = .ok (.iadd, 1) := by decide +kernel
theorem dX11_rehearse_190 : decode cX11_rehearse 190 = .ok (.iastore, 1) := by decide +kernel
theorem dX11_rehearse_191 : decode cX11_rehearse 191 = .ok (.aload_n 0, 1) := by decide +kernel
theorem dX11_rehearse_192 : decode cX11_rehearse 192 = .ok (.getfield 122, 3) := by decide +kernel
theorem dX11_rehearse_195 : decode cX11_rehearse 195 = .ok (.bipush 24, 2) := by decide +kernel
theorem dX11_rehearse_197 : decode cX11_rehearse 197 = .ok (.iload_n 1, 1) := by decide +kernel
theorem dX11_rehearse_198 : decode cX11_rehearse 198 = .ok (.imul, 1) := by decide +kernel
theorem dX11_rehearse_199 : decode cX11_rehearse 199 = .ok (.iload_n 2, 1) := by decide +kernel
theorem dX11_rehearse_200 : decode cX11_rehearse 200 = .ok (.iadd, 1) := by decide +kernel
theorem dX11_rehearse_201 : decode cX11_rehearse 201 = .ok (.iload 4, 2) := by decide +kernel
theorem dX11_rehearse_203 : decode cX11_rehearse 203 = .ok (.iastore, 1) := by decide +kernel
theorem dX11_rehearse_204 : decode cX11_rehearse 204 = .ok (.iload 4, 2) := by decide +kernel
theorem dX11_rehearse_206 : decode cX11_rehearse 206 = .ok (.invokestatic 278, 3) := by decide +kernel
theorem dX11_rehearse_209 : decode cX11_rehearse 209 = .ok (.ireturn, 1) := by decide +kernel
theorem dX11_hall_0 : decode cX11_hall 0 = .ok (.iload_n 1, 1) := by decide +kernel
theorem dX11_hall_1 : decode cX11_hall 1 = .ok (.i2l, 1) := by decide +kernel
theorem dX11_hall_2 : decode cX11_hall 2 = .ok (.lconst 0, 1) := by decide +kernel
theorem dX11_hall_3 : decode cX11_hall 3 = .ok (.ldc2_w 156, 3) := by decide +kernel
theorem dX11_hall_6 : decode cX11_hall 6 = .ok (.invokestatic 145, 3) := by decide +kernel
theorem dX11_hall_9 : decode cX11_hall 9 = .ok (.ifCond .eq 31, 3) := by decide +kernel
theorem dX11_hall_12 : decode cX11_hall 12 = .ok (.iload_n 2, 1) := by decide +kernel
theorem dX11_hall_13 : decode cX11_hall 13 = .ok (.i2l, 1) := by decide +kernel
theorem dX11_hall_14 : decode cX11_hall 14 = .ok (.lconst 0, 1) := by decide +kernel
theorem dX11_hall_15 : decode cX11_hall 15 = .ok (.ldc2_w 299, 3) := by decide +kernel
theorem dX11_hall_18 : decode cX11_hall 18 = .ok (.invokestatic 145, 3) := by decide +kernel
theorem dX11_hall_21 : decode cX11_hall 21 = .ok (.ifCond .eq 19, 3) := by decide +kernel
theorem dX11_hall_24 : decode cX11_hall 24 = .ok (.aload_n 0, 1) := by decide +kernel
theorem dX11_hall_25 : decode cX11_hall 25 = .ok (.getfield 119, 3) := by decide +kernel
theorem dX11_hall_28 : decode cX11_hall 28 = .ok (.bipush 24, 2) := by decide +kernel
theorem dX11_hall_30 : decode cX11_hall 30 = .ok (.iload_n 1, 1) := by decide +kernel
theorem dX11_hall_31 : decode cX11_hall 31 = .ok (.imul, 1) := by decide +kernel
theorem dX11_hall_32 : decode cX11_hall 32 = .ok (.iload_n 2, 1) := by decide +kernel
theorem dX11_hall_33 : decode cX11_hall 33 = .ok (.iadd, 1) := by decide +kernel
theorem dX11_hall_34 : decode cX11_hall 34 = .ok (.iaload, 1) := by decide +kernel
theorem dX11_hall_35 : decode cX11_hall 35 = .ok (.iconst 1, 1) := by decide +kernel
theorem dX11_hall_36 : decode cX11_hall 36 = .ok (.isub, 1) := by decide +kernel
theorem dX11_hall_37 : decode cX11_hall 37 = .ok (.goto 4, 3) := by decide +kernel
theorem dX11_hall_40 : decode cX11_hall 40 = .ok (.iconst (-1), 1) := by decide +kernel
theorem dX11_hall_41 : decode cX11_hall 41 = .ok (.ireturn, 1) := by decide +kernel
theorem dX11_whole_0 : decode cX11_whole 0 = .ok (.aload_n 0, 1) := by decide +kernel
theorem dX11_whole_1 : decode cX11_whole 1 = .ok (.iload_n 1, 1) := by decide +kernel
theorem dX11_whole_2 : decode cX11_whole 2 = .ok (.invokevirtual 255, 3) := by decide +kernel
theorem dX11_whole_5 : decode cX11_whole 5 = .ok (.ifCond .ne 5, 3) := by decide +kernel
theorem dX11_whole_8 : decode cX11_whole 8 = .ok (.iconst (-1), 1) := by decide +kernel
theorem dX11_whole_9 : decode cX11_whole 9 = .ok (.ireturn, 1) := by decide +kernel
theorem dX11_whole_10 : decode cX11_whole 10 = .ok (.iconst 0, 1) := by decide +kernel
theorem dX11_whole_11 : decode cX11_whole 11 = .ok (.istore_n 2, 1) := by decide +kernel
theorem dX11_whole_12 : decode cX11_whole 12 = .ok (.iconst 0, 1) := by decide +kernel
theorem dX11_whole_13 : decode cX11_whole 13 = .ok (.istore_n 3, 1) := by decide +kernel
theorem dX11_whole_14 : decode cX11_whole 14 = .ok (.iload_n 3, 1) := by decide +kernel
theorem dX11_whole_15 : decode cX11_whole 15 = .ok (.bipush 96, 2) := by decide +kernel
theorem dX11_whole_17 : decode cX11_whole 17 = .ok (.if_icmp .ge 34, 3) := by decide +kernel
theorem dX11_whole_20 : decode cX11_whole 20 = .ok (.iload_n 2, 1) := by decide +kernel
theorem dX11_whole_21 : decode cX11_whole 21 = .ok (.aload_n 0, 1) := by decide +kernel
theorem dX11_whole_22 : decode cX11_whole 22 = .ok (.getfield 119, 3) := by decide +kernel
theorem dX11_whole_25 : decode cX11_whole 25 = .ok (.iload_n 3, 1) := by decide +kernel
theorem dX11_whole_26 : decode cX11_whole 26 = .ok (.iaload, 1) := by decide +kernel
theorem dX11_whole_27 : decode cX11_whole 27 = .ok (.iload_n 1, 1) := by decide +kernel
theorem dX11_whole_28 : decode cX11_whole 28 = .ok (.iconst 1, 1) := by decide +kernel
theorem dX11_whole_29 : decode cX11_whole 29 = .ok (.iadd, 1) := by decide +kernel
theorem dX11_whole_30 : decode cX11_whole 30 = .ok (.if_icmp .ne 12, 3) := by decide +kernel
theorem dX11_whole_33 : decode cX11_whole 33 = .ok (.aload_n 0, 1) := by decide +kernel
theorem dX11_whole_34 : decode cX11_whole 34 = .ok (.getfield 122, 3) := by decide +kernel
theorem dX11_whole_37 : decode cX11_whole 37 = .ok (.iload_n 3, 1) := by decide +kernel
theorem dX11_whole_38 : decode cX11_whole 38 = .ok (.iaload, 1) := by decide +kernel
theorem dX11_whole_39 : decode cX11_whole 39 = .ok (.goto 4, 3) := by decide +kernel
theorem dX11_whole_42 : decode cX11_whole 42 = .ok (.iconst 0, 1) := by decide +kernel
theorem dX11_whole_43 : decode cX11_whole 43 = .ok (.ior, 1) := by decide +kernel
theorem dX11_whole_44 : decode cX11_whole 44 = .ok (.istore_n 2, 1) := by decide +kernel
theorem dX11_whole_45 : decode cX11_whole 45 = .ok (.iinc 3 1, 3) := by decide +kernel
theorem dX11_whole_48 : decode cX11_whole 48 = .ok (.goto (-34), 3) := by decide +kernel
theorem dX11_whole_51 : decode cX11_whole 51 = .ok (.iconst 0, 1) := by decide +kernel
theorem dX11_whole_52 : decode cX11_whole 52 = .ok (.istore_n 3, 1) := by decide +kernel
theorem dX11_whole_53 : decode cX11_whole 53 = .ok (.iconst 1, 1) := by decide +kernel
theorem dX11_whole_54 : decode cX11_whole 54 = .ok (.istore 4, 2) := by decide +kernel
theorem dX11_whole_56 : decode cX11_whole 56 = .ok (.iconst 0, 1) := by decide +kernel
theorem dX11_whole_57 : decode cX11_whole 57 = .ok (.istore 5, 2) := by decide +kernel
theorem dX11_whole_59 : decode cX11_whole 59 = .ok (.iload 5, 2) := by decide +kernel
theorem dX11_whole_61 : decode cX11_whole 61 = .ok (.aload_n 0, 1) := by decide +kernel
theorem dX11_whole_62 : decode cX11_whole 62 = .ok (.getfield 134, 3) := by decide +kernel
theorem dX11_whole_65 : decode cX11_whole 65 = .ok (.if_icmp .ge 68, 3) := by decide +kernel
theorem dX11_whole_68 : decode cX11_whole 68 = .ok (.aload_n 0, 1) := by decide +kernel
theorem dX11_whole_69 : decode cX11_whole 69 = .ok (.iload 5, 2) := by decide +kernel
theorem dX11_whole_71 : decode cX11_whole 71 = .ok (.iload_n 1, 1) := by decide +kernel
theorem dX11_whole_72 : decode cX11_whole 72 = .ok (.invokevirtual 258, 3) := by decide +kernel
theorem dX11_whole_75 : decode cX11_whole 75 = .ok (.ifCond .ne 7, 3) := by decide +kernel
theorem dX11_whole_78 : decode cX11_whole 78 = .ok (.iconst 1, 1) := by decide +kernel
theorem dX11_whole_79 : decode cX11_whole 79 = .ok (.goto 4, 3) := by decide +kernel
theorem dX11_whole_82 : decode cX11_whole 82 = .ok (.iconst 0, 1) := by decide +kernel
theorem dX11_whole_83 : decode cX11_whole 83 = .ok (.istore 6, 2) := by decide +kernel
theorem dX11_whole_85 : decode cX11_whole 85 = .ok (.iload_n 3, 1) := by decide +kernel
theorem dX11_whole_86 : decode cX11_whole 86 = .ok (.ifCond .ne 8, 3) := by decide +kernel
theorem dX11_whole_89 : decode cX11_whole 89 = .ok (.iload 6, 2) := by decide +kernel
theorem dX11_whole_91 : decode cX11_whole 91 = .ok (.ifCond .eq 7, 3) := by decide +kernel
theorem dX11_whole_94 : decode cX11_whole 94 = .ok (.iconst 1, 1) := by decide +kernel
theorem dX11_whole_95 : decode cX11_whole 95 = .ok (.goto 4, 3) := by decide +kernel
theorem dX11_whole_98 : decode cX11_whole 98 = .ok (.iconst 0, 1) := by decide +kernel
theorem dX11_whole_99 : decode cX11_whole 99 = .ok (.istore_n 3, 1) := by decide +kernel
theorem dX11_whole_100 : decode cX11_whole 100 = .ok (.iload 4, 2) := by decide +kernel
theorem dX11_whole_102 : decode cX11_whole 102 = .ok (.ifCond .eq 22, 3) := by decide +kernel
theorem dX11_whole_105 : decode cX11_whole 105 = .ok (.iload 6, 2) := by decide +kernel
theorem dX11_whole_107 : decode cX11_whole 107 = .ok (.ifCond .eq 13, 3) := by decide +kernel
theorem dX11_whole_110 : decode cX11_whole 110 = .ok (.iload_n 2, 1) := by decide +kernel
theorem dX11_whole_111 : decode cX11_whole 111 = .ok (.iload 5, 2) := by decide +kernel
theorem dX11_whole_113 : decode cX11_whole 113 = .ok (.ishr, 1) := by decide +kernel
theorem dX11_whole_114 : decode cX11_whole 114 = .ok (.iconst 1, 1) := by decide +kernel
theorem dX11_whole_115 : decode cX11_whole 115 = .ok (.iand, 1) := by decide +kernel
theorem dX11_whole_116 : decode cX11_whole 116 = .ok (.iconst 1, 1) := by decide +kernel
theorem dX11_whole_117 : decode cX11_whole 117 = .ok (.if_icmp .ne 7, 3) := by decide +kernel
theorem dX11_whole_120 : decode cX11_whole 120 = .ok (.iconst 1, 1) := by decide +kernel
theorem dX11_whole_121 : decode cX11_whole 121 = .ok (.goto 4, 3) := by decide +kernel
theorem dX11_whole_124 : decode cX11_whole 124 = .ok (.iconst 0, 1) := by decide +kernel
theorem dX11_whole_125 : decode cX11_whole 125 = .ok (.istore 4, 2) := by decide +kernel
theorem dX11_whole_127 : decode cX11_whole 127 = .ok (.iinc 5 1, 3) := by decide +kernel
theorem dX11_whole_130 : decode cX11_whole 130 = .ok (.goto (-71), 3) := by decide +kernel
theorem dX11_whole_133 : decode cX11_whole 133 = .ok (.iload_n 3, 1) := by decide +kernel
theorem dX11_whole_134 : decode cX11_whole 134 = .ok (.ifCond .eq 12, 3) := by decide +kernel
theorem dX11_whole_137 : decode cX11_whole 137 = .ok (.iload 4, 2) := by decide +kernel
theorem dX11_whole_139 : decode cX11_whole 139 = .ok (.ifCond .eq 7, 3) := by decide +kernel
theorem dX11_whole_142 : decode cX11_whole 142 = .ok (.iconst 1, 1) := by decide +kernel
theorem dX11_whole_143 : decode cX11_whole 143 = .ok (.goto 4, 3) := by decide +kernel
theorem dX11_whole_146 : decode cX11_whole 146 = .ok (.iconst 0, 1) := by decide +kernel
theorem dX11_whole_147 : decode cX11_whole 147 = .ok (.ireturn, 1) := by decide +kernel
theorem dX11_takenIn_0 : decode cX11_takenIn 0 = .ok (.iconst 0, 1) := by decide +kernel
theorem dX11_takenIn_1 : decode cX11_takenIn 1 = .ok (.istore_n 2, 1) := by decide +kernel
theorem dX11_takenIn_2 : decode cX11_takenIn 2 = .ok (.iconst 0, 1) := by decide +kernel
theorem dX11_takenIn_3 : decode cX11_takenIn 3 = .ok (.istore_n 3, 1) := by decide +kernel
theorem dX11_takenIn_4 : decode cX11_takenIn 4 = .ok (.iload_n 3, 1) := by decide +kernel
theorem dX11_takenIn_5 : decode cX11_takenIn 5 = .ok (.aload_n 0, 1) := by decide +kernel
theorem dX11_takenIn_6 : decode cX11_takenIn 6 = .ok (.getfield 134, 3) := by decide +kernel
theorem dX11_takenIn_9 : decode cX11_takenIn 9 = .ok (.if_icmp .ge 31, 3) := by decide +kernel
theorem dX11_takenIn_12 : decode cX11_takenIn 12 = .ok (.iload_n 2, 1) := by decide +kernel
theorem dX11_takenIn_13 : decode cX11_takenIn 13 = .ok (.aload_n 0, 1) := by decide +kernel
theorem dX11_takenIn_14 : decode cX11_takenIn 14 = .ok (.getfield 25, 3) := by decide +kernel
theorem dX11_takenIn_17 : decode cX11_takenIn 17 = .ok (.iload_n 3, 1) := by decide +kernel
theorem dX11_takenIn_18 : decode cX11_takenIn 18 = .ok (.iaload, 1) := by decide +kernel
theorem dX11_takenIn_19 : decode cX11_takenIn 19 = .ok (.iload_n 1, 1) := by decide +kernel
theorem dX11_takenIn_20 : decode cX11_takenIn 20 = .ok (.if_icmp .ne 11, 3) := by decide +kernel
theorem dX11_takenIn_23 : decode cX11_takenIn 23 = .ok (.aload_n 0, 1) := by decide +kernel
theorem dX11_takenIn_24 : decode cX11_takenIn 24 = .ok (.iload_n 3, 1) := by decide +kernel
theorem dX11_takenIn_25 : decode cX11_takenIn 25 = .ok (.invokevirtual 197, 3) := by decide +kernel
theorem dX11_takenIn_28 : decode cX11_takenIn 28 = .ok (.goto 4, 3) := by decide +kernel
theorem dX11_takenIn_31 : decode cX11_takenIn 31 = .ok (.iconst 0, 1) := by decide +kernel
theorem dX11_takenIn_32 : decode cX11_takenIn 32 = .ok (.iadd, 1) := by decide +kernel
theorem dX11_takenIn_33 : decode cX11_takenIn 33 = .ok (.istore_n 2, 1) := by decide +kernel
theorem dX11_takenIn_34 : decode cX11_takenIn 34 = .ok (.iinc 3 1, 3) := by decide +kernel
theorem dX11_takenIn_37 : decode cX11_takenIn 37 = .ok (.goto (-33), 3) := by decide +kernel
theorem dX11_takenIn_40 : decode cX11_takenIn 40 = .ok (.iload_n 2, 1) := by decide +kernel
theorem dX11_takenIn_41 : decode cX11_takenIn 41 = .ok (.ireturn, 1) := by decide +kernel
theorem dX11_beds_0 : decode cX11_beds 0 = .ok (.iload_n 1, 1) := by decide +kernel
theorem dX11_beds_1 : decode cX11_beds 1 = .ok (.invokestatic 158, 3) := by decide +kernel
theorem dX11_beds_4 : decode cX11_beds 4 = .ok (.ifCond .ne 5, 3) := by decide +kernel
theorem dX11_beds_7 : decode cX11_beds 7 = .ok (.iconst (-1), 1) := by decide +kernel
theorem dX11_beds_8 : decode cX11_beds 8 = .ok (.ireturn, 1) := by decide +kernel
theorem dX11_beds_9 : decode cX11_beds 9 = .ok (.iload_n 2, 1) := by decide +kernel
theorem dX11_beds_10 : decode cX11_beds 10 = .ok (.i2l, 1) := by decide +kernel
theorem dX11_beds_11 : decode cX11_beds 11 = .ok (.lconst 0, 1) := by decide +kernel
theorem dX11_beds_12 : decode cX11_beds 12 = .ok (.ldc2_w 301, 3) := by decide +kernel
theorem dX11_beds_15 : decode cX11_beds 15 = .ok (.invokestatic 145, 3) := by decide +kernel
theorem dX11_beds_18 : decode cX11_beds 18 = .ok (.ifCond .ne 6, 3) := by decide +kernel
theorem dX11_beds_21 : decode cX11_beds 21 = .ok (.bipush (-2), 2) := by decide +kernel
theorem dX11_beds_23 : decode cX11_beds 23 = .ok (.ireturn, 1) := by decide +kernel
theorem dX11_beds_24 : decode cX11_beds 24 = .ok (.aload_n 0, 1) := by decide +kernel
theorem dX11_beds_25 : decode cX11_beds 25 = .ok (.iload_n 1, 1) := by decide +kernel
theorem dX11_beds_26 : decode cX11_beds 26 = .ok (.invokevirtual 303, 3) := by decide +kernel
theorem dX11_beds_29 : decode cX11_beds 29 = .ok (.iload_n 2, 1) := by decide +kernel
theorem dX11_beds_30 : decode cX11_beds 30 = .ok (.if_icmp .le 6, 3) := by decide +kernel
theorem dX11_beds_33 : decode cX11_beds 33 = .ok (.bipush (-3), 2) := by decide +kernel
theorem dX11_beds_35 : decode cX11_beds 35 = .ok (.ireturn, 1) := by decide +kernel
theorem dX11_beds_36 : decode cX11_beds 36 = .ok (.aload_n 0, 1) := by decide +kernel
theorem dX11_beds_37 : decode cX11_beds 37 = .ok (.getfield 125, 3) := by decide +kernel
theorem dX11_beds_40 : decode cX11_beds 40 = .ok (.iload_n 1, 1) := by decide +kernel
theorem dX11_beds_41 : decode cX11_beds 41 = .ok (.iaload, 1) := by decide +kernel
theorem dX11_beds_42 : decode cX11_beds 42 = .ok (.istore_n 3, 1) := by decide +kernel
theorem dX11_beds_43 : decode cX11_beds 43 = .ok (.aload_n 0, 1) := by decide +kernel
theorem dX11_beds_44 : decode cX11_beds 44 = .ok (.getfield 125, 3) := by decide +kernel
theorem dX11_beds_47 : decode cX11_beds 47 = .ok (.iload_n 1, 1) := by decide +kernel
theorem dX11_beds_48 : decode cX11_beds 48 = .ok (.iload_n 2, 1) := by decide +kernel
theorem dX11_beds_49 : decode cX11_beds 49 = .ok (.iastore, 1) := by decide +kernel
theorem dX11_beds_50 : decode cX11_beds 50 = .ok (.iload_n 3, 1) := by decide +kernel
theorem dX11_beds_51 : decode cX11_beds 51 = .ok (.ireturn, 1) := by decide +kernel
theorem dX11_sleep_0 : decode cX11_sleep 0 = .ok (.aload_n 0, 1) := by decide +kernel
theorem dX11_sleep_1 : decode cX11_sleep 1 = .ok (.iload_n 1, 1) := by decide +kernel
theorem dX11_sleep_2 : decode cX11_sleep 2 = .ok (.invokevirtual 162, 3) := by decide +kernel
theorem dX11_sleep_5 : decode cX11_sleep 5 = .ok (.ifCond .eq 15, 3) := by decide +kernel
theorem dX11_sleep_8 : decode cX11_sleep 8 = .ok (.iload_n 2, 1) := by decide +kernel
theorem dX11_sleep_9 : decode cX11_sleep 9 = .ok (.iconst (-1), 1) := by decide +kernel
theorem dX11_sleep_10 : decode cX11_sleep 10 = .ok (.if_icmp .eq 13, 3) := by decide +kernel
theorem dX11_sleep_13 : decode cX11_sleep 13 = .ok (.iload_n 2, 1) := by decide +kernel
theorem dX11_sleep_14 : decode cX11_sleep 14 = .ok (.invokestatic 158, 3) := by decide +kernel
theorem dX11_sleep_17 : decode cX11_sleep 17 = .ok (.ifCond .ne 6, 3) := by decide +kernel
theorem dX11_sleep_20 : decode cX11_sleep 20 = .ok (.bipush (-5), 2) := by decide +kernel
theorem dX11_sleep_22 : decode cX11_sleep 22 = .ok (.ireturn, 1) := by decide +kernel
theorem dX11_sleep_23 : decode cX11_sleep 23 = .ok (.aload_n 0, 1) := by decide +kernel
theorem dX11_sleep_24 : decode cX11_sleep 24 = .ok (.getfield 25, 3) := by decide +kernel
theorem dX11_sleep_27 : decode cX11_sleep 27 = .ok (.iload_n 1, 1) := by decide +kernel
theorem dX11_sleep_28 : decode cX11_sleep 28 = .ok (.iaload, 1) := by decide +kernel
theorem dX11_sleep_29 : decode cX11_sleep 29 = .ok (.istore_n 3, 1) := by decide +kernel
theorem dX11_sleep_30 : decode cX11_sleep 30 = .ok (.aload_n 0, 1) := by decide +kernel
theorem dX11_sleep_31 : decode cX11_sleep 31 = .ok (.getfield 25, 3) := by decide +kernel
theorem dX11_sleep_34 : decode cX11_sleep 34 = .ok (.iload_n 1, 1) := by decide +kernel
theorem dX11_sleep_35 : decode cX11_sleep 35 = .ok (.iconst (-1), 1) := by decide +kernel
theorem dX11_sleep_36 : decode cX11_sleep 36 = .ok (.iastore, 1) := by decide +kernel
theorem dX11_sleep_37 : decode cX11_sleep 37 = .ok (.iload_n 2, 1) := by decide +kernel
theorem dX11_sleep_38 : decode cX11_sleep 38 = .ok (.iconst (-1), 1) := by decide +kernel
theorem dX11_sleep_39 : decode cX11_sleep 39 = .ok (.if_icmp .eq 43, 3) := by decide +kernel
theorem dX11_sleep_42 : decode cX11_sleep 42 = .ok (.iload_n 2, 1) := by decide +kernel
theorem dX11_sleep_43 : decode cX11_sleep 43 = .ok (.aload_n 0, 1) := by decide +kernel
theorem dX11_sleep_44 : decode cX11_sleep 44 = .ok (.getfield 13, 3) := by decide +kernel
theorem dX11_sleep_47 : decode cX11_sleep 47 = .ok (.iload_n 1, 1) := by decide +kernel
theorem dX11_sleep_48 : decode cX11_sleep 48 = .ok (.iaload, 1) := by decide +kernel
theorem dX11_sleep_49 : decode cX11_sleep 49 = .ok (.if_icmp .eq 23, 3) := by decide +kernel
theorem dX11_sleep_52 : decode cX11_sleep 52 = .ok (.aload_n 0, 1) := by decide +kernel
theorem dX11_sleep_53 : decode cX11_sleep 53 = .ok (.getfield 125, 3) := by decide +kernel
theorem dX11_sleep_56 : decode cX11_sleep 56 = .ok (.iload_n 2, 1) := by decide +kernel
theorem dX11_sleep_57 : decode cX11_sleep 57 = .ok (.iaload, 1) := by decide +kernel
theorem dX11_sleep_58 : decode cX11_sleep 58 = .ok (.aload_n 0, 1) := by decide +kernel
theorem dX11_sleep_59 : decode cX11_sleep 59 = .ok (.iload_n 2, 1) := by decide +kernel
theorem dX11_sleep_60 : decode cX11_sleep 60 = .ok (.invokevirtual 303, 3) := by decide +kernel
theorem dX11_sleep_63 : decode cX11_sleep 63 = .ok (.isub, 1) := by decide +kernel
theorem dX11_sleep_64 : decode cX11_sleep 64 = .ok (.aload_n 0, 1) := by decide +kernel
theorem dX11_sleep_65 : decode cX11_sleep 65 = .ok (.iload_n 1, 1) := by decide +kernel
theorem dX11_sleep_66 : decode cX11_sleep 66 = .ok (.invokevirtual 197, 3) := by decide +kernel
theorem dX11_sleep_69 : decode cX11_sleep 69 = .ok (.if_icmp .ge 13, 3) := by decide +kernel
theorem dX11_sleep_72 : decode cX11_sleep 72 = .ok (.aload_n 0, 1) := by decide +kernel
theorem dX11_sleep_73 : decode cX11_sleep 73 = .ok (.getfield 25, 3) := by decide +kernel
theorem dX11_sleep_76 : decode cX11_sleep 76 = .ok (.iload_n 1, 1) := by decide +kernel
theorem dX11_sleep_77 : decode cX11_sleep 77 = .ok (.iload_n 3, 1) := by decide +kernel
theorem dX11_sleep_78 : decode cX11_sleep 78 = .ok (.iastore, 1) := by decide +kernel
theorem dX11_sleep_79 : decode cX11_sleep 79 = .ok (.bipush (-3), 2) := by decide +kernel
theorem dX11_sleep_81 : decode cX11_sleep 81 = .ok (.ireturn, 1) := by decide +kernel
theorem dX11_sleep_82 : decode cX11_sleep 82 = .ok (.aload_n 0, 1) := by decide +kernel
theorem dX11_sleep_83 : decode cX11_sleep 83 = .ok (.getfield 25, 3) := by decide +kernel
theorem dX11_sleep_86 : decode cX11_sleep 86 = .ok (.iload_n 1, 1) := by decide +kernel
theorem dX11_sleep_87 : decode cX11_sleep 87 = .ok (.iload_n 2, 1) := by decide +kernel
theorem dX11_sleep_88 : decode cX11_sleep 88 = .ok (.iastore, 1) := by decide +kernel
theorem dX11_sleep_89 : decode cX11_sleep 89 = .ok (.iload_n 3, 1) := by decide +kernel
theorem dX11_sleep_90 : decode cX11_sleep 90 = .ok (.ireturn, 1) := by decide +kernel
theorem dX11_bed_0 : decode cX11_bed 0 = .ok (.iload_n 1, 1) := by decide +kernel
theorem dX11_bed_1 : decode cX11_bed 1 = .ok (.ifCond .lt 13, 3) := by decide +kernel
theorem dX11_bed_4 : decode cX11_bed 4 = .ok (.iload_n 1, 1) := by decide +kernel
theorem dX11_bed_5 : decode cX11_bed 5 = .ok (.iconst 1, 1) := by decide +kernel
theorem dX11_bed_6 : decode cX11_bed 6 = .ok (.aload_n 0, 1) := by decide +kernel
theorem dX11_bed_7 : decode cX11_bed 7 = .ok (.getfield 134, 3) := by decide +kernel
theorem dX11_bed_10 : decode cX11_bed 10 = .ok (.ishl, 1) := by decide +kernel
theorem dX11_bed_11 : decode cX11_bed 11 = .ok (.if_icmp .lt 6, 3) := by decide +kernel
theorem dX11_bed_14 : decode cX11_bed 14 = .ok (.bipush (-2), 2) := by decide +kernel
theorem dX11_bed_16 : decode cX11_bed 16 = .ok (.ireturn, 1) := by decide +kernel
theorem dX11_bed_17 : decode cX11_bed 17 = .ok (.iconst 0, 1) := by decide +kernel
theorem dX11_bed_18 : decode cX11_bed 18 = .ok (.istore_n 2, 1) := by decide +kernel
theorem dX11_bed_19 : decode cX11_bed 19 = .ok (.iconst 0, 1) := by decide +kernel
theorem dX11_bed_20 : decode cX11_bed 20 = .ok (.istore_n 3, 1) := by decide +kernel
theorem dX11_bed_21 : decode cX11_bed 21 = .ok (.iload_n 3, 1) := by decide +kernel
theorem dX11_bed_22 : decode cX11_bed 22 = .ok (.aload_n 0, 1) := by decide +kernel
theorem dX11_bed_23 : decode cX11_bed 23 = .ok (.getfield 134, 3) := by decide +kernel
theorem dX11_bed_26 : decode cX11_bed 26 = .ok (.if_icmp .ge 152, 3) := by decide +kernel
theorem dX11_bed_29 : decode cX11_bed 29 = .ok (.iload_n 1, 1) := by decide +kernel
theorem dX11_bed_30 : decode cX11_bed 30 = .ok (.iload_n 3, 1) := by decide +kernel
theorem dX11_bed_31 : decode cX11_bed 31 = .ok (.ishr, 1) := by decide +kernel
theorem dX11_bed_32 : decode cX11_bed 32 = .ok (.iconst 1, 1) := by decide +kernel
theorem dX11_bed_33 : decode cX11_bed 33 = .ok (.iand, 1) := by decide +kernel
theorem dX11_bed_34 : decode cX11_bed 34 = .ok (.iconst 1, 1) := by decide +kernel
theorem dX11_bed_35 : decode cX11_bed 35 = .ok (.if_icmp .ne 137, 3) := by decide +kernel
theorem dX11_bed_38 : decode cX11_bed 38 = .ok (.aload_n 0, 1) := by decide +kernel
theorem dX11_bed_39 : decode cX11_bed 39 = .ok (.getfield 25, 3) := by decide +kernel
theorem dX11_bed_42 : decode cX11_bed 42 = .ok (.iload_n 3, 1) := by decide +kernel
theorem dX11_bed_43 : decode cX11_bed 43 = .ok (.iaload, 1) := by decide +kernel
theorem dX11_bed_44 : decode cX11_bed 44 = .ok (.iconst (-1), 1) := by decide +kernel
theorem dX11_bed_45 : decode cX11_bed 45 = .ok (.if_icmp .ne 127, 3) := by decide +kernel
theorem dX11_bed_48 : decode cX11_bed 48 = .ok (.iconst (-1), 1) := by decide +kernel
theorem dX11_bed_49 : decode cX11_bed 49 = .ok (.istore 4, 2) := by decide +kernel
theorem dX11_bed_51 : decode cX11_bed 51 = .ok (.iconst 0, 1) := by decide +kernel
theorem dX11_bed_52 : decode cX11_bed 52 = .ok (.istore 5, 2) := by decide +kernel
theorem dX11_bed_54 : decode cX11_bed 54 = .ok (.iload 5, 2) := by decide +kernel
theorem dX11_bed_56 : decode cX11_bed 56 = .ok (.bipush 8, 2) := by decide +kernel
theorem dX11_bed_58 : decode cX11_bed 58 = .ok (.if_icmp .ge 92, 3) := by decide +kernel
theorem dX11_bed_61 : decode cX11_bed 61 = .ok (.aload_n 0, 1) := by decide +kernel
theorem dX11_bed_62 : decode cX11_bed 62 = .ok (.getfield 125, 3) := by decide +kernel
theorem dX11_bed_65 : decode cX11_bed 65 = .ok (.iload 5, 2) := by decide +kernel
theorem dX11_bed_67 : decode cX11_bed 67 = .ok (.iaload, 1) := by decide +kernel
theorem dX11_bed_68 : decode cX11_bed 68 = .ok (.aload_n 0, 1) := by decide +kernel
theorem dX11_bed_69 : decode cX11_bed 69 = .ok (.iload 5, 2) := by decide +kernel
theorem dX11_bed_71 : decode cX11_bed 71 = .ok (.invokevirtual 303, 3) := by decide +kernel
theorem dX11_bed_74 : decode cX11_bed 74 = .ok (.isub, 1) := by decide +kernel
theorem dX11_bed_75 : decode cX11_bed 75 = .ok (.istore 6, 2) := by decide +kernel
theorem dX11_bed_77 : decode cX11_bed 77 = .ok (.iload 5, 2) := by decide +kernel
theorem dX11_bed_79 : decode cX11_bed 79 = .ok (.aload_n 0, 1) := by decide +kernel
theorem dX11_bed_80 : decode cX11_bed 80 = .ok (.getfield 13, 3) := by decide +kernel
theorem dX11_bed_83 : decode cX11_bed 83 = .ok (.iload_n 3, 1) := by decide +kernel
theorem dX11_bed_84 : decode cX11_bed 84 = .ok (.iaload, 1) := by decide +kernel
theorem dX11_bed_85 : decode cX11_bed 85 = .ok (.if_icmp .eq 17, 3) := by decide +kernel
theorem dX11_bed_88 : decode cX11_bed 88 = .ok (.iload 6, 2) := by decide +kernel
theorem dX11_bed_90 : decode cX11_bed 90 = .ok (.aload_n 0, 1) := by decide +kernel
theorem dX11_bed_91 : decode cX11_bed 91 = .ok (.iload_n 3, 1) := by decide +kernel
theorem dX11_bed_92 : decode cX11_bed 92 = .ok (.invokevirtual 197, 3) := by decide +kernel
theorem dX11_bed_95 : decode cX11_bed 95 = .ok (.if_icmp .lt 7, 3) := by decide +kernel
theorem dX11_bed_98 : decode cX11_bed 98 = .ok (.iconst 1, 1) := by decide +kernel
theorem dX11_bed_99 : decode cX11_bed 99 = .ok (.goto 4, 3) := by decide +kernel
theorem dX11_bed_102 : decode cX11_bed 102 = .ok (.iconst 0, 1) := by decide +kernel
theorem dX11_bed_103 : decode cX11_bed 103 = .ok (.istore 7, 2) := by decide +kernel
theorem dX11_bed_105 : decode cX11_bed 105 = .ok (.iload 7, 2) := by decide +kernel
theorem dX11_bed_107 : decode cX11_bed 107 = .ok (.ifCond .eq 33, 3) := by decide +kernel
theorem dX11_bed_110 : decode cX11_bed 110 = .ok (.iload 4, 2) := by decide +kernel
theorem dX11_bed_112 : decode cX11_bed 112 = .ok (.iconst (-1), 1) := by decide +kernel
theorem dX11_bed_113 : decode cX11_bed 113 = .ok (.if_icmp .eq 22, 3) := by decide +kernel
theorem dX11_bed_116 : decode cX11_bed 116 = .ok (.iload 6, 2) := by decide +kernel
theorem dX11_bed_118 : decode cX11_bed 118 = .ok (.aload_n 0, 1) := by decide +kernel
theorem dX11_bed_119 : decode cX11_bed 119 = .ok (.getfield 125, 3) := by decide +kernel
theorem dX11_bed_122 : decode cX11_bed 122 = .ok (.iload 4, 2) := by decide +kernel
theorem dX11_bed_124 : decode cX11_bed 124 = .ok (.iaload, 1) := by decide +kernel
theorem dX11_bed_125 : decode cX11_bed 125 = .ok (.aload_n 0, 1) := by decide +kernel
theorem dX11_bed_126 : decode cX11_bed 126 = .ok (.iload 4, 2) := by decide +kernel
theorem dX11_bed_128 : decode cX11_bed 128 = .ok (.invokevirtual 303, 3) := by decide +kernel
theorem dX11_bed_131 : decode cX11_bed 131 = .ok (.isub, 1) := by decide +kernel
theorem dX11_bed_132 : decode cX11_bed 132 = .ok (.if_icmp .ge 8, 3) := by decide +kernel
theorem dX11_bed_135 : decode cX11_bed 135 = .ok (.iload 5, 2) := by decide +kernel
theorem dX11_bed_137 : decode cX11_bed 137 = .ok (.goto 5, 3) := by decide +kernel
theorem dX11_bed_140 : decode cX11_bed 140 = .ok (.iload 4, 2) := by decide +kernel
theorem dX11_bed_142 : decode cX11_bed 142 = .ok (.istore 4, 2) := by decide +kernel
theorem dX11_bed_144 : decode cX11_bed 144 = .ok (.iinc 5 1, 3) := by decide +kernel
theorem dX11_bed_147 : decode cX11_bed 147 = .ok (.goto (-93), 3) := by decide +kernel
theorem dX11_bed_150 : decode cX11_bed 150 = .ok (.aload_n 0, 1) := by decide +kernel
theorem dX11_bed_151 : decode cX11_bed 151 = .ok (.getfield 25, 3) := by decide +kernel
theorem dX11_bed_154 : decode cX11_bed 154 = .ok (.iload_n 3, 1) := by decide +kernel
theorem dX11_bed_155 : decode cX11_bed 155 = .ok (.iload 4, 2) := by decide +kernel
theorem dX11_bed_157 : decode cX11_bed 157 = .ok (.iastore, 1) := by decide +kernel
theorem dX11_bed_158 : decode cX11_bed 158 = .ok (.iload_n 2, 1) := by decide +kernel
theorem dX11_bed_159 : decode cX11_bed 159 = .ok (.iload 4, 2) := by decide +kernel
theorem dX11_bed_161 : decode cX11_bed 161 = .ok (.iconst (-1), 1) := by decide +kernel
theorem dX11_bed_162 : decode cX11_bed 162 = .ok (.if_icmp .ne 7, 3) := by decide +kernel
theorem dX11_bed_165 : decode cX11_bed 165 = .ok (.iconst 1, 1) := by decide +kernel
theorem dX11_bed_166 : decode cX11_bed 166 = .ok (.goto 4, 3) := by decide +kernel
theorem dX11_bed_169 : decode cX11_bed 169 = .ok (.iconst 0, 1) := by decide +kernel
theorem dX11_bed_170 : decode cX11_bed 170 = .ok (.iadd, 1) := by decide +kernel
theorem dX11_bed_171 : decode cX11_bed 171 = .ok (.istore_n 2, 1) := by decide +kernel
theorem dX11_bed_172 : decode cX11_bed 172 = .ok (.iinc 3 1, 3) := by decide +kernel
theorem dX11_bed_175 : decode cX11_bed 175 = .ok (.goto (-154), 3) := by decide +kernel
theorem dX11_bed_178 : decode cX11_bed 178 = .ok (.iload_n 2, 1) := by decide +kernel
theorem dX11_bed_179 : decode cX11_bed 179 = .ok (.ireturn, 1) := by decide +kernel
theorem dX11_length_0 : decode cX11_length 0 = .ok (.aload_n 0, 1) := by decide +kernel
theorem dX11_length_1 : decode cX11_length 1 = .ok (.getfield 306, 3) := by decide +kernel
theorem dX11_length_4 : decode cX11_length 4 = .ok (.ifCond .le 17, 3) := by decide +kernel
theorem dX11_length_7 : decode cX11_length 7 = .ok (.aload_n 0, 1) := by decide +kernel
theorem dX11_length_8 : decode cX11_length 8 = .ok (.getfield 131, 3) := by decide +kernel
theorem dX11_length_11 : decode cX11_length 11 = .ok (.aload_n 0, 1) := by decide +kernel
theorem dX11_length_12 : decode cX11_length 12 = .ok (.getfield 306, 3) := by decide +kernel
theorem dX11_length_15 : decode cX11_length 15 = .ok (.iconst 1, 1) := by decide +kernel
theorem dX11_length_16 : decode cX11_length 16 = .ok (.isub, 1) := by decide +kernel
theorem dX11_length_17 : decode cX11_length 17 = .ok (.imul, 1) := by decide +kernel
theorem dX11_length_18 : decode cX11_length 18 = .ok (.goto 4, 3) := by decide +kernel
theorem dX11_length_21 : decode cX11_length 21 = .ok (.iconst 0, 1) := by decide +kernel
theorem dX11_length_22 : decode cX11_length 22 = .ok (.istore_n 1, 1) := by decide +kernel
theorem dX11_length_23 : decode cX11_length 23 = .ok (.iconst 0, 1) := by decide +kernel
theorem dX11_length_24 : decode cX11_length 24 = .ok (.istore_n 2, 1) := by decide +kernel
theorem dX11_length_25 : decode cX11_length 25 = .ok (.iload_n 2, 1) := by decide +kernel
theorem dX11_length_26 : decode cX11_length 26 = .ok (.aload_n 0, 1) := by decide +kernel
theorem dX11_length_27 : decode cX11_length 27 = .ok (.getfield 306, 3) := by decide +kernel
theorem dX11_length_30 : decode cX11_length 30 = .ok (.if_icmp .ge 26, 3) := by decide +kernel
theorem dX11_length_33 : decode cX11_length 33 = .ok (.iload_n 1, 1) := by decide +kernel
theorem dX11_length_34 : decode cX11_length 34 = .ok (.aload_n 0, 1) := by decide +kernel
theorem dX11_length_35 : decode cX11_length 35 = .ok (.aload_n 0, 1) := by decide +kernel
theorem dX11_length_36 : decode cX11_length 36 = .ok (.getfield 128, 3) := by decide +kernel
theorem dX11_length_39 : decode cX11_length 39 = .ok (.iload_n 2, 1) := by decide +kernel
theorem dX11_length_40 : decode cX11_length 40 = .ok (.iaload, 1) := by decide +kernel
theorem dX11_length_41 : decode cX11_length 41 = .ok (.invokevirtual 197, 3) := by decide +kernel
theorem dX11_length_44 : decode cX11_length 44 = .ok (.iconst 4, 1) := by decide +kernel
theorem dX11_length_45 : decode cX11_length 45 = .ok (.invokestatic 191, 3) := by decide +kernel
theorem dX11_length_48 : decode cX11_length 48 = .ok (.iadd, 1) := by decide +kernel
theorem dX11_length_49 : decode cX11_length 49 = .ok (.istore_n 1, 1) := by decide +kernel
theorem dX11_length_50 : decode cX11_length 50 = .ok (.iinc 2 1, 3) := by decide +kernel
theorem dX11_length_53 : decode cX11_length 53 = .ok (.goto (-28), 3) := by decide +kernel
theorem dX11_length_56 : decode cX11_length 56 = .ok (.iload_n 1, 1) := by decide +kernel
theorem dX11_length_57 : decode cX11_length 57 = .ok (.ireturn, 1) := by decide +kernel
theorem dX11_placeIn_0 : decode cX11_placeIn 0 = .ok (.iconst 0, 1) := by decide +kernel
theorem dX11_placeIn_1 : decode cX11_placeIn 1 = .ok (.istore_n 2, 1) := by decide +kernel
theorem dX11_placeIn_2 : decode cX11_placeIn 2 = .ok (.iload_n 2, 1) := by decide +kernel
theorem dX11_placeIn_3 : decode cX11_placeIn 3 = .ok (.aload_n 0, 1) := by decide +kernel
theorem dX11_placeIn_4 : decode cX11_placeIn 4 = .ok (.getfield 306, 3) := by decide +kernel
theorem dX11_placeIn_7 : decode cX11_placeIn 7 = .ok (.if_icmp .ge 21, 3) := by decide +kernel
theorem dX11_placeIn_10 : decode cX11_placeIn 10 = .ok (.aload_n 0, 1) := by decide +kernel
theorem dX11_placeIn_11 : decode cX11_placeIn 11 = .ok (.getfield 128, 3) := by decide +kernel
theorem dX11_placeIn_14 : decode cX11_placeIn 14 = .ok (.iload_n 2, 1) := by decide +kernel
theorem dX11_placeIn_15 : decode cX11_placeIn 15 = .ok (.iaload, 1) := by decide +kernel
theorem dX11_placeIn_16 : decode cX11_placeIn 16 = .ok (.iload_n 1, 1) := by decide +kernel
theorem dX11_placeIn_17 : decode cX11_placeIn 17 = .ok (.if_icmp .ne 5, 3) := by decide +kernel
theorem dX11_placeIn_20 : decode cX11_placeIn 20 = .ok (.iload_n 2, 1) := by decide +kernel
theorem dX11_placeIn_21 : decode cX11_placeIn 21 = .ok (.ireturn, 1) := by decide +kernel
theorem dX11_placeIn_22 : decode cX11_placeIn 22 = .ok (.iinc 2 1, 3) := by decide +kernel
theorem dX11_placeIn_25 : decode cX11_placeIn 25 = .ok (.goto (-23), 3) := by decide +kernel
theorem dX11_placeIn_28 : decode cX11_placeIn 28 = .ok (.iconst (-1), 1) := by decide +kernel
theorem dX11_placeIn_29 : decode cX11_placeIn 29 = .ok (.ireturn, 1) := by decide +kernel
theorem dX11_march_0 : decode cX11_march 0 = .ok (.aload_n 0, 1) := by decide +kernel
theorem dX11_march_1 : decode cX11_march 1 = .ok (.iload_n 1, 1) := by decide +kernel
theorem dX11_march_2 : decode cX11_march 2 = .ok (.invokevirtual 162, 3) := by decide +kernel
theorem dX11_march_5 : decode cX11_march 5 = .ok (.ifCond .ne 5, 3) := by decide +kernel
theorem dX11_march_8 : decode cX11_march 8 = .ok (.iconst (-1), 1) := by decide +kernel
theorem dX11_march_9 : decode cX11_march 9 = .ok (.ireturn, 1) := by decide +kernel
theorem dX11_march_10 : decode cX11_march 10 = .ok (.aload_n 0, 1) := by decide +kernel
theorem dX11_march_11 : decode cX11_march 11 = .ok (.iload_n 1, 1) := by decide +kernel
theorem dX11_march_12 : decode cX11_march 12 = .ok (.invokevirtual 309, 3) := by decide +kernel
theorem dX11_march_15 : decode cX11_march 15 = .ok (.iconst (-1), 1) := by decide +kernel
theorem dX11_march_16 : decode cX11_march 16 = .ok (.if_icmp .eq 6, 3) := by decide +kernel
theorem dX11_march_19 : decode cX11_march 19 = .ok (.bipush (-3), 2) := by decide +kernel
theorem dX11_march_21 : decode cX11_march 21 = .ok (.ireturn, 1) := by decide +kernel
theorem dX11_march_22 : decode cX11_march 22 = .ok (.aload_n 0, 1) := by decide +kernel
theorem dX11_march_23 : decode cX11_march 23 = .ok (.getfield 128, 3) := by decide +kernel
theorem dX11_march_26 : decode cX11_march 26 = .ok (.aload_n 0, 1) := by decide +kernel
theorem dX11_march_27 : decode cX11_march 27 = .ok (.getfield 306, 3) := by decide +kernel
theorem dX11_march_30 : decode cX11_march 30 = .ok (.iload_n 1, 1) := by decide +kernel
theorem dX11_march_31 : decode cX11_march 31 = .ok (.iastore, 1) := by decide +kernel
theorem dX11_march_32 : decode cX11_march 32 = .ok (.aload_n 0, 1) := by decide +kernel
theorem dX11_march_33 : decode cX11_march 33 = .ok (.dup, 1) := by decide +kernel
theorem dX11_march_34 : decode cX11_march 34 = .ok (.getfield 306, 3) := by decide +kernel
theorem dX11_march_37 : decode cX11_march 37 = .ok (.iconst 1, 1) := by decide +kernel
theorem dX11_march_38 : decode cX11_march 38 = .ok (.iadd, 1) := by decide +kernel
theorem dX11_march_39 : decode cX11_march 39 = .ok (.putfield 306, 3) := by decide +kernel
theorem dX11_march_42 : decode cX11_march 42 = .ok (.aload_n 0, 1) := by decide +kernel
theorem dX11_march_43 : decode cX11_march 43 = .ok (.invokevirtual 312, 3) := by decide +kernel
theorem dX11_march_46 : decode cX11_march 46 = .ok (.ireturn, 1) := by decide +kernel
theorem dX11_leave_0 : decode cX11_leave 0 = .ok (.aload_n 0, 1) := by decide +kernel
theorem dX11_leave_1 : decode cX11_leave 1 = .ok (.iload_n 1, 1) := by decide +kernel
theorem dX11_leave_2 : decode cX11_leave 2 = .ok (.invokevirtual 162, 3) := by decide +kernel
theorem dX11_leave_5 : decode cX11_leave 5 = .ok (.ifCond .ne 5, 3) := by decide +kernel
theorem dX11_leave_8 : decode cX11_leave 8 = .ok (.iconst (-1), 1) := by decide +kernel
theorem dX11_leave_9 : decode cX11_leave 9 = .ok (.ireturn, 1) := by decide +kernel
theorem dX11_leave_10 : decode cX11_leave 10 = .ok (.aload_n 0, 1) := by decide +kernel
theorem dX11_leave_11 : decode cX11_leave 11 = .ok (.iload_n 1, 1) := by decide +kernel
theorem dX11_leave_12 : decode cX11_leave 12 = .ok (.invokevirtual 309, 3) := by decide +kernel
theorem dX11_leave_15 : decode cX11_leave 15 = .ok (.istore_n 2, 1) := by decide +kernel
theorem dX11_leave_16 : decode cX11_leave 16 = .ok (.iload_n 2, 1) := by decide +kernel
theorem dX11_leave_17 : decode cX11_leave 17 = .ok (.iconst (-1), 1) := by decide +kernel
theorem dX11_leave_18 : decode cX11_leave 18 = .ok (.if_icmp .ne 6, 3) := by decide +kernel
theorem dX11_leave_21 : decode cX11_leave 21 = .ok (.bipush (-3), 2) := by decide +kernel
theorem dX11_leave_23 : decode cX11_leave 23 = .ok (.ireturn, 1) := by decide +kernel
theorem dX11_leave_24 : decode cX11_leave 24 = .ok (.aload_n 0, 1) := by decide +kernel
theorem dX11_leave_25 : decode cX11_leave 25 = .ok (.dup, 1) := by decide +kernel
theorem dX11_leave_26 : decode cX11_leave 26 = .ok (.getfield 306, 3) := by decide +kernel
theorem dX11_leave_29 : decode cX11_leave 29 = .ok (.iconst 1, 1) := by decide +kernel
theorem dX11_leave_30 : decode cX11_leave 30 = .ok (.isub, 1) := by decide +kernel
theorem dX11_leave_31 : decode cX11_leave 31 = .ok (.putfield 306, 3) := by decide +kernel
theorem dX11_leave_34 : decode cX11_leave 34 = .ok (.iload_n 2, 1) := by decide +kernel
theorem dX11_leave_35 : decode cX11_leave 35 = .ok (.istore_n 3, 1) := by decide +kernel
theorem dX11_leave_36 : decode cX11_leave 36 = .ok (.iload_n 3, 1) := by decide +kernel
theorem dX11_leave_37 : decode cX11_leave 37 = .ok (.aload_n 0, 1) := by decide +kernel
theorem dX11_leave_38 : decode cX11_leave 38 = .ok (.getfield 306, 3) := by decide +kernel
theorem dX11_leave_41 : decode cX11_leave 41 = .ok (.if_icmp .ge 23, 3) := by decide +kernel
theorem dX11_leave_44 : decode cX11_leave 44 = .ok (.aload_n 0, 1) := by decide +kernel
theorem dX11_leave_45 : decode cX11_leave 45 = .ok (.getfield 128, 3) := by decide +kernel
theorem dX11_leave_48 : decode cX11_leave 48 = .ok (.iload_n 3, 1) := by decide +kernel
theorem dX11_leave_49 : decode cX11_leave 49 = .ok (.aload_n 0, 1) := by decide +kernel
theorem dX11_leave_50 : decode cX11_leave 50 = .ok (.getfield 128, 3) := by decide +kernel
theorem dX11_leave_53 : decode cX11_leave 53 = .ok (.iload_n 3, 1) := by decide +kernel
theorem dX11_leave_54 : decode cX11_leave 54 = .ok (.iconst 1, 1) := by decide +kernel
theorem dX11_leave_55 : decode cX11_leave 55 = .ok (.iadd, 1) := by decide +kernel
theorem dX11_leave_56 : decode cX11_leave 56 = .ok (.iaload, 1) := by decide +kernel
theorem dX11_leave_57 : decode cX11_leave 57 = .ok (.iastore, 1) := by decide +kernel
theorem dX11_leave_58 : decode cX11_leave 58 = .ok (.iinc 3 1, 3) := by decide +kernel
theorem dX11_leave_61 : decode cX11_leave 61 = .ok (.goto (-25), 3) := by decide +kernel
theorem dX11_leave_64 : decode cX11_leave 64 = .ok (.aload_n 0, 1) := by decide +kernel
theorem dX11_leave_65 : decode cX11_leave 65 = .ok (.invokevirtual 312, 3) := by decide +kernel
theorem dX11_leave_68 : decode cX11_leave 68 = .ok (.ireturn, 1) := by decide +kernel
theorem dX11_gap_0 : decode cX11_gap 0 = .ok (.iload_n 1, 1) := by decide +kernel
theorem dX11_gap_1 : decode cX11_gap 1 = .ok (.i2l, 1) := by decide +kernel
theorem dX11_gap_2 : decode cX11_gap 2 = .ok (.lconst 0, 1) := by decide +kernel
theorem dX11_gap_3 : decode cX11_gap 3 = .ok (.ldc2_w 178, 3) := by decide +kernel
theorem dX11_gap_6 : decode cX11_gap 6 = .ok (.invokestatic 145, 3) := by decide +kernel
theorem dX11_gap_9 : decode cX11_gap 9 = .ok (.ifCond .ne 6, 3) := by decide +kernel
theorem dX11_gap_12 : decode cX11_gap 12 = .ok (.bipush (-2), 2) := by decide +kernel
theorem dX11_gap_14 : decode cX11_gap 14 = .ok (.ireturn, 1) := by decide +kernel
theorem dX11_gap_15 : decode cX11_gap 15 = .ok (.aload_n 0, 1) := by decide +kernel
theorem dX11_gap_16 : decode cX11_gap 16 = .ok (.getfield 131, 3) := by decide +kernel
theorem dX11_gap_19 : decode cX11_gap 19 = .ok (.istore_n 2, 1) := by decide +kernel
theorem dX11_gap_20 : decode cX11_gap 20 = .ok (.aload_n 0, 1) := by decide +kernel
theorem dX11_gap_21 : decode cX11_gap 21 = .ok (.iload_n 1, 1) := by decide +kernel
theorem dX11_gap_22 : decode cX11_gap 22 = .ok (.putfield 131, 3) := by decide +kernel
theorem dX11_gap_25 : decode cX11_gap 25 = .ok (.iload_n 2, 1) := by decide +kernel
theorem dX11_gap_26 : decode cX11_gap 26 = .ok (.ireturn, 1) := by decide +kernel
theorem dX11_count_0 : decode cX11_count 0 = .ok (.iconst 0, 1) := by decide +kernel
theorem dX11_count_1 : decode cX11_count 1 = .ok (.istore_n 2, 1) := by decide +kernel
theorem dX11_count_2 : decode cX11_count 2 = .ok (.iload_n 1, 1) := by decide +kernel
theorem dX11_count_3 : decode cX11_count 3 = .ok (.tableswitch 176 0 10 #[57, 62, 67, 72, 77, 82, 87, 92, 97, 102, 138], 57) := by decide +kernel
theorem dX11_count_60 : decode cX11_count 60 = .ok (.aload_n 0, 1) := by decide +kernel
theorem dX11_count_61 : decode cX11_count 61 = .ok (.getfield 134, 3) := by decide +kernel
theorem dX11_count_64 : decode cX11_count 64 = .ok (.ireturn, 1) := by decide +kernel
theorem dX11_count_65 : decode cX11_count 65 = .ok (.aload_n 0, 1) := by decide +kernel
theorem dX11_count_66 : decode cX11_count 66 = .ok (.getfield 137, 3) := by decide +kernel
theorem dX11_count_69 : decode cX11_count 69 = .ok (.ireturn, 1) := by decide +kernel
theorem dX11_count_70 : decode cX11_count 70 = .ok (.aload_n 0, 1) := by decide +kernel
theorem dX11_count_71 : decode cX11_count 71 = .ok (.getfield 140, 3) := by decide +kernel
theorem dX11_count_74 : decode cX11_count 74 = .ok (.ireturn, 1) := by decide +kernel
theorem dX11_count_75 : decode cX11_count 75 = .ok (.aload_n 0, 1) := by decide +kernel
theorem dX11_count_76 : decode cX11_count 76 = .ok (.getfield 243, 3) := by decide +kernel
theorem dX11_count_79 : decode cX11_count 79 = .ok (.ireturn, 1) := by decide +kernel
theorem dX11_count_80 : decode cX11_count 80 = .ok (.aload_n 0, 1) := by decide +kernel
theorem dX11_count_81 : decode cX11_count 81 = .ok (.getfield 171, 3) := by decide +kernel
theorem dX11_count_84 : decode cX11_count 84 = .ok (.ireturn, 1) := by decide +kernel
theorem dX11_count_85 : decode cX11_count 85 = .ok (.aload_n 0, 1) := by decide +kernel
theorem dX11_count_86 : decode cX11_count 86 = .ok (.invokevirtual 265, 3) := by decide +kernel
theorem dX11_count_89 : decode cX11_count 89 = .ok (.ireturn, 1) := by decide +kernel
theorem dX11_count_90 : decode cX11_count 90 = .ok (.aload_n 0, 1) := by decide +kernel
theorem dX11_count_91 : decode cX11_count 91 = .ok (.getfield 306, 3) := by decide +kernel
theorem dX11_count_94 : decode cX11_count 94 = .ok (.ireturn, 1) := by decide +kernel
theorem dX11_count_95 : decode cX11_count 95 = .ok (.aload_n 0, 1) := by decide +kernel
theorem dX11_count_96 : decode cX11_count 96 = .ok (.invokevirtual 312, 3) := by decide +kernel
theorem dX11_count_99 : decode cX11_count 99 = .ok (.ireturn, 1) := by decide +kernel
theorem dX11_count_100 : decode cX11_count 100 = .ok (.aload_n 0, 1) := by decide +kernel
theorem dX11_count_101 : decode cX11_count 101 = .ok (.getfield 205, 3) := by decide +kernel
theorem dX11_count_104 : decode cX11_count 104 = .ok (.ireturn, 1) := by decide +kernel
theorem dX11_count_105 : decode cX11_count 105 = .ok (.iconst 0, 1) := by decide +kernel
theorem dX11_count_106 : decode cX11_count 106 = .ok (.istore_n 3, 1) := by decide +kernel
theorem dX11_count_107 : decode cX11_count 107 = .ok (.iload_n 3, 1) := by decide +kernel
theorem dX11_count_108 : decode cX11_count 108 = .ok (.aload_n 0, 1) := by decide +kernel
theorem dX11_count_109 : decode cX11_count 109 = .ok (.getfield 134, 3) := by decide +kernel
theorem dX11_count_112 : decode cX11_count 112 = .ok (.if_icmp .ge 27, 3) := by decide +kernel
theorem dX11_count_115 : decode cX11_count 115 = .ok (.iload_n 2, 1) := by decide +kernel
theorem dX11_count_116 : decode cX11_count 116 = .ok (.aload_n 0, 1) := by decide +kernel
theorem dX11_count_117 : decode cX11_count 117 = .ok (.getfield 25, 3) := by decide +kernel
theorem dX11_count_120 : decode cX11_count 120 = .ok (.iload_n 3, 1) := by decide +kernel
theorem dX11_count_121 : decode cX11_count 121 = .ok (.iaload, 1) := by decide +kernel
theorem dX11_count_122 : decode cX11_count 122 = .ok (.iconst (-1), 1) := by decide +kernel
theorem dX11_count_123 : decode cX11_count 123 = .ok (.if_icmp .eq 7, 3) := by decide +kernel
theorem dX11_count_126 : decode cX11_count 126 = .ok (.iconst 1, 1) := by decide +kernel
theorem dX11_count_127 : decode cX11_count 127 = .ok (.goto 4, 3) := by decide +kernel
theorem dX11_count_130 : decode cX11_count 130 = .ok (.iconst 0, 1) := by decide +kernel
theorem dX11_count_131 : decode cX11_count 131 = .ok (.iadd, 1) := by decide +kernel
theorem dX11_count_132 : decode cX11_count 132 = .ok (.istore_n 2, 1) := by decide +kernel
theorem dX11_count_133 : decode cX11_count 133 = .ok (.iinc 3 1, 3) := by decide +kernel
theorem dX11_count_136 : decode cX11_count 136 = .ok (.goto (-29), 3) := by decide +kernel
theorem dX11_count_139 : decode cX11_count 139 = .ok (.iload_n 2, 1) := by decide +kernel
theorem dX11_count_140 : decode cX11_count 140 = .ok (.ireturn, 1) := by decide +kernel
theorem dX11_count_141 : decode cX11_count 141 = .ok (.iconst 0, 1) := by decide +kernel
theorem dX11_count_142 : decode cX11_count 142 = .ok (.istore_n 3, 1) := by decide +kernel
theorem dX11_count_143 : decode cX11_count 143 = .ok (.iload_n 3, 1) := by decide +kernel
theorem dX11_count_144 : decode cX11_count 144 = .ok (.aload_n 0, 1) := by decide +kernel
theorem dX11_count_145 : decode cX11_count 145 = .ok (.getfield 134, 3) := by decide +kernel
theorem dX11_count_148 : decode cX11_count 148 = .ok (.if_icmp .ge 29, 3) := by decide +kernel
theorem dX11_count_151 : decode cX11_count 151 = .ok (.iload_n 2, 1) := by decide +kernel
theorem dX11_count_152 : decode cX11_count 152 = .ok (.aload_n 0, 1) := by decide +kernel
theorem dX11_count_153 : decode cX11_count 153 = .ok (.iload_n 3, 1) := by decide +kernel
theorem dX11_count_154 : decode cX11_count 154 = .ok (.invokevirtual 200, 3) := by decide +kernel
theorem dX11_count_157 : decode cX11_count 157 = .ok (.ifCond .eq 11, 3) := by decide +kernel
theorem dX11_count_160 : decode cX11_count 160 = .ok (.aload_n 0, 1) := by decide +kernel
theorem dX11_count_161 : decode cX11_count 161 = .ok (.iload_n 3, 1) := by decide +kernel
theorem dX11_count_162 : decode cX11_count 162 = .ok (.invokevirtual 197, 3) := by decide +kernel
theorem dX11_count_165 : decode cX11_count 165 = .ok (.goto 4, 3) := by decide +kernel
theorem dX11_count_168 : decode cX11_count 168 = .ok (.iconst 0, 1) := by decide +kernel
theorem dX11_count_169 : decode cX11_count 169 = .ok (.iadd, 1) := by decide +kernel
theorem dX11_count_170 : decode cX11_count 170 = .ok (.istore_n 2, 1) := by decide +kernel
theorem dX11_count_171 : decode cX11_count 171 = .ok (.iinc 3 1, 3) := by decide +kernel
theorem dX11_count_174 : decode cX11_count 174 = .ok (.goto (-31), 3) := by decide +kernel
theorem dX11_count_177 : decode cX11_count 177 = .ok (.iload_n 2, 1) := by decide +kernel
theorem dX11_count_178 : decode cX11_count 178 = .ok (.ireturn, 1) := by decide +kernel
theorem dX11_count_179 : decode cX11_count 179 = .ok (.iconst (-1), 1) := by decide +kernel
theorem dX11_count_180 : decode cX11_count 180 = .ok (.ireturn, 1) := by decide +kernel
