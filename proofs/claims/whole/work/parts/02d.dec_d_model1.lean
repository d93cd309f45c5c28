theorem dX11_readTest_106 : decode cX11_readTest 106 = .ok (.iload_n 1, 1) := by decide +kernel
theorem dX11_readTest_107 : decode cX11_readTest 107 = .ok (.iload_n 3, 1) := by decide +kernel
theorem dX11_readTest_108 : decode cX11_readTest 108 = .ok (.bipush 61, 2) := by decide +kernel
theorem dX11_readTest_110 : decode cX11_readTest 110 = .ok (.if_icmp .ne 7, 3) := by decide +kernel
theorem dX11_readTest_113 : decode cX11_readTest 113 = .ok (.iconst 0, 1) := by decide +kernel
theorem dX11_readTest_114 : decode cX11_readTest 114 = .ok (.goto 14, 3) := by decide +kernel
theorem dX11_readTest_117 : decode cX11_readTest 117 = .ok (.iload_n 3, 1) := by decide +kernel
theorem dX11_readTest_118 : decode cX11_readTest 118 = .ok (.bipush 60, 2) := by decide +kernel
theorem dX11_readTest_120 : decode cX11_readTest 120 = .ok (.if_icmp .ne 7, 3) := by decide +kernel
theorem dX11_readTest_123 : decode cX11_readTest 123 = .ok (.iconst 1, 1) := by decide +kernel
theorem dX11_readTest_124 : decode cX11_readTest 124 = .ok (.goto 4, 3) := by decide +kernel
theorem dX11_readTest_127 : decode cX11_readTest 127 = .ok (.iconst 2, 1) := by decide +kernel
theorem dX11_readTest_128 : decode cX11_readTest 128 = .ok (.iastore, 1) := by decide +kernel
theorem dX11_readTest_129 : decode cX11_readTest 129 = .ok (.aload_n 0, 1) := by decide +kernel
theorem dX11_readTest_130 : decode cX11_readTest 130 = .ok (.iload_n 3, 1) := by decide +kernel
theorem dX11_readTest_131 : decode cX11_readTest 131 = .ok (.bipush 61, 2) := by decide +kernel
theorem dX11_readTest_133 : decode cX11_readTest 133 = .ok (.if_icmp .eq 15, 3) := by decide +kernel
theorem dX11_readTest_136 : decode cX11_readTest 136 = .ok (.iload_n 3, 1) := by decide +kernel
theorem dX11_readTest_137 : decode cX11_readTest 137 = .ok (.bipush 60, 2) := by decide +kernel
theorem dX11_readTest_139 : decode cX11_readTest 139 = .ok (.if_icmp .eq 9, 3) := by decide +kernel
theorem dX11_readTest_142 : decode cX11_readTest 142 = .ok (.iload_n 3, 1) := by decide +kernel
theorem dX11_readTest_143 : decode cX11_readTest 143 = .ok (.bipush 62, 2) := by decide +kernel
theorem dX11_readTest_145 : decode cX11_readTest 145 = .ok (.if_icmp .ne 10, 3) := by decide +kernel
theorem dX11_readTest_148 : decode cX11_readTest 148 = .ok (.aload_n 0, 1) := by decide +kernel
theorem dX11_readTest_149 : decode cX11_readTest 149 = .ok (.getfield 211, 3) := by decide +kernel
theorem dX11_readTest_152 : decode cX11_readTest 152 = .ok (.goto 7, 3) := by decide +kernel
theorem dX11_readTest_155 : decode cX11_readTest 155 = .ok (.aload_n 0, 1) := by decide +kernel
theorem dX11_readTest_156 : decode cX11_readTest 156 = .ok (.getfield 208, 3) := by decide +kernel
theorem dX11_readTest_159 : decode cX11_readTest 159 = .ok (.putfield 211, 3) := by decide +kernel
theorem dX11_readTest_162 : decode cX11_readTest 162 = .ok (.aload_n 0, 1) := by decide +kernel
theorem dX11_readTest_163 : decode cX11_readTest 163 = .ok (.dup, 1) := by decide +kernel
theorem dX11_readTest_164 : decode cX11_readTest 164 = .ok (.getfield 208, 3) := by decide +kernel
theorem dX11_readTest_167 : decode cX11_readTest 167 = .ok (.iconst 1, 1) := by decide +kernel
theorem dX11_readTest_168 : decode cX11_readTest 168 = .ok (.iadd, 1) := by decide +kernel
theorem dX11_readTest_169 : decode cX11_readTest 169 = .ok (.putfield 208, 3) := by decide +kernel
theorem dX11_readTest_172 : decode cX11_readTest 172 = .ok (.aload_n 0, 1) := by decide +kernel
theorem dX11_readTest_173 : decode cX11_readTest 173 = .ok (.getfield 211, 3) := by decide +kernel
theorem dX11_readTest_176 : decode cX11_readTest 176 = .ok (.ifCond .ge 21, 3) := by decide +kernel
theorem dX11_readTest_179 : decode cX11_readTest 179 = .ok (.aload_n 0, 1) := by decide +kernel
theorem dX11_readTest_180 : decode cX11_readTest 180 = .ok (.invokevirtual 214, 3) := by decide +kernel
theorem dX11_readTest_183 : decode cX11_readTest 183 = .ok (.invokestatic 224, 3) := by decide +kernel
theorem dX11_readTest_186 : decode cX11_readTest 186 = .ok (.ifCond .ne 11, 3) := by decide +kernel
theorem dX11_readTest_189 : decode cX11_readTest 189 = .ok (.aload_n 0, 1) := by decide +kernel
theorem dX11_readTest_190 : decode cX11_readTest 190 = .ok (.aload_n 0, 1) := by decide +kernel
theorem dX11_readTest_191 : decode cX11_readTest 191 = .ok (.getfield 208, 3) := by decide +kernel
theorem dX11_readTest_194 : decode cX11_readTest 194 = .ok (.putfield 211, 3) := by decide +kernel
theorem dX11_readTest_197 : decode cX11_readTest 197 = .ok (.iconst 0, 1) := by decide +kernel
theorem dX11_readTest_198 : decode cX11_readTest 198 = .ok (.istore_n 3, 1) := by decide +kernel
theorem dX11_readTest_199 : decode cX11_readTest 199 = .ok (.iconst 0, 1) := by decide +kernel
theorem dX11_readTest_200 : decode cX11_readTest 200 = .ok (.istore 4, 2) := by decide +kernel
theorem dX11_readTest_202 : decode cX11_readTest 202 = .ok (.iload 4, 2) := by decide +kernel
theorem dX11_readTest_204 : decode cX11_readTest 204 = .ok (.iconst 3, 1) := by decide +kernel
theorem dX11_readTest_205 : decode cX11_readTest 205 = .ok (.if_icmp .ge 49, 3) := by decide +kernel
theorem dX11_readTest_208 : decode cX11_readTest 208 = .ok (.aload_n 0, 1) := by decide +kernel
theorem dX11_readTest_209 : decode cX11_readTest 209 = .ok (.getfield 211, 3) := by decide +kernel
theorem dX11_readTest_212 : decode cX11_readTest 212 = .ok (.ifCond .ge 42, 3) := by decide +kernel
theorem dX11_readTest_215 : decode cX11_readTest 215 = .ok (.aload_n 0, 1) := by decide +kernel
theorem dX11_readTest_216 : decode cX11_readTest 216 = .ok (.invokevirtual 214, 3) := by decide +kernel
theorem dX11_readTest_219 : decode cX11_readTest 219 = .ok (.invokestatic 224, 3) := by decide +kernel
theorem dX11_readTest_222 : decode cX11_readTest 222 = .ok (.ifCond .eq 32, 3) := by decide +kernel
theorem dX11_readTest_225 : decode cX11_readTest 225 = .ok (.bipush 10, 2) := by decide +kernel
theorem dX11_readTest_227 : decode cX11_readTest 227 = .ok (.iload_n 3, 1) := by decide +kernel
theorem dX11_readTest_228 : decode cX11_readTest 228 = .ok (.imul, 1) := by decide +kernel
theorem dX11_readTest_229 : decode cX11_readTest 229 = .ok (.aload_n 0, 1) := by decide +kernel
theorem dX11_readTest_230 : decode cX11_readTest 230 = .ok (.invokevirtual 214, 3) := by decide +kernel
theorem dX11_readTest_233 : decode cX11_readTest 233 = .ok (.iadd, 1) := by decide +kernel
theorem dX11_readTest_234 : decode cX11_readTest 234 = .ok (.bipush 48, 2) := by decide +kernel
theorem dX11_readTest_236 : decode cX11_readTest 236 = .ok (.isub, 1) := by decide +kernel
theorem dX11_readTest_237 : decode cX11_readTest 237 = .ok (.istore_n 3, 1) := by decide +kernel
theorem dX11_readTest_238 : decode cX11_readTest 238 = .ok (.aload_n 0, 1) := by decide +kernel
theorem dX11_readTest_239 : decode cX11_readTest 239 = .ok (.dup, 1) := by decide +kernel
theorem dX11_readTest_240 : decode cX11_readTest 240 = .ok (.getfield 208, 3) := by decide +kernel
theorem dX11_readTest_243 : decode cX11_readTest 243 = .ok (.iconst 1, 1) := by decide +kernel
theorem dX11_readTest_244 : decode cX11_readTest 244 = .ok (.iadd, 1) := by decide +kernel
theorem dX11_readTest_245 : decode cX11_readTest 245 = .ok (.putfield 208, 3) := by decide +kernel
theorem dX11_readTest_248 : decode cX11_readTest 248 = .ok (.iinc 4 1, 3) := by decide +kernel
theorem dX11_readTest_251 : decode cX11_readTest 251 = .ok (.goto (-49), 3) := by decide +kernel
theorem dX11_readTest_254 : decode cX11_readTest 254 = .ok (.aload_n 0, 1) := by decide +kernel
theorem dX11_readTest_255 : decode cX11_readTest 255 = .ok (.getfield 75, 3) := by decide +kernel
theorem dX11_readTest_258 : decode cX11_readTest 258 = .ok (.iload_n 1, 1) := by decide +kernel
theorem dX11_readTest_259 : decode cX11_readTest 259 = .ok (.iload_n 3, 1) := by decide +kernel
theorem dX11_readTest_260 : decode cX11_readTest 260 = .ok (.iastore, 1) := by decide +kernel
theorem dX11_readTest_261 : decode cX11_readTest 261 = .ok (.return_, 1) := by decide +kernel
theorem dX11_read_0 : decode cX11_read 0 = .ok (.aload_n 0, 1) := by decide +kernel
theorem dX11_read_1 : decode cX11_read 1 = .ok (.iconst 0, 1) := by decide +kernel
theorem dX11_read_2 : decode cX11_read 2 = .ok (.putfield 208, 3) := by decide +kernel
theorem dX11_read_5 : decode cX11_read 5 = .ok (.aload_n 0, 1) := by decide +kernel
theorem dX11_read_6 : decode cX11_read 6 = .ok (.iconst (-1), 1) := by decide +kernel
theorem dX11_read_7 : decode cX11_read 7 = .ok (.putfield 211, 3) := by decide +kernel
theorem dX11_read_10 : decode cX11_read 10 = .ok (.aload_n 0, 1) := by decide +kernel
theorem dX11_read_11 : decode cX11_read 11 = .ok (.getfield 66, 3) := by decide +kernel
theorem dX11_read_14 : decode cX11_read 14 = .ok (.iload_n 1, 1) := by decide +kernel
theorem dX11_read_15 : decode cX11_read 15 = .ok (.iconst 0, 1) := by decide +kernel
theorem dX11_read_16 : decode cX11_read 16 = .ok (.iastore, 1) := by decide +kernel
theorem dX11_read_17 : decode cX11_read 17 = .ok (.aload_n 0, 1) := by decide +kernel
theorem dX11_read_18 : decode cX11_read 18 = .ok (.getfield 59, 3) := by decide +kernel
theorem dX11_read_21 : decode cX11_read 21 = .ok (.iload_n 1, 1) := by decide +kernel
theorem dX11_read_22 : decode cX11_read 22 = .ok (.aload_n 0, 1) := by decide +kernel
theorem dX11_read_23 : decode cX11_read 23 = .ok (.invokevirtual 214, 3) := by decide +kernel
theorem dX11_read_26 : decode cX11_read 26 = .ok (.bipush 98, 2) := by decide +kernel
theorem dX11_read_28 : decode cX11_read 28 = .ok (.if_icmp .ne 7, 3) := by decide +kernel
theorem dX11_read_31 : decode cX11_read 31 = .ok (.iconst 1, 1) := by decide +kernel
theorem dX11_read_32 : decode cX11_read 32 = .ok (.goto 4, 3) := by decide +kernel
theorem dX11_read_35 : decode cX11_read 35 = .ok (.iconst 0, 1) := by decide +kernel
theorem dX11_read_36 : decode cX11_read 36 = .ok (.bastore, 1) := by decide +kernel
theorem dX11_read_37 : decode cX11_read 37 = .ok (.aload_n 0, 1) := by decide +kernel
theorem dX11_read_38 : decode cX11_read 38 = .ok (.iconst 4, 1) := by decide +kernel
theorem dX11_read_39 : decode cX11_read 39 = .ok (.aload_n 0, 1) := by decide +kernel
theorem dX11_read_40 : decode cX11_read 40 = .ok (.getfield 59, 3) := by decide +kernel
theorem dX11_read_43 : decode cX11_read 43 = .ok (.iload_n 1, 1) := by decide +kernel
theorem dX11_read_44 : decode cX11_read 44 = .ok (.baload, 1) := by decide +kernel
theorem dX11_read_45 : decode cX11_read 45 = .ok (.ifCond .eq 9, 3) := by decide +kernel
theorem dX11_read_48 : decode cX11_read 48 = .ok (.ldc2_w 227, 3) := by decide +kernel
theorem dX11_read_51 : decode cX11_read 51 = .ok (.goto 6, 3) := by decide +kernel
theorem dX11_read_54 : decode cX11_read 54 = .ok (.ldc2_w 229, 3) := by decide +kernel
theorem dX11_read_57 : decode cX11_read 57 = .ok (.invokevirtual 220, 3) := by decide +kernel
theorem dX11_read_60 : decode cX11_read 60 = .ok (.aload_n 0, 1) := by decide +kernel
theorem dX11_read_61 : decode cX11_read 61 = .ok (.getfield 211, 3) := by decide +kernel
theorem dX11_read_64 : decode cX11_read 64 = .ok (.ifCond .ge 82, 3) := by decide +kernel
theorem dX11_read_67 : decode cX11_read 67 = .ok (.aload_n 0, 1) := by decide +kernel
theorem dX11_read_68 : decode cX11_read 68 = .ok (.invokevirtual 214, 3) := by decide +kernel
theorem dX11_read_71 : decode cX11_read 71 = .ok (.istore_n 2, 1) := by decide +kernel
theorem dX11_read_72 : decode cX11_read 72 = .ok (.aload_n 0, 1) := by decide +kernel
theorem dX11_read_73 : decode cX11_read 73 = .ok (.getfield 63, 3) := by decide +kernel
theorem dX11_read_76 : decode cX11_read 76 = .ok (.iload_n 1, 1) := by decide +kernel
theorem dX11_read_77 : decode cX11_read 77 = .ok (.iload_n 2, 1) := by decide +kernel
theorem dX11_read_78 : decode cX11_read 78 = .ok (.i2l, 1) := by decide +kernel
theorem dX11_read_79 : decode cX11_read 79 = .ok (.ldc2_w 231, 3) := by decide +kernel
theorem dX11_read_82 : decode cX11_read 82 = .ok (.ldc2_w 233, 3) := by decide +kernel
theorem dX11_read_85 : decode cX11_read 85 = .ok (.invokestatic 145, 3) := by decide +kernel
theorem dX11_read_88 : decode cX11_read 88 = .ok (.ifCond .eq 10, 3) := by decide +kernel
theorem dX11_read_91 : decode cX11_read 91 = .ok (.iload_n 2, 1) := by decide +kernel
theorem dX11_read_92 : decode cX11_read 92 = .ok (.bipush 48, 2) := by decide +kernel
theorem dX11_read_94 : decode cX11_read 94 = .ok (.isub, 1) := by decide +kernel
theorem dX11_read_95 : decode cX11_read 95 = .ok (.goto 5, 3) := by decide +kernel
theorem dX11_read_98 : decode cX11_read 98 = .ok (.bipush 6, 2) := by decide +kernel
theorem dX11_read_100 : decode cX11_read 100 = .ok (.iastore, 1) := by decide +kernel
theorem dX11_read_101 : decode cX11_read 101 = .ok (.aload_n 0, 1) := by decide +kernel
theorem dX11_read_102 : decode cX11_read 102 = .ok (.iload_n 2, 1) := by decide +kernel
theorem dX11_read_103 : decode cX11_read 103 = .ok (.i2l, 1) := by decide +kernel
theorem dX11_read_104 : decode cX11_read 104 = .ok (.ldc2_w 231, 3) := by decide +kernel
theorem dX11_read_107 : decode cX11_read 107 = .ok (.ldc2_w 233, 3) := by decide +kernel
theorem dX11_read_110 : decode cX11_read 110 = .ok (.invokestatic 145, 3) := by decide +kernel
theorem dX11_read_113 : decode cX11_read 113 = .ok (.ifCond .ne 9, 3) := by decide +kernel
theorem dX11_read_116 : decode cX11_read 116 = .ok (.iload_n 2, 1) := by decide +kernel
theorem dX11_read_117 : decode cX11_read 117 = .ok (.bipush 42, 2) := by decide +kernel
theorem dX11_read_119 : decode cX11_read 119 = .ok (.if_icmp .ne 10, 3) := by decide +kernel
theorem dX11_read_122 : decode cX11_read 122 = .ok (.aload_n 0, 1) := by decide +kernel
theorem dX11_read_123 : decode cX11_read 123 = .ok (.getfield 211, 3) := by decide +kernel
theorem dX11_read_126 : decode cX11_read 126 = .ok (.goto 7, 3) := by decide +kernel
theorem dX11_read_129 : decode cX11_read 129 = .ok (.aload_n 0, 1) := by decide +kernel
theorem dX11_read_130 : decode cX11_read 130 = .ok (.getfield 208, 3) := by decide +kernel
theorem dX11_read_133 : decode cX11_read 133 = .ok (.putfield 211, 3) := by decide +kernel
theorem dX11_read_136 : decode cX11_read 136 = .ok (.aload_n 0, 1) := by decide +kernel
theorem dX11_read_137 : decode cX11_read 137 = .ok (.dup, 1) := by decide +kernel
theorem dX11_read_138 : decode cX11_read 138 = .ok (.getfield 208, 3) := by decide +kernel
theorem dX11_read_141 : decode cX11_read 141 = .ok (.iconst 1, 1) := by decide +kernel
theorem dX11_read_142 : decode cX11_read 142 = .ok (.iadd, 1) := by decide +kernel
theorem dX11_read_143 : decode cX11_read 143 = .ok (.putfield 208, 3) := by decide +kernel
theorem dX11_read_146 : decode cX11_read 146 = .ok (.aload_n 0, 1) := by decide +kernel
theorem dX11_read_147 : decode cX11_read 147 = .ok (.getfield 211, 3) := by decide +kernel
theorem dX11_read_150 : decode cX11_read 150 = .ok (.ifCond .ge 97, 3) := by decide +kernel
theorem dX11_read_153 : decode cX11_read 153 = .ok (.aload_n 0, 1) := by decide +kernel
theorem dX11_read_154 : decode cX11_read 154 = .ok (.getfield 208, 3) := by decide +kernel
theorem dX11_read_157 : decode cX11_read 157 = .ok (.aload_n 0, 1) := by decide +kernel
theorem dX11_read_158 : decode cX11_read 158 = .ok (.getfield 205, 3) := by decide +kernel
theorem dX11_read_161 : decode cX11_read 161 = .ok (.if_icmp .ge 86, 3) := by decide +kernel
theorem dX11_read_164 : decode cX11_read 164 = .ok (.aload_n 0, 1) := by decide +kernel
theorem dX11_read_165 : decode cX11_read 165 = .ok (.getfield 66, 3) := by decide +kernel
theorem dX11_read_168 : decode cX11_read 168 = .ok (.iload_n 1, 1) := by decide +kernel
theorem dX11_read_169 : decode cX11_read 169 = .ok (.iaload, 1) := by decide +kernel
theorem dX11_read_170 : decode cX11_read 170 = .ok (.ifCond .ne 14, 3) := by decide +kernel
theorem dX11_read_173 : decode cX11_read 173 = .ok (.aload_n 0, 1) := by decide +kernel
theorem dX11_read_174 : decode cX11_read 174 = .ok (.iconst 4, 1) := by decide +kernel
theorem dX11_read_175 : decode cX11_read 175 = .ok (.ldc2_w 235, 3) := by decide +kernel
theorem dX11_read_178 : decode cX11_read 178 = .ok (.invokevirtual 220, 3) := by decide +kernel
theorem dX11_read_181 : decode cX11_read 181 = .ok (.goto 32, 3) := by decide +kernel
theorem dX11_read_184 : decode cX11_read 184 = .ok (.aload_n 0, 1) := by decide +kernel
theorem dX11_read_185 : decode cX11_read 185 = .ok (.getfield 66, 3) := by decide +kernel
theorem dX11_read_188 : decode cX11_read 188 = .ok (.iload_n 1, 1) := by decide +kernel
theorem dX11_read_189 : decode cX11_read 189 = .ok (.iaload, 1) := by decide +kernel
theorem dX11_read_190 : decode cX11_read 190 = .ok (.iconst 1, 1) := by decide +kernel
theorem dX11_read_191 : decode cX11_read 191 = .ok (.if_icmp .ne 14, 3) := by decide +kernel
theorem dX11_read_194 : decode cX11_read 194 = .ok (.aload_n 0, 1) := by decide +kernel
theorem dX11_read_195 : decode cX11_read 195 = .ok (.iconst 5, 1) := by decide +kernel
theorem dX11_read_196 : decode cX11_read 196 = .ok (.ldc2_w 237, 3) := by decide +kernel
theorem dX11_read_199 : decode cX11_read 199 = .ok (.invokevirtual 220, 3) := by decide +kernel
theorem dX11_read_202 : decode cX11_read 202 = .ok (.goto 11, 3) := by decide +kernel
theorem dX11_read_205 : decode cX11_read 205 = .ok (.aload_n 0, 1) := by decide +kernel
theorem dX11_read_206 : decode cX11_read 206 = .ok (.aload_n 0, 1) := by decide +kernel
theorem dX11_read_207 : decode cX11_read 207 = .ok (.getfield 208, 3) := by decide +kernel
theorem dX11_read_210 : decode cX11_read 210 = .ok (.putfield 211, 3) := by decide +kernel
theorem dX11_read_213 : decode cX11_read 213 = .ok (.aload_n 0, 1) := by decide +kernel
theorem dX11_read_214 : decode cX11_read 214 = .ok (.getfield 211, 3) := by decide +kernel
theorem dX11_read_217 : decode cX11_read 217 = .ok (.ifCond .ge (-71), 3) := by decide +kernel
theorem dX11_read_220 : decode cX11_read 220 = .ok (.aload_n 0, 1) := by decide +kernel
theorem dX11_read_221 : decode cX11_read 221 = .ok (.iconst 2, 1) := by decide +kernel
theorem dX11_read_222 : decode cX11_read 222 = .ok (.iload_n 1, 1) := by decide +kernel
theorem dX11_read_223 : decode cX11_read 223 = .ok (.imul, 1) := by decide +kernel
theorem dX11_read_224 : decode cX11_read 224 = .ok (.aload_n 0, 1) := by decide +kernel
theorem dX11_read_225 : decode cX11_read 225 = .ok (.getfield 66, 3) := by decide +kernel
theorem dX11_read_228 : decode cX11_read 228 = .ok (.iload_n 1, 1) := by decide +kernel
theorem dX11_read_229 : decode cX11_read 229 = .ok (.iaload, 1) := by decide +kernel
theorem dX11_read_230 : decode cX11_read 230 = .ok (.iadd, 1) := by decide +kernel
theorem dX11_read_231 : decode cX11_read 231 = .ok (.invokevirtual 239, 3) := by decide +kernel
theorem dX11_read_234 : decode cX11_read 234 = .ok (.aload_n 0, 1) := by decide +kernel
theorem dX11_read_235 : decode cX11_read 235 = .ok (.getfield 66, 3) := by decide +kernel
theorem dX11_read_238 : decode cX11_read 238 = .ok (.iload_n 1, 1) := by decide +kernel
theorem dX11_read_239 : decode cX11_read 239 = .ok (.dup2, 1) := by decide +kernel
theorem dX11_read_240 : decode cX11_read 240 = .ok (.iaload, 1) := by decide +kernel
theorem dX11_read_241 : decode cX11_read 241 = .ok (.iconst 1, 1) := by decide +kernel
theorem dX11_read_242 : decode cX11_read 242 = .ok (.iadd, 1) := by decide +kernel
theorem dX11_read_243 : decode cX11_read 243 = .ok (.iastore, 1) := by decide +kernel
theorem dX11_read_244 : decode cX11_read 244 = .ok (.goto (-98), 3) := by decide +kernel
theorem dX11_read_247 : decode cX11_read 247 = .ok (.return_, 1) := by decide +kernel
theorem dX11_rule_0 : decode cX11_rule 0 = .ok (.aload_n 0, 1) := by decide +kernel
theorem dX11_rule_1 : decode cX11_rule 1 = .ok (.getfield 243, 3) := by decide +kernel
theorem dX11_rule_4 : decode cX11_rule 4 = .ok (.bipush 12, 2) := by decide +kernel
theorem dX11_rule_6 : decode cX11_rule 6 = .ok (.if_icmp .ne 6, 3) := by decide +kernel
theorem dX11_rule_9 : decode cX11_rule 9 = .ok (.bipush (-4), 2) := by decide +kernel
theorem dX11_rule_11 : decode cX11_rule 11 = .ok (.ireturn, 1) := by decide +kernel
theorem dX11_rule_12 : decode cX11_rule 12 = .ok (.aload_n 0, 1) := by decide +kernel
theorem dX11_rule_13 : decode cX11_rule 13 = .ok (.aload_n 0, 1) := by decide +kernel
theorem dX11_rule_14 : decode cX11_rule 14 = .ok (.getfield 243, 3) := by decide +kernel
theorem dX11_rule_17 : decode cX11_rule 17 = .ok (.invokevirtual 246, 3) := by decide +kernel
theorem dX11_rule_20 : decode cX11_rule 20 = .ok (.aload_n 0, 1) := by decide +kernel
theorem dX11_rule_21 : decode cX11_rule 21 = .ok (.iconst 0, 1) := by decide +kernel
theorem dX11_rule_22 : decode cX11_rule 22 = .ok (.putfield 205, 3) := by decide +kernel
theorem dX11_rule_25 : decode cX11_rule 25 = .ok (.aload_n 0, 1) := by decide +kernel
theorem dX11_rule_26 : decode cX11_rule 26 = .ok (.getfield 211, 3) := by decide +kernel
theorem dX11_rule_29 : decode cX11_rule 29 = .ok (.ifCond .lt 11, 3) := by decide +kernel
theorem dX11_rule_32 : decode cX11_rule 32 = .ok (.bipush (-10), 2) := by decide +kernel
theorem dX11_rule_34 : decode cX11_rule 34 = .ok (.aload_n 0, 1) := by decide +kernel
theorem dX11_rule_35 : decode cX11_rule 35 = .ok (.getfield 211, 3) := by decide +kernel
theorem dX11_rule_38 : decode cX11_rule 38 = .ok (.isub, 1) := by decide +kernel
theorem dX11_rule_39 : decode cX11_rule 39 = .ok (.ireturn, 1) := by decide +kernel
theorem dX11_rule_40 : decode cX11_rule 40 = .ok (.aload_n 0, 1) := by decide +kernel
theorem dX11_rule_41 : decode cX11_rule 41 = .ok (.dup, 1) := by decide +kernel
theorem dX11_rule_42 : decode cX11_rule 42 = .ok (.getfield 243, 3) := by decide +kernel
theorem dX11_rule_45 : decode cX11_rule 45 = .ok (.iconst 1, 1) := by decide +kernel
theorem dX11_rule_46 : decode cX11_rule 46 = .ok (.iadd, 1) := by decide +kernel
theorem dX11_rule_47 : decode cX11_rule 47 = .ok (.putfield 243, 3) := by decide +kernel
theorem dX11_rule_50 : decode cX11_rule 50 = .ok (.aload_n 0, 1) := by decide +kernel
theorem dX11_rule_51 : decode cX11_rule 51 = .ok (.getfield 243, 3) := by decide +kernel
theorem dX11_rule_54 : decode cX11_rule 54 = .ok (.iconst 1, 1) := by decide +kernel
theorem dX11_rule_55 : decode cX11_rule 55 = .ok (.isub, 1) := by decide +kernel
theorem dX11_rule_56 : decode cX11_rule 56 = .ok (.ireturn, 1) := by decide +kernel
theorem dX11_holds_0 : decode cX11_holds 0 = .ok (.aload_n 0, 1) := by decide +kernel
theorem dX11_holds_1 : decode cX11_holds 1 = .ok (.getfield 63, 3) := by decide +kernel
theorem dX11_holds_4 : decode cX11_holds 4 = .ok (.iload_n 1, 1) := by decide +kernel
theorem dX11_holds_5 : decode cX11_holds 5 = .ok (.iaload, 1) := by decide +kernel
theorem dX11_holds_6 : decode cX11_holds 6 = .ok (.bipush 6, 2) := by decide +kernel
theorem dX11_holds_8 : decode cX11_holds 8 = .ok (.if_icmp .eq 18, 3) := by decide +kernel
theorem dX11_holds_11 : decode cX11_holds 11 = .ok (.aload_n 0, 1) := by decide +kernel
theorem dX11_holds_12 : decode cX11_holds 12 = .ok (.getfield 63, 3) := by decide +kernel
theorem dX11_holds_15 : decode cX11_holds 15 = .ok (.iload_n 1, 1) := by decide +kernel
theorem dX11_holds_16 : decode cX11_holds 16 = .ok (.iaload, 1) := by decide +kernel
theorem dX11_holds_17 : decode cX11_holds 17 = .ok (.aload_n 0, 1) := by decide +kernel
theorem dX11_holds_18 : decode cX11_holds 18 = .ok (.getfield 7, 3) := by decide +kernel
theorem dX11_holds_21 : decode cX11_holds 21 = .ok (.iload_n 2, 1) := by decide +kernel
theorem dX11_holds_22 : decode cX11_holds 22 = .ok (.iaload, 1) := by decide +kernel
theorem dX11_holds_23 : decode cX11_holds 23 = .ok (.if_icmp .ne 7, 3) := by decide +kernel
theorem dX11_holds_26 : decode cX11_holds 26 = .ok (.iconst 1, 1) := by decide +kernel
theorem dX11_holds_27 : decode cX11_holds 27 = .ok (.goto 4, 3) := by decide +kernel
theorem dX11_holds_30 : decode cX11_holds 30 = .ok (.iconst 0, 1) := by decide +kernel
theorem dX11_holds_31 : decode cX11_holds 31 = .ok (.istore 4, 2) := by decide +kernel
theorem dX11_holds_33 : decode cX11_holds 33 = .ok (.iconst 2, 1) := by decide +kernel
theorem dX11_holds_34 : decode cX11_holds 34 = .ok (.iload_n 1, 1) := by decide +kernel
theorem dX11_holds_35 : decode cX11_holds 35 = .ok (.imul, 1) := by decide +kernel
theorem dX11_holds_36 : decode cX11_holds 36 = .ok (.istore 5, 2) := by decide +kernel
theorem dX11_holds_38 : decode cX11_holds 38 = .ok (.iload 5, 2) := by decide +kernel
theorem dX11_holds_40 : decode cX11_holds 40 = .ok (.iconst 2, 1) := by decide +kernel
theorem dX11_holds_41 : decode cX11_holds 41 = .ok (.iload_n 1, 1) := by decide +kernel
theorem dX11_holds_42 : decode cX11_holds 42 = .ok (.imul, 1) := by decide +kernel
theorem dX11_holds_43 : decode cX11_holds 43 = .ok (.aload_n 0, 1) := by decide +kernel
theorem dX11_holds_44 : decode cX11_holds 44 = .ok (.getfield 66, 3) := by decide +kernel
theorem dX11_holds_47 : decode cX11_holds 47 = .ok (.iload_n 1, 1) := by decide +kernel
theorem dX11_holds_48 : decode cX11_holds 48 = .ok (.iaload, 1) := by decide +kernel
theorem dX11_holds_49 : decode cX11_holds 49 = .ok (.iadd, 1) := by decide +kernel
theorem dX11_holds_50 : decode cX11_holds 50 = .ok (.if_icmp .ge 164, 3) := by decide +kernel
theorem dX11_holds_53 : decode cX11_holds 53 = .ok (.aload_n 0, 1) := by decide +kernel
theorem dX11_holds_54 : decode cX11_holds 54 = .ok (.getfield 69, 3) := by decide +kernel
theorem dX11_holds_57 : decode cX11_holds 57 = .ok (.iload 5, 2) := by decide +kernel
theorem dX11_holds_59 : decode cX11_holds 59 = .ok (.iaload, 1) := by decide +kernel
theorem dX11_holds_60 : decode cX11_holds 60 = .ok (.istore 6, 2) := by decide +kernel
theorem dX11_holds_62 : decode cX11_holds 62 = .ok (.aload_n 0, 1) := by decide +kernel
theorem dX11_holds_63 : decode cX11_holds 63 = .ok (.iload_n 2, 1) := by decide +kernel
theorem dX11_holds_64 : decode cX11_holds 64 = .ok (.invokevirtual 187, 3) := by decide +kernel
theorem dX11_holds_67 : decode cX11_holds 67 = .ok (.istore 7, 2) := by decide +kernel
theorem dX11_holds_69 : decode cX11_holds 69 = .ok (.iload 6, 2) := by decide +kernel
theorem dX11_holds_71 : decode cX11_holds 71 = .ok (.ifCond .ne 18, 3) := by decide +kernel
theorem dX11_holds_74 : decode cX11_holds 74 = .ok (.iload 7, 2) := by decide +kernel
theorem dX11_holds_76 : decode cX11_holds 76 = .ok (.iconst (-1), 1) := by decide +kernel
theorem dX11_holds_77 : decode cX11_holds 77 = .ok (.if_icmp .ne 7, 3) := by decide +kernel
theorem dX11_holds_80 : decode cX11_holds 80 = .ok (.iconst 0, 1) := by decide +kernel
theorem dX11_holds_81 : decode cX11_holds 81 = .ok (.goto 56, 3) := by decide +kernel
theorem dX11_holds_84 : decode cX11_holds 84 = .ok (.iload 7, 2) := by decide +kernel
theorem dX11_holds_86 : decode cX11_holds 86 = .ok (.goto 51, 3) := by decide +kernel
theorem dX11_holds_89 : decode cX11_holds 89 = .ok (.iload 6, 2) := by decide +kernel
theorem dX11_holds_91 : decode cX11_holds 91 = .ok (.iconst 1, 1) := by decide +kernel
theorem dX11_holds_92 : decode cX11_holds 92 = .ok (.if_icmp .ne 12, 3) := by decide +kernel
theorem dX11_holds_95 : decode cX11_holds 95 = .ok (.aload_n 0, 1) := by decide +kernel
theorem dX11_holds_96 : decode cX11_holds 96 = .ok (.getfield 43, 3) := by decide +kernel
theorem dX11_holds_99 : decode cX11_holds 99 = .ok (.iload_n 3, 1) := by decide +kernel
theorem dX11_holds_100 : decode cX11_holds 100 = .ok (.iaload, 1) := by decide +kernel
theorem dX11_holds_101 : decode cX11_holds 101 = .ok (.goto 36, 3) := by decide +kernel
theorem dX11_holds_104 : decode cX11_holds 104 = .ok (.iload 6, 2) := by decide +kernel
theorem dX11_holds_106 : decode cX11_holds 106 = .ok (.iconst 2, 1) := by decide +kernel
theorem dX11_holds_107 : decode cX11_holds 107 = .ok (.if_icmp .ne 12, 3) := by decide +kernel
theorem dX11_holds_110 : decode cX11_holds 110 = .ok (.aload_n 0, 1) := by decide +kernel
theorem dX11_holds_111 : decode cX11_holds 111 = .ok (.getfield 13, 3) := by decide +kernel
theorem dX11_holds_114 : decode cX11_holds 114 = .ok (.iload_n 2, 1) := by decide +kernel
theorem dX11_holds_115 : decode cX11_holds 115 = .ok (.iaload, 1) := by decide +kernel
theorem dX11_holds_116 : decode cX11_holds 116 = .ok (.goto 21, 3) := by decide +kernel
theorem dX11_holds_119 : decode cX11_holds 119 = .ok (.iload 6, 2) := by decide +kernel
theorem dX11_holds_121 : decode cX11_holds 121 = .ok (.iconst 3, 1) := by decide +kernel
theorem dX11_holds_122 : decode cX11_holds 122 = .ok (.if_icmp .ne 11, 3) := by decide +kernel
theorem dX11_holds_125 : decode cX11_holds 125 = .ok (.aload_n 0, 1) := by decide +kernel
theorem dX11_holds_126 : decode cX11_holds 126 = .ok (.iload_n 2, 1) := by decide +kernel
theorem dX11_holds_127 : decode cX11_holds 127 = .ok (.invokevirtual 197, 3) := by decide +kernel
theorem dX11_holds_130 : decode cX11_holds 130 = .ok (.goto 7, 3) := by decide +kernel
theorem dX11_holds_133 : decode cX11_holds 133 = .ok (.aload_n 0, 1) := by decide +kernel
theorem dX11_holds_134 : decode cX11_holds 134 = .ok (.getfield 171, 3) := by decide +kernel
theorem dX11_holds_137 : decode cX11_holds 137 = .ok (.istore 8, 2) := by decide +kernel
theorem dX11_holds_139 : decode cX11_holds 139 = .ok (.aload_n 0, 1) := by decide +kernel
theorem dX11_holds_140 : decode cX11_holds 140 = .ok (.getfield 75, 3) := by decide +kernel
theorem dX11_holds_143 : decode cX11_holds 143 = .ok (.iload 5, 2) := by decide +kernel
theorem dX11_holds_145 : decode cX11_holds 145 = .ok (.iaload, 1) := by decide +kernel
theorem dX11_holds_146 : decode cX11_holds 146 = .ok (.istore 9, 2) := by decide +kernel
theorem dX11_holds_148 : decode cX11_holds 148 = .ok (.iload 4, 2) := by decide +kernel
theorem dX11_holds_150 : decode cX11_holds 150 = .ok (.ifCond .eq 55, 3) := by decide +kernel
theorem dX11_holds_153 : decode cX11_holds 153 = .ok (.aload_n 0, 1) := by decide +kernel
theorem dX11_holds_154 : decode cX11_holds 154 = .ok (.getfield 72, 3) := by decide +kernel
theorem dX11_holds_157 : decode cX11_holds 157 = .ok (.iload 5, 2) := by decide +kernel
theorem dX11_holds_159 : decode cX11_holds 159 = .ok (.iaload, 1) := by decide +kernel
theorem dX11_holds_160 : decode cX11_holds 160 = .ok (.ifCond .ne 13, 3) := by decide +kernel
theorem dX11_holds_163 : decode cX11_holds 163 = .ok (.iload 8, 2) := by decide +kernel
theorem dX11_holds_165 : decode cX11_holds 165 = .ok (.iload 9, 2) := by decide +kernel
theorem dX11_holds_167 : decode cX11_holds 167 = .ok (.if_icmp .ne 38, 3) := by decide +kernel
theorem dX11_holds_170 : decode cX11_holds 170 = .ok (.goto 31, 3) := by decide +kernel
theorem dX11_holds_173 : decode cX11_holds 173 = .ok (.aload_n 0, 1) := by decide +kernel
theorem dX11_holds_174 : decode cX11_holds 174 = .ok (.getfield 72, 3) := by decide +kernel
theorem dX11_holds_177 : decode cX11_holds 177 = .ok (.iload 5, 2) := by decide +kernel
theorem dX11_holds_179 : decode cX11_holds 179 = .ok (.iaload, 1) := by decide +kernel
theorem dX11_holds_180 : decode cX11_holds 180 = .ok (.iconst 1, 1) := by decide +kernel
theorem dX11_holds_181 : decode cX11_holds 181 = .ok (.if_icmp .ne 13, 3) := by decide +kernel
theorem dX11_holds_184 : decode cX11_holds 184 = .ok (.iload 8, 2) := by decide +kernel
theorem dX11_holds_186 : decode cX11_holds 186 = .ok (.iload 9, 2) := by decide +kernel
theorem dX11_holds_188 : decode cX11_holds 188 = .ok (.if_icmp .ge 17, 3) := by decide +kernel
theorem dX11_holds_191 : decode cX11_holds 191 = .ok (.goto 10, 3) := by decide +kernel
theorem dX11_holds_194 : decode cX11_holds 194 = .ok (.iload 8, 2) := by decide +kernel
theorem dX11_holds_196 : decode cX11_holds 196 = .ok (.iload 9, 2) := by decide +kernel
theorem dX11_holds_198 : decode cX11_holds 198 = .ok (.if_icmp .le 7, 3) := by decide +kernel
theorem dX11_holds_201 : decode cX11_holds 201 = .ok (.iconst 1, 1) := by decide +kernel
theorem dX11_holds_202 : decode cX11_holds 202 = .ok (.goto 4, 3) := by decide +kernel
theorem dX11_holds_205 : decode cX11_holds 205 = .ok (.iconst 0, 1) := by decide +kernel
theorem dX11_holds_206 : decode cX11_holds 206 = .ok (.istore 4, 2) := by decide +kernel
theorem dX11_holds_208 : decode cX11_holds 208 = .ok (.iinc 5 1, 3) := by decide +kernel
theorem dX11_holds_211 : decode cX11_holds 211 = .ok (.goto (-173), 3) := by decide +kernel
theorem dX11_holds_214 : decode cX11_holds 214 = .ok (.iload 4, 2) := by decide +kernel
theorem dX11_holds_216 : decode cX11_holds 216 = .ok (.ireturn, 1) := by decide +kernel
theorem dX11_ruleFor_0 : decode cX11_ruleFor 0 = .ok (.iconst (-1), 1) := by decide +kernel
theorem dX11_ruleFor_1 : decode cX11_ruleFor 1 = .ok (.istore_n 3, 1) := by decide +kernel
theorem dX11_ruleFor_2 : decode cX11_ruleFor 2 = .ok (.iconst 0, 1) := by decide +kernel
theorem dX11_ruleFor_3 : decode cX11_ruleFor 3 = .ok (.istore 4, 2) := by decide +kernel
theorem dX11_ruleFor_5 : decode cX11_ruleFor 5 = .ok (.iload 4, 2) := by decide +kernel
theorem dX11_ruleFor_7 : decode cX11_ruleFor 7 = .ok (.aload_n 0, 1) := by decide +kernel
theorem dX11_ruleFor_8 : decode cX11_ruleFor 8 = .ok (.getfield 243, 3) := by decide +kernel
theorem dX11_ruleFor_11 : decode cX11_ruleFor 11 = .ok (.if_icmp .ge 27, 3) := by decide +kernel
theorem dX11_ruleFor_14 : decode cX11_ruleFor 14 = .ok (.aload_n 0, 1) := by decide +kernel
theorem dX11_ruleFor_15 : decode cX11_ruleFor 15 = .ok (.iload 4, 2) := by decide +kernel
theorem dX11_ruleFor_17 : decode cX11_ruleFor 17 = .ok (.iload_n 1, 1) := by decide +kernel
theorem dX11_ruleFor_18 : decode cX11_ruleFor 18 = .ok (.iload_n 2, 1) := by decide +kernel
theorem dX11_ruleFor_19 : decode cX11_ruleFor 19 = .ok (.invokevirtual 249, 3) := by decide +kernel
theorem dX11_ruleFor_22 : decode cX11_ruleFor 22 = .ok (.ifCond .eq 8, 3) := by decide +kernel
theorem dX11_ruleFor_25 : decode cX11_ruleFor 25 = .ok (.iload 4, 2) := by decide +kernel
theorem dX11_ruleFor_27 : decode cX11_ruleFor 27 = .ok (.goto 4, 3) := by decide +kernel
theorem dX11_ruleFor_30 : decode cX11_ruleFor 30 = .ok (.iload_n 3, 1) := by decide +kernel
theorem dX11_ruleFor_31 : decode cX11_ruleFor 31 = .ok (.istore_n 3, 1) := by decide +kernel
theorem dX11_ruleFor_32 : decode cX11_ruleFor 32 = .ok (.iinc 4 1, 3) := by decide +kernel
theorem dX11_ruleFor_35 : decode cX11_ruleFor 35 = .ok (.goto (-30), 3) := by decide +kernel
theorem dX11_ruleFor_38 : decode cX11_ruleFor 38 = .ok (.iload_n 3, 1) := by decide +kernel
theorem dX11_ruleFor_39 : decode cX11_ruleFor 39 = .ok (.ireturn, 1) := by decide +kernel
theorem dX11_mayOf_0 : decode cX11_mayOf 0 = .ok (.aload_n 0, 1) := by decide +kernel
theorem dX11_mayOf_1 : decode cX11_mayOf 1 = .ok (.iload_n 1, 1) := by decide +kernel
theorem dX11_mayOf_2 : decode cX11_mayOf 2 = .ok (.invokevirtual 200, 3) := by decide +kernel
theorem dX11_mayOf_5 : decode cX11_mayOf 5 = .ok (.ifCond .ne 5, 3) := by decide +kernel
theorem dX11_mayOf_8 : decode cX11_mayOf 8 = .ok (.iconst 1, 1) := by decide +kernel
theorem dX11_mayOf_9 : decode cX11_mayOf 9 = .ok (.ireturn, 1) := by decide +kernel
theorem dX11_mayOf_10 : decode cX11_mayOf 10 = .ok (.aload_n 0, 1) := by decide +kernel
theorem dX11_mayOf_11 : decode cX11_mayOf 11 = .ok (.getfield 37, 3) := by decide +kernel
theorem dX11_mayOf_14 : decode cX11_mayOf 14 = .ok (.iload_n 2, 1) := by decide +kernel
theorem dX11_mayOf_15 : decode cX11_mayOf 15 = .ok (.iaload, 1) := by decide +kernel
theorem dX11_mayOf_16 : decode cX11_mayOf 16 = .ok (.aload_n 0, 1) := by decide +kernel
theorem dX11_mayOf_17 : decode cX11_mayOf 17 = .ok (.getfield 7, 3) := by decide +kernel
theorem dX11_mayOf_20 : decode cX11_mayOf 20 = .ok (.iload_n 1, 1) := by decide +kernel
theorem dX11_mayOf_21 : decode cX11_mayOf 21 = .ok (.iaload, 1) := by decide +kernel
theorem dX11_mayOf_22 : decode cX11_mayOf 22 = .ok (.ishr, 1) := by decide +kernel
theorem dX11_mayOf_23 : decode cX11_mayOf 23 = .ok (.iconst 1, 1) := by decide +kernel
theorem dX11_mayOf_24 : decode cX11_mayOf 24 = .ok (.iand, 1) := by decide +kernel
theorem dX11_mayOf_25 : decode cX11_mayOf 25 = .ok (.ifCond .ne 5, 3) := by decide +kernel
theorem dX11_mayOf_28 : decode cX11_mayOf 28 = .ok (.iconst 2, 1) := by decide +kernel
theorem dX11_mayOf_29 : decode cX11_mayOf 29 = .ok (.ireturn, 1) := by decide +kernel
theorem dX11_mayOf_30 : decode cX11_mayOf 30 = .ok (.iconst 0, 1) := by decide +kernel
theorem dX11_mayOf_31 : decode cX11_mayOf 31 = .ok (.istore_n 3, 1) := by decide +kernel
theorem dX11_mayOf_32 : decode cX11_mayOf 32 = .ok (.iload_n 3, 1) := by decide +kernel
theorem dX11_mayOf_33 : decode cX11_mayOf 33 = .ok (.iconst 4, 1) := by decide +kernel
theorem dX11_mayOf_34 : decode cX11_mayOf 34 = .ok (.if_icmp .ge 38, 3) := by decide +kernel
theorem dX11_mayOf_37 : decode cX11_mayOf 37 = .ok (.aload_n 0, 1) := by decide +kernel
theorem dX11_mayOf_38 : decode cX11_mayOf 38 = .ok (.getfield 40, 3) := by decide +kernel
theorem dX11_mayOf_41 : decode cX11_mayOf 41 = .ok (.iload_n 2, 1) := by decide +kernel
theorem dX11_mayOf_42 : decode cX11_mayOf 42 = .ok (.iaload, 1) := by decide +kernel
theorem dX11_mayOf_43 : decode cX11_mayOf 43 = .ok (.iload_n 3, 1) := by decide +kernel
theorem dX11_mayOf_44 : decode cX11_mayOf 44 = .ok (.ishr, 1) := by decide +kernel
theorem dX11_mayOf_45 : decode cX11_mayOf 45 = .ok (.iconst 1, 1) := by decide +kernel
theorem dX11_mayOf_46 : decode cX11_mayOf 46 = .ok (.iand, 1) := by decide +kernel
theorem dX11_mayOf_47 : decode cX11_mayOf 47 = .ok (.iconst 1, 1) := by decide +kernel
theorem dX11_mayOf_48 : decode cX11_mayOf 48 = .ok (.if_icmp .ne 18, 3) := by decide +kernel
theorem dX11_mayOf_51 : decode cX11_mayOf 51 = .ok (.aload_n 0, 1) := by decide +kernel
theorem dX11_mayOf_52 : decode cX11_mayOf 52 = .ok (.getfield 16, 3) := by decide +kernel
theorem dX11_mayOf_55 : decode cX11_mayOf 55 = .ok (.iconst 4, 1) := by decide +kernel
theorem dX11_mayOf_56 : decode cX11_mayOf 56 = .ok (.iload_n 1, 1) := by decide +kernel
theorem dX11_mayOf_57 : decode cX11_mayOf 57 = .ok (.imul, 1) := by decide +kernel
theorem dX11_mayOf_58 : decode cX11_mayOf 58 = .ok (.iload_n 3, 1) := by decide +kernel
theorem dX11_mayOf_59 : decode cX11_mayOf 59 = .ok (.iadd, 1) := by decide +kernel
theorem dX11_mayOf_60 : decode cX11_mayOf 60 = .ok (.iaload, 1) := by decide +kernel
theorem dX11_mayOf_61 : decode cX11_mayOf 61 = .ok (.ifCond .ne 5, 3) := by decide +kernel
theorem dX11_mayOf_64 : decode cX11_mayOf 64 = .ok (.iconst 3, 1) := by decide +kernel
theorem dX11_mayOf_65 : decode cX11_mayOf 65 = .ok (.ireturn, 1) := by decide +kernel
theorem dX11_mayOf_66 : decode cX11_mayOf 66 = .ok (.iinc 3 1, 3) := by decide +kernel
theorem dX11_mayOf_69 : decode cX11_mayOf 69 = .ok (.goto (-37), 3) := by decide +kernel
theorem dX11_mayOf_72 : decode cX11_mayOf 72 = .ok (.aload_n 0, 1) := by decide +kernel
theorem dX11_mayOf_73 : decode cX11_mayOf 73 = .ok (.iload_n 1, 1) := by decide +kernel
theorem dX11_mayOf_74 : decode cX11_mayOf 74 = .ok (.iload_n 2, 1) := by decide +kernel
theorem dX11_mayOf_75 : decode cX11_mayOf 75 = .ok (.invokevirtual 252, 3) := by decide +kernel
theorem dX11_mayOf_78 : decode cX11_mayOf 78 = .ok (.istore_n 3, 1) := by decide +kernel
theorem dX11_mayOf_79 : decode cX11_mayOf 79 = .ok (.iload_n 3, 1) := by decide +kernel
theorem dX11_mayOf_80 : decode cX11_mayOf 80 = .ok (.iconst (-1), 1) := by decide +kernel
theorem dX11_mayOf_81 : decode cX11_mayOf 81 = .ok (.if_icmp .eq 16, 3) := by decide +kernel
theorem dX11_mayOf_84 : decode cX11_mayOf 84 = .ok (.aload_n 0, 1) := by decide +kernel
theorem dX11_mayOf_85 : decode cX11_mayOf 85 = .ok (.getfield 59, 3) := by decide +kernel
theorem dX11_mayOf_88 : decode cX11_mayOf 88 = .ok (.iload_n 3, 1) := by decide +kernel
theorem dX11_mayOf_89 : decode cX11_mayOf 89 = .ok (.baload, 1) := by decide +kernel
theorem dX11_mayOf_90 : decode cX11_mayOf 90 = .ok (.ifCond .eq 7, 3) := by decide +kernel
theorem dX11_mayOf_93 : decode cX11_mayOf 93 = .ok (.iconst 4, 1) := by decide +kernel
theorem dX11_mayOf_94 : decode cX11_mayOf 94 = .ok (.goto 4, 3) := by decide +kernel
theorem dX11_mayOf_97 : decode cX11_mayOf 97 = .ok (.iconst 0, 1) := by decide +kernel
theorem dX11_mayOf_98 : decode cX11_mayOf 98 = .ok (.ireturn, 1) := by decide +kernel
theorem dX11_may_0 : decode cX11_may 0 = .ok (.aload_n 0, 1) := by decide +kernel
theorem dX11_may_1 : decode cX11_may 1 = .ok (.iload_n 1, 1) := by decide +kernel
theorem dX11_may_2 : decode cX11_may 2 = .ok (.invokevirtual 162, 3) := by decide +kernel
theorem dX11_may_5 : decode cX11_may 5 = .ok (.ifCond .eq 20, 3) := by decide +kernel
theorem dX11_may_8 : decode cX11_may 8 = .ok (.aload_n 0, 1) := by decide +kernel
theorem dX11_may_9 : decode cX11_may 9 = .ok (.iload_n 2, 1) := by decide +kernel
theorem dX11_may_10 : decode cX11_may 10 = .ok (.invokevirtual 255, 3) := by decide +kernel
theorem dX11_may_13 : decode cX11_may 13 = .ok (.ifCond .eq 12, 3) := by decide +kernel
theorem dX11_may_16 : decode cX11_may 16 = .ok (.aload_n 0, 1) := by decide +kernel
theorem dX11_may_17 : decode cX11_may 17 = .ok (.iload_n 1, 1) := by decide +kernel
theorem dX11_may_18 : decode cX11_may 18 = .ok (.iload_n 2, 1) := by decide +kernel
theorem dX11_may_19 : decode cX11_may 19 = .ok (.invokevirtual 258, 3) := by decide +kernel
theorem dX11_may_22 : decode cX11_may 22 = .ok (.goto 4, 3) := by decide +kernel
theorem dX11_may_25 : decode cX11_may 25 = .ok (.iconst (-1), 1) := by decide +kernel
theorem dX11_may_26 : decode cX11_may 26 = .ok (.ireturn, 1) := by decide +kernel
theorem dX11_why_0 : decode cX11_why 0 = .ok (.aload_n 0, 1) := by decide +kernel
theorem dX11_why_1 : decode cX11_why 1 = .ok (.iload_n 1, 1) := by decide +kernel
theorem dX11_why_2 : decode cX11_why 2 = .ok (.invokevirtual 162, 3) := by decide +kernel
theorem dX11_why_5 : decode cX11_why 5 = .ok (.ifCond .eq 20, 3) := by decide +kernel
theorem dX11_why_8 : decode cX11_why 8 = .ok (.aload_n 0, 1) := by decide +kernel
theorem dX11_why_9 : decode cX11_why 9 = .ok (.iload_n 2, 1) := by decide +kernel
theorem dX11_why_10 : decode cX11_why 10 = .ok (.invokevirtual 255, 3) := by decide +kernel
theorem dX11_why_13 : decode cX11_why 13 = .ok (.ifCond .eq 12, 3) := by decide +kernel
theorem dX11_why_16 : decode cX11_why 16 = .ok (.aload_n 0, 1) := by decide +kernel
theorem dX11_why_17 : decode cX11_why 17 = .ok (.iload_n 1, 1) := by decide +kernel
theorem dX11_why_18 : decode cX11_why 18 = .ok (.iload_n 2, 1) := by decide +kernel
theorem dX11_why_19 : decode cX11_why 19 = .ok (.invokevirtual 252, 3) := by decide +kernel
theorem dX11_why_22 : decode cX11_why 22 = .ok (.goto 4, 3) := by decide +kernel
theorem dX11_why_25 : decode cX11_why 25 = .ok (.iconst (-1), 1) := by decide +kernel
theorem dX11_why_26 : decode cX11_why 26 = .ok (.ireturn, 1) := by decide +kernel
theorem dX11_vote_0 : decode cX11_vote 0 = .ok (.aload_n 0, 1) := by decide +kernel
theorem dX11_vote_1 : decode cX11_vote 1 = .ok (.iload_n 1, 1) := by decide +kernel
theorem dX11_vote_2 : decode cX11_vote 2 = .ok (.invokevirtual 162, 3) := by decide +kernel
theorem dX11_vote_5 : decode cX11_vote 5 = .ok (.ifCond .eq 17, 3) := by decide +kernel
theorem dX11_vote_8 : decode cX11_vote 8 = .ok (.iload_n 2, 1) := by decide +kernel
theorem dX11_vote_9 : decode cX11_vote 9 = .ok (.i2l, 1) := by decide +kernel
theorem dX11_vote_10 : decode cX11_vote 10 = .ok (.ldc2_w 261, 3) := by decide +kernel
theorem dX11_vote_13 : decode cX11_vote 13 = .ok (.ldc2_w 143, 3) := by decide +kernel
theorem dX11_vote_16 : decode cX11_vote 16 = .ok (.invokestatic 145, 3) := by decide +kernel
theorem dX11_vote_19 : decode cX11_vote 19 = .ok (.ifCond .ne 6, 3) := by decide +kernel
theorem dX11_vote_22 : decode cX11_vote 22 = .ok (.bipush (-5), 2) := by decide +kernel
theorem dX11_vote_24 : decode cX11_vote 24 = .ok (.ireturn, 1) := by decide +kernel
theorem dX11_vote_25 : decode cX11_vote 25 = .ok (.aload_n 0, 1) := by decide +kernel
theorem dX11_vote_26 : decode cX11_vote 26 = .ok (.getfield 28, 3) := by decide +kernel
theorem dX11_vote_29 : decode cX11_vote 29 = .ok (.iload_n 1, 1) := by decide +kernel
theorem dX11_vote_30 : decode cX11_vote 30 = .ok (.iaload, 1) := by decide +kernel
theorem dX11_vote_31 : decode cX11_vote 31 = .ok (.istore_n 3, 1) := by decide +kernel
theorem dX11_vote_32 : decode cX11_vote 32 = .ok (.aload_n 0, 1) := by decide +kernel
theorem dX11_vote_33 : decode cX11_vote 33 = .ok (.getfield 28, 3) := by decide +kernel
theorem dX11_vote_36 : decode cX11_vote 36 = .ok (.iload_n 1, 1) := by decide +kernel
theorem dX11_vote_37 : decode cX11_vote 37 = .ok (.iload_n 2, 1) := by decide +kernel
theorem dX11_vote_38 : decode cX11_vote 38 = .ok (.iastore, 1) := by decide +kernel
theorem dX11_vote_39 : decode cX11_vote 39 = .ok (.iload_n 3, 1) := by decide +kernel
theorem dX11_vote_40 : decode cX11_vote 40 = .ok (.ireturn, 1) := by decide +kernel
theorem dX11_leader_0 : decode cX11_leader 0 = .ok (.aload_n 0, 1) := by decide +kernel
theorem dX11_leader_1 : decode cX11_leader 1 = .ok (.iload_n 1, 1) := by decide +kernel
theorem dX11_leader_2 : decode cX11_leader 2 = .ok (.invokevirtual 255, 3) := by decide +kernel
theorem dX11_leader_5 : decode cX11_leader 5 = .ok (.ifCond .ne 5, 3) := by decide +kernel
theorem dX11_leader_8 : decode cX11_leader 8 = .ok (.iconst (-1), 1) := by decide +kernel
theorem dX11_leader_9 : decode cX11_leader 9 = .ok (.ireturn, 1) := by decide +kernel
theorem dX11_leader_10 : decode cX11_leader 10 = .ok (.iconst 0, 1) := by decide +kernel
theorem dX11_leader_11 : decode cX11_leader 11 = .ok (.istore_n 2, 1) := by decide +kernel
theorem dX11_leader_12 : decode cX11_leader 12 = .ok (.iload_n 2, 1) := by decide +kernel
theorem dX11_leader_13 : decode cX11_leader 13 = .ok (.bipush 8, 2) := by decide +kernel
theorem dX11_leader_15 : decode cX11_leader 15 = .ok (.if_icmp .ge 16, 3) := by decide +kernel
theorem dX11_leader_18 : decode cX11_leader 18 = .ok (.aload_n 0, 1) := by decide +kernel
theorem dX11_leader_19 : decode cX11_leader 19 = .ok (.getfield 88, 3) := by decide +kernel
theorem dX11_leader_22 : decode cX11_leader 22 = .ok (.iload_n 2, 1) := by decide +kernel
theorem dX11_leader_23 : decode cX11_leader 23 = .ok (.iconst 0, 1) := by decide +kernel
theorem dX11_leader_24 : decode cX11_leader 24 = .ok (.iastore, 1) := by decide +kernel
theorem dX11_leader_25 : decode cX11_leader 25 = .ok (.iinc 2 1, 3) := by decide +kernel
theorem dX11_leader_28 : decode cX11_leader 28 = .ok (.goto (-16), 3) := by decide +kernel
theorem dX11_leader_31 : decode cX11_leader 31 = .ok (.iconst 0, 1) := by decide +kernel
theorem dX11_leader_32 : decode cX11_leader 32 = .ok (.istore_n 2, 1) := by decide +kernel
theorem dX11_leader_33 : decode cX11_leader 33 = .ok (.iload_n 2, 1) := by decide +kernel
theorem dX11_leader_34 : decode cX11_leader 34 = .ok (.aload_n 0, 1) := by decide +kernel
theorem dX11_leader_35 : decode cX11_leader 35 = .ok (.getfield 134, 3) := by decide +kernel
theorem dX11_leader_38 : decode cX11_leader 38 = .ok (.if_icmp .ge 52, 3) := by decide +kernel
theorem dX11_leader_41 : decode cX11_leader 41 = .ok (.aload_n 0, 1) := by decide +kernel
theorem dX11_leader_42 : decode cX11_leader 42 = .ok (.getfield 28, 3) := by decide +kernel
theorem dX11_leader_45 : decode cX11_leader 45 = .ok (.iload_n 2, 1) := by decide +kernel
theorem dX11_leader_46 : decode cX11_leader 46 = .ok (.iaload, 1) := by decide +kernel
theorem dX11_leader_47 : decode cX11_leader 47 = .ok (.iconst (-1), 1) := by decide +kernel
theorem dX11_leader_48 : decode cX11_leader 48 = .ok (.if_icmp .eq 36, 3) := by decide +kernel
theorem dX11_leader_51 : decode cX11_leader 51 = .ok (.aload_n 0, 1) := by decide +kernel
theorem dX11_leader_52 : decode cX11_leader 52 = .ok (.iload_n 2, 1) := by decide +kernel
theorem dX11_leader_53 : decode cX11_leader 53 = .ok (.iload_n 1, 1) := by decide +kernel
theorem dX11_leader_54 : decode cX11_leader 54 = .ok (.invokevirtual 258, 3) := by decide +kernel
theorem dX11_leader_57 : decode cX11_leader 57 = .ok (.ifCond .ne 27, 3) := by decide +kernel
theorem dX11_leader_60 : decode cX11_leader 60 = .ok (.aload_n 0, 1) := by decide +kernel
theorem dX11_leader_61 : decode cX11_leader 61 = .ok (.getfield 88, 3) := by decide +kernel
theorem dX11_leader_64 : decode cX11_leader 64 = .ok (.aload_n 0, 1) := by decide +kernel
theorem dX11_leader_65 : decode cX11_leader 65 = .ok (.getfield 28, 3) := by decide +kernel
theorem dX11_leader_68 : decode cX11_leader 68 = .ok (.iload_n 2, 1) := by decide +kernel
theorem dX11_leader_69 : decode cX11_leader 69 = .ok (.iaload, 1) := by decide +kernel
theorem dX11_leader_70 : decode cX11_leader 70 = .ok (.dup2, 1) := by decide +kernel
theorem dX11_leader_71 : decode cX11_leader 71 = .ok (.iaload, 1) := by decide +kernel
theorem dX11_leader_72 : decode cX11_leader 72 = .ok (.aload_n 0, 1) := by decide +kernel
theorem dX11_leader_73 : decode cX11_leader 73 = .ok (.iload_n 2, 1) := by decide +kernel
theorem dX11_leader_74 : decode cX11_leader 74 = .ok (.invokevirtual 197, 3) := by decide +kernel
theorem dX11_leader_77 : decode cX11_leader 77 = .ok (.bipush 10, 2) := by decide +kernel
theorem dX11_leader_79 : decode cX11_leader 79 = .ok (.invokestatic 191, 3) := by decide +kernel
theorem dX11_leader_82 : decode cX11_leader 82 = .ok (.iadd, 1) := by decide +kernel
theorem dX11_leader_83 : decode cX11_leader 83 = .ok (.iastore, 1) := by decide +kernel
theorem dX11_leader_84 : decode cX11_leader 84 = .ok (.iinc 2 1, 3) := by decide +kernel
theorem dX11_leader_87 : decode cX11_leader 87 = .ok (.goto (-54), 3) := by decide +kernel
theorem dX11_leader_90 : decode cX11_leader 90 = .ok (.iconst 0, 1) := by decide +kernel
theorem dX11_leader_91 : decode cX11_leader 91 = .ok (.istore_n 2, 1) := by decide +kernel
theorem dX11_leader_92 : decode cX11_leader 92 = .ok (.iconst 1, 1) := by decide +kernel
theorem dX11_leader_93 : decode cX11_leader 93 = .ok (.istore_n 3, 1) := by decide +kernel
theorem dX11_leader_94 : decode cX11_leader 94 = .ok (.iload_n 3, 1) := by decide +kernel
theorem dX11_leader_95 : decode cX11_leader 95 = .ok (.bipush 8, 2) := by decide +kernel
theorem dX11_leader_97 : decode cX11_leader 97 = .ok (.if_icmp .ge 30, 3) := by decide +kernel
theorem dX11_leader_100 : decode cX11_leader 100 = .ok (.aload_n 0, 1) := by decide +kernel
theorem dX11_leader_101 : decode cX11_leader 101 = .ok (.getfield 88, 3) := by decide +kernel
theorem dX11_leader_104 : decode cX11_leader 104 = .ok (.iload_n 3, 1) := by decide +kernel
theorem dX11_leader_105 : decode cX11_leader 105 = .ok (.iaload, 1) := by decide +kernel
theorem dX11_leader_106 : decode cX11_leader 106 = .ok (.aload_n 0, 1) := by decide +kernel
theorem dX11_leader_107 : decode cX11_leader 107 = .ok (.getfield 88, 3) := by decide +kernel
theorem dX11_leader_110 : decode cX11_leader 110 = .ok (.iload_n 2, 1) := by decide +kernel
theorem dX11_leader_111 : decode cX11_leader 111 = .ok (.iaload, 1) := by decide +kernel
theorem dX11_leader_112 : decode cX11_leader 112 = .ok (.if_icmp .le 7, 3) := by decide +kernel
theorem dX11_leader_115 : decode cX11_leader 115 = .ok (.iload_n 3, 1) := by decide +kernel
theorem dX11_leader_116 : decode cX11_leader 116 = .ok (.goto 4, 3) := by decide +kernel
theorem dX11_leader_119 : decode cX11_leader 119 = .ok (.iload_n 2, 1) := by decide +kernel
theorem dX11_leader_120 : decode cX11_leader 120 = .ok (.istore_n 2, 1) := by decide +kernel
theorem dX11_leader_121 : decode cX11_leader 121 = .ok (.iinc 3 1, 3) := by decide +kernel
theorem dX11_leader_124 : decode cX11_leader 124 = .ok (.goto (-30), 3) := by decide +kernel
theorem dX11_leader_127 : decode cX11_leader 127 = .ok (.aload_n 0, 1) := by decide +kernel
theorem dX11_leader_128 : decode cX11_leader 128 = .ok (.getfield 88, 3) := by decide +kernel
theorem dX11_leader_131 : decode cX11_leader 131 = .ok (.iload_n 2, 1) := by decide +kernel
theorem dX11_leader_132 : decode cX11_leader 132 = .ok (.iaload, 1) := by decide +kernel
theorem dX11_leader_133 : decode cX11_leader 133 = .ok (.ifCond .le 7, 3) := by decide +kernel
theorem dX11_leader_136 : decode cX11_leader 136 = .ok (.iload_n 2, 1) := by decide +kernel
theorem dX11_leader_137 : decode cX11_leader 137 = .ok (.goto 4, 3) := by decide +kernel
theorem dX11_leader_140 : decode cX11_leader 140 = .ok (.iconst (-1), 1) := by decide +kernel
theorem dX11_leader_141 : decode cX11_leader 141 = .ok (.ireturn, 1) := by decide +kernel
theorem dX11_blocks_0 : decode cX11_blocks 0 = .ok (.iconst 0, 1) := by decide +kernel
theorem dX11_blocks_1 : decode cX11_blocks 1 = .ok (.istore_n 1, 1) := by decide +kernel
theorem dX11_blocks_2 : decode cX11_blocks 2 = .ok (.iconst 0, 1) := by decide +kernel
theorem dX11_blocks_3 : decode cX11_blocks 3 = .ok (.istore_n 2, 1) := by decide +kernel
theorem dX11_blocks_4 : decode cX11_blocks 4 = .ok (.iload_n 2, 1) := by decide +kernel
theorem dX11_blocks_5 : decode cX11_blocks 5 = .ok (.aload_n 0, 1) := by decide +kernel
theorem dX11_blocks_6 : decode cX11_blocks 6 = .ok (.getfield 134, 3) := by decide +kernel
theorem dX11_blocks_9 : decode cX11_blocks 9 = .ok (.if_icmp .ge 27, 3) := by decide +kernel
theorem dX11_blocks_12 : decode cX11_blocks 12 = .ok (.iload_n 1, 1) := by decide +kernel
theorem dX11_blocks_13 : decode cX11_blocks 13 = .ok (.aload_n 0, 1) := by decide +kernel
theorem dX11_blocks_14 : decode cX11_blocks 14 = .ok (.getfield 31, 3) := by decide +kernel
theorem dX11_blocks_17 : decode cX11_blocks 17 = .ok (.iload_n 2, 1) := by decide +kernel
theorem dX11_blocks_18 : decode cX11_blocks 18 = .ok (.iaload, 1) := by decide +kernel
theorem dX11_blocks_19 : decode cX11_blocks 19 = .ok (.iconst (-1), 1) := by decide +kernel
theorem dX11_blocks_20 : decode cX11_blocks 20 = .ok (.if_icmp .eq 7, 3) := by decide +kernel
theorem dX11_blocks_23 : decode cX11_blocks 23 = .ok (.iconst 1, 1) := by decide +kernel
theorem dX11_blocks_24 : decode cX11_blocks 24 = .ok (.goto 4, 3) := by decide +kernel
theorem dX11_blocks_27 : decode cX11_blocks 27 = .ok (.iconst 0, 1) := by decide +kernel
theorem dX11_blocks_28 : decode cX11_blocks 28 = .ok (.iadd, 1) := by decide +kernel
theorem dX11_blocks_29 : decode cX11_blocks 29 = .ok (.istore_n 1, 1) := by decide +kernel
theorem dX11_blocks_30 : decode cX11_blocks 30 = .ok (.iinc 2 1, 3) := by decide +kernel
theorem dX11_blocks_33 : decode cX11_blocks 33 = .ok (.goto (-29), 3) := by decide +kernel
theorem dX11_blocks_36 : decode cX11_blocks 36 = .ok (.iload_n 1, 1) := by decide +kernel
theorem dX11_blocks_37 : decode cX11_blocks 37 = .ok (.ireturn, 1) := by decide +kernel
theorem dX11_stage_0 : decode cX11_stage 0 = .ok (.iload_n 1, 1) := by decide +kernel
theorem dX11_stage_1 : decode cX11_stage 1 = .ok (.i2l, 1) := by decide +kernel
theorem dX11_stage_2 : decode cX11_stage 2 = .ok (.lconst 1, 1) := by decide +kernel
theorem dX11_stage_3 : decode cX11_stage 3 = .ok (.ldc2_w 203, 3) := by decide +kernel
theorem dX11_stage_6 : decode cX11_stage 6 = .ok (.invokestatic 145, 3) := by decide +kernel
theorem dX11_stage_9 : decode cX11_stage 9 = .ok (.ifCond .eq 15, 3) := by decide +kernel
theorem dX11_stage_12 : decode cX11_stage 12 = .ok (.iload_n 2, 1) := by decide +kernel
theorem dX11_stage_13 : decode cX11_stage 13 = .ok (.i2l, 1) := by decide +kernel
theorem dX11_stage_14 : decode cX11_stage 14 = .ok (.lconst 1, 1) := by decide +kernel
theorem dX11_stage_15 : decode cX11_stage 15 = .ok (.ldc2_w 263, 3) := by decide +kernel
theorem dX11_stage_18 : decode cX11_stage 18 = .ok (.invokestatic 145, 3) := by decide +kernel
theorem dX11_stage_21 : decode cX11_stage 21 = .ok (.ifCond .ne 6, 3) := by decide +kernel
theorem dX11_stage_24 : decode cX11_stage 24 = .ok (.bipush (-2), 2) := by decide +kernel
theorem dX11_stage_26 : decode cX11_stage 26 = .ok (.ireturn, 1) := by decide +kernel
theorem dX11_stage_27 : decode cX11_stage 27 = .ok (.aload_n 0, 1) := by decide +kernel
theorem dX11_stage_28 : decode cX11_stage 28 = .ok (.invokevirtual 265, 3) := by decide +kernel
theorem dX11_stage_31 : decode cX11_stage 31 = .ok (.ifCond .le 6, 3) := by decide +kernel
theorem dX11_stage_34 : decode cX11_stage 34 = .ok (.bipush (-3), 2) := by decide +kernel
theorem dX11_stage_36 : decode cX11_stage 36 = .ok (.ireturn, 1) := by decide +kernel
theorem dX11_stage_37 : decode cX11_stage 37 = .ok (.aload_n 0, 1) := by decide +kernel
theorem dX11_stage_38 : decode cX11_stage 38 = .ok (.iload_n 1, 1) := by decide +kernel
theorem dX11_stage_39 : decode cX11_stage 39 = .ok (.putfield 91, 3) := by decide +kernel
theorem dX11_stage_42 : decode cX11_stage 42 = .ok (.aload_n 0, 1) := by decide +kernel
theorem dX11_stage_43 : decode cX11_stage 43 = .ok (.iload_n 2, 1) := by decide +kernel
theorem dX11_stage_44 : decode cX11_stage 44 = .ok (.putfield 95, 3) := by decide +kernel
theorem dX11_stage_47 : decode cX11_stage 47 = .ok (.iconst 0, 1) := by decide +kernel
theorem dX11_stage_48 : decode cX11_stage 48 = .ok (.ireturn, 1) := by decide +kernel
theorem dX11_tall_0 : decode cX11_tall 0 = .ok (.aload_n 0, 1) := by decide +kernel
theorem dX11_tall_1 : decode cX11_tall 1 = .ok (.iload_n 1, 1) := by decide +kernel
theorem dX11_tall_2 : decode cX11_tall 2 = .ok (.invokevirtual 162, 3) := by decide +kernel
theorem dX11_tall_5 : decode cX11_tall 5 = .ok (.ifCond .ne 5, 3) := by decide +kernel
theorem dX11_tall_8 : decode cX11_tall 8 = .ok (.iconst (-1), 1) := by decide +kernel
theorem dX11_tall_9 : decode cX11_tall 9 = .ok (.ireturn, 1) := by decide +kernel
theorem dX11_tall_10 : decode cX11_tall 10 = .ok (.iload_n 2, 1) := by decide +kernel
theorem dX11_tall_11 : decode cX11_tall 11 = .ok (.i2l, 1) := by decide +kernel
theorem dX11_tall_12 : decode cX11_tall 12 = .ok (.lconst 0, 1) := by decide +kernel
theorem dX11_tall_13 : decode cX11_tall 13 = .ok (.ldc2_w 178, 3) := by decide +kernel
theorem dX11_tall_16 : decode cX11_tall 16 = .ok (.invokestatic 145, 3) := by decide +kernel
theorem dX11_tall_19 : decode cX11_tall 19 = .ok (.ifCond .ne 6, 3) := by decide +kernel
theorem dX11_tall_22 : decode cX11_tall 22 = .ok (.bipush (-2), 2) := by decide +kernel
theorem dX11_tall_24 : decode cX11_tall 24 = .ok (.ireturn, 1) := by decide +kernel
theorem dX11_tall_25 : decode cX11_tall 25 = .ok (.aload_n 0, 1) := by decide +kernel
theorem dX11_tall_26 : decode cX11_tall 26 = .ok (.getfield 22, 3) := by decide +kernel
theorem dX11_tall_29 : decode cX11_tall 29 = .ok (.iload_n 1, 1) := by decide +kernel
theorem dX11_tall_30 : decode cX11_tall 30 = .ok (.iaload, 1) := by decide +kernel
theorem dX11_tall_31 : decode cX11_tall 31 = .ok (.istore_n 3, 1) := by decide +kernel
theorem dX11_tall_32 : decode cX11_tall 32 = .ok (.aload_n 0, 1) := by decide +kernel
theorem dX11_tall_33 : decode cX11_tall 33 = .ok (.getfield 22, 3) := by decide +kernel
theorem dX11_tall_36 : decode cX11_tall 36 = .ok (.iload_n 1, 1) := by decide +kernel
theorem dX11_tall_37 : decode cX11_tall 37 = .ok (.iload_n 2, 1) := by decide +kernel
theorem dX11_tall_38 : decode cX11_tall 38 = .ok (.iastore, 1) := by decide +kernel
theorem dX11_tall_39 : decode cX11_tall 39 = .ok (.iload_n 3, 1) := by decide +kernel
theorem dX11_tall_40 : decode cX11_tall 40 = .ok (.ireturn, 1) := by decide +kernel
theorem dX11_isFree_0 : decode cX11_isFree 0 = .ok (.iconst 1, 1) := by decide +kernel
theorem dX11_isFree_1 : decode cX11_isFree 1 = .ok (.istore 4, 2) := by decide +kernel
theorem dX11_isFree_3 : decode cX11_isFree 3 = .ok (.iconst 0, 1) := by decide +kernel
theorem dX11_isFree_4 : decode cX11_isFree 4 = .ok (.istore 5, 2) := by decide +kernel
theorem dX11_isFree_6 : decode cX11_isFree 6 = .ok (.iload 5, 2) := by decide +kernel
theorem dX11_isFree_8 : decode cX11_isFree 8 = .ok (.aload_n 0, 1) := by decide +kernel
theorem dX11_isFree_9 : decode cX11_isFree 9 = .ok (.getfield 134, 3) := by decide +kernel
theorem dX11_isFree_12 : decode cX11_isFree 12 = .ok (.if_icmp .ge 61, 3) := by decide +kernel
theorem dX11_isFree_15 : decode cX11_isFree 15 = .ok (.iload 4, 2) := by decide +kernel
theorem dX11_isFree_17 : decode cX11_isFree 17 = .ok (.ifCond .eq 47, 3) := by decide +kernel
theorem dX11_isFree_20 : decode cX11_isFree 20 = .ok (.aload_n 0, 1) := by decide +kernel
theorem dX11_isFree_21 : decode cX11_isFree 21 = .ok (.getfield 31, 3) := by decide +kernel
theorem dX11_isFree_24 : decode cX11_isFree 24 = .ok (.iload 5, 2) := by decide +kernel
theorem dX11_isFree_26 : decode cX11_isFree 26 = .ok (.iaload, 1) := by decide +kernel
theorem dX11_isFree_27 : decode cX11_isFree 27 = .ok (.iload_n 1, 1) := by decide +kernel
theorem dX11_isFree_28 : decode cX11_isFree 28 = .ok (.if_icmp .ne 32, 3) := by decide +kernel
theorem dX11_isFree_31 : decode cX11_isFree 31 = .ok (.aload_n 0, 1) := by decide +kernel
theorem dX11_isFree_32 : decode cX11_isFree 32 = .ok (.getfield 34, 3) := by decide +kernel
theorem dX11_isFree_35 : decode cX11_isFree 35 = .ok (.iload 5, 2) := by decide +kernel
theorem dX11_isFree_37 : decode cX11_isFree 37 = .ok (.iaload, 1) := by decide +kernel
theorem dX11_isFree_38 : decode cX11_isFree 38 = .ok (.iload_n 3, 1) := by decide +kernel
theorem dX11_isFree_39 : decode cX11_isFree 39 = .ok (.if_icmp .ge 21, 3) := by decide +kernel
theorem dX11_isFree_42 : decode cX11_isFree 42 = .ok (.aload_n 0, 1) := by decide +kernel
theorem dX11_isFree_43 : decode cX11_isFree 43 = .ok (.getfield 34, 3) := by decide +kernel
theorem dX11_isFree_46 : decode cX11_isFree 46 = .ok (.iload 5, 2) := by decide +kernel
theorem dX11_isFree_48 : decode cX11_isFree 48 = .ok (.iaload, 1) := by decide +kernel
theorem dX11_isFree_49 : decode cX11_isFree 49 = .ok (.aload_n 0, 1) := by decide +kernel
theorem dX11_isFree_50 : decode cX11_isFree 50 = .ok (.iload 5, 2) := by decide +kernel
theorem dX11_isFree_52 : decode cX11_isFree 52 = .ok (.invokevirtual 197, 3) := by decide +kernel
theorem dX11_isFree_55 : decode cX11_isFree 55 = .ok (.iadd, 1) := by decide +kernel
theorem dX11_isFree_56 : decode cX11_isFree 56 = .ok (.iload_n 2, 1) := by decide +kernel
theorem dX11_isFree_57 : decode cX11_isFree 57 = .ok (.if_icmp .gt 7, 3) := by decide +kernel
theorem dX11_isFree_60 : decode cX11_isFree 60 = .ok (.iconst 1, 1) := by decide +kernel
theorem dX11_isFree_61 : decode cX11_isFree 61 = .ok (.goto 4, 3) := by decide +kernel
theorem dX11_isFree_64 : decode cX11_isFree 64 = .ok (.iconst 0, 1) := by decide +kernel
theorem dX11_isFree_65 : decode cX11_isFree 65 = .ok (.istore 4, 2) := by decide +kernel
theorem dX11_isFree_67 : decode cX11_isFree 67 = .ok (.iinc 5 1, 3) := by decide +kernel
theorem dX11_isFree_70 : decode cX11_isFree 70 = .ok (.goto (-64), 3) := by decide +kernel
theorem dX11_isFree_73 : decode cX11_isFree 73 = .ok (.iload 4, 2) := by decide +kernel
theorem dX11_isFree_75 : decode cX11_isFree 75 = .ok (.ireturn, 1) := by decide +kernel
theorem dX11_stand_0 : decode cX11_stand 0 = .ok (.aload_n 0, 1) := by decide +kernel
theorem dX11_stand_1 : decode cX11_stand 1 = .ok (.iload_n 1, 1) := by decide +kernel
theorem dX11_stand_2 : decode cX11_stand 2 = .ok (.invokevirtual 162, 3) := by decide +kernel
theorem dX11_stand_5 : decode cX11_stand 5 = .ok (.ifCond .eq 27, 3) := by decide +kernel
theorem dX11_stand_8 : decode cX11_stand 8 = .ok (.iload_n 2, 1) := by decide +kernel
theorem dX11_stand_9 : decode cX11_stand 9 = .ok (.ifCond .lt 23, 3) := by decide +kernel
theorem dX11_stand_12 : decode cX11_stand 12 = .ok (.iload_n 2, 1) := by decide +kernel
theorem dX11_stand_13 : decode cX11_stand 13 = .ok (.aload_n 0, 1) := by decide +kernel
theorem dX11_stand_14 : decode cX11_stand 14 = .ok (.getfield 91, 3) := by decide +kernel
theorem dX11_stand_17 : decode cX11_stand 17 = .ok (.if_icmp .ge 15, 3) := by decide +kernel
theorem dX11_stand_20 : decode cX11_stand 20 = .ok (.iload_n 3, 1) := by decide +kernel
theorem dX11_stand_21 : decode cX11_stand 21 = .ok (.ifCond .lt 11, 3) := by decide +kernel
theorem dX11_stand_24 : decode cX11_stand 24 = .ok (.iload_n 3, 1) := by decide +kernel
theorem dX11_stand_25 : decode cX11_stand 25 = .ok (.aload_n 0, 1) := by decide +kernel
theorem dX11_stand_26 : decode cX11_stand 26 = .ok (.getfield 95, 3) := by decide +kernel
theorem dX11_stand_29 : decode cX11_stand 29 = .ok (.if_icmp .lt 5, 3) := by decide +kernel
theorem dX11_stand_32 : decode cX11_stand 32 = .ok (.iconst (-1), 1) := by decide +kernel
theorem dX11_stand_33 : decode cX11_stand 33 = .ok (.ireturn, 1) := by decide +kernel
theorem dX11_stand_34 : decode cX11_stand 34 = .ok (.aload_n 0, 1) := by decide +kernel
theorem dX11_stand_35 : decode cX11_stand 35 = .ok (.getfield 31, 3) := by decide +kernel
theorem dX11_stand_38 : decode cX11_stand 38 = .ok (.iload_n 1, 1) := by decide +kernel
theorem dX11_stand_39 : decode cX11_stand 39 = .ok (.iaload, 1) := by decide +kernel
theorem dX11_stand_40 : decode cX11_stand 40 = .ok (.iconst (-1), 1) := by decide +kernel
theorem dX11_stand_41 : decode cX11_stand 41 = .ok (.if_icmp .ne 41, 3) := by decide +kernel
theorem dX11_stand_44 : decode cX11_stand 44 = .ok (.aload_n 0, 1) := by decide +kernel
theorem dX11_stand_45 : decode cX11_stand 45 = .ok (.iload_n 1, 1) := by decide +kernel
theorem dX11_stand_46 : decode cX11_stand 46 = .ok (.invokevirtual 200, 3) := by decide +kernel
theorem dX11_stand_49 : decode cX11_stand 49 = .ok (.ifCond .eq 33, 3) := by decide +kernel
theorem dX11_stand_52 : decode cX11_stand 52 = .ok (.iload_n 3, 1) := by decide +kernel
theorem dX11_stand_53 : decode cX11_stand 53 = .ok (.aload_n 0, 1) := by decide +kernel
theorem dX11_stand_54 : decode cX11_stand 54 = .ok (.iload_n 1, 1) := by decide +kernel
theorem dX11_stand_55 : decode cX11_stand 55 = .ok (.invokevirtual 197, 3) := by decide +kernel
theorem dX11_stand_58 : decode cX11_stand 58 = .ok (.iadd, 1) := by decide +kernel
theorem dX11_stand_59 : decode cX11_stand 59 = .ok (.aload_n 0, 1) := by decide +kernel
theorem dX11_stand_60 : decode cX11_stand 60 = .ok (.getfield 95, 3) := by decide +kernel
theorem dX11_stand_63 : decode cX11_stand 63 = .ok (.if_icmp .gt 19, 3) := by decide +kernel
theorem dX11_stand_66 : decode cX11_stand 66 = .ok (.aload_n 0, 1) := by decide +kernel
theorem dX11_stand_67 : decode cX11_stand 67 = .ok (.iload_n 2, 1) := by decide +kernel
theorem dX11_stand_68 : decode cX11_stand 68 = .ok (.iload_n 3, 1) := by decide +kernel
theorem dX11_stand_69 : decode cX11_stand 69 = .ok (.iload_n 3, 1) := by decide +kernel
theorem dX11_stand_70 : decode cX11_stand 70 = .ok (.aload_n 0, 1) := by decide +kernel
theorem dX11_stand_71 : decode cX11_stand 71 = .ok (.iload_n 1, 1) := by decide +kernel
theorem dX11_stand_72 : decode cX11_stand 72 = .ok (.invokevirtual 197, 3) := by decide +kernel
theorem dX11_stand_75 : decode cX11_stand 75 = .ok (.iadd, 1) := by decide +kernel
theorem dX11_stand_76 : decode cX11_stand 76 = .ok (.invokevirtual 268, 3) := by decide +kernel
theorem dX11_stand_79 : decode cX11_stand 79 = .ok (.ifCond .ne 6, 3) := by decide +kernel
theorem dX11_stand_82 : decode cX11_stand 82 = .ok (.bipush (-3), 2) := by decide +kernel
theorem dX11_stand_84 : decode cX11_stand 84 = .ok (.ireturn, 1) := by decide +kernel
theorem dX11_stand_85 : decode cX11_stand 85 = .ok (.aload_n 0, 1) := by decide +kernel
theorem dX11_stand_86 : decode cX11_stand 86 = .ok (.getfield 31, 3) := by decide +kernel
theorem dX11_stand_89 : decode cX11_stand 89 = .ok (.iload_n 1, 1) := by decide +kernel
theorem dX11_stand_90 : decode cX11_stand 90 = .ok (.iload_n 2, 1) := by decide +kernel
theorem dX11_stand_91 : decode cX11_stand 91 = .ok (.iastore, 1) := by decide +kernel
theorem dX11_stand_92 : decode cX11_stand 92 = .ok (.aload_n 0, 1) := by decide +kernel
theorem dX11_stand_93 : decode cX11_stand 93 = .ok (.getfield 34, 3) := by decide +kernel
theorem dX11_stand_96 : decode cX11_stand 96 = .ok (.iload_n 1, 1) := by decide +kernel
theorem dX11_stand_97 : decode cX11_stand 97 = .ok (.iload_n 3, 1) := by decide +kernel
theorem dX11_stand_98 : decode cX11_stand 98 = .ok (.iastore, 1) := by decide +kernel
theorem dX11_stand_99 : decode cX11_stand 99 = .ok (.iconst 0, 1) := by decide +kernel
theorem dX11_stand_100 : decode cX11_stand 100 = .ok (.ireturn, 1) := by decide +kernel
theorem dX11_goesLeft_0 : decode cX11_goesLeft 0 = .ok (.iload_n 1, 1) := by decide +kernel
theorem dX11_goesLeft_1 : decode cX11_goesLeft 1 = .ok (.aload_n 0, 1) := by decide +kernel
theorem dX11_goesLeft_2 : decode cX11_goesLeft 2 = .ok (.getfield 95, 3) := by decide +kernel
theorem dX11_goesLeft_5 : decode cX11_goesLeft 5 = .ok (.iload_n 1, 1) := by decide +kernel
theorem dX11_goesLeft_6 : decode cX11_goesLeft 6 = .ok (.isub, 1) := by decide +kernel
theorem dX11_goesLeft_7 : decode cX11_goesLeft 7 = .ok (.iload_n 2, 1) := by decide +kernel
theorem dX11_goesLeft_8 : decode cX11_goesLeft 8 = .ok (.isub, 1) := by decide +kernel
theorem dX11_goesLeft_9 : decode cX11_goesLeft 9 = .ok (.if_icmp .gt 7, 3) := by decide +kernel
theorem dX11_goesLeft_12 : decode cX11_goesLeft 12 = .ok (.iconst 1, 1) := by decide +kernel
theorem dX11_goesLeft_13 : decode cX11_goesLeft 13 = .ok (.goto 4, 3) := by decide +kernel
theorem dX11_goesLeft_16 : decode cX11_goesLeft 16 = .ok (.iconst 0, 1) := by decide +kernel
theorem dX11_goesLeft_17 : decode cX11_goesLeft 17 = .ok (.ireturn, 1) := by decide +kernel
theorem dX11_secondsOf_0 : decode cX11_secondsOf 0 = .ok (.aload_n 0, 1) := by decide +kernel
theorem dX11_secondsOf_1 : decode cX11_secondsOf 1 = .ok (.iload_n 1, 1) := by decide +kernel
theorem dX11_secondsOf_2 : decode cX11_secondsOf 2 = .ok (.iload_n 2, 1) := by decide +kernel
theorem dX11_secondsOf_3 : decode cX11_secondsOf 3 = .ok (.invokevirtual 271, 3) := by decide +kernel
theorem dX11_secondsOf_6 : decode cX11_secondsOf 6 = .ok (.ifCond .eq 7, 3) := by decide +kernel
theorem dX11_secondsOf_9 : decode cX11_secondsOf 9 = .ok (.iload_n 1, 1) := by decide +kernel
theorem dX11_secondsOf_10 : decode cX11_secondsOf 10 = .ok (.goto 11, 3) := by decide +kernel
theorem dX11_secondsOf_13 : decode cX11_secondsOf 13 = .ok (.aload_n 0, 1) := by decide +kernel
theorem dX11_secondsOf_14 : decode cX11_secondsOf 14 = .ok (.getfield 95, 3) := by decide +kernel
theorem dX11_secondsOf_17 : decode cX11_secondsOf 17 = .ok (.iload_n 1, 1) := by decide +kernel
theorem dX11_secondsOf_18 : decode cX11_secondsOf 18 = .ok (.isub, 1) := by decide +kernel
theorem dX11_secondsOf_19 : decode cX11_secondsOf 19 = .ok (.iload_n 2, 1) := by decide +kernel
theorem dX11_secondsOf_20 : decode cX11_secondsOf 20 = .ok (.isub, 1) := by decide +kernel
theorem dX11_secondsOf_21 : decode cX11_secondsOf 21 = .ok (.iload_n 2, 1) := by decide +kernel
theorem dX11_secondsOf_22 : decode cX11_secondsOf 22 = .ok (.iadd, 1) := by decide +kernel
theorem dX11_secondsOf_23 : decode cX11_secondsOf 23 = .ok (.ireturn, 1) := by decide +kernel
theorem dX11_off_0 : decode cX11_off 0 = .ok (.aload_n 0, 1) := by decide +kernel
theorem dX11_off_1 : decode cX11_off 1 = .ok (.iload_n 1, 1) := by decide +kernel
theorem dX11_off_2 : decode cX11_off 2 = .ok (.invokevirtual 162, 3) := by decide +kernel
theorem dX11_off_5 : decode cX11_off 5 = .ok (.ifCond .ne 5, 3) := by decide +kernel
theorem dX11_off_8 : decode cX11_off 8 = .ok (.iconst (-1), 1) := by decide +kernel
theorem dX11_off_9 : decode cX11_off 9 = .ok (.ireturn, 1) := by decide +kernel
theorem dX11_off_10 : decode cX11_off 10 = .ok (.aload_n 0, 1) := by decide +kernel
theorem dX11_off_11 : decode cX11_off 11 = .ok (.getfield 31, 3) := by decide +kernel
theorem dX11_off_14 : decode cX11_off 14 = .ok (.iload_n 1, 1) := by decide +kernel
theorem dX11_off_15 : decode cX11_off 15 = .ok (.iaload, 1) := by decide +kernel
theorem dX11_off_16 : decode cX11_off 16 = .ok (.iconst (-1), 1) := by decide +kernel
theorem dX11_off_17 : decode cX11_off 17 = .ok (.if_icmp .ne 6, 3) := by decide +kernel
theorem dX11_off_20 : decode cX11_off 20 = .ok (.bipush (-3), 2) := by decide +kernel
theorem dX11_off_22 : decode cX11_off 22 = .ok (.ireturn, 1) := by decide +kernel
theorem dX11_off_23 : decode cX11_off 23 = .ok (.aload_n 0, 1) := by decide +kernel
theorem dX11_off_24 : decode cX11_off 24 = .ok (.aload_n 0, 1) := by decide +kernel
theorem dX11_off_25 : decode cX11_off 25 = .ok (.getfield 34, 3) := by decide +kernel
theorem dX11_off_28 : decode cX11_off 28 = .ok (.iload_n 1, 1) := by decide +kernel
theorem dX11_off_29 : decode cX11_off 29 = .ok (.iaload, 1) := by decide +kernel
theorem dX11_off_30 : decode cX11_off 30 = .ok (.aload_n 0, 1) := by decide +kernel
theorem dX11_off_31 : decode cX11_off 31 = .ok (.iload_n 1, 1) := by decide +kernel
theorem dX11_off_32 : decode cX11_off 32 = .ok (.invokevirtual 197, 3) := by decide +kernel
theorem dX11_off_35 : decode cX11_off 35 = .ok (.invokevirtual 275, 3) := by decide +kernel
theorem dX11_off_38 : decode cX11_off 38 = .ok (.istore_n 2, 1) := by decide +kernel
theorem dX11_off_39 : decode cX11_off 39 = .ok (.aload_n 0, 1) := by decide +kernel
theorem dX11_off_40 : decode cX11_off 40 = .ok (.getfield 31, 3) := by decide +kernel
theorem dX11_off_43 : decode cX11_off 43 = .ok (.iload_n 1, 1) := by decide +kernel
theorem dX11_off_44 : decode cX11_off 44 = .ok (.iconst (-1), 1) := by decide +kernel
theorem dX11_off_45 : decode cX11_off 45 = .ok (.iastore, 1) := by decide +kernel
theorem dX11_off_46 : decode cX11_off 46 = .ok (.aload_n 0, 1) := by decide +kernel
theorem dX11_off_47 : decode cX11_off 47 = .ok (.getfield 34, 3) := by decide +kernel
theorem dX11_off_50 : decode cX11_off 50 = .ok (.iload_n 1, 1) := by decide +kernel
theorem dX11_off_51 : decode cX11_off 51 = .ok (.iconst (-1), 1) := by decide +kernel
theorem dX11_off_52 : decode cX11_off 52 = .ok (.iastore, 1) := by decide +kernel
theorem dX11_off_53 : decode cX11_off 53 = .ok (.iload_n 2, 1) := by decide +kernel
theorem dX11_off_54 : decode cX11_off 54 = .ok (.ireturn, 1) := by decide +kernel
theorem dX11_well_0 : decode cX11_well 0 = .ok (.aload_n 0, 1) := by decide +kernel
theorem dX11_well_1 : decode cX11_well 1 = .ok (.iload_n 1, 1) := by decide +kernel
theorem dX11_well_2 : decode cX11_well 2 = .ok (.invokevirtual 162, 3) := by decide +kernel
theorem dX11_well_5 : decode cX11_well 5 = .ok (.ifCond .ne 5, 3) := by decide +kernel
theorem dX11_well_8 : decode cX11_well 8 = .ok (.iconst (-1), 1) := by decide +kernel
theorem dX11_well_9 : decode cX11_well 9 = .ok (.ireturn, 1) := by decide +kernel
theorem dX11_well_10 : decode cX11_well 10 = .ok (.aload_n 0, 1) := by decide +kernel
theorem dX11_well_11 : decode cX11_well 11 = .ok (.getfield 31, 3) := by decide +kernel
theorem dX11_well_14 : decode cX11_well 14 = .ok (.iload_n 1, 1) := by decide +kernel
theorem dX11_well_15 : decode cX11_well 15 = .ok (.iaload, 1) := by decide +kernel
theorem dX11_well_16 : decode cX11_well 16 = .ok (.iconst (-1), 1) := by decide +kernel
theorem dX11_well_17 : decode cX11_well 17 = .ok (.if_icmp .ne 6, 3) := by decide +kernel
theorem dX11_well_20 : decode cX11_well 20 = .ok (.bipush (-3), 2) := by decide +kernel
theorem dX11_well_22 : decode cX11_well 22 = .ok (.ireturn, 1) := by decide +kernel
theorem dX11_well_23 : decode cX11_well 23 = .ok (.iconst 1, 1) := by decide +kernel
theorem dX11_well_24 : decode cX11_well 24 = .ok (.istore_n 2, 1) := by decide +kernel
theorem dX11_well_25 : decode cX11_well 25 = .ok (.iconst 0, 1) := by decide +kernel
theorem dX11_well_26 : decode cX11_well 26 = .ok (.istore_n 3, 1) := by decide +kernel
theorem dX11_well_27 : decode cX11_well 27 = .ok (.iload_n 3, 1) := by decide +kernel
theorem dX11_well_28 : decode cX11_well 28 = .ok (.aload_n 0, 1) := by decide +kernel
theorem dX11_well_29 : decode cX11_well 29 = .ok (.getfield 134, 3) := by decide +kernel
theorem dX11_well_32 : decode cX11_well 32 = .ok (.if_icmp .ge 59, 3) := by decide +kernel
theorem dX11_well_35 : decode cX11_well 35 = .ok (.iload_n 2, 1) := by decide +kernel
theorem dX11_well_36 : decode cX11_well 36 = .ok (.ifCond .eq 47, 3) := by decide +kernel
theorem dX11_well_39 : decode cX11_well 39 = .ok (.aload_n 0, 1) := by decide +kernel
theorem dX11_well_40 : decode cX11_well 40 = .ok (.getfield 31, 3) := by decide +kernel
theorem dX11_well_43 : decode cX11_well 43 = .ok (.iload_n 3, 1) := by decide +kernel
theorem dX11_well_44 : decode cX11_well 44 = .ok (.iaload, 1) := by decide +kernel
theorem dX11_well_45 : decode cX11_well 45 = .ok (.iconst (-1), 1) := by decide +kernel
theorem dX11_well_46 : decode cX11_well 46 = .ok (.if_icmp .eq 33, 3) := by decide +kernel
theorem dX11_well_49 : decode cX11_well 49 = .ok (.aload_n 0, 1) := by decide +kernel
theorem dX11_well_50 : decode cX11_well 50 = .ok (.getfield 31, 3) := by decide +kernel
theorem dX11_well_53 : decode cX11_well 53 = .ok (.iload_n 3, 1) := by decide +kernel
theorem dX11_well_54 : decode cX11_well 54 = .ok (.iaload, 1) := by decide +kernel
theorem dX11_well_55 : decode cX11_well 55 = .ok (.aload_n 0, 1) := by decide +kernel
theorem dX11_well_56 : decode cX11_well 56 = .ok (.getfield 31, 3) := by decide +kernel
theorem dX11_well_59 : decode cX11_well 59 = .ok (.iload_n 1, 1) := by decide +kernel
theorem dX11_well_60 : decode cX11_well 60 = .ok (.iaload, 1) := by decide +kernel
theorem dX11_well_61 : decode cX11_well 61 = .ok (.if_icmp .ge 18, 3) := by decide +kernel
theorem dX11_well_64 : decode cX11_well 64 = .ok (.aload_n 0, 1) := by decide +kernel
theorem dX11_well_65 : decode cX11_well 65 = .ok (.getfield 22, 3) := by decide +kernel
theorem dX11_well_68 : decode cX11_well 68 = .ok (.iload_n 3, 1) := by decide +kernel
theorem dX11_well_69 : decode cX11_well 69 = .ok (.iaload, 1) := by decide +kernel
theorem dX11_well_70 : decode cX11_well 70 = .ok (.aload_n 0, 1) := by decide +kernel
theorem dX11_well_71 : decode cX11_well 71 = .ok (.getfield 22, 3) := by decide +kernel
theorem dX11_well_74 : decode cX11_well 74 = .ok (.iload_n 1, 1) := by decide +kernel
theorem dX11_well_75 : decode cX11_well 75 = .ok (.iaload, 1) := by decide +kernel
theorem dX11_well_76 : decode cX11_well 76 = .ok (.if_icmp .gt 7, 3) := by decide +kernel
theorem dX11_well_79 : decode cX11_well 79 = .ok (.iconst 1, 1) := by decide +kernel
theorem dX11_well_80 : decode cX11_well 80 = .ok (.goto 4, 3) := by decide +kernel
theorem dX11_well_83 : decode cX11_well 83 = .ok (.iconst 0, 1) := by decide +kernel
theorem dX11_well_84 : decode cX11_well 84 = .ok (.istore_n 2, 1) := by decide +kernel
theorem dX11_well_85 : decode cX11_well 85 = .ok (.iinc 3 1, 3) := by decide +kernel
theorem dX11_well_88 : decode cX11_well 88 = .ok (.goto (-61), 3) := by decide +kernel
theorem dX11_well_91 : decode cX11_well 91 = .ok (.iload_n 2, 1) := by decide +kernel
theorem dX11_well_92 : decode cX11_well 92 = .ok (.ifCond .eq 7, 3) := by decide +kernel
theorem dX11_well_95 : decode cX11_well 95 = .ok (.iconst 1, 1) := by decide +kernel
theorem dX11_well_96 : decode cX11_well 96 = .ok (.goto 4, 3) := by decide +kernel
theorem dX11_well_99 : decode cX11_well 99 = .ok (.iconst 0, 1) := by decide +kernel
theorem dX11_well_100 : decode cX11_well 100 = .ok (.ireturn, 1) := by decide +kernel
theorem dX11_clear_0 : decode cX11_clear 0 = .ok (.iconst 0, 1) := by decide +kernel
theorem dX11_clear_1 : decode cX11_clear 1 = .ok (.istore_n 1, 1) := by decide +kernel
theorem dX11_clear_2 : decode cX11_clear 2 = .ok (.iconst 0, 1) := by decide +kernel
theorem dX11_clear_3 : decode cX11_clear 3 = .ok (.istore_n 2, 1) := by decide +kernel
theorem dX11_clear_4 : decode cX11_clear 4 = .ok (.iconst 0, 1) := by decide +kernel
theorem dX11_clear_5 : decode cX11_clear 5 = .ok (.istore_n 3, 1) := by decide +kernel
theorem dX11_clear_6 : decode cX11_clear 6 = .ok (.iload_n 3, 1) := by decide +kernel
theorem dX11_clear_7 : decode cX11_clear 7 = .ok (.aload_n 0, 1) := by decide +kernel
theorem dX11_clear_8 : decode cX11_clear 8 = .ok (.getfield 134, 3) := by decide +kernel
theorem dX11_clear_11 : decode cX11_clear 11 = .ok (.if_icmp .ge 90, 3) := by decide +kernel
theorem dX11_clear_14 : decode cX11_clear 14 = .ok (.aload_n 0, 1) := by decide +kernel
theorem dX11_clear_15 : decode cX11_clear 15 = .ok (.getfield 31, 3) := by decide +kernel
theorem dX11_clear_18 : decode cX11_clear 18 = .ok (.iload_n 3, 1) := by decide +kernel
theorem dX11_clear_19 : decode cX11_clear 19 = .ok (.iaload, 1) := by decide +kernel
theorem dX11_clear_20 : decode cX11_clear 20 = .ok (.iconst (-1), 1) := by decide +kernel
theorem dX11_clear_21 : decode cX11_clear 21 = .ok (.if_icmp .eq 74, 3) := by decide +kernel
theorem dX11_clear_24 : decode cX11_clear 24 = .ok (.aload_n 0, 1) := by decide +kernel
theorem dX11_clear_25 : decode cX11_clear 25 = .ok (.aload_n 0, 1) := by decide +kernel
theorem dX11_clear_26 : decode cX11_clear 26 = .ok (.getfield 34, 3) := by decide +kernel
theorem dX11_clear_29 : decode cX11_clear 29 = .ok (.iload_n 3, 1) := by decide +kernel
theorem dX11_clear_30 : decode cX11_clear 30 = .ok (.iaload, 1) := by decide +kernel
theorem dX11_clear_31 : decode cX11_clear 31 = .ok (.aload_n 0, 1) := by decide +kernel
theorem dX11_clear_32 : decode cX11_clear 32 = .ok (.iload_n 3, 1) := by decide +kernel
theorem dX11_clear_33 : decode cX11_clear 33 = .ok (.invokevirtual 197, 3) := by decide +kernel
theorem dX11_clear_36 : decode cX11_clear 36 = .ok (.invokevirtual 275, 3) := by decide +kernel
theorem dX11_clear_39 : decode cX11_clear 39 = .ok (.istore 4, 2) := by decide +kernel
theorem dX11_clear_41 : decode cX11_clear 41 = .ok (.iload_n 1, 1) := by decide +kernel
theorem dX11_clear_42 : decode cX11_clear 42 = .ok (.aload_n 0, 1) := by decide +kernel
theorem dX11_clear_43 : decode cX11_clear 43 = .ok (.aload_n 0, 1) := by decide +kernel
theorem dX11_clear_44 : decode cX11_clear 44 = .ok (.getfield 34, 3) := by decide +kernel
theorem dX11_clear_47 : decode cX11_clear 47 = .ok (.iload_n 3, 1) := by decide +kernel
theorem dX11_clear_48 : decode cX11_clear 48 = .ok (.iaload, 1) := by decide +kernel
theorem dX11_clear_49 : decode cX11_clear 49 = .ok (.aload_n 0, 1) := by decide +kernel
theorem dX11_clear_50 : decode cX11_clear 50 = .ok (.iload_n 3, 1) := by decide +kernel
theorem dX11_clear_51 : decode cX11_clear 51 = .ok (.invokevirtual 197, 3) := by decide +kernel
theorem dX11_clear_54 : decode cX11_clear 54 = .ok (.invokevirtual 271, 3) := by decide +kernel
theorem dX11_clear_57 : decode cX11_clear 57 = .ok (.ifCond .eq 8, 3) := by decide +kernel
theorem dX11_clear_60 : decode cX11_clear 60 = .ok (.iload 4, 2) := by decide +kernel
theorem dX11_clear_62 : decode cX11_clear 62 = .ok (.goto 4, 3) := by decide +kernel
theorem dX11_clear_65 : decode cX11_clear 65 = .ok (.iconst 0, 1) := by decide +kernel
theorem dX11_clear_66 : decode cX11_clear 66 = .ok (.iadd, 1) := by decide +kernel
theorem dX11_clear_67 : decode cX11_clear 67 = .ok (.istore_n 1, 1) := by decide +kernel
theorem dX11_clear_68 : decode cX11_clear 68 = .ok (.iload_n 2, 1) := by decide +kernel
theorem dX11_clear_69 : decode cX11_clear 69 = .ok (.aload_n 0, 1) := by decide +kernel
theorem dX11_clear_70 : decode cX11_clear 70 = .ok (.aload_n 0, 1) := by decide +kernel
theorem dX11_clear_71 : decode cX11_clear 71 = .ok (.getfield 34, 3) := by decide +kernel
theorem dX11_clear_74 : decode cX11_clear 74 = .ok (.iload_n 3, 1) := by decide +kernel
theorem dX11_clear_75 : decode cX11_clear 75 = .ok (.iaload, 1) := by decide +kernel
theorem dX11_clear_76 : decode cX11_clear 76 = .ok (.aload_n 0, 1) := by decide +kernel
theorem dX11_clear_77 : decode cX11_clear 77 = .ok (.iload_n 3, 1) := by decide +kernel
theorem dX11_clear_78 : decode cX11_clear 78 = .ok (.invokevirtual 197, 3) := by decide +kernel
theorem dX11_clear_81 : decode cX11_clear 81 = .ok (.invokevirtual 271, 3) := by decide +kernel
theorem dX11_clear_84 : decode cX11_clear 84 = .ok (.ifCond .eq 7, 3) := by decide +kernel
theorem dX11_clear_87 : decode cX11_clear 87 = .ok (.iconst 0, 1) := by decide +kernel
theorem dX11_clear_88 : decode cX11_clear 88 = .ok (.goto 5, 3) := by decide +kernel
theorem dX11_clear_91 : decode cX11_clear 91 = .ok (.iload 4, 2) := by decide +kernel
theorem dX11_clear_93 : decode cX11_clear 93 = .ok (.iadd, 1) := by decide +kernel
theorem dX11_clear_94 : decode cX11_clear 94 = .ok (.istore_n 2, 1) := by decide +kernel
theorem dX11_clear_95 : decode cX11_clear 95 = .ok (.iinc 3 1, 3) := by decide +kernel
theorem dX11_clear_98 : decode cX11_clear 98 = .ok (.goto (-92), 3) := by decide +kernel
theorem dX11_clear_101 : decode cX11_clear 101 = .ok (.iload_n 1, 1) := by decide +kernel
theorem dX11_clear_102 : decode cX11_clear 102 = .ok (.iload_n 2, 1) := by decide +kernel
theorem dX11_clear_103 : decode cX11_clear 103 = .ok (.if_icmp .le 7, 3) := by decide +kernel
theorem dX11_clear_106 : decode cX11_clear 106 = .ok (.iload_n 1, 1) := by decide +kernel
theorem dX11_clear_107 : decode cX11_clear 107 = .ok (.goto 4, 3) := by decide +kernel
theorem dX11_clear_110 : decode cX11_clear 110 = .ok (.iload_n 2, 1) := by decide +kernel
theorem dX11_clear_111 : decode cX11_clear 111 = .ok (.ireturn, 1) := by decide +kernel
theorem dX11_countBits_0 : decode cX11_countBits 0 = .ok (.iconst 0, 1) := by decide +kernel
theorem dX11_countBits_1 : decode cX11_countBits 1 = .ok (.istore_n 1, 1) := by decide +kernel
theorem dX11_countBits_2 : decode cX11_countBits 2 = .ok (.iconst 0, 1) := by decide +kernel
theorem dX11_countBits_3 : decode cX11_countBits 3 = .ok (.istore_n 2, 1) := by decide +kernel
theorem dX11_countBits_4 : decode cX11_countBits 4 = .ok (.iload_n 2, 1) := by decide +kernel
theorem dX11_countBits_5 : decode cX11_countBits 5 = .ok (.bipush 31, 2) := by decide +kernel
theorem dX11_countBits_7 : decode cX11_countBits 7 = .ok (.if_icmp .ge 17, 3) := by decide +kernel
theorem dX11_countBits_10 : decode cX11_countBits 10 = .ok (.iload_n 1, 1) := by decide +kernel
theorem dX11_countBits_11 : decode cX11_countBits 11 = .ok (.iload_n 0, 1) := by decide +kernel
theorem dX11_countBits_12 : decode cX11_countBits 12 = .ok (.iload_n 2, 1) := by decide +kernel
theorem dX11_countBits_13 : decode cX11_countBits 13 = .ok (.ishr, 1) := by decide +kernel
theorem dX11_countBits_14 : decode cX11_countBits 14 = .ok (.iconst 1, 1) := by decide +kernel
theorem dX11_countBits_15 : decode cX11_countBits 15 = .ok (.iand, 1) := by decide +kernel
theorem dX11_countBits_16 : decode cX11_countBits 16 = .ok (.iadd, 1) := by decide +kernel
theorem dX11_countBits_17 : decode cX11_countBits 17 = .ok (.istore_n 1, 1) := by decide +kernel
theorem dX11_countBits_18 : decode cX11_countBits 18 = .ok (.iinc 2 1, 3) := by decide +kernel
theorem dX11_countBits_21 : decode cX11_countBits 21 = .ok (.goto (-17), 3) := by decide +kernel
theorem dX11_countBits_24 : decode cX11_countBits 24 = .ok (.iload_n 1, 1) := by decide +kernel
theorem dX11_countBits_25 : decode cX11_countBits 25 = .ok (.ireturn, 1) := by decide +kernel
theorem dX11_clearOf_0 : decode cX11_clearOf 0 = .ok (.iconst 0, 1) := by decide +kernel
theorem dX11_clearOf_1 : decode cX11_clearOf 1 = .ok (.istore_n 2, 1) := by decide +kernel
theorem dX11_clearOf_2 : decode cX11_clearOf 2 = .ok (.iconst 0, 1) := by decide +kernel
theorem dX11_clearOf_3 : decode cX11_clearOf 3 = .ok (.istore_n 3, 1) := by decide +kernel
theorem dX11_clearOf_4 : decode cX11_clearOf 4 = .ok (.iconst 0, 1) := by decide +kernel
theorem dX11_clearOf_5 : decode cX11_clearOf 5 = .ok (.istore 4, 2) := by decide +kernel
theorem dX11_clearOf_7 : decode cX11_clearOf 7 = .ok (.iconst 0, 1) := by decide +kernel
theorem dX11_clearOf_8 : decode cX11_clearOf 8 = .ok (.istore 5, 2) := by decide +kernel
theorem dX11_clearOf_10 : decode cX11_clearOf 10 = .ok (.iload 5, 2) := by decide +kernel
theorem dX11_clearOf_12 : decode cX11_clearOf 12 = .ok (.iload_n 1, 1) := by decide +kernel
theorem dX11_clearOf_13 : decode cX11_clearOf 13 = .ok (.if_icmp .ge 79, 3) := by decide +kernel
theorem dX11_clearOf_16 : decode cX11_clearOf 16 = .ok (.aload_n 0, 1) := by decide +kernel
theorem dX11_clearOf_17 : decode cX11_clearOf 17 = .ok (.aload_n 0, 1) := by decide +kernel
theorem dX11_clearOf_18 : decode cX11_clearOf 18 = .ok (.getfield 98, 3) := by decide +kernel
theorem dX11_clearOf_21 : decode cX11_clearOf 21 = .ok (.iload 5, 2) := by decide +kernel
theorem dX11_clearOf_23 : decode cX11_clearOf 23 = .ok (.iaload, 1) := by decide +kernel
theorem dX11_clearOf_24 : decode cX11_clearOf 24 = .ok (.invokevirtual 197, 3) := by decide +kernel
theorem dX11_clearOf_27 : decode cX11_clearOf 27 = .ok (.istore 6, 2) := by decide +kernel
theorem dX11_clearOf_29 : decode cX11_clearOf 29 = .ok (.aload_n 0, 1) := by decide +kernel
theorem dX11_clearOf_30 : decode cX11_clearOf 30 = .ok (.iload 4, 2) := by decide +kernel
theorem dX11_clearOf_32 : decode cX11_clearOf 32 = .ok (.iload 6, 2) := by decide +kernel
theorem dX11_clearOf_34 : decode cX11_clearOf 34 = .ok (.invokevirtual 275, 3) := by decide +kernel
theorem dX11_clearOf_37 : decode cX11_clearOf 37 = .ok (.istore 7, 2) := by decide +kernel
theorem dX11_clearOf_39 : decode cX11_clearOf 39 = .ok (.iload_n 2, 1) := by decide +kernel
theorem dX11_clearOf_40 : decode cX11_clearOf 40 = .ok (.aload_n 0, 1) := by decide +kernel
theorem dX11_clearOf_41 : decode cX11_clearOf 41 = .ok (.iload 4, 2) := by decide +kernel
theorem dX11_clearOf_43 : decode cX11_clearOf 43 = .ok (.iload 6, 2) := by decide +kernel
theorem dX11_clearOf_45 : decode cX11_clearOf 45 = .ok (.invokevirtual 271, 3) := by decide +kernel
theorem dX11_clearOf_48 : decode cX11_clearOf 48 = .ok (.ifCond .eq 8, 3) := by decide +kernel
theorem dX11_clearOf_51 : decode cX11_clearOf 51 = .ok (.iload 7, 2) := by decide +kernel
theorem dX11_clearOf_53 : decode cX11_clearOf 53 = .ok (.goto 4, 3) := by decide +kernel
theorem dX11_clearOf_56 : decode cX11_clearOf 56 = .ok (.iconst 0, 1) := by decide +kernel
theorem dX11_clearOf_57 : decode cX11_clearOf 57 = .ok (.iadd, 1) := by decide +kernel
theorem dX11_clearOf_58 : decode cX11_clearOf 58 = .ok (.istore_n 2, 1) := by decide +kernel
theorem dX11_clearOf_59 : decode cX11_clearOf 59 = .ok (.iload_n 3, 1) := by decide +kernel
theorem dX11_clearOf_60 : decode cX11_clearOf 60 = .ok (.aload_n 0, 1) := by decide +kernel
theorem dX11_clearOf_61 : decode cX11_clearOf 61 = .ok (.iload 4, 2) := by decide +kernel
theorem dX11_clearOf_63 : decode cX11_clearOf 63 = .ok (.iload 6, 2) := by decide +kernel
theorem dX11_clearOf_65 : decode cX11_clearOf 65 = .ok (.invokevirtual 271, 3) := by decide +kernel
theorem dX11_clearOf_68 : decode cX11_clearOf 68 = .ok (.ifCond .eq 7, 3) := by decide +kernel
theorem dX11_clearOf_71 : decode cX11_clearOf 71 = .ok (.iconst 0, 1) := by decide +kernel
theorem dX11_clearOf_72 : decode cX11_clearOf 72 = .ok (.goto 5, 3) := by decide +kernel
theorem dX11_clearOf_75 : decode cX11_clearOf 75 = .ok (.iload 7, 2) := by decide +kernel
theorem dX11_clearOf_77 : decode cX11_clearOf 77 = .ok (.iadd, 1) := by decide +kernel
theorem dX11_clearOf_78 : decode cX11_clearOf 78 = .ok (.istore_n 3, 1) := by decide +kernel
theorem dX11_clearOf_79 : decode cX11_clearOf 79 = .ok (.iload 4, 2) := by decide +kernel
theorem dX11_clearOf_81 : decode cX11_clearOf 81 = .ok (.iload 6, 2) := by decide +kernel
theorem dX11_clearOf_83 : decode cX11_clearOf 83 = .ok (.iadd, 1) := by decide +kernel
theorem dX11_clearOf_84 : decode cX11_clearOf 84 = .ok (.istore 4, 2) := by decide +kernel
theorem dX11_clearOf_86 : decode cX11_clearOf 86 = .ok (.iinc 5 1, 3) := by decide +kernel
theorem dX11_clearOf_89 : decode cX11_clearOf 89 = .ok (.goto (-79), 3) := by decide +kernel
theorem dX11_clearOf_92 : decode cX11_clearOf 92 = .ok (.iload_n 2, 1) := by decide +kernel
theorem dX11_clearOf_93 : decode cX11_clearOf 93 = .ok (.iload_n 3, 1) := by decide +kernel
theorem dX11_clearOf_94 : decode cX11_clearOf 94 = .ok (.if_icmp .le 7, 3) := by decide +kernel
theorem dX11_clearOf_97 : decode cX11_clearOf 97 = .ok (.iload_n 2, 1) := by decide +kernel
theorem dX11_clearOf_98 : decode cX11_clearOf 98 = .ok (.goto 4, 3) := by decide +kernel
theorem dX11_clearOf_101 : decode cX11_clearOf 101 = .ok (.iload_n 3, 1) := by decide +kernel
theorem dX11_clearOf_102 : decode cX11_clearOf 102 = .ok (.ireturn, 1) := by decide +kernel
theorem dX11_isNext_0 : decode cX11_isNext 0 = .ok (.iload_n 1, 1) := by decide +kernel
theorem dX11_isNext_1 : decode cX11_isNext 1 = .ok (.iconst 2, 1) := by decide +kernel
theorem dX11_isNext_2 : decode cX11_isNext 2 = .ok (.isub, 1) := by decide +kernel
theorem dX11_isNext_3 : decode cX11_isNext 3 = .ok (.istore_n 2, 1) := by decide +kernel
theorem dX11_isNext_4 : decode cX11_isNext 4 = .ok (.iload_n 2, 1) := by decide +kernel
theorem dX11_isNext_5 : decode cX11_isNext 5 = .ok (.ifCond .lt 26, 3) := by decide +kernel
theorem dX11_isNext_8 : decode cX11_isNext 8 = .ok (.aload_n 0, 1) := by decide +kernel
theorem dX11_isNext_9 : decode cX11_isNext 9 = .ok (.getfield 98, 3) := by decide +kernel
theorem dX11_isNext_12 : decode cX11_isNext 12 = .ok (.iload_n 2, 1) := by decide +kernel
theorem dX11_isNext_13 : decode cX11_isNext 13 = .ok (.iaload, 1) := by decide +kernel
theorem dX11_isNext_14 : decode cX11_isNext 14 = .ok (.aload_n 0, 1) := by decide +kernel
theorem dX11_isNext_15 : decode cX11_isNext 15 = .ok (.getfield 98, 3) := by decide +kernel
theorem dX11_isNext_18 : decode cX11_isNext 18 = .ok (.iload_n 2, 1) := by decide +kernel
theorem dX11_isNext_19 : decode cX11_isNext 19 = .ok (.iconst 1, 1) := by decide +kernel
theorem dX11_isNext_20 : decode cX11_isNext 20 = .ok (.iadd, 1) := by decide +kernel
theorem dX11_isNext_21 : decode cX11_isNext 21 = .ok (.iaload, 1) := by decide +kernel
theorem dX11_isNext_22 : decode cX11_isNext 22 = .ok (.if_icmp .le 9, 3) := by decide +kernel
theorem dX11_isNext_25 : decode cX11_isNext 25 = .ok (.iinc 2 (-1), 3) := by decide +kernel
theorem dX11_isNext_28 : decode cX11_isNext 28 = .ok (.goto (-24), 3) := by decide +kernel
theorem dX11_isNext_31 : decode cX11_isNext 31 = .ok (.iload_n 2, 1) := by decide +kernel
theorem dX11_isNext_32 : decode cX11_isNext 32 = .ok (.ifCond .ge 5, 3) := by decide +kernel
theorem dX11_isNext_35 : decode cX11_isNext 35 = .ok (.iconst 0, 1) := by decide +kernel
theorem dX11_isNext_36 : decode cX11_isNext 36 = .ok (.ireturn, 1) := by decide +kernel
theorem dX11_isNext_37 : decode cX11_isNext 37 = .ok (.iload_n 1, 1) := by decide +kernel
theorem dX11_isNext_38 : decode cX11_isNext 38 = .ok (.iconst 1, 1) := by decide +kernel
theorem dX11_isNext_39 : decode cX11_isNext 39 = .ok (.isub, 1) := by decide +kernel
theorem dX11_isNext_40 : decode cX11_isNext 40 = .ok (.istore_n 3, 1) := by decide +kernel
theorem dX11_isNext_41 : decode cX11_isNext 41 = .ok (.aload_n 0, 1) := by decide +kernel
theorem dX11_isNext_42 : decode cX11_isNext 42 = .ok (.getfield 98, 3) := by decide +kernel
theorem dX11_isNext_45 : decode cX11_isNext 45 = .ok (.iload_n 3, 1) := by decide +kernel
theorem dX11_isNext_46 : decode cX11_isNext 46 = .ok (.iaload, 1) := by decide +kernel
theorem dX11_isNext_47 : decode cX11_isNext 47 = .ok (.aload_n 0, 1) := by decide +kernel
theorem dX11_isNext_48 : decode cX11_isNext 48 = .ok (.getfield 98, 3) := by decide +kernel
theorem dX11_isNext_51 : decode cX11_isNext 51 = .ok (.iload_n 2, 1) := by decide +kernel
theorem dX11_isNext_52 : decode cX11_isNext 52 = .ok (.iaload, 1) := by decide +kernel
theorem dX11_isNext_53 : decode cX11_isNext 53 = .ok (.if_icmp .ge 9, 3) := by decide +kernel
theorem dX11_isNext_56 : decode cX11_isNext 56 = .ok (.iinc 3 (-1), 3) := by decide +kernel
theorem dX11_isNext_59 : decode cX11_isNext 59 = .ok (.goto (-18), 3) := by decide +kernel
theorem dX11_isNext_62 : decode cX11_isNext 62 = .ok (.aload_n 0, 1) := by decide +kernel
theorem dX11_isNext_63 : decode cX11_isNext 63 = .ok (.getfield 98, 3) := by decide +kernel
theorem dX11_isNext_66 : decode cX11_isNext 66 = .ok (.iload_n 2, 1) := by decide +kernel
theorem dX11_isNext_67 : decode cX11_isNext 67 = .ok (.iaload, 1) := by decide +kernel
theorem dX11_isNext_68 : decode cX11_isNext 68 = .ok (.istore 4, 2) := by decide +kernel
theorem dX11_isNext_70 : decode cX11_isNext 70 = .ok (.aload_n 0, 1) := by decide +kernel
theorem dX11_isNext_71 : decode cX11_isNext 71 = .ok (.getfield 98, 3) := by decide +kernel
theorem dX11_isNext_74 : decode cX11_isNext 74 = .ok (.iload_n 2, 1) := by decide +kernel
theorem dX11_isNext_75 : decode cX11_isNext 75 = .ok (.aload_n 0, 1) := by decide +kernel
theorem dX11_isNext_76 : decode cX11_isNext 76 = .ok (.getfield 98, 3) := by decide +kernel
theorem dX11_isNext_79 : decode cX11_isNext 79 = .ok (.iload_n 3, 1) := by decide +kernel
theorem dX11_isNext_80 : decode cX11_isNext 80 = .ok (.iaload, 1) := by decide +kernel
theorem dX11_isNext_81 : decode cX11_isNext 81 = .ok (.iastore, 1) := by decide +kernel
theorem dX11_isNext_82 : decode cX11_isNext 82 = .ok (.aload_n 0, 1) := by decide +kernel
theorem dX11_isNext_83 : decode cX11_isNext 83 = .ok (.getfield 98, 3) := by decide +kernel
theorem dX11_isNext_86 : decode cX11_isNext 86 = .ok (.iload_n 3, 1) := by decide +kernel
theorem dX11_isNext_87 : decode cX11_isNext 87 = .ok (.iload 4, 2) := by decide +kernel
theorem dX11_isNext_89 : decode cX11_isNext 89 = .ok (.iastore, 1) := by decide +kernel
theorem dX11_isNext_90 : decode cX11_isNext 90 = .ok (.iload_n 2, 1) := by decide +kernel
theorem dX11_isNext_91 : decode cX11_isNext 91 = .ok (.iconst 1, 1) := by decide +kernel
theorem dX11_isNext_92 : decode cX11_isNext 92 = .ok (.iadd, 1) := by decide +kernel
theorem dX11_isNext_93 : decode cX11_isNext 93 = .ok (.istore 5, 2) := by decide +kernel
theorem dX11_isNext_95 : decode cX11_isNext 95 = .ok (.iload_n 1, 1) := by decide +kernel
theorem dX11_isNext_96 : decode cX11_isNext 96 = .ok (.iconst 1, 1) := by decide +kernel
theorem dX11_isNext_97 : decode cX11_isNext 97 = .ok (.isub, 1) := by decide +kernel
theorem dX11_isNext_98 : decode cX11_isNext 98 = .ok (.istore 6, 2) := by decide +kernel
theorem dX11_isNext_100 : decode cX11_isNext 100 = .ok (.iload 5, 2) := by decide +kernel
theorem dX11_isNext_102 : decode cX11_isNext 102 = .ok (.iload 6, 2) := by decide +kernel
theorem dX11_isNext_104 : decode cX11_isNext 104 = .ok (.if_icmp .ge 44, 3) := by decide +kernel
theorem dX11_isNext_107 : decode cX11_isNext 107 = .ok (.aload_n 0, 1) := by decide +kernel
theorem dX11_isNext_108 : decode cX11_isNext 108 = .ok (.getfield 98, 3) := by decide +kernel
theorem dX11_isNext_111 : decode cX11_isNext 111 = .ok (.iload 5, 2) := by decide +kernel
theorem dX11_isNext_113 : decode cX11_isNext 113 = .ok (.iaload, 1) := by decide +kernel
theorem dX11_isNext_114 : decode cX11_isNext 114 = .ok (.istore 4, 2) := by decide +kernel
theorem dX11_isNext_116 : decode cX11_isNext 116 = .ok (.aload_n 0, 1) := by decide +kernel
theorem dX11_isNext_117 : decode cX11_isNext 117 = .ok (.getfield 98, 3) := by decide +kernel
theorem dX11_isNext_120 : decode cX11_isNext 120 = .ok (.iload 5, 2) := by decide +kernel
theorem dX11_isNext_122 : decode cX11_isNext 122 = .ok (.aload_n 0, 1) := by decide +kernel
theorem dX11_isNext_123 : decode cX11_isNext 123 = .ok (.getfield 98, 3) := by decide +kernel
theorem dX11_isNext_126 : decode cX11_isNext 126 = .ok (.iload 6, 2) := by decide +kernel
theorem dX11_isNext_128 : decode cX11_isNext 128 = .ok (.iaload, 1) := by decide +kernel
theorem dX11_isNext_129 : decode cX11_isNext 129 = .ok (.iastore, 1) := by decide +kernel
theorem dX11_isNext_130 : decode cX11_isNext 130 = .ok (.aload_n 0, 1) := by decide +kernel
theorem dX11_isNext_131 : decode cX11_isNext 131 = .ok (.getfield 98, 3) := by decide +kernel
theorem dX11_isNext_134 : decode cX11_isNext 134 = .ok (.iload 6, 2) := by decide +kernel
theorem dX11_isNext_136 : decode cX11_isNext 136 = .ok (.iload 4, 2) := by decide +kernel
theorem dX11_isNext_138 : decode cX11_isNext 138 = .ok (.iastore, 1) := by decide +kernel
theorem dX11_isNext_139 : decode cX11_isNext 139 = .ok (.iinc 5 1, 3) := by decide +kernel
theorem dX11_isNext_142 : decode cX11_isNext 142 = .ok (.iinc 6 (-1), 3) := by decide +kernel
theorem dX11_isNext_145 : decode cX11_isNext 145 = .ok (.goto (-45), 3) := by decide +kernel
theorem dX11_isNext_148 : decode cX11_isNext 148 = .ok (.iconst 1, 1) := by decide +kernel
theorem dX11_isNext_149 : decode cX11_isNext 149 = .ok (.ireturn, 1) := by decide +kernel
theorem dX11_lay_0 : decode cX11_lay 0 = .ok (.iload_n 1, 1) := by decide +kernel
theorem dX11_lay_1 : decode cX11_lay 1 = .ok (.ifCond .lt 11, 3) := by decide +kernel
theorem dX11_lay_4 : decode cX11_lay 4 = .ok (.iload_n 1, 1) := by decide +kernel
theorem dX11_lay_5 : decode cX11_lay 5 = .ok (.aload_n 0, 1) := by decide +kernel
theorem dX11_lay_6 : decode cX11_lay 6 = .ok (.getfield 91, 3) := by decide +kernel
theorem dX11_lay_9 : decode cX11_lay 9 = .ok (.if_icmp .lt 5, 3) := by decide +kernel
theorem dX11_lay_12 : decode cX11_lay 12 = .ok (.iconst (-1), 1) := by decide +kernel
theorem dX11_lay_13 : decode cX11_lay 13 = .ok (.ireturn, 1) := by decide +kernel
theorem dX11_lay_14 : decode cX11_lay 14 = .ok (.iload_n 2, 1) := by decide +kernel
theorem dX11_lay_15 : decode cX11_lay 15 = .ok (.ifCond .le 21, 3) := by decide +kernel
theorem dX11_lay_18 : decode cX11_lay 18 = .ok (.iload_n 2, 1) := by decide +kernel
theorem dX11_lay_19 : decode cX11_lay 19 = .ok (.iconst 1, 1) := by decide +kernel
theorem dX11_lay_20 : decode cX11_lay 20 = .ok (.aload_n 0, 1) := by decide +kernel
theorem dX11_lay_21 : decode cX11_lay 21 = .ok (.getfield 134, 3) := by decide +kernel
theorem dX11_lay_24 : decode cX11_lay 24 = .ok (.ishl, 1) := by decide +kernel
theorem dX11_lay_25 : decode cX11_lay 25 = .ok (.if_icmp .ge 11, 3) := by decide +kernel
theorem dX11_lay_28 : decode cX11_lay 28 = .ok (.iload_n 2, 1) := by decide +kernel
theorem dX11_lay_29 : decode cX11_lay 29 = .ok (.invokestatic 278, 3) := by decide +kernel
theorem dX11_lay_32 : decode cX11_lay 32 = .ok (.iconst 4, 1) := by decide +kernel
theorem dX11_lay_33 : decode cX11_lay 33 = .ok (.if_icmp .le 6, 3) := by decide +kernel
theorem dX11_lay_36 : decode cX11_lay 36 = .ok (.bipush (-2), 2) := by decide +kernel
theorem dX11_lay_38 : decode cX11_lay 38 = .ok (.ireturn, 1) := by decide +kernel
theorem dX11_lay_39 : decode cX11_lay 39 = .ok (.iconst 0, 1) := by decide +kernel
theorem dX11_lay_40 : decode cX11_lay 40 = .ok (.istore_n 3, 1) := by decide +kernel
theorem dX11_lay_41 : decode cX11_lay 41 = .ok (.iconst 0, 1) := by decide +kernel
theorem dX11_lay_42 : decode cX11_lay 42 = .ok (.istore 4, 2) := by decide +kernel
theorem dX11_lay_44 : decode cX11_lay 44 = .ok (.aload_n 0, 1) := by decide +kernel
theorem dX11_lay_45 : decode cX11_lay 45 = .ok (.iload_n 1, 1) := by decide +kernel
theorem dX11_lay_46 : decode cX11_lay 46 = .ok (.iconst 0, 1) := by decide +kernel
theorem dX11_lay_47 : decode cX11_lay 47 = .ok (.aload_n 0, 1) := by decide +kernel
theorem dX11_lay_48 : decode cX11_lay 48 = .ok (.getfield 95, 3) := by decide +kernel
theorem dX11_lay_51 : decode cX11_lay 51 = .ok (.invokevirtual 268, 3) := by decide +kernel
theorem dX11_lay_54 : decode cX11_lay 54 = .ok (.istore 5, 2) := by decide +kernel
theorem dX11_lay_56 : decode cX11_lay 56 = .ok (.iconst 0, 1) := by decide +kernel
theorem dX11_lay_57 : decode cX11_lay 57 = .ok (.istore 6, 2) := by decide +kernel
theorem dX11_lay_59 : decode cX11_lay 59 = .ok (.iload 6, 2) := by decide +kernel
theorem dX11_lay_61 : decode cX11_lay 61 = .ok (.aload_n 0, 1) := by decide +kernel
theorem dX11_lay_62 : decode cX11_lay 62 = .ok (.getfield 134, 3) := by decide +kernel
theorem dX11_lay_65 : decode cX11_lay 65 = .ok (.if_icmp .ge 73, 3) := by decide +kernel
theorem dX11_lay_68 : decode cX11_lay 68 = .ok (.iload_n 2, 1) := by decide +kernel
theorem dX11_lay_69 : decode cX11_lay 69 = .ok (.iload 6, 2) := by decide +kernel
theorem dX11_lay_71 : decode cX11_lay 71 = .ok (.ishr, 1) := by decide +kernel
theorem dX11_lay_72 : decode cX11_lay 72 = .ok (.iconst 1, 1) := by decide +kernel
theorem dX11_lay_73 : decode cX11_lay 73 = .ok (.iand, 1) := by decide +kernel
theorem dX11_lay_74 : decode cX11_lay 74 = .ok (.iconst 1, 1) := by decide +kernel
theorem dX11_lay_75 : decode cX11_lay 75 = .ok (.if_icmp .ne 57, 3) := by decide +kernel
theorem dX11_lay_78 : decode cX11_lay 78 = .ok (.iload 5, 2) := by decide +kernel
theorem dX11_lay_80 : decode cX11_lay 80 = .ok (.ifCond .eq 27, 3) := by decide +kernel
theorem dX11_lay_83 : decode cX11_lay 83 = .ok (.aload_n 0, 1) := by decide +kernel
theorem dX11_lay_84 : decode cX11_lay 84 = .ok (.getfield 31, 3) := by decide +kernel
theorem dX11_lay_87 : decode cX11_lay 87 = .ok (.iload 6, 2) := by decide +kernel
theorem dX11_lay_89 : decode cX11_lay 89 = .ok (.iaload, 1) := by decide +kernel
theorem dX11_lay_90 : decode cX11_lay 90 = .ok (.iconst (-1), 1) := by decide +kernel
theorem dX11_lay_91 : decode cX11_lay 91 = .ok (.if_icmp .ne 16, 3) := by decide +kernel
theorem dX11_lay_94 : decode cX11_lay 94 = .ok (.aload_n 0, 1) := by decide +kernel
theorem dX11_lay_95 : decode cX11_lay 95 = .ok (.iload 6, 2) := by decide +kernel
theorem dX11_lay_97 : decode cX11_lay 97 = .ok (.invokevirtual 200, 3) := by decide +kernel
theorem dX11_lay_100 : decode cX11_lay 100 = .ok (.ifCond .eq 7, 3) := by decide +kernel
theorem dX11_lay_103 : decode cX11_lay 103 = .ok (.iconst 1, 1) := by decide +kernel
theorem dX11_lay_104 : decode cX11_lay 104 = .ok (.goto 4, 3) := by decide +kernel
theorem dX11_lay_107 : decode cX11_lay 107 = .ok (.iconst 0, 1) := by decide +kernel
theorem dX11_lay_108 : decode cX11_lay 108 = .ok (.istore 5, 2) := by decide +kernel
theorem dX11_lay_110 : decode cX11_lay 110 = .ok (.iload 4, 2) := by decide +kernel
theorem dX11_lay_112 : decode cX11_lay 112 = .ok (.aload_n 0, 1) := by decide +kernel
theorem dX11_lay_113 : decode cX11_lay 113 = .ok (.iload 6, 2) := by decide +kernel
theorem dX11_lay_115 : decode cX11_lay 115 = .ok (.invokevirtual 197, 3) := by decide +kernel
theorem dX11_lay_118 : decode cX11_lay 118 = .ok (.iadd, 1) := by decide +kernel
theorem dX11_lay_119 : decode cX11_lay 119 = .ok (.istore 4, 2) := by decide +kernel
theorem dX11_lay_121 : decode cX11_lay 121 = .ok (.aload_n 0, 1) := by decide +kernel
theorem dX11_lay_122 : decode cX11_lay 122 = .ok (.getfield 98, 3) := by decide +kernel
theorem dX11_lay_125 : decode cX11_lay 125 = .ok (.iload_n 3, 1) := by decide +kernel
theorem dX11_lay_126 : decode cX11_lay 126 = .ok (.iload 6, 2) := by decide +kernel
theorem dX11_lay_128 : decode cX11_lay 128 = .ok (.iastore, 1) := by decide +kernel
theorem dX11_lay_129 : decode cX11_lay 129 = .ok (.iinc 3 1, 3) := by decide +kernel
theorem dX11_lay_132 : decode cX11_lay 132 = .ok (.iinc 6 1, 3) := by decide +kernel
theorem dX11_lay_135 : decode cX11_lay 135 = .ok (.goto (-76), 3) := by decide +kernel
theorem dX11_lay_138 : decode cX11_lay 138 = .ok (.iload 5, 2) := by decide +kernel
theorem dX11_lay_140 : decode cX11_lay 140 = .ok (.ifCond .eq 12, 3) := by decide +kernel
theorem dX11_lay_143 : decode cX11_lay 143 = .ok (.iload 4, 2) := by decide +kernel
theorem dX11_lay_145 : decode cX11_lay 145 = .ok (.aload_n 0, 1) := by decide +kernel
theorem dX11_lay_146 : decode cX11_lay 146 = .ok (.getfield 95, 3) := by decide +kernel
theorem dX11_lay_149 : decode cX11_lay 149 = .ok (.if_icmp .le 6, 3) := by decide +kernel
theorem dX11_lay_152 : decode cX11_lay 152 = .ok (.bipush (-3), 2) := by decide +kernel
theorem dX11_lay_154 : decode cX11_lay 154 = .ok (.ireturn, 1) := by decide +kernel
theorem dX11_lay_155 : decode cX11_lay 155 = .ok (.iconst (-1), 1) := by decide +kernel
theorem dX11_lay_156 : decode cX11_lay 156 = .ok (.istore 6, 2) := by decide +kernel
theorem dX11_lay_158 : decode cX11_lay 158 = .ok (.iconst 1, 1) := by decide +kernel
theorem dX11_lay_159 : decode cX11_lay 159 = .ok (.istore 7, 2) := by decide +kernel
theorem dX11_lay_161 : decode cX11_lay 161 = .ok (.iload 7, 2) := by decide +kernel
theorem dX11_lay_163 : decode cX11_lay 163 = .ok (.ifCond .eq 65, 3) := by decide +kernel
theorem dX11_lay_166 : decode cX11_lay 166 = .ok (.aload_n 0, 1) := by decide +kernel
theorem dX11_lay_167 : decode cX11_lay 167 = .ok (.iload_n 3, 1) := by decide +kernel
theorem dX11_lay_168 : decode cX11_lay 168 = .ok (.invokevirtual 281, 3) := by decide +kernel
theorem dX11_lay_171 : decode cX11_lay 171 = .ok (.istore 8, 2) := by decide +kernel
theorem dX11_lay_173 : decode cX11_lay 173 = .ok (.iload 6, 2) := by decide +kernel
theorem dX11_lay_175 : decode cX11_lay 175 = .ok (.ifCond .lt 10, 3) := by decide +kernel
theorem dX11_lay_178 : decode cX11_lay 178 = .ok (.iload 8, 2) := by decide +kernel
theorem dX11_lay_180 : decode cX11_lay 180 = .ok (.iload 6, 2) := by decide +kernel
theorem dX11_lay_182 : decode cX11_lay 182 = .ok (.if_icmp .ge 36, 3) := by decide +kernel
theorem dX11_lay_185 : decode cX11_lay 185 = .ok (.iload 8, 2) := by decide +kernel
theorem dX11_lay_187 : decode cX11_lay 187 = .ok (.istore 6, 2) := by decide +kernel
theorem dX11_lay_189 : decode cX11_lay 189 = .ok (.iconst 0, 1) := by decide +kernel
theorem dX11_lay_190 : decode cX11_lay 190 = .ok (.istore 9, 2) := by decide +kernel
theorem dX11_lay_192 : decode cX11_lay 192 = .ok (.iload 9, 2) := by decide +kernel
theorem dX11_lay_194 : decode cX11_lay 194 = .ok (.iload_n 3, 1) := by decide +kernel
theorem dX11_lay_195 : decode cX11_lay 195 = .ok (.if_icmp .ge 23, 3) := by decide +kernel
theorem dX11_lay_198 : decode cX11_lay 198 = .ok (.aload_n 0, 1) := by decide +kernel
theorem dX11_lay_199 : decode cX11_lay 199 = .ok (.getfield 101, 3) := by decide +kernel
theorem dX11_lay_202 : decode cX11_lay 202 = .ok (.iload 9, 2) := by decide +kernel
theorem dX11_lay_204 : decode cX11_lay 204 = .ok (.aload_n 0, 1) := by decide +kernel
theorem dX11_lay_205 : decode cX11_lay 205 = .ok (.getfield 98, 3) := by decide +kernel
theorem dX11_lay_208 : decode cX11_lay 208 = .ok (.iload 9, 2) := by decide +kernel
theorem dX11_lay_210 : decode cX11_lay 210 = .ok (.iaload, 1) := by decide +kernel
theorem dX11_lay_211 : decode cX11_lay 211 = .ok (.iastore, 1) := by decide +kernel
theorem dX11_lay_212 : decode cX11_lay 212 = .ok (.iinc 9 1, 3) := by decide +kernel
theorem dX11_lay_215 : decode cX11_lay 215 = .ok (.goto (-23), 3) := by decide +kernel
theorem dX11_lay_218 : decode cX11_lay 218 = .ok (.aload_n 0, 1) := by decide +kernel
theorem dX11_lay_219 : decode cX11_lay 219 = .ok (.iload_n 3, 1) := by decide +kernel
theorem dX11_lay_220 : decode cX11_lay 220 = .ok (.invokevirtual 284, 3) := by decide +kernel
theorem dX11_lay_223 : decode cX11_lay 223 = .ok (.istore 7, 2) := by decide +kernel
theorem dX11_lay_225 : decode cX11_lay 225 = .ok (.goto (-64), 3) := by decide +kernel
theorem dX11_lay_228 : decode cX11_lay 228 = .ok (.iconst 0, 1) := by decide +kernel
theorem dX11_lay_229 : decode cX11_lay 229 = .ok (.istore 8, 2) := by decide +kernel
theorem dX11_lay_231 : decode cX11_lay 231 = .ok (.iconst 0, 1) := by decide +kernel
theorem dX11_lay_232 : decode cX11_lay 232 = .ok (.istore 9, 2) := by decide +kernel
theorem dX11_lay_234 : decode cX11_lay 234 = .ok (.iload 9, 2) := by decide +kernel
theorem dX11_lay_236 : decode cX11_lay 236 = .ok (.iload_n 3, 1) := by decide +kernel
theorem dX11_lay_237 : decode cX11_lay 237 = .ok (.if_icmp .ge 52, 3) := by decide +kernel
theorem dX11_lay_240 : decode cX11_lay 240 = .ok (.aload_n 0, 1) := by decide +kernel
theorem dX11_lay_241 : decode cX11_lay 241 = .ok (.getfield 31, 3) := by decide +kernel
