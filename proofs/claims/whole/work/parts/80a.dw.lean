/-! How the law's instructions read. -/
theorem de_W_law_0 : decode code 0 = .ok (.new 8, 3) := by decide +kernel
theorem de_W_law_3 : decode code 3 = .ok (.dup, 1) := by decide +kernel
theorem de_W_law_4 : decode code 4 = .ok (.invokespecial 50, 3) := by decide +kernel
theorem de_W_law_7 : decode code 7 = .ok (.astore_n 1, 1) := by decide +kernel
theorem de_W_law_8 : decode code 8 = .ok (.new 51, 3) := by decide +kernel
theorem de_W_law_11 : decode code 11 = .ok (.dup, 1) := by decide +kernel
theorem de_W_law_12 : decode code 12 = .ok (.invokespecial 53, 3) := by decide +kernel
theorem de_W_law_15 : decode code 15 = .ok (.astore_n 2, 1) := by decide +kernel
theorem de_W_law_16 : decode code 16 = .ok (.iconst 1, 1) := by decide +kernel
theorem de_W_law_17 : decode code 17 = .ok (.newarray .long, 2) := by decide +kernel
theorem de_W_law_19 : decode code 19 = .ok (.astore_n 3, 1) := by decide +kernel
theorem de_W_law_20 : decode code 20 = .ok (.iconst 0, 1) := by decide +kernel
theorem de_W_law_21 : decode code 21 = .ok (.istore 4, 2) := by decide +kernel
theorem de_W_law_23 : decode code 23 = .ok (.iload 4, 2) := by decide +kernel
theorem de_W_law_25 : decode code 25 = .ok (.aload_n 0, 1) := by decide +kernel
theorem de_W_law_26 : decode code 26 = .ok (.arraylength, 1) := by decide +kernel
theorem de_W_law_27 : decode code 27 = .ok (.bipush 6, 2) := by decide +kernel
theorem de_W_law_29 : decode code 29 = .ok (.isub, 1) := by decide +kernel
theorem de_W_law_30 : decode code 30 = .ok (.if_icmp .gt 1377, 3) := by decide +kernel
theorem de_W_law_33 : decode code 33 = .ok (.aload_n 0, 1) := by decide +kernel
theorem de_W_law_34 : decode code 34 = .ok (.iload 4, 2) := by decide +kernel
theorem de_W_law_36 : decode code 36 = .ok (.iaload, 1) := by decide +kernel
theorem de_W_law_37 : decode code 37 = .ok (.bipush 31, 2) := by decide +kernel
theorem de_W_law_39 : decode code 39 = .ok (.iand, 1) := by decide +kernel
theorem de_W_law_40 : decode code 40 = .ok (.tableswitch 1361 0 16 #[84, 216, 351, 486, 561, 598, 647, 700, 813, 910, 949, 962, 1029, 1084, 1211, 1310, 1335], 84) := by decide +kernel
theorem de_W_law_124 : decode code 124 = .ok (.aload_n 1, 1) := by decide +kernel
theorem de_W_law_125 : decode code 125 = .ok (.aload_n 0, 1) := by decide +kernel
theorem de_W_law_126 : decode code 126 = .ok (.iload 4, 2) := by decide +kernel
theorem de_W_law_128 : decode code 128 = .ok (.iconst 1, 1) := by decide +kernel
theorem de_W_law_129 : decode code 129 = .ok (.iadd, 1) := by decide +kernel
theorem de_W_law_130 : decode code 130 = .ok (.iaload, 1) := by decide +kernel
theorem de_W_law_131 : decode code 131 = .ok (.i2l, 1) := by decide +kernel
theorem de_W_law_132 : decode code 132 = .ok (.bipush 32, 2) := by decide +kernel
theorem de_W_law_134 : decode code 134 = .ok (.lshl, 1) := by decide +kernel
theorem de_W_law_135 : decode code 135 = .ok (.aload_n 0, 1) := by decide +kernel
theorem de_W_law_136 : decode code 136 = .ok (.iload 4, 2) := by decide +kernel
theorem de_W_law_138 : decode code 138 = .ok (.iconst 2, 1) := by decide +kernel
theorem de_W_law_139 : decode code 139 = .ok (.iadd, 1) := by decide +kernel
theorem de_W_law_140 : decode code 140 = .ok (.iaload, 1) := by decide +kernel
theorem de_W_law_141 : decode code 141 = .ok (.i2l, 1) := by decide +kernel
theorem de_W_law_142 : decode code 142 = .ok (.ldc2_w 54, 3) := by decide +kernel
theorem de_W_law_145 : decode code 145 = .ok (.land, 1) := by decide +kernel
theorem de_W_law_146 : decode code 146 = .ok (.lor, 1) := by decide +kernel
theorem de_W_law_147 : decode code 147 = .ok (.aload_n 0, 1) := by decide +kernel
theorem de_W_law_148 : decode code 148 = .ok (.iload 4, 2) := by decide +kernel
theorem de_W_law_150 : decode code 150 = .ok (.iconst 3, 1) := by decide +kernel
theorem de_W_law_151 : decode code 151 = .ok (.iadd, 1) := by decide +kernel
theorem de_W_law_152 : decode code 152 = .ok (.iaload, 1) := by decide +kernel
theorem de_W_law_153 : decode code 153 = .ok (.i2l, 1) := by decide +kernel
theorem de_W_law_154 : decode code 154 = .ok (.bipush 32, 2) := by decide +kernel
theorem de_W_law_156 : decode code 156 = .ok (.lshl, 1) := by decide +kernel
theorem de_W_law_157 : decode code 157 = .ok (.aload_n 0, 1) := by decide +kernel
theorem de_W_law_158 : decode code 158 = .ok (.iload 4, 2) := by decide +kernel
theorem de_W_law_160 : decode code 160 = .ok (.iconst 4, 1) := by decide +kernel
theorem de_W_law_161 : decode code 161 = .ok (.iadd, 1) := by decide +kernel
theorem de_W_law_162 : decode code 162 = .ok (.iaload, 1) := by decide +kernel
theorem de_W_law_163 : decode code 163 = .ok (.i2l, 1) := by decide +kernel
theorem de_W_law_164 : decode code 164 = .ok (.ldc2_w 54, 3) := by decide +kernel
theorem de_W_law_167 : decode code 167 = .ok (.land, 1) := by decide +kernel
theorem de_W_law_168 : decode code 168 = .ok (.lor, 1) := by decide +kernel
theorem de_W_law_169 : decode code 169 = .ok (.aload_n 3, 1) := by decide +kernel
theorem de_W_law_170 : decode code 170 = .ok (.invokestatic 56, 3) := by decide +kernel
theorem de_W_law_173 : decode code 173 = .ok (.istore 5, 2) := by decide +kernel
theorem de_W_law_175 : decode code 175 = .ok (.aload_n 2, 1) := by decide +kernel
theorem de_W_law_176 : decode code 176 = .ok (.aload_n 0, 1) := by decide +kernel
theorem de_W_law_177 : decode code 177 = .ok (.iload 4, 2) := by decide +kernel
theorem de_W_law_179 : decode code 179 = .ok (.iconst 1, 1) := by decide +kernel
theorem de_W_law_180 : decode code 180 = .ok (.iadd, 1) := by decide +kernel
theorem de_W_law_181 : decode code 181 = .ok (.iaload, 1) := by decide +kernel
theorem de_W_law_182 : decode code 182 = .ok (.i2l, 1) := by decide +kernel
theorem de_W_law_183 : decode code 183 = .ok (.bipush 32, 2) := by decide +kernel
theorem de_W_law_185 : decode code 185 = .ok (.lshl, 1) := by decide +kernel
theorem de_W_law_186 : decode code 186 = .ok (.aload_n 0, 1) := by decide +kernel
theorem de_W_law_187 : decode code 187 = .ok (.iload 4, 2) := by decide +kernel
theorem de_W_law_189 : decode code 189 = .ok (.iconst 2, 1) := by decide +kernel
theorem de_W_law_190 : decode code 190 = .ok (.iadd, 1) := by decide +kernel
theorem de_W_law_191 : decode code 191 = .ok (.iaload, 1) := by decide +kernel
theorem de_W_law_192 : decode code 192 = .ok (.i2l, 1) := by decide +kernel
theorem de_W_law_193 : decode code 193 = .ok (.ldc2_w 54, 3) := by decide +kernel
theorem de_W_law_196 : decode code 196 = .ok (.land, 1) := by decide +kernel
theorem de_W_law_197 : decode code 197 = .ok (.lor, 1) := by decide +kernel
theorem de_W_law_198 : decode code 198 = .ok (.aload_n 0, 1) := by decide +kernel
theorem de_W_law_199 : decode code 199 = .ok (.iload 4, 2) := by decide +kernel
theorem de_W_law_201 : decode code 201 = .ok (.iconst 3, 1) := by decide +kernel
theorem de_W_law_202 : decode code 202 = .ok (.iadd, 1) := by decide +kernel
theorem de_W_law_203 : decode code 203 = .ok (.iaload, 1) := by decide +kernel
theorem de_W_law_204 : decode code 204 = .ok (.i2l, 1) := by decide +kernel
theorem de_W_law_205 : decode code 205 = .ok (.bipush 32, 2) := by decide +kernel
theorem de_W_law_207 : decode code 207 = .ok (.lshl, 1) := by decide +kernel
theorem de_W_law_208 : decode code 208 = .ok (.aload_n 0, 1) := by decide +kernel
theorem de_W_law_209 : decode code 209 = .ok (.iload 4, 2) := by decide +kernel
theorem de_W_law_211 : decode code 211 = .ok (.iconst 4, 1) := by decide +kernel
theorem de_W_law_212 : decode code 212 = .ok (.iadd, 1) := by decide +kernel
theorem de_W_law_213 : decode code 213 = .ok (.iaload, 1) := by decide +kernel
theorem de_W_law_214 : decode code 214 = .ok (.i2l, 1) := by decide +kernel
theorem de_W_law_215 : decode code 215 = .ok (.ldc2_w 54, 3) := by decide +kernel
theorem de_W_law_218 : decode code 218 = .ok (.land, 1) := by decide +kernel
theorem de_W_law_219 : decode code 219 = .ok (.lor, 1) := by decide +kernel
theorem de_W_law_220 : decode code 220 = .ok (.invokevirtual 61, 3) := by decide +kernel
theorem de_W_law_223 : decode code 223 = .ok (.istore 6, 2) := by decide +kernel
theorem de_W_law_225 : decode code 225 = .ok (.aload_n 2, 1) := by decide +kernel
theorem de_W_law_226 : decode code 226 = .ok (.invokevirtual 62, 3) := by decide +kernel
theorem de_W_law_229 : decode code 229 = .ok (.iload 5, 2) := by decide +kernel
theorem de_W_law_231 : decode code 231 = .ok (.if_icmp .eq 5, 3) := by decide +kernel
theorem de_W_law_234 : decode code 234 = .ok (.iconst 0, 1) := by decide +kernel
theorem de_W_law_235 : decode code 235 = .ok (.ireturn, 1) := by decide +kernel
theorem de_W_law_236 : decode code 236 = .ok (.iload 5, 2) := by decide +kernel
theorem de_W_law_238 : decode code 238 = .ok (.ifCond .ne 15, 3) := by decide +kernel
theorem de_W_law_241 : decode code 241 = .ok (.aload_n 3, 1) := by decide +kernel
theorem de_W_law_242 : decode code 242 = .ok (.iconst 0, 1) := by decide +kernel
theorem de_W_law_243 : decode code 243 = .ok (.laload, 1) := by decide +kernel
theorem de_W_law_244 : decode code 244 = .ok (.iload 6, 2) := by decide +kernel
theorem de_W_law_246 : decode code 246 = .ok (.i2l, 1) := by decide +kernel
theorem de_W_law_247 : decode code 247 = .ok (.lcmp, 1) := by decide +kernel
theorem de_W_law_248 : decode code 248 = .ok (.ifCond .eq 5, 3) := by decide +kernel
theorem de_W_law_251 : decode code 251 = .ok (.iconst 0, 1) := by decide +kernel
theorem de_W_law_252 : decode code 252 = .ok (.ireturn, 1) := by decide +kernel
theorem de_W_law_253 : decode code 253 = .ok (.goto 1148, 3) := by decide +kernel
theorem de_W_law_256 : decode code 256 = .ok (.aload_n 1, 1) := by decide +kernel
theorem de_W_law_257 : decode code 257 = .ok (.aload_n 0, 1) := by decide +kernel
theorem de_W_law_258 : decode code 258 = .ok (.iload 4, 2) := by decide +kernel
theorem de_W_law_260 : decode code 260 = .ok (.iconst 1, 1) := by decide +kernel
theorem de_W_law_261 : decode code 261 = .ok (.iadd, 1) := by decide +kernel
theorem de_W_law_262 : decode code 262 = .ok (.iaload, 1) := by decide +kernel
theorem de_W_law_263 : decode code 263 = .ok (.aload_n 0, 1) := by decide +kernel
theorem de_W_law_264 : decode code 264 = .ok (.iload 4, 2) := by decide +kernel
theorem de_W_law_266 : decode code 266 = .ok (.iconst 2, 1) := by decide +kernel
theorem de_W_law_267 : decode code 267 = .ok (.iadd, 1) := by decide +kernel
theorem de_W_law_268 : decode code 268 = .ok (.iaload, 1) := by decide +kernel
theorem de_W_law_269 : decode code 269 = .ok (.i2l, 1) := by decide +kernel
theorem de_W_law_270 : decode code 270 = .ok (.bipush 32, 2) := by decide +kernel
theorem de_W_law_272 : decode code 272 = .ok (.lshl, 1) := by decide +kernel
theorem de_W_law_273 : decode code 273 = .ok (.aload_n 0, 1) := by decide +kernel
theorem de_W_law_274 : decode code 274 = .ok (.iload 4, 2) := by decide +kernel
theorem de_W_law_276 : decode code 276 = .ok (.iconst 3, 1) := by decide +kernel
theorem de_W_law_277 : decode code 277 = .ok (.iadd, 1) := by decide +kernel
theorem de_W_law_278 : decode code 278 = .ok (.iaload, 1) := by decide +kernel
theorem de_W_law_279 : decode code 279 = .ok (.i2l, 1) := by decide +kernel
theorem de_W_law_280 : decode code 280 = .ok (.ldc2_w 54, 3) := by decide +kernel
theorem de_W_law_283 : decode code 283 = .ok (.land, 1) := by decide +kernel
theorem de_W_law_284 : decode code 284 = .ok (.lor, 1) := by decide +kernel
theorem de_W_law_285 : decode code 285 = .ok (.aload_n 0, 1) := by decide +kernel
theorem de_W_law_286 : decode code 286 = .ok (.iload 4, 2) := by decide +kernel
theorem de_W_law_288 : decode code 288 = .ok (.iconst 4, 1) := by decide +kernel
theorem de_W_law_289 : decode code 289 = .ok (.iadd, 1) := by decide +kernel
theorem de_W_law_290 : decode code 290 = .ok (.iaload, 1) := by decide +kernel
theorem de_W_law_291 : decode code 291 = .ok (.ifCond .eq 7, 3) := by decide +kernel
theorem de_W_law_294 : decode code 294 = .ok (.iconst 1, 1) := by decide +kernel
theorem de_W_law_295 : decode code 295 = .ok (.goto 4, 3) := by decide +kernel
theorem de_W_law_298 : decode code 298 = .ok (.iconst 0, 1) := by decide +kernel
