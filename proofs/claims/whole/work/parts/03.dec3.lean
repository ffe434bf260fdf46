theorem dX12_goDay_128 : decode cX12_goDay 128 = .ok (.aload_n 1, 1) := by decide +kernel
theorem dX12_goDay_129 : decode cX12_goDay 129 = .ok (.bipush 35, 2) := by decide +kernel
theorem dX12_goDay_131 : decode cX12_goDay 131 = .ok (.iaload, 1) := by decide +kernel
theorem dX12_goDay_132 : decode cX12_goDay 132 = .ok (.invokevirtual 347, 3) := by decide +kernel
theorem dX12_goDay_135 : decode cX12_goDay 135 = .ok (.iadd, 1) := by decide +kernel
theorem dX12_goDay_136 : decode cX12_goDay 136 = .ok (.istore 5, 2) := by decide +kernel
theorem dX12_goDay_138 : decode cX12_goDay 138 = .ok (.aload_n 1, 1) := by decide +kernel
theorem dX12_goDay_139 : decode cX12_goDay 139 = .ok (.iconst 4, 1) := by decide +kernel
theorem dX12_goDay_140 : decode cX12_goDay 140 = .ok (.iload_n 3, 1) := by decide +kernel
theorem dX12_goDay_141 : decode cX12_goDay 141 = .ok (.imul, 1) := by decide +kernel
theorem dX12_goDay_142 : decode cX12_goDay 142 = .ok (.iconst 2, 1) := by decide +kernel
theorem dX12_goDay_143 : decode cX12_goDay 143 = .ok (.iadd, 1) := by decide +kernel
theorem dX12_goDay_144 : decode cX12_goDay 144 = .ok (.bipush (-99), 2) := by decide +kernel
theorem dX12_goDay_146 : decode cX12_goDay 146 = .ok (.sipush 999, 3) := by decide +kernel
theorem dX12_goDay_149 : decode cX12_goDay 149 = .ok (.iload 5, 2) := by decide +kernel
theorem dX12_goDay_151 : decode cX12_goDay 151 = .ok (.invokestatic 309, 3) := by decide +kernel
theorem dX12_goDay_154 : decode cX12_goDay 154 = .ok (.invokestatic 311, 3) := by decide +kernel
theorem dX12_goDay_157 : decode cX12_goDay 157 = .ok (.iastore, 1) := by decide +kernel
theorem dX12_goDay_158 : decode cX12_goDay 158 = .ok (.aload_n 1, 1) := by decide +kernel
theorem dX12_goDay_159 : decode cX12_goDay 159 = .ok (.bipush 33, 2) := by decide +kernel
theorem dX12_goDay_161 : decode cX12_goDay 161 = .ok (.sipush 999, 3) := by decide +kernel
theorem dX12_goDay_164 : decode cX12_goDay 164 = .ok (.aload_n 1, 1) := by decide +kernel
theorem dX12_goDay_165 : decode cX12_goDay 165 = .ok (.bipush 33, 2) := by decide +kernel
theorem dX12_goDay_167 : decode cX12_goDay 167 = .ok (.iaload, 1) := by decide +kernel
theorem dX12_goDay_168 : decode cX12_goDay 168 = .ok (.aload_n 0, 1) := by decide +kernel
theorem dX12_goDay_169 : decode cX12_goDay 169 = .ok (.iload_n 3, 1) := by decide +kernel
theorem dX12_goDay_170 : decode cX12_goDay 170 = .ok (.invokevirtual 306, 3) := by decide +kernel
theorem dX12_goDay_173 : decode cX12_goDay 173 = .ok (.iadd, 1) := by decide +kernel
theorem dX12_goDay_174 : decode cX12_goDay 174 = .ok (.invokestatic 309, 3) := by decide +kernel
theorem dX12_goDay_177 : decode cX12_goDay 177 = .ok (.iastore, 1) := by decide +kernel
theorem dX12_goDay_178 : decode cX12_goDay 178 = .ok (.aload_n 1, 1) := by decide +kernel
theorem dX12_goDay_179 : decode cX12_goDay 179 = .ok (.iconst 4, 1) := by decide +kernel
theorem dX12_goDay_180 : decode cX12_goDay 180 = .ok (.iload_n 3, 1) := by decide +kernel
theorem dX12_goDay_181 : decode cX12_goDay 181 = .ok (.imul, 1) := by decide +kernel
theorem dX12_goDay_182 : decode cX12_goDay 182 = .ok (.iconst 2, 1) := by decide +kernel
theorem dX12_goDay_183 : decode cX12_goDay 183 = .ok (.iadd, 1) := by decide +kernel
theorem dX12_goDay_184 : decode cX12_goDay 184 = .ok (.iaload, 1) := by decide +kernel
theorem dX12_goDay_185 : decode cX12_goDay 185 = .ok (.bipush (-10), 2) := by decide +kernel
theorem dX12_goDay_187 : decode cX12_goDay 187 = .ok (.if_icmp .gt 11, 3) := by decide +kernel
theorem dX12_goDay_190 : decode cX12_goDay 190 = .ok (.aload_n 1, 1) := by decide +kernel
theorem dX12_goDay_191 : decode cX12_goDay 191 = .ok (.iconst 4, 1) := by decide +kernel
theorem dX12_goDay_192 : decode cX12_goDay 192 = .ok (.iload_n 3, 1) := by decide +kernel
theorem dX12_goDay_193 : decode cX12_goDay 193 = .ok (.imul, 1) := by decide +kernel
theorem dX12_goDay_194 : decode cX12_goDay 194 = .ok (.iconst 3, 1) := by decide +kernel
theorem dX12_goDay_195 : decode cX12_goDay 195 = .ok (.iadd, 1) := by decide +kernel
theorem dX12_goDay_196 : decode cX12_goDay 196 = .ok (.iconst 1, 1) := by decide +kernel
theorem dX12_goDay_197 : decode cX12_goDay 197 = .ok (.iastore, 1) := by decide +kernel
theorem dX12_goDay_198 : decode cX12_goDay 198 = .ok (.iinc 3 1, 3) := by decide +kernel
theorem dX12_goDay_201 : decode cX12_goDay 201 = .ok (.goto (-156), 3) := by decide +kernel
theorem dX12_goDay_204 : decode cX12_goDay 204 = .ok (.aload_n 1, 1) := by decide +kernel
theorem dX12_goDay_205 : decode cX12_goDay 205 = .ok (.bipush 34, 2) := by decide +kernel
theorem dX12_goDay_207 : decode cX12_goDay 207 = .ok (.iconst 0, 1) := by decide +kernel
theorem dX12_goDay_208 : decode cX12_goDay 208 = .ok (.iastore, 1) := by decide +kernel
theorem dX12_goDay_209 : decode cX12_goDay 209 = .ok (.aload_n 1, 1) := by decide +kernel
theorem dX12_goDay_210 : decode cX12_goDay 210 = .ok (.bipush 35, 2) := by decide +kernel
theorem dX12_goDay_212 : decode cX12_goDay 212 = .ok (.dup2, 1) := by decide +kernel
theorem dX12_goDay_213 : decode cX12_goDay 213 = .ok (.iaload, 1) := by decide +kernel
theorem dX12_goDay_214 : decode cX12_goDay 214 = .ok (.iconst 1, 1) := by decide +kernel
theorem dX12_goDay_215 : decode cX12_goDay 215 = .ok (.iadd, 1) := by decide +kernel
theorem dX12_goDay_216 : decode cX12_goDay 216 = .ok (.iastore, 1) := by decide +kernel
theorem dX12_goDay_217 : decode cX12_goDay 217 = .ok (.aload_n 1, 1) := by decide +kernel
theorem dX12_goDay_218 : decode cX12_goDay 218 = .ok (.bipush 36, 2) := by decide +kernel
theorem dX12_goDay_220 : decode cX12_goDay 220 = .ok (.iaload, 1) := by decide +kernel
theorem dX12_goDay_221 : decode cX12_goDay 221 = .ok (.bipush 60, 2) := by decide +kernel
theorem dX12_goDay_223 : decode cX12_goDay 223 = .ok (.if_icmp .ne 40, 3) := by decide +kernel
theorem dX12_goDay_226 : decode cX12_goDay 226 = .ok (.iconst 1, 1) := by decide +kernel
theorem dX12_goDay_227 : decode cX12_goDay 227 = .ok (.istore_n 3, 1) := by decide +kernel
theorem dX12_goDay_228 : decode cX12_goDay 228 = .ok (.iload_n 3, 1) := by decide +kernel
theorem dX12_goDay_229 : decode cX12_goDay 229 = .ok (.sipush 177, 3) := by decide +kernel
theorem dX12_goDay_232 : decode cX12_goDay 232 = .ok (.if_icmp .gt 23, 3) := by decide +kernel
theorem dX12_goDay_235 : decode cX12_goDay 235 = .ok (.aload_n 1, 1) := by decide +kernel
theorem dX12_goDay_236 : decode cX12_goDay 236 = .ok (.bipush 36, 2) := by decide +kernel
theorem dX12_goDay_238 : decode cX12_goDay 238 = .ok (.iload_n 3, 1) := by decide +kernel
theorem dX12_goDay_239 : decode cX12_goDay 239 = .ok (.iadd, 1) := by decide +kernel
theorem dX12_goDay_240 : decode cX12_goDay 240 = .ok (.aload_n 1, 1) := by decide +kernel
theorem dX12_goDay_241 : decode cX12_goDay 241 = .ok (.bipush 36, 2) := by decide +kernel
theorem dX12_goDay_243 : decode cX12_goDay 243 = .ok (.iload_n 3, 1) := by decide +kernel
theorem dX12_goDay_244 : decode cX12_goDay 244 = .ok (.iadd, 1) := by decide +kernel
theorem dX12_goDay_245 : decode cX12_goDay 245 = .ok (.iconst 3, 1) := by decide +kernel
theorem dX12_goDay_246 : decode cX12_goDay 246 = .ok (.iadd, 1) := by decide +kernel
theorem dX12_goDay_247 : decode cX12_goDay 247 = .ok (.iaload, 1) := by decide +kernel
theorem dX12_goDay_248 : decode cX12_goDay 248 = .ok (.iastore, 1) := by decide +kernel
theorem dX12_goDay_249 : decode cX12_goDay 249 = .ok (.iinc 3 1, 3) := by decide +kernel
theorem dX12_goDay_252 : decode cX12_goDay 252 = .ok (.goto (-24), 3) := by decide +kernel
theorem dX12_goDay_255 : decode cX12_goDay 255 = .ok (.aload_n 1, 1) := by decide +kernel
theorem dX12_goDay_256 : decode cX12_goDay 256 = .ok (.bipush 36, 2) := by decide +kernel
theorem dX12_goDay_258 : decode cX12_goDay 258 = .ok (.dup2, 1) := by decide +kernel
theorem dX12_goDay_259 : decode cX12_goDay 259 = .ok (.iaload, 1) := by decide +kernel
theorem dX12_goDay_260 : decode cX12_goDay 260 = .ok (.iconst 1, 1) := by decide +kernel
theorem dX12_goDay_261 : decode cX12_goDay 261 = .ok (.isub, 1) := by decide +kernel
theorem dX12_goDay_262 : decode cX12_goDay 262 = .ok (.iastore, 1) := by decide +kernel
theorem dX12_goDay_263 : decode cX12_goDay 263 = .ok (.bipush 37, 2) := by decide +kernel
theorem dX12_goDay_265 : decode cX12_goDay 265 = .ok (.iconst 3, 1) := by decide +kernel
theorem dX12_goDay_266 : decode cX12_goDay 266 = .ok (.aload_n 1, 1) := by decide +kernel
theorem dX12_goDay_267 : decode cX12_goDay 267 = .ok (.bipush 36, 2) := by decide +kernel
theorem dX12_goDay_269 : decode cX12_goDay 269 = .ok (.iaload, 1) := by decide +kernel
theorem dX12_goDay_270 : decode cX12_goDay 270 = .ok (.imul, 1) := by decide +kernel
theorem dX12_goDay_271 : decode cX12_goDay 271 = .ok (.iadd, 1) := by decide +kernel
theorem dX12_goDay_272 : decode cX12_goDay 272 = .ok (.istore_n 3, 1) := by decide +kernel
theorem dX12_goDay_273 : decode cX12_goDay 273 = .ok (.aload_n 1, 1) := by decide +kernel
theorem dX12_goDay_274 : decode cX12_goDay 274 = .ok (.iload_n 3, 1) := by decide +kernel
theorem dX12_goDay_275 : decode cX12_goDay 275 = .ok (.aload_n 0, 1) := by decide +kernel
theorem dX12_goDay_276 : decode cX12_goDay 276 = .ok (.getfield 313, 3) := by decide +kernel
theorem dX12_goDay_279 : decode cX12_goDay 279 = .ok (.iastore, 1) := by decide +kernel
theorem dX12_goDay_280 : decode cX12_goDay 280 = .ok (.aload_n 1, 1) := by decide +kernel
theorem dX12_goDay_281 : decode cX12_goDay 281 = .ok (.iload_n 3, 1) := by decide +kernel
theorem dX12_goDay_282 : decode cX12_goDay 282 = .ok (.iconst 1, 1) := by decide +kernel
theorem dX12_goDay_283 : decode cX12_goDay 283 = .ok (.iadd, 1) := by decide +kernel
theorem dX12_goDay_284 : decode cX12_goDay 284 = .ok (.aload_n 0, 1) := by decide +kernel
theorem dX12_goDay_285 : decode cX12_goDay 285 = .ok (.invokevirtual 351, 3) := by decide +kernel
theorem dX12_goDay_288 : decode cX12_goDay 288 = .ok (.iastore, 1) := by decide +kernel
theorem dX12_goDay_289 : decode cX12_goDay 289 = .ok (.aload_n 1, 1) := by decide +kernel
theorem dX12_goDay_290 : decode cX12_goDay 290 = .ok (.iload_n 3, 1) := by decide +kernel
theorem dX12_goDay_291 : decode cX12_goDay 291 = .ok (.iconst 2, 1) := by decide +kernel
theorem dX12_goDay_292 : decode cX12_goDay 292 = .ok (.iadd, 1) := by decide +kernel
theorem dX12_goDay_293 : decode cX12_goDay 293 = .ok (.aload_n 0, 1) := by decide +kernel
theorem dX12_goDay_294 : decode cX12_goDay 294 = .ok (.aload_n 1, 1) := by decide +kernel
theorem dX12_goDay_295 : decode cX12_goDay 295 = .ok (.invokevirtual 354, 3) := by decide +kernel
theorem dX12_goDay_298 : decode cX12_goDay 298 = .ok (.iastore, 1) := by decide +kernel
theorem dX12_goDay_299 : decode cX12_goDay 299 = .ok (.aload_n 1, 1) := by decide +kernel
theorem dX12_goDay_300 : decode cX12_goDay 300 = .ok (.bipush 36, 2) := by decide +kernel
theorem dX12_goDay_302 : decode cX12_goDay 302 = .ok (.dup2, 1) := by decide +kernel
theorem dX12_goDay_303 : decode cX12_goDay 303 = .ok (.iaload, 1) := by decide +kernel
theorem dX12_goDay_304 : decode cX12_goDay 304 = .ok (.iconst 1, 1) := by decide +kernel
theorem dX12_goDay_305 : decode cX12_goDay 305 = .ok (.iadd, 1) := by decide +kernel
theorem dX12_goDay_306 : decode cX12_goDay 306 = .ok (.iastore, 1) := by decide +kernel
theorem dX12_goDay_307 : decode cX12_goDay 307 = .ok (.aload_n 0, 1) := by decide +kernel
theorem dX12_goDay_308 : decode cX12_goDay 308 = .ok (.invokevirtual 351, 3) := by decide +kernel
theorem dX12_goDay_311 : decode cX12_goDay 311 = .ok (.ireturn, 1) := by decide +kernel
theorem dX12_rule_0 : decode cX12_rule 0 = .ok (.aload_n 0, 1) := by decide +kernel
theorem dX12_rule_1 : decode cX12_rule 1 = .ok (.iconst 0, 1) := by decide +kernel
theorem dX12_rule_2 : decode cX12_rule 2 = .ok (.putfield 92, 3) := by decide +kernel
theorem dX12_rule_5 : decode cX12_rule 5 = .ok (.aload_n 0, 1) := by decide +kernel
theorem dX12_rule_6 : decode cX12_rule 6 = .ok (.getfield 287, 3) := by decide +kernel
theorem dX12_rule_9 : decode cX12_rule 9 = .ok (.ifCond .eq 15, 3) := by decide +kernel
theorem dX12_rule_12 : decode cX12_rule 12 = .ok (.iload_n 1, 1) := by decide +kernel
theorem dX12_rule_13 : decode cX12_rule 13 = .ok (.i2l, 1) := by decide +kernel
theorem dX12_rule_14 : decode cX12_rule 14 = .ok (.lconst 0, 1) := by decide +kernel
theorem dX12_rule_15 : decode cX12_rule 15 = .ok (.ldc2_w 265, 3) := by decide +kernel
theorem dX12_rule_18 : decode cX12_rule 18 = .ok (.invokestatic 213, 3) := by decide +kernel
theorem dX12_rule_21 : decode cX12_rule 21 = .ok (.ifCond .ne 5, 3) := by decide +kernel
theorem dX12_rule_24 : decode cX12_rule 24 = .ok (.iconst (-1), 1) := by decide +kernel
theorem dX12_rule_25 : decode cX12_rule 25 = .ok (.ireturn, 1) := by decide +kernel
theorem dX12_rule_26 : decode cX12_rule 26 = .ok (.iload_n 1, 1) := by decide +kernel
theorem dX12_rule_27 : decode cX12_rule 27 = .ok (.ifCond .ne 13, 3) := by decide +kernel
theorem dX12_rule_30 : decode cX12_rule 30 = .ok (.aload_n 0, 1) := by decide +kernel
theorem dX12_rule_31 : decode cX12_rule 31 = .ok (.getfield 61, 3) := by decide +kernel
theorem dX12_rule_34 : decode cX12_rule 34 = .ok (.bipush 32, 2) := by decide +kernel
theorem dX12_rule_36 : decode cX12_rule 36 = .ok (.iaload, 1) := by decide +kernel
theorem dX12_rule_37 : decode cX12_rule 37 = .ok (.goto 24, 3) := by decide +kernel
theorem dX12_rule_40 : decode cX12_rule 40 = .ok (.iload_n 1, 1) := by decide +kernel
theorem dX12_rule_41 : decode cX12_rule 41 = .ok (.iconst 1, 1) := by decide +kernel
theorem dX12_rule_42 : decode cX12_rule 42 = .ok (.if_icmp .ne 12, 3) := by decide +kernel
theorem dX12_rule_45 : decode cX12_rule 45 = .ok (.aload_n 0, 1) := by decide +kernel
theorem dX12_rule_46 : decode cX12_rule 46 = .ok (.getfield 37, 3) := by decide +kernel
theorem dX12_rule_49 : decode cX12_rule 49 = .ok (.iconst 1, 1) := by decide +kernel
theorem dX12_rule_50 : decode cX12_rule 50 = .ok (.iaload, 1) := by decide +kernel
theorem dX12_rule_51 : decode cX12_rule 51 = .ok (.goto 10, 3) := by decide +kernel
theorem dX12_rule_54 : decode cX12_rule 54 = .ok (.aload_n 0, 1) := by decide +kernel
theorem dX12_rule_55 : decode cX12_rule 55 = .ok (.getfield 61, 3) := by decide +kernel
theorem dX12_rule_58 : decode cX12_rule 58 = .ok (.bipush 33, 2) := by decide +kernel
theorem dX12_rule_60 : decode cX12_rule 60 = .ok (.iaload, 1) := by decide +kernel
theorem dX12_rule_61 : decode cX12_rule 61 = .ok (.ireturn, 1) := by decide +kernel
theorem dX12_dish_0 : decode cX12_dish 0 = .ok (.aload_n 0, 1) := by decide +kernel
theorem dX12_dish_1 : decode cX12_dish 1 = .ok (.iconst 0, 1) := by decide +kernel
theorem dX12_dish_2 : decode cX12_dish 2 = .ok (.putfield 92, 3) := by decide +kernel
theorem dX12_dish_5 : decode cX12_dish 5 = .ok (.aload_n 0, 1) := by decide +kernel
theorem dX12_dish_6 : decode cX12_dish 6 = .ok (.iload_n 1, 1) := by decide +kernel
theorem dX12_dish_7 : decode cX12_dish 7 = .ok (.invokevirtual 357, 3) := by decide +kernel
theorem dX12_dish_10 : decode cX12_dish 10 = .ok (.ifCond .eq 28, 3) := by decide +kernel
theorem dX12_dish_13 : decode cX12_dish 13 = .ok (.iload_n 2, 1) := by decide +kernel
theorem dX12_dish_14 : decode cX12_dish 14 = .ok (.i2l, 1) := by decide +kernel
theorem dX12_dish_15 : decode cX12_dish 15 = .ok (.lconst 0, 1) := by decide +kernel
theorem dX12_dish_16 : decode cX12_dish 16 = .ok (.ldc2_w 265, 3) := by decide +kernel
theorem dX12_dish_19 : decode cX12_dish 19 = .ok (.invokestatic 213, 3) := by decide +kernel
theorem dX12_dish_22 : decode cX12_dish 22 = .ok (.ifCond .eq 16, 3) := by decide +kernel
theorem dX12_dish_25 : decode cX12_dish 25 = .ok (.aload_n 0, 1) := by decide +kernel
theorem dX12_dish_26 : decode cX12_dish 26 = .ok (.getfield 43, 3) := by decide +kernel
theorem dX12_dish_29 : decode cX12_dish 29 = .ok (.iconst 3, 1) := by decide +kernel
theorem dX12_dish_30 : decode cX12_dish 30 = .ok (.iload_n 1, 1) := by decide +kernel
theorem dX12_dish_31 : decode cX12_dish 31 = .ok (.imul, 1) := by decide +kernel
theorem dX12_dish_32 : decode cX12_dish 32 = .ok (.iload_n 2, 1) := by decide +kernel
theorem dX12_dish_33 : decode cX12_dish 33 = .ok (.iadd, 1) := by decide +kernel
theorem dX12_dish_34 : decode cX12_dish 34 = .ok (.iaload, 1) := by decide +kernel
theorem dX12_dish_35 : decode cX12_dish 35 = .ok (.goto 4, 3) := by decide +kernel
theorem dX12_dish_38 : decode cX12_dish 38 = .ok (.iconst (-1), 1) := by decide +kernel
theorem dX12_dish_39 : decode cX12_dish 39 = .ok (.ireturn, 1) := by decide +kernel
theorem dX12_guest_0 : decode cX12_guest 0 = .ok (.aload_n 0, 1) := by decide +kernel
theorem dX12_guest_1 : decode cX12_guest 1 = .ok (.aload_n 0, 1) := by decide +kernel
theorem dX12_guest_2 : decode cX12_guest 2 = .ok (.iload_n 1, 1) := by decide +kernel
theorem dX12_guest_3 : decode cX12_guest 3 = .ok (.invokevirtual 360, 3) := by decide +kernel
theorem dX12_guest_6 : decode cX12_guest 6 = .ok (.ifCond .eq 19, 3) := by decide +kernel
theorem dX12_guest_9 : decode cX12_guest 9 = .ok (.iload_n 2, 1) := by decide +kernel
theorem dX12_guest_10 : decode cX12_guest 10 = .ok (.i2l, 1) := by decide +kernel
theorem dX12_guest_11 : decode cX12_guest 11 = .ok (.lconst 0, 1) := by decide +kernel
theorem dX12_guest_12 : decode cX12_guest 12 = .ok (.ldc2_w 363, 3) := by decide +kernel
theorem dX12_guest_15 : decode cX12_guest 15 = .ok (.invokestatic 213, 3) := by decide +kernel
theorem dX12_guest_18 : decode cX12_guest 18 = .ok (.ifCond .eq 7, 3) := by decide +kernel
theorem dX12_guest_21 : decode cX12_guest 21 = .ok (.iconst 0, 1) := by decide +kernel
theorem dX12_guest_22 : decode cX12_guest 22 = .ok (.goto 4, 3) := by decide +kernel
theorem dX12_guest_25 : decode cX12_guest 25 = .ok (.iconst 1, 1) := by decide +kernel
theorem dX12_guest_26 : decode cX12_guest 26 = .ok (.putfield 92, 3) := by decide +kernel
theorem dX12_guest_29 : decode cX12_guest 29 = .ok (.aload_n 0, 1) := by decide +kernel
theorem dX12_guest_30 : decode cX12_guest 30 = .ok (.getfield 92, 3) := by decide +kernel
theorem dX12_guest_33 : decode cX12_guest 33 = .ok (.ifCond .le 5, 3) := by decide +kernel
theorem dX12_guest_36 : decode cX12_guest 36 = .ok (.iconst 0, 1) := by decide +kernel
theorem dX12_guest_37 : decode cX12_guest 37 = .ok (.ireturn, 1) := by decide +kernel
theorem dX12_guest_38 : decode cX12_guest 38 = .ok (.iload_n 2, 1) := by decide +kernel
theorem dX12_guest_39 : decode cX12_guest 39 = .ok (.tableswitch 78 0 4 #[33, 39, 50, 61, 67], 33) := by decide +kernel
theorem dX12_guest_72 : decode cX12_guest 72 = .ok (.aload_n 0, 1) := by decide +kernel
theorem dX12_guest_73 : decode cX12_guest 73 = .ok (.iload_n 1, 1) := by decide +kernel
theorem dX12_guest_74 : decode cX12_guest 74 = .ok (.invokevirtual 299, 3) := by decide +kernel
theorem dX12_guest_77 : decode cX12_guest 77 = .ok (.ireturn, 1) := by decide +kernel
theorem dX12_guest_78 : decode cX12_guest 78 = .ok (.aload_n 0, 1) := by decide +kernel
theorem dX12_guest_79 : decode cX12_guest 79 = .ok (.getfield 61, 3) := by decide +kernel
theorem dX12_guest_82 : decode cX12_guest 82 = .ok (.iconst 4, 1) := by decide +kernel
theorem dX12_guest_83 : decode cX12_guest 83 = .ok (.iload_n 1, 1) := by decide +kernel
theorem dX12_guest_84 : decode cX12_guest 84 = .ok (.imul, 1) := by decide +kernel
theorem dX12_guest_85 : decode cX12_guest 85 = .ok (.iconst 0, 1) := by decide +kernel
theorem dX12_guest_86 : decode cX12_guest 86 = .ok (.iadd, 1) := by decide +kernel
theorem dX12_guest_87 : decode cX12_guest 87 = .ok (.iaload, 1) := by decide +kernel
theorem dX12_guest_88 : decode cX12_guest 88 = .ok (.ireturn, 1) := by decide +kernel
theorem dX12_guest_89 : decode cX12_guest 89 = .ok (.aload_n 0, 1) := by decide +kernel
theorem dX12_guest_90 : decode cX12_guest 90 = .ok (.getfield 61, 3) := by decide +kernel
theorem dX12_guest_93 : decode cX12_guest 93 = .ok (.iconst 4, 1) := by decide +kernel
theorem dX12_guest_94 : decode cX12_guest 94 = .ok (.iload_n 1, 1) := by decide +kernel
theorem dX12_guest_95 : decode cX12_guest 95 = .ok (.imul, 1) := by decide +kernel
theorem dX12_guest_96 : decode cX12_guest 96 = .ok (.iconst 1, 1) := by decide +kernel
theorem dX12_guest_97 : decode cX12_guest 97 = .ok (.iadd, 1) := by decide +kernel
theorem dX12_guest_98 : decode cX12_guest 98 = .ok (.iaload, 1) := by decide +kernel
theorem dX12_guest_99 : decode cX12_guest 99 = .ok (.ireturn, 1) := by decide +kernel
theorem dX12_guest_100 : decode cX12_guest 100 = .ok (.aload_n 0, 1) := by decide +kernel
theorem dX12_guest_101 : decode cX12_guest 101 = .ok (.iload_n 1, 1) := by decide +kernel
theorem dX12_guest_102 : decode cX12_guest 102 = .ok (.invokevirtual 306, 3) := by decide +kernel
theorem dX12_guest_105 : decode cX12_guest 105 = .ok (.ireturn, 1) := by decide +kernel
theorem dX12_guest_106 : decode cX12_guest 106 = .ok (.aload_n 0, 1) := by decide +kernel
theorem dX12_guest_107 : decode cX12_guest 107 = .ok (.getfield 61, 3) := by decide +kernel
theorem dX12_guest_110 : decode cX12_guest 110 = .ok (.iconst 4, 1) := by decide +kernel
theorem dX12_guest_111 : decode cX12_guest 111 = .ok (.iload_n 1, 1) := by decide +kernel
theorem dX12_guest_112 : decode cX12_guest 112 = .ok (.imul, 1) := by decide +kernel
theorem dX12_guest_113 : decode cX12_guest 113 = .ok (.iconst 2, 1) := by decide +kernel
theorem dX12_guest_114 : decode cX12_guest 114 = .ok (.iadd, 1) := by decide +kernel
theorem dX12_guest_115 : decode cX12_guest 115 = .ok (.iaload, 1) := by decide +kernel
theorem dX12_guest_116 : decode cX12_guest 116 = .ok (.ireturn, 1) := by decide +kernel
theorem dX12_guest_117 : decode cX12_guest 117 = .ok (.aload_n 0, 1) := by decide +kernel
theorem dX12_guest_118 : decode cX12_guest 118 = .ok (.getfield 61, 3) := by decide +kernel
theorem dX12_guest_121 : decode cX12_guest 121 = .ok (.iconst 4, 1) := by decide +kernel
theorem dX12_guest_122 : decode cX12_guest 122 = .ok (.iload_n 1, 1) := by decide +kernel
theorem dX12_guest_123 : decode cX12_guest 123 = .ok (.imul, 1) := by decide +kernel
theorem dX12_guest_124 : decode cX12_guest 124 = .ok (.iconst 3, 1) := by decide +kernel
theorem dX12_guest_125 : decode cX12_guest 125 = .ok (.iadd, 1) := by decide +kernel
theorem dX12_guest_126 : decode cX12_guest 126 = .ok (.iaload, 1) := by decide +kernel
theorem dX12_guest_127 : decode cX12_guest 127 = .ok (.ireturn, 1) := by decide +kernel
theorem dX12_law_0 : decode cX12_law 0 = .ok (.aload_n 0, 1) := by decide +kernel
theorem dX12_law_1 : decode cX12_law 1 = .ok (.iconst 0, 1) := by decide +kernel
theorem dX12_law_2 : decode cX12_law 2 = .ok (.putfield 92, 3) := by decide +kernel
theorem dX12_law_5 : decode cX12_law 5 = .ok (.iload_n 1, 1) := by decide +kernel
theorem dX12_law_6 : decode cX12_law 6 = .ok (.iconst (-1), 1) := by decide +kernel
theorem dX12_law_7 : decode cX12_law 7 = .ok (.if_icmp .eq 21, 3) := by decide +kernel
theorem dX12_law_10 : decode cX12_law 10 = .ok (.iload_n 1, 1) := by decide +kernel
theorem dX12_law_11 : decode cX12_law 11 = .ok (.i2l, 1) := by decide +kernel
theorem dX12_law_12 : decode cX12_law 12 = .ok (.lconst 0, 1) := by decide +kernel
theorem dX12_law_13 : decode cX12_law 13 = .ok (.aload_n 0, 1) := by decide +kernel
theorem dX12_law_14 : decode cX12_law 14 = .ok (.getfield 276, 3) := by decide +kernel
theorem dX12_law_17 : decode cX12_law 17 = .ok (.iconst 1, 1) := by decide +kernel
theorem dX12_law_18 : decode cX12_law 18 = .ok (.isub, 1) := by decide +kernel
theorem dX12_law_19 : decode cX12_law 19 = .ok (.i2l, 1) := by decide +kernel
theorem dX12_law_20 : decode cX12_law 20 = .ok (.invokestatic 213, 3) := by decide +kernel
theorem dX12_law_23 : decode cX12_law 23 = .ok (.ifCond .ne 5, 3) := by decide +kernel
theorem dX12_law_26 : decode cX12_law 26 = .ok (.iconst 0, 1) := by decide +kernel
theorem dX12_law_27 : decode cX12_law 27 = .ok (.ireturn, 1) := by decide +kernel
theorem dX12_law_28 : decode cX12_law 28 = .ok (.aload_n 0, 1) := by decide +kernel
theorem dX12_law_29 : decode cX12_law 29 = .ok (.iload_n 1, 1) := by decide +kernel
theorem dX12_law_30 : decode cX12_law 30 = .ok (.putfield 67, 3) := by decide +kernel
theorem dX12_law_33 : decode cX12_law 33 = .ok (.iconst 1, 1) := by decide +kernel
theorem dX12_law_34 : decode cX12_law 34 = .ok (.ireturn, 1) := by decide +kernel
theorem dX12_fever_0 : decode cX12_fever 0 = .ok (.aload_n 0, 1) := by decide +kernel
theorem dX12_fever_1 : decode cX12_fever 1 = .ok (.iconst 0, 1) := by decide +kernel
theorem dX12_fever_2 : decode cX12_fever 2 = .ok (.putfield 92, 3) := by decide +kernel
theorem dX12_fever_5 : decode cX12_fever 5 = .ok (.iload_n 1, 1) := by decide +kernel
theorem dX12_fever_6 : decode cX12_fever 6 = .ok (.i2l, 1) := by decide +kernel
theorem dX12_fever_7 : decode cX12_fever 7 = .ok (.lconst 0, 1) := by decide +kernel
theorem dX12_fever_8 : decode cX12_fever 8 = .ok (.ldc2_w 365, 3) := by decide +kernel
theorem dX12_fever_11 : decode cX12_fever 11 = .ok (.invokestatic 213, 3) := by decide +kernel
theorem dX12_fever_14 : decode cX12_fever 14 = .ok (.ifCond .eq 11, 3) := by decide +kernel
theorem dX12_fever_17 : decode cX12_fever 17 = .ok (.iload_n 1, 1) := by decide +kernel
theorem dX12_fever_18 : decode cX12_fever 18 = .ok (.aload_n 0, 1) := by decide +kernel
theorem dX12_fever_19 : decode cX12_fever 19 = .ok (.getfield 71, 3) := by decide +kernel
theorem dX12_fever_22 : decode cX12_fever 22 = .ok (.if_icmp .ne 5, 3) := by decide +kernel
theorem dX12_fever_25 : decode cX12_fever 25 = .ok (.iconst 0, 1) := by decide +kernel
theorem dX12_fever_26 : decode cX12_fever 26 = .ok (.ireturn, 1) := by decide +kernel
theorem dX12_fever_27 : decode cX12_fever 27 = .ok (.aload_n 0, 1) := by decide +kernel
theorem dX12_fever_28 : decode cX12_fever 28 = .ok (.iload_n 1, 1) := by decide +kernel
theorem dX12_fever_29 : decode cX12_fever 29 = .ok (.putfield 71, 3) := by decide +kernel
theorem dX12_fever_32 : decode cX12_fever 32 = .ok (.iconst 1, 1) := by decide +kernel
theorem dX12_fever_33 : decode cX12_fever 33 = .ok (.ireturn, 1) := by decide +kernel
theorem dX12_remember_0 : decode cX12_remember 0 = .ok (.aload_n 0, 1) := by decide +kernel
theorem dX12_remember_1 : decode cX12_remember 1 = .ok (.getfield 293, 3) := by decide +kernel
theorem dX12_remember_4 : decode cX12_remember 4 = .ok (.bipush 40, 2) := by decide +kernel
theorem dX12_remember_6 : decode cX12_remember 6 = .ok (.if_icmp .ne 44, 3) := by decide +kernel
theorem dX12_remember_9 : decode cX12_remember 9 = .ok (.iconst 0, 1) := by decide +kernel
theorem dX12_remember_10 : decode cX12_remember 10 = .ok (.istore_n 1, 1) := by decide +kernel
theorem dX12_remember_11 : decode cX12_remember 11 = .ok (.iload_n 1, 1) := by decide +kernel
theorem dX12_remember_12 : decode cX12_remember 12 = .ok (.sipush 8463, 3) := by decide +kernel
theorem dX12_remember_15 : decode cX12_remember 15 = .ok (.if_icmp .ge 25, 3) := by decide +kernel
theorem dX12_remember_18 : decode cX12_remember 18 = .ok (.aload_n 0, 1) := by decide +kernel
theorem dX12_remember_19 : decode cX12_remember 19 = .ok (.getfield 77, 3) := by decide +kernel
theorem dX12_remember_22 : decode cX12_remember 22 = .ok (.iload_n 1, 1) := by decide +kernel
theorem dX12_remember_23 : decode cX12_remember 23 = .ok (.aload_n 0, 1) := by decide +kernel
theorem dX12_remember_24 : decode cX12_remember 24 = .ok (.getfield 77, 3) := by decide +kernel
theorem dX12_remember_27 : decode cX12_remember 27 = .ok (.iload_n 1, 1) := by decide +kernel
theorem dX12_remember_28 : decode cX12_remember 28 = .ok (.sipush 217, 3) := by decide +kernel
theorem dX12_remember_31 : decode cX12_remember 31 = .ok (.iadd, 1) := by decide +kernel
theorem dX12_remember_32 : decode cX12_remember 32 = .ok (.iaload, 1) := by decide +kernel
theorem dX12_remember_33 : decode cX12_remember 33 = .ok (.iastore, 1) := by decide +kernel
theorem dX12_remember_34 : decode cX12_remember 34 = .ok (.iinc 1 1, 3) := by decide +kernel
theorem dX12_remember_37 : decode cX12_remember 37 = .ok (.goto (-26), 3) := by decide +kernel
theorem dX12_remember_40 : decode cX12_remember 40 = .ok (.aload_n 0, 1) := by decide +kernel
theorem dX12_remember_41 : decode cX12_remember 41 = .ok (.dup, 1) := by decide +kernel
theorem dX12_remember_42 : decode cX12_remember 42 = .ok (.getfield 293, 3) := by decide +kernel
theorem dX12_remember_45 : decode cX12_remember 45 = .ok (.iconst 1, 1) := by decide +kernel
theorem dX12_remember_46 : decode cX12_remember 46 = .ok (.isub, 1) := by decide +kernel
theorem dX12_remember_47 : decode cX12_remember 47 = .ok (.putfield 293, 3) := by decide +kernel
theorem dX12_remember_50 : decode cX12_remember 50 = .ok (.iconst 0, 1) := by decide +kernel
theorem dX12_remember_51 : decode cX12_remember 51 = .ok (.istore_n 1, 1) := by decide +kernel
theorem dX12_remember_52 : decode cX12_remember 52 = .ok (.iload_n 1, 1) := by decide +kernel
theorem dX12_remember_53 : decode cX12_remember 53 = .ok (.sipush 217, 3) := by decide +kernel
theorem dX12_remember_56 : decode cX12_remember 56 = .ok (.if_icmp .ge 30, 3) := by decide +kernel
theorem dX12_remember_59 : decode cX12_remember 59 = .ok (.aload_n 0, 1) := by decide +kernel
theorem dX12_remember_60 : decode cX12_remember 60 = .ok (.getfield 77, 3) := by decide +kernel
theorem dX12_remember_63 : decode cX12_remember 63 = .ok (.sipush 217, 3) := by decide +kernel
theorem dX12_remember_66 : decode cX12_remember 66 = .ok (.aload_n 0, 1) := by decide +kernel
theorem dX12_remember_67 : decode cX12_remember 67 = .ok (.getfield 293, 3) := by decide +kernel
theorem dX12_remember_70 : decode cX12_remember 70 = .ok (.imul, 1) := by decide +kernel
theorem dX12_remember_71 : decode cX12_remember 71 = .ok (.iload_n 1, 1) := by decide +kernel
theorem dX12_remember_72 : decode cX12_remember 72 = .ok (.iadd, 1) := by decide +kernel
theorem dX12_remember_73 : decode cX12_remember 73 = .ok (.aload_n 0, 1) := by decide +kernel
theorem dX12_remember_74 : decode cX12_remember 74 = .ok (.getfield 61, 3) := by decide +kernel
theorem dX12_remember_77 : decode cX12_remember 77 = .ok (.iload_n 1, 1) := by decide +kernel
theorem dX12_remember_78 : decode cX12_remember 78 = .ok (.iaload, 1) := by decide +kernel
theorem dX12_remember_79 : decode cX12_remember 79 = .ok (.iastore, 1) := by decide +kernel
theorem dX12_remember_80 : decode cX12_remember 80 = .ok (.iinc 1 1, 3) := by decide +kernel
theorem dX12_remember_83 : decode cX12_remember 83 = .ok (.goto (-31), 3) := by decide +kernel
theorem dX12_remember_86 : decode cX12_remember 86 = .ok (.aload_n 0, 1) := by decide +kernel
theorem dX12_remember_87 : decode cX12_remember 87 = .ok (.dup, 1) := by decide +kernel
theorem dX12_remember_88 : decode cX12_remember 88 = .ok (.getfield 293, 3) := by decide +kernel
theorem dX12_remember_91 : decode cX12_remember 91 = .ok (.iconst 1, 1) := by decide +kernel
theorem dX12_remember_92 : decode cX12_remember 92 = .ok (.iadd, 1) := by decide +kernel
theorem dX12_remember_93 : decode cX12_remember 93 = .ok (.putfield 293, 3) := by decide +kernel
theorem dX12_remember_96 : decode cX12_remember 96 = .ok (.return_, 1) := by decide +kernel
theorem dX12_day_0 : decode cX12_day 0 = .ok (.aload_n 0, 1) := by decide +kernel
theorem dX12_day_1 : decode cX12_day 1 = .ok (.iconst 0, 1) := by decide +kernel
theorem dX12_day_2 : decode cX12_day 2 = .ok (.putfield 92, 3) := by decide +kernel
theorem dX12_day_5 : decode cX12_day 5 = .ok (.aload_n 0, 1) := by decide +kernel
theorem dX12_day_6 : decode cX12_day 6 = .ok (.getfield 287, 3) := by decide +kernel
theorem dX12_day_9 : decode cX12_day 9 = .ok (.ifCond .eq 16, 3) := by decide +kernel
theorem dX12_day_12 : decode cX12_day 12 = .ok (.aload_n 0, 1) := by decide +kernel
theorem dX12_day_13 : decode cX12_day 13 = .ok (.getfield 61, 3) := by decide +kernel
theorem dX12_day_16 : decode cX12_day 16 = .ok (.bipush 35, 2) := by decide +kernel
theorem dX12_day_18 : decode cX12_day 18 = .ok (.iaload, 1) := by decide +kernel
theorem dX12_day_19 : decode cX12_day 19 = .ok (.sipush 999, 3) := by decide +kernel
theorem dX12_day_22 : decode cX12_day 22 = .ok (.if_icmp .ne 5, 3) := by decide +kernel
theorem dX12_day_25 : decode cX12_day 25 = .ok (.iconst (-1), 1) := by decide +kernel
theorem dX12_day_26 : decode cX12_day 26 = .ok (.ireturn, 1) := by decide +kernel
theorem dX12_day_27 : decode cX12_day 27 = .ok (.aload_n 0, 1) := by decide +kernel
theorem dX12_day_28 : decode cX12_day 28 = .ok (.invokevirtual 367, 3) := by decide +kernel
theorem dX12_day_31 : decode cX12_day 31 = .ok (.aload_n 0, 1) := by decide +kernel
theorem dX12_day_32 : decode cX12_day 32 = .ok (.aload_n 0, 1) := by decide +kernel
theorem dX12_day_33 : decode cX12_day 33 = .ok (.getfield 61, 3) := by decide +kernel
theorem dX12_day_36 : decode cX12_day 36 = .ok (.invokevirtual 370, 3) := by decide +kernel
theorem dX12_day_39 : decode cX12_day 39 = .ok (.invokestatic 329, 3) := by decide +kernel
theorem dX12_day_42 : decode cX12_day 42 = .ok (.ireturn, 1) := by decide +kernel
theorem dX12_canChoose_0 : decode cX12_canChoose 0 = .ok (.aload_n 0, 1) := by decide +kernel
theorem dX12_canChoose_1 : decode cX12_canChoose 1 = .ok (.iload_n 2, 1) := by decide +kernel
theorem dX12_canChoose_2 : decode cX12_canChoose 2 = .ok (.invokevirtual 357, 3) := by decide +kernel
theorem dX12_canChoose_5 : decode cX12_canChoose 5 = .ok (.ifCond .eq 17, 3) := by decide +kernel
theorem dX12_canChoose_8 : decode cX12_canChoose 8 = .ok (.aload_n 1, 1) := by decide +kernel
theorem dX12_canChoose_9 : decode cX12_canChoose 9 = .ok (.bipush 34, 2) := by decide +kernel
theorem dX12_canChoose_11 : decode cX12_canChoose 11 = .ok (.iaload, 1) := by decide +kernel
theorem dX12_canChoose_12 : decode cX12_canChoose 12 = .ok (.iload_n 2, 1) := by decide +kernel
theorem dX12_canChoose_13 : decode cX12_canChoose 13 = .ok (.iconst 1, 1) := by decide +kernel
theorem dX12_canChoose_14 : decode cX12_canChoose 14 = .ok (.iadd, 1) := by decide +kernel
theorem dX12_canChoose_15 : decode cX12_canChoose 15 = .ok (.if_icmp .eq 7, 3) := by decide +kernel
theorem dX12_canChoose_18 : decode cX12_canChoose 18 = .ok (.iconst 1, 1) := by decide +kernel
theorem dX12_canChoose_19 : decode cX12_canChoose 19 = .ok (.goto 4, 3) := by decide +kernel
theorem dX12_canChoose_22 : decode cX12_canChoose 22 = .ok (.iconst 0, 1) := by decide +kernel
theorem dX12_canChoose_23 : decode cX12_canChoose 23 = .ok (.ireturn, 1) := by decide +kernel
theorem dX12_choose_0 : decode cX12_choose 0 = .ok (.aload_n 0, 1) := by decide +kernel
theorem dX12_choose_1 : decode cX12_choose 1 = .ok (.iconst 0, 1) := by decide +kernel
theorem dX12_choose_2 : decode cX12_choose 2 = .ok (.putfield 92, 3) := by decide +kernel
theorem dX12_choose_5 : decode cX12_choose 5 = .ok (.aload_n 0, 1) := by decide +kernel
theorem dX12_choose_6 : decode cX12_choose 6 = .ok (.aload_n 0, 1) := by decide +kernel
theorem dX12_choose_7 : decode cX12_choose 7 = .ok (.getfield 61, 3) := by decide +kernel
theorem dX12_choose_10 : decode cX12_choose 10 = .ok (.iload_n 1, 1) := by decide +kernel
theorem dX12_choose_11 : decode cX12_choose 11 = .ok (.invokevirtual 373, 3) := by decide +kernel
theorem dX12_choose_14 : decode cX12_choose 14 = .ok (.ifCond .ne 6, 3) := by decide +kernel
theorem dX12_choose_17 : decode cX12_choose 17 = .ok (.bipush (-2), 2) := by decide +kernel
theorem dX12_choose_19 : decode cX12_choose 19 = .ok (.ireturn, 1) := by decide +kernel
theorem dX12_choose_20 : decode cX12_choose 20 = .ok (.aload_n 0, 1) := by decide +kernel
theorem dX12_choose_21 : decode cX12_choose 21 = .ok (.invokevirtual 367, 3) := by decide +kernel
theorem dX12_choose_24 : decode cX12_choose 24 = .ok (.aload_n 0, 1) := by decide +kernel
theorem dX12_choose_25 : decode cX12_choose 25 = .ok (.getfield 61, 3) := by decide +kernel
theorem dX12_choose_28 : decode cX12_choose 28 = .ok (.bipush 34, 2) := by decide +kernel
theorem dX12_choose_30 : decode cX12_choose 30 = .ok (.iaload, 1) := by decide +kernel
theorem dX12_choose_31 : decode cX12_choose 31 = .ok (.iconst 1, 1) := by decide +kernel
theorem dX12_choose_32 : decode cX12_choose 32 = .ok (.isub, 1) := by decide +kernel
theorem dX12_choose_33 : decode cX12_choose 33 = .ok (.istore_n 2, 1) := by decide +kernel
theorem dX12_choose_34 : decode cX12_choose 34 = .ok (.aload_n 0, 1) := by decide +kernel
theorem dX12_choose_35 : decode cX12_choose 35 = .ok (.getfield 61, 3) := by decide +kernel
theorem dX12_choose_38 : decode cX12_choose 38 = .ok (.bipush 34, 2) := by decide +kernel
theorem dX12_choose_40 : decode cX12_choose 40 = .ok (.iload_n 1, 1) := by decide +kernel
theorem dX12_choose_41 : decode cX12_choose 41 = .ok (.iconst 1, 1) := by decide +kernel
theorem dX12_choose_42 : decode cX12_choose 42 = .ok (.iadd, 1) := by decide +kernel
theorem dX12_choose_43 : decode cX12_choose 43 = .ok (.iastore, 1) := by decide +kernel
theorem dX12_choose_44 : decode cX12_choose 44 = .ok (.iload_n 2, 1) := by decide +kernel
theorem dX12_choose_45 : decode cX12_choose 45 = .ok (.ireturn, 1) := by decide +kernel
theorem dX12_canBeIll_0 : decode cX12_canBeIll 0 = .ok (.aload_n 0, 1) := by decide +kernel
theorem dX12_canBeIll_1 : decode cX12_canBeIll 1 = .ok (.bipush 32, 2) := by decide +kernel
theorem dX12_canBeIll_3 : decode cX12_canBeIll 3 = .ok (.iaload, 1) := by decide +kernel
theorem dX12_canBeIll_4 : decode cX12_canBeIll 4 = .ok (.iconst 3, 1) := by decide +kernel
theorem dX12_canBeIll_5 : decode cX12_canBeIll 5 = .ok (.if_icmp .ge 7, 3) := by decide +kernel
theorem dX12_canBeIll_8 : decode cX12_canBeIll 8 = .ok (.iconst 1, 1) := by decide +kernel
theorem dX12_canBeIll_9 : decode cX12_canBeIll 9 = .ok (.goto 4, 3) := by decide +kernel
theorem dX12_canBeIll_12 : decode cX12_canBeIll 12 = .ok (.iconst 0, 1) := by decide +kernel
theorem dX12_canBeIll_13 : decode cX12_canBeIll 13 = .ok (.ireturn, 1) := by decide +kernel
theorem dX12_ill_0 : decode cX12_ill 0 = .ok (.aload_n 0, 1) := by decide +kernel
theorem dX12_ill_1 : decode cX12_ill 1 = .ok (.iconst 0, 1) := by decide +kernel
theorem dX12_ill_2 : decode cX12_ill 2 = .ok (.putfield 92, 3) := by decide +kernel
theorem dX12_ill_5 : decode cX12_ill 5 = .ok (.aload_n 0, 1) := by decide +kernel
theorem dX12_ill_6 : decode cX12_ill 6 = .ok (.getfield 287, 3) := by decide +kernel
theorem dX12_ill_9 : decode cX12_ill 9 = .ok (.ifCond .eq 13, 3) := by decide +kernel
theorem dX12_ill_12 : decode cX12_ill 12 = .ok (.aload_n 0, 1) := by decide +kernel
theorem dX12_ill_13 : decode cX12_ill 13 = .ok (.getfield 61, 3) := by decide +kernel
theorem dX12_ill_16 : decode cX12_ill 16 = .ok (.invokestatic 376, 3) := by decide +kernel
theorem dX12_ill_19 : decode cX12_ill 19 = .ok (.ifCond .ne 5, 3) := by decide +kernel
theorem dX12_ill_22 : decode cX12_ill 22 = .ok (.iconst (-1), 1) := by decide +kernel
theorem dX12_ill_23 : decode cX12_ill 23 = .ok (.ireturn, 1) := by decide +kernel
theorem dX12_ill_24 : decode cX12_ill 24 = .ok (.aload_n 0, 1) := by decide +kernel
theorem dX12_ill_25 : decode cX12_ill 25 = .ok (.invokevirtual 367, 3) := by decide +kernel
theorem dX12_ill_28 : decode cX12_ill 28 = .ok (.aload_n 0, 1) := by decide +kernel
theorem dX12_ill_29 : decode cX12_ill 29 = .ok (.getfield 61, 3) := by decide +kernel
theorem dX12_ill_32 : decode cX12_ill 32 = .ok (.bipush 32, 2) := by decide +kernel
theorem dX12_ill_34 : decode cX12_ill 34 = .ok (.dup2, 1) := by decide +kernel
theorem dX12_ill_35 : decode cX12_ill 35 = .ok (.iaload, 1) := by decide +kernel
theorem dX12_ill_36 : decode cX12_ill 36 = .ok (.iconst 1, 1) := by decide +kernel
theorem dX12_ill_37 : decode cX12_ill 37 = .ok (.iadd, 1) := by decide +kernel
theorem dX12_ill_38 : decode cX12_ill 38 = .ok (.iastore, 1) := by decide +kernel
theorem dX12_ill_39 : decode cX12_ill 39 = .ok (.aload_n 0, 1) := by decide +kernel
theorem dX12_ill_40 : decode cX12_ill 40 = .ok (.getfield 61, 3) := by decide +kernel
theorem dX12_ill_43 : decode cX12_ill 43 = .ok (.bipush 32, 2) := by decide +kernel
theorem dX12_ill_45 : decode cX12_ill 45 = .ok (.iaload, 1) := by decide +kernel
theorem dX12_ill_46 : decode cX12_ill 46 = .ok (.ireturn, 1) := by decide +kernel
theorem dX12_canMakeUp_0 : decode cX12_canMakeUp 0 = .ok (.aload_n 0, 1) := by decide +kernel
theorem dX12_canMakeUp_1 : decode cX12_canMakeUp 1 = .ok (.bipush 32, 2) := by decide +kernel
theorem dX12_canMakeUp_3 : decode cX12_canMakeUp 3 = .ok (.iaload, 1) := by decide +kernel
theorem dX12_canMakeUp_4 : decode cX12_canMakeUp 4 = .ok (.ifCond .le 15, 3) := by decide +kernel
theorem dX12_canMakeUp_7 : decode cX12_canMakeUp 7 = .ok (.aload_n 0, 1) := by decide +kernel
theorem dX12_canMakeUp_8 : decode cX12_canMakeUp 8 = .ok (.bipush 33, 2) := by decide +kernel
theorem dX12_canMakeUp_10 : decode cX12_canMakeUp 10 = .ok (.iaload, 1) := by decide +kernel
theorem dX12_canMakeUp_11 : decode cX12_canMakeUp 11 = .ok (.iconst 5, 1) := by decide +kernel
theorem dX12_canMakeUp_12 : decode cX12_canMakeUp 12 = .ok (.if_icmp .lt 7, 3) := by decide +kernel
theorem dX12_canMakeUp_15 : decode cX12_canMakeUp 15 = .ok (.iconst 1, 1) := by decide +kernel
theorem dX12_canMakeUp_16 : decode cX12_canMakeUp 16 = .ok (.goto 4, 3) := by decide +kernel
theorem dX12_canMakeUp_19 : decode cX12_canMakeUp 19 = .ok (.iconst 0, 1) := by decide +kernel
theorem dX12_canMakeUp_20 : decode cX12_canMakeUp 20 = .ok (.ireturn, 1) := by decide +kernel
theorem dX12_makesUp_0 : decode cX12_makesUp 0 = .ok (.aload_n 0, 1) := by decide +kernel
theorem dX12_makesUp_1 : decode cX12_makesUp 1 = .ok (.bipush 32, 2) := by decide +kernel
theorem dX12_makesUp_3 : decode cX12_makesUp 3 = .ok (.dup2, 1) := by decide +kernel
theorem dX12_makesUp_4 : decode cX12_makesUp 4 = .ok (.iaload, 1) := by decide +kernel
theorem dX12_makesUp_5 : decode cX12_makesUp 5 = .ok (.iconst 1, 1) := by decide +kernel
theorem dX12_makesUp_6 : decode cX12_makesUp 6 = .ok (.isub, 1) := by decide +kernel
theorem dX12_makesUp_7 : decode cX12_makesUp 7 = .ok (.iastore, 1) := by decide +kernel
theorem dX12_makesUp_8 : decode cX12_makesUp 8 = .ok (.aload_n 0, 1) := by decide +kernel
theorem dX12_makesUp_9 : decode cX12_makesUp 9 = .ok (.bipush 33, 2) := by decide +kernel
theorem dX12_makesUp_11 : decode cX12_makesUp 11 = .ok (.dup2, 1) := by decide +kernel
theorem dX12_makesUp_12 : decode cX12_makesUp 12 = .ok (.iaload, 1) := by decide +kernel
theorem dX12_makesUp_13 : decode cX12_makesUp 13 = .ok (.iconst 5, 1) := by decide +kernel
theorem dX12_makesUp_14 : decode cX12_makesUp 14 = .ok (.isub, 1) := by decide +kernel
theorem dX12_makesUp_15 : decode cX12_makesUp 15 = .ok (.iastore, 1) := by decide +kernel
theorem dX12_makesUp_16 : decode cX12_makesUp 16 = .ok (.return_, 1) := by decide +kernel
theorem dX12_makeUp_0 : decode cX12_makeUp 0 = .ok (.aload_n 0, 1) := by decide +kernel
theorem dX12_makeUp_1 : decode cX12_makeUp 1 = .ok (.iconst 0, 1) := by decide +kernel
theorem dX12_makeUp_2 : decode cX12_makeUp 2 = .ok (.putfield 92, 3) := by decide +kernel
theorem dX12_makeUp_5 : decode cX12_makeUp 5 = .ok (.aload_n 0, 1) := by decide +kernel
theorem dX12_makeUp_6 : decode cX12_makeUp 6 = .ok (.getfield 287, 3) := by decide +kernel
theorem dX12_makeUp_9 : decode cX12_makeUp 9 = .ok (.ifCond .eq 13, 3) := by decide +kernel
theorem dX12_makeUp_12 : decode cX12_makeUp 12 = .ok (.aload_n 0, 1) := by decide +kernel
theorem dX12_makeUp_13 : decode cX12_makeUp 13 = .ok (.getfield 61, 3) := by decide +kernel
theorem dX12_makeUp_16 : decode cX12_makeUp 16 = .ok (.invokestatic 380, 3) := by decide +kernel
theorem dX12_makeUp_19 : decode cX12_makeUp 19 = .ok (.ifCond .ne 5, 3) := by decide +kernel
theorem dX12_makeUp_22 : decode cX12_makeUp 22 = .ok (.iconst (-1), 1) := by decide +kernel
theorem dX12_makeUp_23 : decode cX12_makeUp 23 = .ok (.ireturn, 1) := by decide +kernel
theorem dX12_makeUp_24 : decode cX12_makeUp 24 = .ok (.aload_n 0, 1) := by decide +kernel
theorem dX12_makeUp_25 : decode cX12_makeUp 25 = .ok (.invokevirtual 367, 3) := by decide +kernel
theorem dX12_makeUp_28 : decode cX12_makeUp 28 = .ok (.aload_n 0, 1) := by decide +kernel
theorem dX12_makeUp_29 : decode cX12_makeUp 29 = .ok (.getfield 61, 3) := by decide +kernel
theorem dX12_makeUp_32 : decode cX12_makeUp 32 = .ok (.invokestatic 383, 3) := by decide +kernel
theorem dX12_makeUp_35 : decode cX12_makeUp 35 = .ok (.aload_n 0, 1) := by decide +kernel
theorem dX12_makeUp_36 : decode cX12_makeUp 36 = .ok (.getfield 61, 3) := by decide +kernel
theorem dX12_makeUp_39 : decode cX12_makeUp 39 = .ok (.bipush 32, 2) := by decide +kernel
theorem dX12_makeUp_41 : decode cX12_makeUp 41 = .ok (.iaload, 1) := by decide +kernel
theorem dX12_makeUp_42 : decode cX12_makeUp 42 = .ok (.ireturn, 1) := by decide +kernel
theorem dX12_canStay_0 : decode cX12_canStay 0 = .ok (.aload_n 0, 1) := by decide +kernel
theorem dX12_canStay_1 : decode cX12_canStay 1 = .ok (.iload_n 2, 1) := by decide +kernel
theorem dX12_canStay_2 : decode cX12_canStay 2 = .ok (.invokevirtual 360, 3) := by decide +kernel
theorem dX12_canStay_5 : decode cX12_canStay 5 = .ok (.ifCond .eq 43, 3) := by decide +kernel
theorem dX12_canStay_8 : decode cX12_canStay 8 = .ok (.aload_n 1, 1) := by decide +kernel
theorem dX12_canStay_9 : decode cX12_canStay 9 = .ok (.iconst 4, 1) := by decide +kernel
theorem dX12_canStay_10 : decode cX12_canStay 10 = .ok (.iload_n 2, 1) := by decide +kernel
theorem dX12_canStay_11 : decode cX12_canStay 11 = .ok (.imul, 1) := by decide +kernel
theorem dX12_canStay_12 : decode cX12_canStay 12 = .ok (.iconst 3, 1) := by decide +kernel
theorem dX12_canStay_13 : decode cX12_canStay 13 = .ok (.iadd, 1) := by decide +kernel
theorem dX12_canStay_14 : decode cX12_canStay 14 = .ok (.iaload, 1) := by decide +kernel
theorem dX12_canStay_15 : decode cX12_canStay 15 = .ok (.ifCond .ne 33, 3) := by decide +kernel
theorem dX12_canStay_18 : decode cX12_canStay 18 = .ok (.iload_n 3, 1) := by decide +kernel
theorem dX12_canStay_19 : decode cX12_canStay 19 = .ok (.i2l, 1) := by decide +kernel
theorem dX12_canStay_20 : decode cX12_canStay 20 = .ok (.lconst 1, 1) := by decide +kernel
theorem dX12_canStay_21 : decode cX12_canStay 21 = .ok (.ldc2_w 365, 3) := by decide +kernel
theorem dX12_canStay_24 : decode cX12_canStay 24 = .ok (.invokestatic 213, 3) := by decide +kernel
theorem dX12_canStay_27 : decode cX12_canStay 27 = .ok (.ifCond .eq 21, 3) := by decide +kernel
theorem dX12_canStay_30 : decode cX12_canStay 30 = .ok (.aload_n 1, 1) := by decide +kernel
theorem dX12_canStay_31 : decode cX12_canStay 31 = .ok (.iconst 4, 1) := by decide +kernel
theorem dX12_canStay_32 : decode cX12_canStay 32 = .ok (.iload_n 2, 1) := by decide +kernel
theorem dX12_canStay_33 : decode cX12_canStay 33 = .ok (.imul, 1) := by decide +kernel
theorem dX12_canStay_34 : decode cX12_canStay 34 = .ok (.iconst 0, 1) := by decide +kernel
theorem dX12_canStay_35 : decode cX12_canStay 35 = .ok (.iadd, 1) := by decide +kernel
theorem dX12_canStay_36 : decode cX12_canStay 36 = .ok (.iaload, 1) := by decide +kernel
theorem dX12_canStay_37 : decode cX12_canStay 37 = .ok (.iload_n 3, 1) := by decide +kernel
theorem dX12_canStay_38 : decode cX12_canStay 38 = .ok (.iadd, 1) := by decide +kernel
theorem dX12_canStay_39 : decode cX12_canStay 39 = .ok (.bipush 99, 2) := by decide +kernel
theorem dX12_canStay_41 : decode cX12_canStay 41 = .ok (.if_icmp .gt 7, 3) := by decide +kernel
theorem dX12_canStay_44 : decode cX12_canStay 44 = .ok (.iconst 1, 1) := by decide +kernel
theorem dX12_canStay_45 : decode cX12_canStay 45 = .ok (.goto 4, 3) := by decide +kernel
theorem dX12_canStay_48 : decode cX12_canStay 48 = .ok (.iconst 0, 1) := by decide +kernel
theorem dX12_canStay_49 : decode cX12_canStay 49 = .ok (.ireturn, 1) := by decide +kernel
theorem dX12_stay_0 : decode cX12_stay 0 = .ok (.aload_n 0, 1) := by decide +kernel
theorem dX12_stay_1 : decode cX12_stay 1 = .ok (.iconst 0, 1) := by decide +kernel
theorem dX12_stay_2 : decode cX12_stay 2 = .ok (.putfield 92, 3) := by decide +kernel
theorem dX12_stay_5 : decode cX12_stay 5 = .ok (.aload_n 0, 1) := by decide +kernel
theorem dX12_stay_6 : decode cX12_stay 6 = .ok (.aload_n 0, 1) := by decide +kernel
theorem dX12_stay_7 : decode cX12_stay 7 = .ok (.getfield 61, 3) := by decide +kernel
theorem dX12_stay_10 : decode cX12_stay 10 = .ok (.iload_n 1, 1) := by decide +kernel
theorem dX12_stay_11 : decode cX12_stay 11 = .ok (.iload_n 2, 1) := by decide +kernel
theorem dX12_stay_12 : decode cX12_stay 12 = .ok (.invokevirtual 386, 3) := by decide +kernel
theorem dX12_stay_15 : decode cX12_stay 15 = .ok (.ifCond .ne 5, 3) := by decide +kernel
theorem dX12_stay_18 : decode cX12_stay 18 = .ok (.iconst (-1), 1) := by decide +kernel
theorem dX12_stay_19 : decode cX12_stay 19 = .ok (.ireturn, 1) := by decide +kernel
theorem dX12_stay_20 : decode cX12_stay 20 = .ok (.aload_n 0, 1) := by decide +kernel
theorem dX12_stay_21 : decode cX12_stay 21 = .ok (.invokevirtual 367, 3) := by decide +kernel
theorem dX12_stay_24 : decode cX12_stay 24 = .ok (.aload_n 0, 1) := by decide +kernel
theorem dX12_stay_25 : decode cX12_stay 25 = .ok (.getfield 61, 3) := by decide +kernel
theorem dX12_stay_28 : decode cX12_stay 28 = .ok (.iconst 4, 1) := by decide +kernel
theorem dX12_stay_29 : decode cX12_stay 29 = .ok (.iload_n 1, 1) := by decide +kernel
theorem dX12_stay_30 : decode cX12_stay 30 = .ok (.imul, 1) := by decide +kernel
theorem dX12_stay_31 : decode cX12_stay 31 = .ok (.iconst 0, 1) := by decide +kernel
theorem dX12_stay_32 : decode cX12_stay 32 = .ok (.iadd, 1) := by decide +kernel
theorem dX12_stay_33 : decode cX12_stay 33 = .ok (.dup2, 1) := by decide +kernel
theorem dX12_stay_34 : decode cX12_stay 34 = .ok (.iaload, 1) := by decide +kernel
theorem dX12_stay_35 : decode cX12_stay 35 = .ok (.iload_n 2, 1) := by decide +kernel
theorem dX12_stay_36 : decode cX12_stay 36 = .ok (.iadd, 1) := by decide +kernel
theorem dX12_stay_37 : decode cX12_stay 37 = .ok (.iastore, 1) := by decide +kernel
theorem dX12_stay_38 : decode cX12_stay 38 = .ok (.aload_n 0, 1) := by decide +kernel
theorem dX12_stay_39 : decode cX12_stay 39 = .ok (.getfield 61, 3) := by decide +kernel
theorem dX12_stay_42 : decode cX12_stay 42 = .ok (.iconst 4, 1) := by decide +kernel
theorem dX12_stay_43 : decode cX12_stay 43 = .ok (.iload_n 1, 1) := by decide +kernel
theorem dX12_stay_44 : decode cX12_stay 44 = .ok (.imul, 1) := by decide +kernel
theorem dX12_stay_45 : decode cX12_stay 45 = .ok (.iconst 0, 1) := by decide +kernel
theorem dX12_stay_46 : decode cX12_stay 46 = .ok (.iadd, 1) := by decide +kernel
theorem dX12_stay_47 : decode cX12_stay 47 = .ok (.iaload, 1) := by decide +kernel
theorem dX12_stay_48 : decode cX12_stay 48 = .ok (.ireturn, 1) := by decide +kernel
theorem dX12_sign_0 : decode cX12_sign 0 = .ok (.aload_n 0, 1) := by decide +kernel
theorem dX12_sign_1 : decode cX12_sign 1 = .ok (.iconst 0, 1) := by decide +kernel
theorem dX12_sign_2 : decode cX12_sign 2 = .ok (.putfield 92, 3) := by decide +kernel
theorem dX12_sign_5 : decode cX12_sign 5 = .ok (.aload_n 0, 1) := by decide +kernel
theorem dX12_sign_6 : decode cX12_sign 6 = .ok (.iload_n 1, 1) := by decide +kernel
theorem dX12_sign_7 : decode cX12_sign 7 = .ok (.invokevirtual 360, 3) := by decide +kernel
theorem dX12_sign_10 : decode cX12_sign 10 = .ok (.ifCond .eq 29, 3) := by decide +kernel
theorem dX12_sign_13 : decode cX12_sign 13 = .ok (.iload_n 2, 1) := by decide +kernel
theorem dX12_sign_14 : decode cX12_sign 14 = .ok (.i2l, 1) := by decide +kernel
theorem dX12_sign_15 : decode cX12_sign 15 = .ok (.lconst 0, 1) := by decide +kernel
theorem dX12_sign_16 : decode cX12_sign 16 = .ok (.ldc2_w 390, 3) := by decide +kernel
theorem dX12_sign_19 : decode cX12_sign 19 = .ok (.invokestatic 213, 3) := by decide +kernel
theorem dX12_sign_22 : decode cX12_sign 22 = .ok (.ifCond .eq 17, 3) := by decide +kernel
theorem dX12_sign_25 : decode cX12_sign 25 = .ok (.aload_n 0, 1) := by decide +kernel
theorem dX12_sign_26 : decode cX12_sign 26 = .ok (.getfield 61, 3) := by decide +kernel
theorem dX12_sign_29 : decode cX12_sign 29 = .ok (.iconst 4, 1) := by decide +kernel
theorem dX12_sign_30 : decode cX12_sign 30 = .ok (.iload_n 1, 1) := by decide +kernel
theorem dX12_sign_31 : decode cX12_sign 31 = .ok (.imul, 1) := by decide +kernel
theorem dX12_sign_32 : decode cX12_sign 32 = .ok (.iconst 1, 1) := by decide +kernel
theorem dX12_sign_33 : decode cX12_sign 33 = .ok (.iadd, 1) := by decide +kernel
theorem dX12_sign_34 : decode cX12_sign 34 = .ok (.iaload, 1) := by decide +kernel
theorem dX12_sign_35 : decode cX12_sign 35 = .ok (.iload_n 2, 1) := by decide +kernel
theorem dX12_sign_36 : decode cX12_sign 36 = .ok (.if_icmp .ne 5, 3) := by decide +kernel
theorem dX12_sign_39 : decode cX12_sign 39 = .ok (.iconst (-1), 1) := by decide +kernel
theorem dX12_sign_40 : decode cX12_sign 40 = .ok (.ireturn, 1) := by decide +kernel
theorem dX12_sign_41 : decode cX12_sign 41 = .ok (.aload_n 0, 1) := by decide +kernel
theorem dX12_sign_42 : decode cX12_sign 42 = .ok (.invokevirtual 367, 3) := by decide +kernel
theorem dX12_sign_45 : decode cX12_sign 45 = .ok (.aload_n 0, 1) := by decide +kernel
theorem dX12_sign_46 : decode cX12_sign 46 = .ok (.getfield 61, 3) := by decide +kernel
theorem dX12_sign_49 : decode cX12_sign 49 = .ok (.iconst 4, 1) := by decide +kernel
theorem dX12_sign_50 : decode cX12_sign 50 = .ok (.iload_n 1, 1) := by decide +kernel
theorem dX12_sign_51 : decode cX12_sign 51 = .ok (.imul, 1) := by decide +kernel
theorem dX12_sign_52 : decode cX12_sign 52 = .ok (.iconst 1, 1) := by decide +kernel
theorem dX12_sign_53 : decode cX12_sign 53 = .ok (.iadd, 1) := by decide +kernel
theorem dX12_sign_54 : decode cX12_sign 54 = .ok (.iaload, 1) := by decide +kernel
theorem dX12_sign_55 : decode cX12_sign 55 = .ok (.istore_n 3, 1) := by decide +kernel
theorem dX12_sign_56 : decode cX12_sign 56 = .ok (.aload_n 0, 1) := by decide +kernel
theorem dX12_sign_57 : decode cX12_sign 57 = .ok (.getfield 61, 3) := by decide +kernel
theorem dX12_sign_60 : decode cX12_sign 60 = .ok (.iconst 4, 1) := by decide +kernel
theorem dX12_sign_61 : decode cX12_sign 61 = .ok (.iload_n 1, 1) := by decide +kernel
theorem dX12_sign_62 : decode cX12_sign 62 = .ok (.imul, 1) := by decide +kernel
theorem dX12_sign_63 : decode cX12_sign 63 = .ok (.iconst 1, 1) := by decide +kernel
theorem dX12_sign_64 : decode cX12_sign 64 = .ok (.iadd, 1) := by decide +kernel
theorem dX12_sign_65 : decode cX12_sign 65 = .ok (.iload_n 2, 1) := by decide +kernel
theorem dX12_sign_66 : decode cX12_sign 66 = .ok (.iastore, 1) := by decide +kernel
theorem dX12_sign_67 : decode cX12_sign 67 = .ok (.iload_n 3, 1) := by decide +kernel
theorem dX12_sign_68 : decode cX12_sign 68 = .ok (.ireturn, 1) := by decide +kernel
theorem dX12_draw_0 : decode cX12_draw 0 = .ok (.aload_n 0, 1) := by decide +kernel
theorem dX12_draw_1 : decode cX12_draw 1 = .ok (.aload_n 0, 1) := by decide +kernel
theorem dX12_draw_2 : decode cX12_draw 2 = .ok (.getfield 392, 3) := by decide +kernel
theorem dX12_draw_5 : decode cX12_draw 5 = .ok (.ldc2_w 396, 3) := by decide +kernel
theorem dX12_draw_8 : decode cX12_draw 8 = .ok (.lmul, 1) := by decide +kernel
theorem dX12_draw_9 : decode cX12_draw 9 = .ok (.ldc2_w 398, 3) := by decide +kernel
theorem dX12_draw_12 : decode cX12_draw 12 = .ok (.ladd, 1) := by decide +kernel
theorem dX12_draw_13 : decode cX12_draw 13 = .ok (.putfield 392, 3) := by decide +kernel
theorem dX12_draw_16 : decode cX12_draw 16 = .ok (.aload_n 0, 1) := by decide +kernel
theorem dX12_draw_17 : decode cX12_draw 17 = .ok (.getfield 392, 3) := by decide +kernel
theorem dX12_draw_20 : decode cX12_draw 20 = .ok (.bipush 33, 2) := by decide +kernel
theorem dX12_draw_22 : decode cX12_draw 22 = .ok (.lushr, 1) := by decide +kernel
theorem dX12_draw_23 : decode cX12_draw 23 = .ok (.iload_n 1, 1) := by decide +kernel
theorem dX12_draw_24 : decode cX12_draw 24 = .ok (.i2l, 1) := by decide +kernel
theorem dX12_draw_25 : decode cX12_draw 25 = .ok (.lrem, 1) := by decide +kernel
theorem dX12_draw_26 : decode cX12_draw 26 = .ok (.l2i, 1) := by decide +kernel
theorem dX12_draw_27 : decode cX12_draw 27 = .ok (.ireturn, 1) := by decide +kernel
theorem dX12_years_0 : decode cX12_years 0 = .ok (.aload_n 0, 1) := by decide +kernel
theorem dX12_years_1 : decode cX12_years 1 = .ok (.iconst 0, 1) := by decide +kernel
theorem dX12_years_2 : decode cX12_years 2 = .ok (.putfield 92, 3) := by decide +kernel
theorem dX12_years_5 : decode cX12_years 5 = .ok (.aload_n 0, 1) := by decide +kernel
theorem dX12_years_6 : decode cX12_years 6 = .ok (.getfield 287, 3) := by decide +kernel
theorem dX12_years_9 : decode cX12_years 9 = .ok (.ifCond .eq 30, 3) := by decide +kernel
theorem dX12_years_12 : decode cX12_years 12 = .ok (.iload_n 1, 1) := by decide +kernel
theorem dX12_years_13 : decode cX12_years 13 = .ok (.i2l, 1) := by decide +kernel
theorem dX12_years_14 : decode cX12_years 14 = .ok (.lconst 1, 1) := by decide +kernel
theorem dX12_years_15 : decode cX12_years 15 = .ok (.ldc2_w 400, 3) := by decide +kernel
theorem dX12_years_18 : decode cX12_years 18 = .ok (.invokestatic 213, 3) := by decide +kernel
theorem dX12_years_21 : decode cX12_years 21 = .ok (.ifCond .eq 18, 3) := by decide +kernel
theorem dX12_years_24 : decode cX12_years 24 = .ok (.aload_n 0, 1) := by decide +kernel
theorem dX12_years_25 : decode cX12_years 25 = .ok (.getfield 61, 3) := by decide +kernel
theorem dX12_years_28 : decode cX12_years 28 = .ok (.bipush 35, 2) := by decide +kernel
theorem dX12_years_30 : decode cX12_years 30 = .ok (.iaload, 1) := by decide +kernel
theorem dX12_years_31 : decode cX12_years 31 = .ok (.iload_n 1, 1) := by decide +kernel
theorem dX12_years_32 : decode cX12_years 32 = .ok (.iadd, 1) := by decide +kernel
theorem dX12_years_33 : decode cX12_years 33 = .ok (.sipush 999, 3) := by decide +kernel
theorem dX12_years_36 : decode cX12_years 36 = .ok (.if_icmp .le 5, 3) := by decide +kernel
theorem dX12_years_39 : decode cX12_years 39 = .ok (.iconst (-1), 1) := by decide +kernel
theorem dX12_years_40 : decode cX12_years 40 = .ok (.ireturn, 1) := by decide +kernel
theorem dX12_years_41 : decode cX12_years 41 = .ok (.aload_n 0, 1) := by decide +kernel
theorem dX12_years_42 : decode cX12_years 42 = .ok (.lload_n 2, 1) := by decide +kernel
theorem dX12_years_43 : decode cX12_years 43 = .ok (.putfield 392, 3) := by decide +kernel
theorem dX12_years_46 : decode cX12_years 46 = .ok (.iconst 0, 1) := by decide +kernel
theorem dX12_years_47 : decode cX12_years 47 = .ok (.istore 4, 2) := by decide +kernel
theorem dX12_years_49 : decode cX12_years 49 = .ok (.iload 4, 2) := by decide +kernel
theorem dX12_years_51 : decode cX12_years 51 = .ok (.iload_n 1, 1) := by decide +kernel
theorem dX12_years_52 : decode cX12_years 52 = .ok (.if_icmp .ge 124, 3) := by decide +kernel
theorem dX12_years_55 : decode cX12_years 55 = .ok (.aload_n 0, 1) := by decide +kernel
theorem dX12_years_56 : decode cX12_years 56 = .ok (.invokevirtual 367, 3) := by decide +kernel
theorem dX12_years_59 : decode cX12_years 59 = .ok (.aload_n 0, 1) := by decide +kernel
theorem dX12_years_60 : decode cX12_years 60 = .ok (.bipush 10, 2) := by decide +kernel
theorem dX12_years_62 : decode cX12_years 62 = .ok (.invokevirtual 402, 3) := by decide +kernel
theorem dX12_years_65 : decode cX12_years 65 = .ok (.aload_n 0, 1) := by decide +kernel
theorem dX12_years_66 : decode cX12_years 66 = .ok (.getfield 71, 3) := by decide +kernel
theorem dX12_years_69 : decode cX12_years 69 = .ok (.if_icmp .ge 24, 3) := by decide +kernel
theorem dX12_years_72 : decode cX12_years 72 = .ok (.aload_n 0, 1) := by decide +kernel
theorem dX12_years_73 : decode cX12_years 73 = .ok (.getfield 61, 3) := by decide +kernel
theorem dX12_years_76 : decode cX12_years 76 = .ok (.invokestatic 376, 3) := by decide +kernel
theorem dX12_years_79 : decode cX12_years 79 = .ok (.ifCond .eq 14, 3) := by decide +kernel
theorem dX12_years_82 : decode cX12_years 82 = .ok (.aload_n 0, 1) := by decide +kernel
theorem dX12_years_83 : decode cX12_years 83 = .ok (.getfield 61, 3) := by decide +kernel
theorem dX12_years_86 : decode cX12_years 86 = .ok (.bipush 32, 2) := by decide +kernel
theorem dX12_years_88 : decode cX12_years 88 = .ok (.dup2, 1) := by decide +kernel
theorem dX12_years_89 : decode cX12_years 89 = .ok (.iaload, 1) := by decide +kernel
theorem dX12_years_90 : decode cX12_years 90 = .ok (.iconst 1, 1) := by decide +kernel
theorem dX12_years_91 : decode cX12_years 91 = .ok (.iadd, 1) := by decide +kernel
theorem dX12_years_92 : decode cX12_years 92 = .ok (.iastore, 1) := by decide +kernel
theorem dX12_years_93 : decode cX12_years 93 = .ok (.aload_n 0, 1) := by decide +kernel
theorem dX12_years_94 : decode cX12_years 94 = .ok (.getfield 61, 3) := by decide +kernel
theorem dX12_years_97 : decode cX12_years 97 = .ok (.bipush 34, 2) := by decide +kernel
theorem dX12_years_99 : decode cX12_years 99 = .ok (.iconst 1, 1) := by decide +kernel
theorem dX12_years_100 : decode cX12_years 100 = .ok (.aload_n 0, 1) := by decide +kernel
theorem dX12_years_101 : decode cX12_years 101 = .ok (.aload_n 0, 1) := by decide +kernel
theorem dX12_years_102 : decode cX12_years 102 = .ok (.getfield 284, 3) := by decide +kernel
theorem dX12_years_105 : decode cX12_years 105 = .ok (.invokevirtual 402, 3) := by decide +kernel
theorem dX12_years_108 : decode cX12_years 108 = .ok (.iadd, 1) := by decide +kernel
theorem dX12_years_109 : decode cX12_years 109 = .ok (.iastore, 1) := by decide +kernel
theorem dX12_years_110 : decode cX12_years 110 = .ok (.aload_n 0, 1) := by decide +kernel
theorem dX12_years_111 : decode cX12_years 111 = .ok (.bipush 10, 2) := by decide +kernel
theorem dX12_years_113 : decode cX12_years 113 = .ok (.invokevirtual 402, 3) := by decide +kernel
theorem dX12_years_116 : decode cX12_years 116 = .ok (.bipush 8, 2) := by decide +kernel
theorem dX12_years_118 : decode cX12_years 118 = .ok (.if_icmp .lt 42, 3) := by decide +kernel
theorem dX12_years_121 : decode cX12_years 121 = .ok (.aload_n 0, 1) := by decide +kernel
theorem dX12_years_122 : decode cX12_years 122 = .ok (.aload_n 0, 1) := by decide +kernel
theorem dX12_years_123 : decode cX12_years 123 = .ok (.getfield 287, 3) := by decide +kernel
theorem dX12_years_126 : decode cX12_years 126 = .ok (.invokevirtual 402, 3) := by decide +kernel
theorem dX12_years_129 : decode cX12_years 129 = .ok (.istore 5, 2) := by decide +kernel
theorem dX12_years_131 : decode cX12_years 131 = .ok (.aload_n 0, 1) := by decide +kernel
theorem dX12_years_132 : decode cX12_years 132 = .ok (.aload_n 0, 1) := by decide +kernel
theorem dX12_years_133 : decode cX12_years 133 = .ok (.getfield 61, 3) := by decide +kernel
theorem dX12_years_136 : decode cX12_years 136 = .ok (.iload 5, 2) := by decide +kernel
theorem dX12_years_138 : decode cX12_years 138 = .ok (.iconst 2, 1) := by decide +kernel
theorem dX12_years_139 : decode cX12_years 139 = .ok (.invokevirtual 386, 3) := by decide +kernel
theorem dX12_years_142 : decode cX12_years 142 = .ok (.ifCond .eq 18, 3) := by decide +kernel
theorem dX12_years_145 : decode cX12_years 145 = .ok (.aload_n 0, 1) := by decide +kernel
theorem dX12_years_146 : decode cX12_years 146 = .ok (.getfield 61, 3) := by decide +kernel
theorem dX12_years_149 : decode cX12_years 149 = .ok (.iconst 4, 1) := by decide +kernel
theorem dX12_years_150 : decode cX12_years 150 = .ok (.iload 5, 2) := by decide +kernel
theorem dX12_years_152 : decode cX12_years 152 = .ok (.imul, 1) := by decide +kernel
theorem dX12_years_153 : decode cX12_years 153 = .ok (.iconst 0, 1) := by decide +kernel
theorem dX12_years_154 : decode cX12_years 154 = .ok (.iadd, 1) := by decide +kernel
theorem dX12_years_155 : decode cX12_years 155 = .ok (.dup2, 1) := by decide +kernel
theorem dX12_years_156 : decode cX12_years 156 = .ok (.iaload, 1) := by decide +kernel
theorem dX12_years_157 : decode cX12_years 157 = .ok (.iconst 2, 1) := by decide +kernel
theorem dX12_years_158 : decode cX12_years 158 = .ok (.iadd, 1) := by decide +kernel
theorem dX12_years_159 : decode cX12_years 159 = .ok (.iastore, 1) := by decide +kernel
theorem dX12_years_160 : decode cX12_years 160 = .ok (.aload_n 0, 1) := by decide +kernel
theorem dX12_years_161 : decode cX12_years 161 = .ok (.aload_n 0, 1) := by decide +kernel
theorem dX12_years_162 : decode cX12_years 162 = .ok (.getfield 61, 3) := by decide +kernel
theorem dX12_years_165 : decode cX12_years 165 = .ok (.invokevirtual 370, 3) := by decide +kernel
theorem dX12_years_168 : decode cX12_years 168 = .ok (.istore 5, 2) := by decide +kernel
theorem dX12_years_170 : decode cX12_years 170 = .ok (.iinc 4 1, 3) := by decide +kernel
theorem dX12_years_173 : decode cX12_years 173 = .ok (.goto (-124), 3) := by decide +kernel
theorem dX12_years_176 : decode cX12_years 176 = .ok (.aload_n 0, 1) := by decide +kernel
theorem dX12_years_177 : decode cX12_years 177 = .ok (.getfield 61, 3) := by decide +kernel
theorem dX12_years_180 : decode cX12_years 180 = .ok (.bipush 35, 2) := by decide +kernel
theorem dX12_years_182 : decode cX12_years 182 = .ok (.iaload, 1) := by decide +kernel
theorem dX12_years_183 : decode cX12_years 183 = .ok (.ireturn, 1) := by decide +kernel
theorem dX12_undo_0 : decode cX12_undo 0 = .ok (.aload_n 0, 1) := by decide +kernel
theorem dX12_undo_1 : decode cX12_undo 1 = .ok (.iconst 0, 1) := by decide +kernel
theorem dX12_undo_2 : decode cX12_undo 2 = .ok (.putfield 92, 3) := by decide +kernel
theorem dX12_undo_5 : decode cX12_undo 5 = .ok (.aload_n 0, 1) := by decide +kernel
theorem dX12_undo_6 : decode cX12_undo 6 = .ok (.getfield 293, 3) := by decide +kernel
theorem dX12_undo_9 : decode cX12_undo 9 = .ok (.ifCond .ne 5, 3) := by decide +kernel
theorem dX12_undo_12 : decode cX12_undo 12 = .ok (.iconst (-1), 1) := by decide +kernel
theorem dX12_undo_13 : decode cX12_undo 13 = .ok (.ireturn, 1) := by decide +kernel
theorem dX12_undo_14 : decode cX12_undo 14 = .ok (.aload_n 0, 1) := by decide +kernel
theorem dX12_undo_15 : decode cX12_undo 15 = .ok (.dup, 1) := by decide +kernel
theorem dX12_undo_16 : decode cX12_undo 16 = .ok (.getfield 293, 3) := by decide +kernel
theorem dX12_undo_19 : decode cX12_undo 19 = .ok (.iconst 1, 1) := by decide +kernel
theorem dX12_undo_20 : decode cX12_undo 20 = .ok (.isub, 1) := by decide +kernel
theorem dX12_undo_21 : decode cX12_undo 21 = .ok (.putfield 293, 3) := by decide +kernel
theorem dX12_undo_24 : decode cX12_undo 24 = .ok (.iconst 0, 1) := by decide +kernel
theorem dX12_undo_25 : decode cX12_undo 25 = .ok (.istore_n 1, 1) := by decide +kernel
theorem dX12_undo_26 : decode cX12_undo 26 = .ok (.iload_n 1, 1) := by decide +kernel
theorem dX12_undo_27 : decode cX12_undo 27 = .ok (.sipush 217, 3) := by decide +kernel
theorem dX12_undo_30 : decode cX12_undo 30 = .ok (.if_icmp .ge 30, 3) := by decide +kernel
theorem dX12_undo_33 : decode cX12_undo 33 = .ok (.aload_n 0, 1) := by decide +kernel
theorem dX12_undo_34 : decode cX12_undo 34 = .ok (.getfield 61, 3) := by decide +kernel
theorem dX12_undo_37 : decode cX12_undo 37 = .ok (.iload_n 1, 1) := by decide +kernel
theorem dX12_undo_38 : decode cX12_undo 38 = .ok (.aload_n 0, 1) := by decide +kernel
theorem dX12_undo_39 : decode cX12_undo 39 = .ok (.getfield 77, 3) := by decide +kernel
theorem dX12_undo_42 : decode cX12_undo 42 = .ok (.sipush 217, 3) := by decide +kernel
theorem dX12_undo_45 : decode cX12_undo 45 = .ok (.aload_n 0, 1) := by decide +kernel
theorem dX12_undo_46 : decode cX12_undo 46 = .ok (.getfield 293, 3) := by decide +kernel
theorem dX12_undo_49 : decode cX12_undo 49 = .ok (.imul, 1) := by decide +kernel
theorem dX12_undo_50 : decode cX12_undo 50 = .ok (.iload_n 1, 1) := by decide +kernel
theorem dX12_undo_51 : decode cX12_undo 51 = .ok (.iadd, 1) := by decide +kernel
theorem dX12_undo_52 : decode cX12_undo 52 = .ok (.iaload, 1) := by decide +kernel
theorem dX12_undo_53 : decode cX12_undo 53 = .ok (.iastore, 1) := by decide +kernel
theorem dX12_undo_54 : decode cX12_undo 54 = .ok (.iinc 1 1, 3) := by decide +kernel
theorem dX12_undo_57 : decode cX12_undo 57 = .ok (.goto (-31), 3) := by decide +kernel
theorem dX12_undo_60 : decode cX12_undo 60 = .ok (.aload_n 0, 1) := by decide +kernel
theorem dX12_undo_61 : decode cX12_undo 61 = .ok (.getfield 293, 3) := by decide +kernel
theorem dX12_undo_64 : decode cX12_undo 64 = .ok (.ireturn, 1) := by decide +kernel
theorem dX12_log_0 : decode cX12_log 0 = .ok (.aload_n 0, 1) := by decide +kernel
theorem dX12_log_1 : decode cX12_log 1 = .ok (.iconst 0, 1) := by decide +kernel
theorem dX12_log_2 : decode cX12_log 2 = .ok (.putfield 92, 3) := by decide +kernel
theorem dX12_log_5 : decode cX12_log 5 = .ok (.iload_n 1, 1) := by decide +kernel
theorem dX12_log_6 : decode cX12_log 6 = .ok (.i2l, 1) := by decide +kernel
theorem dX12_log_7 : decode cX12_log 7 = .ok (.lconst 0, 1) := by decide +kernel
theorem dX12_log_8 : decode cX12_log 8 = .ok (.aload_n 0, 1) := by decide +kernel
theorem dX12_log_9 : decode cX12_log 9 = .ok (.getfield 61, 3) := by decide +kernel
theorem dX12_log_12 : decode cX12_log 12 = .ok (.bipush 36, 2) := by decide +kernel
theorem dX12_log_14 : decode cX12_log 14 = .ok (.iaload, 1) := by decide +kernel
theorem dX12_log_15 : decode cX12_log 15 = .ok (.iconst 1, 1) := by decide +kernel
theorem dX12_log_16 : decode cX12_log 16 = .ok (.isub, 1) := by decide +kernel
theorem dX12_log_17 : decode cX12_log 17 = .ok (.i2l, 1) := by decide +kernel
theorem dX12_log_18 : decode cX12_log 18 = .ok (.invokestatic 213, 3) := by decide +kernel
theorem dX12_log_21 : decode cX12_log 21 = .ok (.ifCond .eq 41, 3) := by decide +kernel
theorem dX12_log_24 : decode cX12_log 24 = .ok (.iload_n 2, 1) := by decide +kernel
theorem dX12_log_25 : decode cX12_log 25 = .ok (.i2l, 1) := by decide +kernel
theorem dX12_log_26 : decode cX12_log 26 = .ok (.lconst 0, 1) := by decide +kernel
theorem dX12_log_27 : decode cX12_log 27 = .ok (.ldc2_w 265, 3) := by decide +kernel
theorem dX12_log_30 : decode cX12_log 30 = .ok (.invokestatic 213, 3) := by decide +kernel
theorem dX12_log_33 : decode cX12_log 33 = .ok (.ifCond .eq 29, 3) := by decide +kernel
theorem dX12_log_36 : decode cX12_log 36 = .ok (.aload_n 0, 1) := by decide +kernel
theorem dX12_log_37 : decode cX12_log 37 = .ok (.getfield 61, 3) := by decide +kernel
theorem dX12_log_40 : decode cX12_log 40 = .ok (.bipush 37, 2) := by decide +kernel
theorem dX12_log_42 : decode cX12_log 42 = .ok (.iconst 3, 1) := by decide +kernel
theorem dX12_log_43 : decode cX12_log 43 = .ok (.aload_n 0, 1) := by decide +kernel
theorem dX12_log_44 : decode cX12_log 44 = .ok (.getfield 61, 3) := by decide +kernel
theorem dX12_log_47 : decode cX12_log 47 = .ok (.bipush 36, 2) := by decide +kernel
theorem dX12_log_49 : decode cX12_log 49 = .ok (.iaload, 1) := by decide +kernel
theorem dX12_log_50 : decode cX12_log 50 = .ok (.iconst 1, 1) := by decide +kernel
theorem dX12_log_51 : decode cX12_log 51 = .ok (.isub, 1) := by decide +kernel
theorem dX12_log_52 : decode cX12_log 52 = .ok (.iload_n 1, 1) := by decide +kernel
theorem dX12_log_53 : decode cX12_log 53 = .ok (.isub, 1) := by decide +kernel
theorem dX12_log_54 : decode cX12_log 54 = .ok (.imul, 1) := by decide +kernel
theorem dX12_log_55 : decode cX12_log 55 = .ok (.iadd, 1) := by decide +kernel
theorem dX12_log_56 : decode cX12_log 56 = .ok (.iload_n 2, 1) := by decide +kernel
theorem dX12_log_57 : decode cX12_log 57 = .ok (.iadd, 1) := by decide +kernel
theorem dX12_log_58 : decode cX12_log 58 = .ok (.iaload, 1) := by decide +kernel
theorem dX12_log_59 : decode cX12_log 59 = .ok (.goto 6, 3) := by decide +kernel
theorem dX12_log_62 : decode cX12_log 62 = .ok (.ldc_w 405, 3) := by decide +kernel
theorem dX12_log_65 : decode cX12_log 65 = .ok (.ireturn, 1) := by decide +kernel
theorem dX12_isWeek_0 : decode cX12_isWeek 0 = .ok (.iload_n 1, 1) := by decide +kernel
theorem dX12_isWeek_1 : decode cX12_isWeek 1 = .ok (.ifCond .lt 15, 3) := by decide +kernel
theorem dX12_isWeek_4 : decode cX12_isWeek 4 = .ok (.iload_n 1, 1) := by decide +kernel
theorem dX12_isWeek_5 : decode cX12_isWeek 5 = .ok (.aload_n 0, 1) := by decide +kernel
theorem dX12_isWeek_6 : decode cX12_isWeek 6 = .ok (.getfield 279, 3) := by decide +kernel
theorem dX12_isWeek_9 : decode cX12_isWeek 9 = .ok (.if_icmp .ge 7, 3) := by decide +kernel
theorem dX12_isWeek_12 : decode cX12_isWeek 12 = .ok (.iconst 1, 1) := by decide +kernel
theorem dX12_isWeek_13 : decode cX12_isWeek 13 = .ok (.goto 4, 3) := by decide +kernel
theorem dX12_isWeek_16 : decode cX12_isWeek 16 = .ok (.iconst 0, 1) := by decide +kernel
theorem dX12_isWeek_17 : decode cX12_isWeek 17 = .ok (.ireturn, 1) := by decide +kernel
theorem dX12_step_0 : decode cX12_step 0 = .ok (.aload_n 0, 1) := by decide +kernel
theorem dX12_step_1 : decode cX12_step 1 = .ok (.iconst 0, 1) := by decide +kernel
theorem dX12_step_2 : decode cX12_step 2 = .ok (.putfield 92, 3) := by decide +kernel
theorem dX12_step_5 : decode cX12_step 5 = .ok (.aload_n 0, 1) := by decide +kernel
theorem dX12_step_6 : decode cX12_step 6 = .ok (.iload_n 1, 1) := by decide +kernel
theorem dX12_step_7 : decode cX12_step 7 = .ok (.invokevirtual 406, 3) := by decide +kernel
theorem dX12_step_10 : decode cX12_step 10 = .ok (.ifCond .eq 51, 3) := by decide +kernel
theorem dX12_step_13 : decode cX12_step 13 = .ok (.iload_n 2, 1) := by decide +kernel
theorem dX12_step_14 : decode cX12_step 14 = .ok (.i2l, 1) := by decide +kernel
theorem dX12_step_15 : decode cX12_step 15 = .ok (.lconst 0, 1) := by decide +kernel
theorem dX12_step_16 : decode cX12_step 16 = .ok (.aload_n 0, 1) := by decide +kernel
theorem dX12_step_17 : decode cX12_step 17 = .ok (.getfield 58, 3) := by decide +kernel
theorem dX12_step_20 : decode cX12_step 20 = .ok (.iload_n 1, 1) := by decide +kernel
theorem dX12_step_21 : decode cX12_step 21 = .ok (.iaload, 1) := by decide +kernel
theorem dX12_step_22 : decode cX12_step 22 = .ok (.iconst 1, 1) := by decide +kernel
theorem dX12_step_23 : decode cX12_step 23 = .ok (.isub, 1) := by decide +kernel
theorem dX12_step_24 : decode cX12_step 24 = .ok (.i2l, 1) := by decide +kernel
theorem dX12_step_25 : decode cX12_step 25 = .ok (.invokestatic 213, 3) := by decide +kernel
theorem dX12_step_28 : decode cX12_step 28 = .ok (.ifCond .eq 33, 3) := by decide +kernel
theorem dX12_step_31 : decode cX12_step 31 = .ok (.iload_n 3, 1) := by decide +kernel
theorem dX12_step_32 : decode cX12_step 32 = .ok (.i2l, 1) := by decide +kernel
theorem dX12_step_33 : decode cX12_step 33 = .ok (.lconst 0, 1) := by decide +kernel
theorem dX12_step_34 : decode cX12_step 34 = .ok (.ldc2_w 265, 3) := by decide +kernel
theorem dX12_step_37 : decode cX12_step 37 = .ok (.invokestatic 213, 3) := by decide +kernel
theorem dX12_step_40 : decode cX12_step 40 = .ok (.ifCond .eq 21, 3) := by decide +kernel
theorem dX12_step_43 : decode cX12_step 43 = .ok (.aload_n 0, 1) := by decide +kernel
theorem dX12_step_44 : decode cX12_step 44 = .ok (.getfield 55, 3) := by decide +kernel
theorem dX12_step_47 : decode cX12_step 47 = .ok (.iconst 3, 1) := by decide +kernel
theorem dX12_step_48 : decode cX12_step 48 = .ok (.bipush 16, 2) := by decide +kernel
theorem dX12_step_50 : decode cX12_step 50 = .ok (.iload_n 1, 1) := by decide +kernel
theorem dX12_step_51 : decode cX12_step 51 = .ok (.imul, 1) := by decide +kernel
theorem dX12_step_52 : decode cX12_step 52 = .ok (.iload_n 2, 1) := by decide +kernel
theorem dX12_step_53 : decode cX12_step 53 = .ok (.iadd, 1) := by decide +kernel
theorem dX12_step_54 : decode cX12_step 54 = .ok (.imul, 1) := by decide +kernel
theorem dX12_step_55 : decode cX12_step 55 = .ok (.iload_n 3, 1) := by decide +kernel
theorem dX12_step_56 : decode cX12_step 56 = .ok (.iadd, 1) := by decide +kernel
theorem dX12_step_57 : decode cX12_step 57 = .ok (.iaload, 1) := by decide +kernel
theorem dX12_step_58 : decode cX12_step 58 = .ok (.goto 6, 3) := by decide +kernel
theorem dX12_step_61 : decode cX12_step 61 = .ok (.ldc_w 405, 3) := by decide +kernel
theorem dX12_step_64 : decode cX12_step 64 = .ok (.ireturn, 1) := by decide +kernel
theorem dX12_canStep_0 : decode cX12_canStep 0 = .ok (.aload_n 0, 1) := by decide +kernel
theorem dX12_canStep_1 : decode cX12_canStep 1 = .ok (.getfield 55, 3) := by decide +kernel
theorem dX12_canStep_4 : decode cX12_canStep 4 = .ok (.iload_n 2, 1) := by decide +kernel
theorem dX12_canStep_5 : decode cX12_canStep 5 = .ok (.iaload, 1) := by decide +kernel
theorem dX12_canStep_6 : decode cX12_canStep 6 = .ok (.tableswitch 70 0 3 #[30, 46, 60, 65], 30) := by decide +kernel
theorem dX12_canStep_36 : decode cX12_canStep 36 = .ok (.aload_n 1, 1) := by decide +kernel
theorem dX12_canStep_37 : decode cX12_canStep 37 = .ok (.bipush 35, 2) := by decide +kernel
theorem dX12_canStep_39 : decode cX12_canStep 39 = .ok (.iaload, 1) := by decide +kernel
theorem dX12_canStep_40 : decode cX12_canStep 40 = .ok (.sipush 999, 3) := by decide +kernel
theorem dX12_canStep_43 : decode cX12_canStep 43 = .ok (.if_icmp .ge 7, 3) := by decide +kernel
theorem dX12_canStep_46 : decode cX12_canStep 46 = .ok (.iconst 1, 1) := by decide +kernel
theorem dX12_canStep_47 : decode cX12_canStep 47 = .ok (.goto 4, 3) := by decide +kernel
theorem dX12_canStep_50 : decode cX12_canStep 50 = .ok (.iconst 0, 1) := by decide +kernel
theorem dX12_canStep_51 : decode cX12_canStep 51 = .ok (.ireturn, 1) := by decide +kernel
theorem dX12_canStep_52 : decode cX12_canStep 52 = .ok (.aload_n 0, 1) := by decide +kernel
theorem dX12_canStep_53 : decode cX12_canStep 53 = .ok (.aload_n 1, 1) := by decide +kernel
theorem dX12_canStep_54 : decode cX12_canStep 54 = .ok (.aload_n 0, 1) := by decide +kernel
theorem dX12_canStep_55 : decode cX12_canStep 55 = .ok (.getfield 55, 3) := by decide +kernel
theorem dX12_canStep_58 : decode cX12_canStep 58 = .ok (.iload_n 2, 1) := by decide +kernel
theorem dX12_canStep_59 : decode cX12_canStep 59 = .ok (.iconst 1, 1) := by decide +kernel
theorem dX12_canStep_60 : decode cX12_canStep 60 = .ok (.iadd, 1) := by decide +kernel
theorem dX12_canStep_61 : decode cX12_canStep 61 = .ok (.iaload, 1) := by decide +kernel
theorem dX12_canStep_62 : decode cX12_canStep 62 = .ok (.invokevirtual 373, 3) := by decide +kernel
theorem dX12_canStep_65 : decode cX12_canStep 65 = .ok (.ireturn, 1) := by decide +kernel
theorem dX12_canStep_66 : decode cX12_canStep 66 = .ok (.aload_n 1, 1) := by decide +kernel
theorem dX12_canStep_67 : decode cX12_canStep 67 = .ok (.invokestatic 376, 3) := by decide +kernel
theorem dX12_canStep_70 : decode cX12_canStep 70 = .ok (.ireturn, 1) := by decide +kernel
theorem dX12_canStep_71 : decode cX12_canStep 71 = .ok (.aload_n 1, 1) := by decide +kernel
theorem dX12_canStep_72 : decode cX12_canStep 72 = .ok (.invokestatic 380, 3) := by decide +kernel
theorem dX12_canStep_75 : decode cX12_canStep 75 = .ok (.ireturn, 1) := by decide +kernel
theorem dX12_canStep_76 : decode cX12_canStep 76 = .ok (.aload_n 0, 1) := by decide +kernel
theorem dX12_canStep_77 : decode cX12_canStep 77 = .ok (.aload_n 1, 1) := by decide +kernel
theorem dX12_canStep_78 : decode cX12_canStep 78 = .ok (.aload_n 0, 1) := by decide +kernel
theorem dX12_canStep_79 : decode cX12_canStep 79 = .ok (.getfield 55, 3) := by decide +kernel
theorem dX12_canStep_82 : decode cX12_canStep 82 = .ok (.iload_n 2, 1) := by decide +kernel
theorem dX12_canStep_83 : decode cX12_canStep 83 = .ok (.iconst 1, 1) := by decide +kernel
theorem dX12_canStep_84 : decode cX12_canStep 84 = .ok (.iadd, 1) := by decide +kernel
theorem dX12_canStep_85 : decode cX12_canStep 85 = .ok (.iaload, 1) := by decide +kernel
theorem dX12_canStep_86 : decode cX12_canStep 86 = .ok (.aload_n 0, 1) := by decide +kernel
theorem dX12_canStep_87 : decode cX12_canStep 87 = .ok (.getfield 55, 3) := by decide +kernel
theorem dX12_canStep_90 : decode cX12_canStep 90 = .ok (.iload_n 2, 1) := by decide +kernel
theorem dX12_canStep_91 : decode cX12_canStep 91 = .ok (.iconst 2, 1) := by decide +kernel
theorem dX12_canStep_92 : decode cX12_canStep 92 = .ok (.iadd, 1) := by decide +kernel
theorem dX12_canStep_93 : decode cX12_canStep 93 = .ok (.iaload, 1) := by decide +kernel
theorem dX12_canStep_94 : decode cX12_canStep 94 = .ok (.invokevirtual 386, 3) := by decide +kernel
theorem dX12_canStep_97 : decode cX12_canStep 97 = .ok (.ireturn, 1) := by decide +kernel
theorem dX12_goStep_0 : decode cX12_goStep 0 = .ok (.aload_n 0, 1) := by decide +kernel
theorem dX12_goStep_1 : decode cX12_goStep 1 = .ok (.getfield 55, 3) := by decide +kernel
theorem dX12_goStep_4 : decode cX12_goStep 4 = .ok (.iload_n 2, 1) := by decide +kernel
theorem dX12_goStep_5 : decode cX12_goStep 5 = .ok (.iaload, 1) := by decide +kernel
theorem dX12_goStep_6 : decode cX12_goStep 6 = .ok (.tableswitch 74 0 3 #[30, 39, 56, 67], 30) := by decide +kernel
theorem dX12_goStep_36 : decode cX12_goStep 36 = .ok (.aload_n 0, 1) := by decide +kernel
theorem dX12_goStep_37 : decode cX12_goStep 37 = .ok (.aload_n 1, 1) := by decide +kernel
theorem dX12_goStep_38 : decode cX12_goStep 38 = .ok (.invokevirtual 370, 3) := by decide +kernel
theorem dX12_goStep_41 : decode cX12_goStep 41 = .ok (.istore_n 3, 1) := by decide +kernel
theorem dX12_goStep_42 : decode cX12_goStep 42 = .ok (.goto 63, 3) := by decide +kernel
theorem dX12_goStep_45 : decode cX12_goStep 45 = .ok (.aload_n 1, 1) := by decide +kernel
theorem dX12_goStep_46 : decode cX12_goStep 46 = .ok (.bipush 34, 2) := by decide +kernel
theorem dX12_goStep_48 : decode cX12_goStep 48 = .ok (.iconst 1, 1) := by decide +kernel
theorem dX12_goStep_49 : decode cX12_goStep 49 = .ok (.aload_n 0, 1) := by decide +kernel
theorem dX12_goStep_50 : decode cX12_goStep 50 = .ok (.getfield 55, 3) := by decide +kernel
theorem dX12_goStep_53 : decode cX12_goStep 53 = .ok (.iload_n 2, 1) := by decide +kernel
theorem dX12_goStep_54 : decode cX12_goStep 54 = .ok (.iconst 1, 1) := by decide +kernel
theorem dX12_goStep_55 : decode cX12_goStep 55 = .ok (.iadd, 1) := by decide +kernel
theorem dX12_goStep_56 : decode cX12_goStep 56 = .ok (.iaload, 1) := by decide +kernel
theorem dX12_goStep_57 : decode cX12_goStep 57 = .ok (.iadd, 1) := by decide +kernel
theorem dX12_goStep_58 : decode cX12_goStep 58 = .ok (.iastore, 1) := by decide +kernel
theorem dX12_goStep_59 : decode cX12_goStep 59 = .ok (.goto 46, 3) := by decide +kernel
theorem dX12_goStep_62 : decode cX12_goStep 62 = .ok (.aload_n 1, 1) := by decide +kernel
theorem dX12_goStep_63 : decode cX12_goStep 63 = .ok (.bipush 32, 2) := by decide +kernel
theorem dX12_goStep_65 : decode cX12_goStep 65 = .ok (.dup2, 1) := by decide +kernel
theorem dX12_goStep_66 : decode cX12_goStep 66 = .ok (.iaload, 1) := by decide +kernel
theorem dX12_goStep_67 : decode cX12_goStep 67 = .ok (.iconst 1, 1) := by decide +kernel
theorem dX12_goStep_68 : decode cX12_goStep 68 = .ok (.iadd, 1) := by decide +kernel
theorem dX12_goStep_69 : decode cX12_goStep 69 = .ok (.iastore, 1) := by decide +kernel
theorem dX12_goStep_70 : decode cX12_goStep 70 = .ok (.goto 35, 3) := by decide +kernel
theorem dX12_goStep_73 : decode cX12_goStep 73 = .ok (.aload_n 1, 1) := by decide +kernel
theorem dX12_goStep_74 : decode cX12_goStep 74 = .ok (.invokestatic 383, 3) := by decide +kernel
theorem dX12_goStep_77 : decode cX12_goStep 77 = .ok (.goto 28, 3) := by decide +kernel
theorem dX12_goStep_80 : decode cX12_goStep 80 = .ok (.aload_n 1, 1) := by decide +kernel
theorem dX12_goStep_81 : decode cX12_goStep 81 = .ok (.iconst 4, 1) := by decide +kernel
theorem dX12_goStep_82 : decode cX12_goStep 82 = .ok (.aload_n 0, 1) := by decide +kernel
theorem dX12_goStep_83 : decode cX12_goStep 83 = .ok (.getfield 55, 3) := by decide +kernel
theorem dX12_goStep_86 : decode cX12_goStep 86 = .ok (.iload_n 2, 1) := by decide +kernel
theorem dX12_goStep_87 : decode cX12_goStep 87 = .ok (.iconst 1, 1) := by decide +kernel
theorem dX12_goStep_88 : decode cX12_goStep 88 = .ok (.iadd, 1) := by decide +kernel
theorem dX12_goStep_89 : decode cX12_goStep 89 = .ok (.iaload, 1) := by decide +kernel
theorem dX12_goStep_90 : decode cX12_goStep 90 = .ok (.imul, 1) := by decide +kernel
theorem dX12_goStep_91 : decode cX12_goStep 91 = .ok (.iconst 0, 1) := by decide +kernel
theorem dX12_goStep_92 : decode cX12_goStep 92 = .ok (.iadd, 1) := by decide +kernel
theorem dX12_goStep_93 : decode cX12_goStep 93 = .ok (.dup2, 1) := by decide +kernel
theorem dX12_goStep_94 : decode cX12_goStep 94 = .ok (.iaload, 1) := by decide +kernel
theorem dX12_goStep_95 : decode cX12_goStep 95 = .ok (.aload_n 0, 1) := by decide +kernel
theorem dX12_goStep_96 : decode cX12_goStep 96 = .ok (.getfield 55, 3) := by decide +kernel
theorem dX12_goStep_99 : decode cX12_goStep 99 = .ok (.iload_n 2, 1) := by decide +kernel
theorem dX12_goStep_100 : decode cX12_goStep 100 = .ok (.iconst 2, 1) := by decide +kernel
theorem dX12_goStep_101 : decode cX12_goStep 101 = .ok (.iadd, 1) := by decide +kernel
theorem dX12_goStep_102 : decode cX12_goStep 102 = .ok (.iaload, 1) := by decide +kernel
theorem dX12_goStep_103 : decode cX12_goStep 103 = .ok (.iadd, 1) := by decide +kernel
theorem dX12_goStep_104 : decode cX12_goStep 104 = .ok (.iastore, 1) := by decide +kernel
theorem dX12_goStep_105 : decode cX12_goStep 105 = .ok (.return_, 1) := by decide +kernel
theorem dX12_run_0 : decode cX12_run 0 = .ok (.aload_n 0, 1) := by decide +kernel
theorem dX12_run_1 : decode cX12_run 1 = .ok (.iconst 0, 1) := by decide +kernel
theorem dX12_run_2 : decode cX12_run 2 = .ok (.putfield 92, 3) := by decide +kernel
theorem dX12_run_5 : decode cX12_run 5 = .ok (.aload_n 0, 1) := by decide +kernel
theorem dX12_run_6 : decode cX12_run 6 = .ok (.iload_n 1, 1) := by decide +kernel
theorem dX12_run_7 : decode cX12_run 7 = .ok (.invokevirtual 406, 3) := by decide +kernel
theorem dX12_run_10 : decode cX12_run 10 = .ok (.ifCond .eq 20, 3) := by decide +kernel
theorem dX12_run_13 : decode cX12_run 13 = .ok (.aload_n 0, 1) := by decide +kernel
theorem dX12_run_14 : decode cX12_run 14 = .ok (.getfield 287, 3) := by decide +kernel
theorem dX12_run_17 : decode cX12_run 17 = .ok (.ifCond .eq 13, 3) := by decide +kernel
theorem dX12_run_20 : decode cX12_run 20 = .ok (.iload_n 2, 1) := by decide +kernel
theorem dX12_run_21 : decode cX12_run 21 = .ok (.i2l, 1) := by decide +kernel
theorem dX12_run_22 : decode cX12_run 22 = .ok (.lconst 0, 1) := by decide +kernel
theorem dX12_run_23 : decode cX12_run 23 = .ok (.lconst 1, 1) := by decide +kernel
theorem dX12_run_24 : decode cX12_run 24 = .ok (.invokestatic 213, 3) := by decide +kernel
theorem dX12_run_27 : decode cX12_run 27 = .ok (.ifCond .ne 7, 3) := by decide +kernel
theorem dX12_run_30 : decode cX12_run 30 = .ok (.ldc_w 405, 3) := by decide +kernel
theorem dX12_run_33 : decode cX12_run 33 = .ok (.ireturn, 1) := by decide +kernel
theorem dX12_run_34 : decode cX12_run 34 = .ok (.aload_n 0, 1) := by decide +kernel
theorem dX12_run_35 : decode cX12_run 35 = .ok (.getfield 61, 3) := by decide +kernel
theorem dX12_run_38 : decode cX12_run 38 = .ok (.aload_n 0, 1) := by decide +kernel
theorem dX12_run_39 : decode cX12_run 39 = .ok (.getfield 64, 3) := by decide +kernel
theorem dX12_run_42 : decode cX12_run 42 = .ok (.invokestatic 409, 3) := by decide +kernel
theorem dX12_run_45 : decode cX12_run 45 = .ok (.iconst 0, 1) := by decide +kernel
theorem dX12_run_46 : decode cX12_run 46 = .ok (.istore_n 3, 1) := by decide +kernel
theorem dX12_run_47 : decode cX12_run 47 = .ok (.iload_n 3, 1) := by decide +kernel
theorem dX12_run_48 : decode cX12_run 48 = .ok (.aload_n 0, 1) := by decide +kernel
theorem dX12_run_49 : decode cX12_run 49 = .ok (.getfield 58, 3) := by decide +kernel
theorem dX12_run_52 : decode cX12_run 52 = .ok (.iload_n 1, 1) := by decide +kernel
theorem dX12_run_53 : decode cX12_run 53 = .ok (.iaload, 1) := by decide +kernel
theorem dX12_run_54 : decode cX12_run 54 = .ok (.if_icmp .ge 44, 3) := by decide +kernel
theorem dX12_run_57 : decode cX12_run 57 = .ok (.aload_n 0, 1) := by decide +kernel
theorem dX12_run_58 : decode cX12_run 58 = .ok (.aload_n 0, 1) := by decide +kernel
theorem dX12_run_59 : decode cX12_run 59 = .ok (.getfield 64, 3) := by decide +kernel
theorem dX12_run_62 : decode cX12_run 62 = .ok (.iconst 3, 1) := by decide +kernel
theorem dX12_run_63 : decode cX12_run 63 = .ok (.bipush 16, 2) := by decide +kernel
theorem dX12_run_65 : decode cX12_run 65 = .ok (.iload_n 1, 1) := by decide +kernel
theorem dX12_run_66 : decode cX12_run 66 = .ok (.imul, 1) := by decide +kernel
theorem dX12_run_67 : decode cX12_run 67 = .ok (.iload_n 3, 1) := by decide +kernel
theorem dX12_run_68 : decode cX12_run 68 = .ok (.iadd, 1) := by decide +kernel
theorem dX12_run_69 : decode cX12_run 69 = .ok (.imul, 1) := by decide +kernel
theorem dX12_run_70 : decode cX12_run 70 = .ok (.invokevirtual 413, 3) := by decide +kernel
theorem dX12_run_73 : decode cX12_run 73 = .ok (.ifCond .eq 25, 3) := by decide +kernel
theorem dX12_run_76 : decode cX12_run 76 = .ok (.aload_n 0, 1) := by decide +kernel
theorem dX12_run_77 : decode cX12_run 77 = .ok (.aload_n 0, 1) := by decide +kernel
theorem dX12_run_78 : decode cX12_run 78 = .ok (.getfield 64, 3) := by decide +kernel
theorem dX12_run_81 : decode cX12_run 81 = .ok (.iconst 3, 1) := by decide +kernel
theorem dX12_run_82 : decode cX12_run 82 = .ok (.bipush 16, 2) := by decide +kernel
theorem dX12_run_84 : decode cX12_run 84 = .ok (.iload_n 1, 1) := by decide +kernel
theorem dX12_run_85 : decode cX12_run 85 = .ok (.imul, 1) := by decide +kernel
theorem dX12_run_86 : decode cX12_run 86 = .ok (.iload_n 3, 1) := by decide +kernel
theorem dX12_run_87 : decode cX12_run 87 = .ok (.iadd, 1) := by decide +kernel
theorem dX12_run_88 : decode cX12_run 88 = .ok (.imul, 1) := by decide +kernel
theorem dX12_run_89 : decode cX12_run 89 = .ok (.invokevirtual 416, 3) := by decide +kernel
theorem dX12_run_92 : decode cX12_run 92 = .ok (.iinc 3 1, 3) := by decide +kernel
theorem dX12_run_95 : decode cX12_run 95 = .ok (.goto (-48), 3) := by decide +kernel
theorem dX12_run_98 : decode cX12_run 98 = .ok (.iload_n 2, 1) := by decide +kernel
theorem dX12_run_99 : decode cX12_run 99 = .ok (.iconst 1, 1) := by decide +kernel
theorem dX12_run_100 : decode cX12_run 100 = .ok (.if_icmp .ne 21, 3) := by decide +kernel
theorem dX12_run_103 : decode cX12_run 103 = .ok (.aload_n 0, 1) := by decide +kernel
theorem dX12_run_104 : decode cX12_run 104 = .ok (.aload_n 0, 1) := by decide +kernel
theorem dX12_run_105 : decode cX12_run 105 = .ok (.getfield 64, 3) := by decide +kernel
theorem dX12_run_108 : decode cX12_run 108 = .ok (.invokevirtual 354, 3) := by decide +kernel
theorem dX12_run_111 : decode cX12_run 111 = .ok (.aload_n 0, 1) := by decide +kernel
theorem dX12_run_112 : decode cX12_run 112 = .ok (.aload_n 0, 1) := by decide +kernel
theorem dX12_run_113 : decode cX12_run 113 = .ok (.getfield 61, 3) := by decide +kernel
theorem dX12_run_116 : decode cX12_run 116 = .ok (.invokevirtual 354, 3) := by decide +kernel
theorem dX12_run_119 : decode cX12_run 119 = .ok (.isub, 1) := by decide +kernel
theorem dX12_run_120 : decode cX12_run 120 = .ok (.ireturn, 1) := by decide +kernel
theorem dX12_run_121 : decode cX12_run 121 = .ok (.iload_n 3, 1) := by decide +kernel
theorem dX12_run_122 : decode cX12_run 122 = .ok (.aload_n 0, 1) := by decide +kernel
theorem dX12_run_123 : decode cX12_run 123 = .ok (.getfield 58, 3) := by decide +kernel
theorem dX12_run_126 : decode cX12_run 126 = .ok (.iload_n 1, 1) := by decide +kernel
theorem dX12_run_127 : decode cX12_run 127 = .ok (.iaload, 1) := by decide +kernel
theorem dX12_run_128 : decode cX12_run 128 = .ok (.if_icmp .ne 7, 3) := by decide +kernel
theorem dX12_run_131 : decode cX12_run 131 = .ok (.iconst (-1), 1) := by decide +kernel
theorem dX12_run_132 : decode cX12_run 132 = .ok (.goto 4, 3) := by decide +kernel
theorem dX12_run_135 : decode cX12_run 135 = .ok (.iload_n 3, 1) := by decide +kernel
theorem dX12_run_136 : decode cX12_run 136 = .ok (.ireturn, 1) := by decide +kernel
theorem dX12_perform_0 : decode cX12_perform 0 = .ok (.aload_n 0, 1) := by decide +kernel
theorem dX12_perform_1 : decode cX12_perform 1 = .ok (.iconst 0, 1) := by decide +kernel
theorem dX12_perform_2 : decode cX12_perform 2 = .ok (.putfield 92, 3) := by decide +kernel
theorem dX12_perform_5 : decode cX12_perform 5 = .ok (.aload_n 0, 1) := by decide +kernel
theorem dX12_perform_6 : decode cX12_perform 6 = .ok (.iload_n 1, 1) := by decide +kernel
theorem dX12_perform_7 : decode cX12_perform 7 = .ok (.invokevirtual 406, 3) := by decide +kernel
theorem dX12_perform_10 : decode cX12_perform 10 = .ok (.ifCond .eq 10, 3) := by decide +kernel
theorem dX12_perform_13 : decode cX12_perform 13 = .ok (.aload_n 0, 1) := by decide +kernel
theorem dX12_perform_14 : decode cX12_perform 14 = .ok (.getfield 287, 3) := by decide +kernel
theorem dX12_perform_17 : decode cX12_perform 17 = .ok (.ifCond .ne 5, 3) := by decide +kernel
theorem dX12_perform_20 : decode cX12_perform 20 = .ok (.iconst (-1), 1) := by decide +kernel
theorem dX12_perform_21 : decode cX12_perform 21 = .ok (.ireturn, 1) := by decide +kernel
theorem dX12_perform_22 : decode cX12_perform 22 = .ok (.iconst 0, 1) := by decide +kernel
theorem dX12_perform_23 : decode cX12_perform 23 = .ok (.istore_n 2, 1) := by decide +kernel
theorem dX12_perform_24 : decode cX12_perform 24 = .ok (.iload_n 2, 1) := by decide +kernel
theorem dX12_perform_25 : decode cX12_perform 25 = .ok (.aload_n 0, 1) := by decide +kernel
theorem dX12_perform_26 : decode cX12_perform 26 = .ok (.getfield 58, 3) := by decide +kernel
theorem dX12_perform_29 : decode cX12_perform 29 = .ok (.iload_n 1, 1) := by decide +kernel
theorem dX12_perform_30 : decode cX12_perform 30 = .ok (.iaload, 1) := by decide +kernel
theorem dX12_perform_31 : decode cX12_perform 31 = .ok (.if_icmp .ge 48, 3) := by decide +kernel
theorem dX12_perform_34 : decode cX12_perform 34 = .ok (.aload_n 0, 1) := by decide +kernel
theorem dX12_perform_35 : decode cX12_perform 35 = .ok (.aload_n 0, 1) := by decide +kernel
theorem dX12_perform_36 : decode cX12_perform 36 = .ok (.getfield 61, 3) := by decide +kernel
theorem dX12_perform_39 : decode cX12_perform 39 = .ok (.iconst 3, 1) := by decide +kernel
theorem dX12_perform_40 : decode cX12_perform 40 = .ok (.bipush 16, 2) := by decide +kernel
theorem dX12_perform_42 : decode cX12_perform 42 = .ok (.iload_n 1, 1) := by decide +kernel
theorem dX12_perform_43 : decode cX12_perform 43 = .ok (.imul, 1) := by decide +kernel
theorem dX12_perform_44 : decode cX12_perform 44 = .ok (.iload_n 2, 1) := by decide +kernel
theorem dX12_perform_45 : decode cX12_perform 45 = .ok (.iadd, 1) := by decide +kernel
theorem dX12_perform_46 : decode cX12_perform 46 = .ok (.imul, 1) := by decide +kernel
theorem dX12_perform_47 : decode cX12_perform 47 = .ok (.invokevirtual 413, 3) := by decide +kernel
theorem dX12_perform_50 : decode cX12_perform 50 = .ok (.ifCond .eq 29, 3) := by decide +kernel
theorem dX12_perform_53 : decode cX12_perform 53 = .ok (.aload_n 0, 1) := by decide +kernel
theorem dX12_perform_54 : decode cX12_perform 54 = .ok (.invokevirtual 367, 3) := by decide +kernel
theorem dX12_perform_57 : decode cX12_perform 57 = .ok (.aload_n 0, 1) := by decide +kernel
theorem dX12_perform_58 : decode cX12_perform 58 = .ok (.aload_n 0, 1) := by decide +kernel
theorem dX12_perform_59 : decode cX12_perform 59 = .ok (.getfield 61, 3) := by decide +kernel
theorem dX12_perform_62 : decode cX12_perform 62 = .ok (.iconst 3, 1) := by decide +kernel
theorem dX12_perform_63 : decode cX12_perform 63 = .ok (.bipush 16, 2) := by decide +kernel
theorem dX12_perform_65 : decode cX12_perform 65 = .ok (.iload_n 1, 1) := by decide +kernel
theorem dX12_perform_66 : decode cX12_perform 66 = .ok (.imul, 1) := by decide +kernel
theorem dX12_perform_67 : decode cX12_perform 67 = .ok (.iload_n 2, 1) := by decide +kernel
theorem dX12_perform_68 : decode cX12_perform 68 = .ok (.iadd, 1) := by decide +kernel
theorem dX12_perform_69 : decode cX12_perform 69 = .ok (.imul, 1) := by decide +kernel
theorem dX12_perform_70 : decode cX12_perform 70 = .ok (.invokevirtual 416, 3) := by decide +kernel
theorem dX12_perform_73 : decode cX12_perform 73 = .ok (.iinc 2 1, 3) := by decide +kernel
theorem dX12_perform_76 : decode cX12_perform 76 = .ok (.goto (-52), 3) := by decide +kernel
theorem dX12_perform_79 : decode cX12_perform 79 = .ok (.iload_n 2, 1) := by decide +kernel
theorem dX12_perform_80 : decode cX12_perform 80 = .ok (.ireturn, 1) := by decide +kernel
theorem dX12_goOn_0 : decode cX12_goOn 0 = .ok (.aload_n 0, 1) := by decide +kernel
theorem dX12_goOn_1 : decode cX12_goOn 1 = .ok (.getfield 61, 3) := by decide +kernel
theorem dX12_goOn_4 : decode cX12_goOn 4 = .ok (.aload_n 0, 1) := by decide +kernel
theorem dX12_goOn_5 : decode cX12_goOn 5 = .ok (.getfield 64, 3) := by decide +kernel
theorem dX12_goOn_8 : decode cX12_goOn 8 = .ok (.invokestatic 409, 3) := by decide +kernel
theorem dX12_goOn_11 : decode cX12_goOn 11 = .ok (.iconst 0, 1) := by decide +kernel
theorem dX12_goOn_12 : decode cX12_goOn 12 = .ok (.istore_n 2, 1) := by decide +kernel
theorem dX12_goOn_13 : decode cX12_goOn 13 = .ok (.iload_n 2, 1) := by decide +kernel
theorem dX12_goOn_14 : decode cX12_goOn 14 = .ok (.iload_n 1, 1) := by decide +kernel
theorem dX12_goOn_15 : decode cX12_goOn 15 = .ok (.if_icmp .ge 18, 3) := by decide +kernel
theorem dX12_goOn_18 : decode cX12_goOn 18 = .ok (.aload_n 0, 1) := by decide +kernel
theorem dX12_goOn_19 : decode cX12_goOn 19 = .ok (.aload_n 0, 1) := by decide +kernel
theorem dX12_goOn_20 : decode cX12_goOn 20 = .ok (.getfield 64, 3) := by decide +kernel
theorem dX12_goOn_23 : decode cX12_goOn 23 = .ok (.invokevirtual 370, 3) := by decide +kernel
theorem dX12_goOn_26 : decode cX12_goOn 26 = .ok (.istore_n 3, 1) := by decide +kernel
theorem dX12_goOn_27 : decode cX12_goOn 27 = .ok (.iinc 2 1, 3) := by decide +kernel
theorem dX12_goOn_30 : decode cX12_goOn 30 = .ok (.goto (-17), 3) := by decide +kernel
theorem dX12_goOn_33 : decode cX12_goOn 33 = .ok (.return_, 1) := by decide +kernel
theorem dX12_serves__0 : decode cX12_serves_ 0 = .ok (.aload_n 0, 1) := by decide +kernel
theorem dX12_serves__1 : decode cX12_serves_ 1 = .ok (.iconst 0, 1) := by decide +kernel
theorem dX12_serves__2 : decode cX12_serves_ 2 = .ok (.putfield 92, 3) := by decide +kernel
theorem dX12_serves__5 : decode cX12_serves_ 5 = .ok (.aload_n 0, 1) := by decide +kernel
theorem dX12_serves__6 : decode cX12_serves_ 6 = .ok (.getfield 287, 3) := by decide +kernel
theorem dX12_serves__9 : decode cX12_serves_ 9 = .ok (.ifCond .eq 27, 3) := by decide +kernel
theorem dX12_serves__12 : decode cX12_serves_ 12 = .ok (.iload_n 1, 1) := by decide +kernel
theorem dX12_serves__13 : decode cX12_serves_ 13 = .ok (.i2l, 1) := by decide +kernel
theorem dX12_serves__14 : decode cX12_serves_ 14 = .ok (.lconst 0, 1) := by decide +kernel
theorem dX12_serves__15 : decode cX12_serves_ 15 = .ok (.ldc2_w 420, 3) := by decide +kernel
theorem dX12_serves__18 : decode cX12_serves_ 18 = .ok (.invokestatic 213, 3) := by decide +kernel
theorem dX12_serves__21 : decode cX12_serves_ 21 = .ok (.ifCond .eq 15, 3) := by decide +kernel
theorem dX12_serves__24 : decode cX12_serves_ 24 = .ok (.iload_n 2, 1) := by decide +kernel
theorem dX12_serves__25 : decode cX12_serves_ 25 = .ok (.i2l, 1) := by decide +kernel
theorem dX12_serves__26 : decode cX12_serves_ 26 = .ok (.lconst 0, 1) := by decide +kernel
theorem dX12_serves__27 : decode cX12_serves_ 27 = .ok (.ldc2_w 265, 3) := by decide +kernel
theorem dX12_serves__30 : decode cX12_serves_ 30 = .ok (.invokestatic 213, 3) := by decide +kernel
theorem dX12_serves__33 : decode cX12_serves_ 33 = .ok (.ifCond .ne 5, 3) := by decide +kernel
theorem dX12_serves__36 : decode cX12_serves_ 36 = .ok (.iconst (-1), 1) := by decide +kernel
theorem dX12_serves__37 : decode cX12_serves_ 37 = .ok (.ireturn, 1) := by decide +kernel
theorem dX12_serves__38 : decode cX12_serves_ 38 = .ok (.aload_n 0, 1) := by decide +kernel
theorem dX12_serves__39 : decode cX12_serves_ 39 = .ok (.iload_n 1, 1) := by decide +kernel
theorem dX12_serves__40 : decode cX12_serves_ 40 = .ok (.invokevirtual 422, 3) := by decide +kernel
theorem dX12_serves__43 : decode cX12_serves_ 43 = .ok (.aload_n 0, 1) := by decide +kernel
theorem dX12_serves__44 : decode cX12_serves_ 44 = .ok (.aload_n 0, 1) := by decide +kernel
theorem dX12_serves__45 : decode cX12_serves_ 45 = .ok (.getfield 64, 3) := by decide +kernel
theorem dX12_serves__48 : decode cX12_serves_ 48 = .ok (.invokevirtual 341, 3) := by decide +kernel
theorem dX12_serves__51 : decode cX12_serves_ 51 = .ok (.aload_n 0, 1) := by decide +kernel
theorem dX12_serves__52 : decode cX12_serves_ 52 = .ok (.getfield 313, 3) := by decide +kernel
theorem dX12_serves__55 : decode cX12_serves_ 55 = .ok (.iconst (-1), 1) := by decide +kernel
theorem dX12_serves__56 : decode cX12_serves_ 56 = .ok (.if_icmp .ne 5, 3) := by decide +kernel
theorem dX12_serves__59 : decode cX12_serves_ 59 = .ok (.iconst (-1), 1) := by decide +kernel
theorem dX12_serves__60 : decode cX12_serves_ 60 = .ok (.ireturn, 1) := by decide +kernel
theorem dX12_serves__61 : decode cX12_serves_ 61 = .ok (.iload_n 2, 1) := by decide +kernel
theorem dX12_serves__62 : decode cX12_serves_ 62 = .ok (.ifCond .ne 10, 3) := by decide +kernel
theorem dX12_serves__65 : decode cX12_serves_ 65 = .ok (.aload_n 0, 1) := by decide +kernel
theorem dX12_serves__66 : decode cX12_serves_ 66 = .ok (.getfield 313, 3) := by decide +kernel
theorem dX12_serves__69 : decode cX12_serves_ 69 = .ok (.goto 19, 3) := by decide +kernel
theorem dX12_serves__72 : decode cX12_serves_ 72 = .ok (.iload_n 2, 1) := by decide +kernel
theorem dX12_serves__73 : decode cX12_serves_ 73 = .ok (.iconst 1, 1) := by decide +kernel
theorem dX12_serves__74 : decode cX12_serves_ 74 = .ok (.if_icmp .ne 10, 3) := by decide +kernel
theorem dX12_serves__77 : decode cX12_serves_ 77 = .ok (.aload_n 0, 1) := by decide +kernel
theorem dX12_serves__78 : decode cX12_serves_ 78 = .ok (.getfield 319, 3) := by decide +kernel
theorem dX12_serves__81 : decode cX12_serves_ 81 = .ok (.goto 7, 3) := by decide +kernel
theorem dX12_serves__84 : decode cX12_serves_ 84 = .ok (.aload_n 0, 1) := by decide +kernel
theorem dX12_serves__85 : decode cX12_serves_ 85 = .ok (.getfield 316, 3) := by decide +kernel
theorem dX12_serves__88 : decode cX12_serves_ 88 = .ok (.ireturn, 1) := by decide +kernel
theorem dX12_there_0 : decode cX12_there 0 = .ok (.aload_n 0, 1) := by decide +kernel
theorem dX12_there_1 : decode cX12_there 1 = .ok (.iconst 0, 1) := by decide +kernel
theorem dX12_there_2 : decode cX12_there 2 = .ok (.putfield 92, 3) := by decide +kernel
theorem dX12_there_5 : decode cX12_there 5 = .ok (.aload_n 0, 1) := by decide +kernel
theorem dX12_there_6 : decode cX12_there 6 = .ok (.getfield 287, 3) := by decide +kernel
theorem dX12_there_9 : decode cX12_there 9 = .ok (.ifCond .eq 15, 3) := by decide +kernel
theorem dX12_there_12 : decode cX12_there 12 = .ok (.iload_n 1, 1) := by decide +kernel
theorem dX12_there_13 : decode cX12_there 13 = .ok (.i2l, 1) := by decide +kernel
theorem dX12_there_14 : decode cX12_there 14 = .ok (.lconst 0, 1) := by decide +kernel
theorem dX12_there_15 : decode cX12_there 15 = .ok (.ldc2_w 420, 3) := by decide +kernel
theorem dX12_there_18 : decode cX12_there 18 = .ok (.invokestatic 213, 3) := by decide +kernel
theorem dX12_there_21 : decode cX12_there 21 = .ok (.ifCond .ne 5, 3) := by decide +kernel
theorem dX12_there_24 : decode cX12_there 24 = .ok (.iconst (-1), 1) := by decide +kernel
theorem dX12_there_25 : decode cX12_there 25 = .ok (.ireturn, 1) := by decide +kernel
theorem dX12_there_26 : decode cX12_there 26 = .ok (.aload_n 0, 1) := by decide +kernel
theorem dX12_there_27 : decode cX12_there 27 = .ok (.iload_n 1, 1) := by decide +kernel
theorem dX12_there_28 : decode cX12_there 28 = .ok (.invokevirtual 422, 3) := by decide +kernel
theorem dX12_there_31 : decode cX12_there 31 = .ok (.aload_n 0, 1) := by decide +kernel
theorem dX12_there_32 : decode cX12_there 32 = .ok (.aload_n 0, 1) := by decide +kernel
theorem dX12_there_33 : decode cX12_there 33 = .ok (.getfield 64, 3) := by decide +kernel
theorem dX12_there_36 : decode cX12_there 36 = .ok (.invokevirtual 326, 3) := by decide +kernel
theorem dX12_there_39 : decode cX12_there 39 = .ok (.ireturn, 1) := by decide +kernel
theorem dX12_tableNow_0 : decode cX12_tableNow 0 = .ok (.aload_n 0, 1) := by decide +kernel
theorem dX12_tableNow_1 : decode cX12_tableNow 1 = .ok (.iconst 0, 1) := by decide +kernel
theorem dX12_tableNow_2 : decode cX12_tableNow 2 = .ok (.invokevirtual 422, 3) := by decide +kernel
theorem dX12_tableNow_5 : decode cX12_tableNow 5 = .ok (.aload_n 0, 1) := by decide +kernel
theorem dX12_tableNow_6 : decode cX12_tableNow 6 = .ok (.aload_n 0, 1) := by decide +kernel
theorem dX12_tableNow_7 : decode cX12_tableNow 7 = .ok (.getfield 64, 3) := by decide +kernel
theorem dX12_tableNow_10 : decode cX12_tableNow 10 = .ok (.invokevirtual 341, 3) := by decide +kernel
theorem dX12_tableNow_13 : decode cX12_tableNow 13 = .ok (.return_, 1) := by decide +kernel
theorem dX12_fed_0 : decode cX12_fed 0 = .ok (.aload_n 0, 1) := by decide +kernel
theorem dX12_fed_1 : decode cX12_fed 1 = .ok (.iconst 0, 1) := by decide +kernel
theorem dX12_fed_2 : decode cX12_fed 2 = .ok (.putfield 92, 3) := by decide +kernel
theorem dX12_fed_5 : decode cX12_fed 5 = .ok (.aload_n 0, 1) := by decide +kernel
theorem dX12_fed_6 : decode cX12_fed 6 = .ok (.iload_n 1, 1) := by decide +kernel
theorem dX12_fed_7 : decode cX12_fed 7 = .ok (.invokevirtual 360, 3) := by decide +kernel
theorem dX12_fed_10 : decode cX12_fed 10 = .ok (.ifCond .eq 15, 3) := by decide +kernel
theorem dX12_fed_13 : decode cX12_fed 13 = .ok (.aload_n 0, 1) := by decide +kernel
theorem dX12_fed_14 : decode cX12_fed 14 = .ok (.aload_n 0, 1) := by decide +kernel
theorem dX12_fed_15 : decode cX12_fed 15 = .ok (.getfield 61, 3) := by decide +kernel
theorem dX12_fed_18 : decode cX12_fed 18 = .ok (.iload_n 1, 1) := by decide +kernel
theorem dX12_fed_19 : decode cX12_fed 19 = .ok (.invokevirtual 302, 3) := by decide +kernel
theorem dX12_fed_22 : decode cX12_fed 22 = .ok (.ifCond .ne 5, 3) := by decide +kernel
theorem dX12_fed_25 : decode cX12_fed 25 = .ok (.iconst (-1), 1) := by decide +kernel
theorem dX12_fed_26 : decode cX12_fed 26 = .ok (.ireturn, 1) := by decide +kernel
theorem dX12_fed_27 : decode cX12_fed 27 = .ok (.aload_n 0, 1) := by decide +kernel
theorem dX12_fed_28 : decode cX12_fed 28 = .ok (.invokevirtual 425, 3) := by decide +kernel
theorem dX12_fed_31 : decode cX12_fed 31 = .ok (.aload_n 0, 1) := by decide +kernel
theorem dX12_fed_32 : decode cX12_fed 32 = .ok (.getfield 74, 3) := by decide +kernel
theorem dX12_fed_35 : decode cX12_fed 35 = .ok (.iload_n 1, 1) := by decide +kernel
theorem dX12_fed_36 : decode cX12_fed 36 = .ok (.iaload, 1) := by decide +kernel
theorem dX12_fed_37 : decode cX12_fed 37 = .ok (.ireturn, 1) := by decide +kernel
theorem dX12_best_0 : decode cX12_best 0 = .ok (.aload_n 0, 1) := by decide +kernel
theorem dX12_best_1 : decode cX12_best 1 = .ok (.iconst 0, 1) := by decide +kernel
theorem dX12_best_2 : decode cX12_best 2 = .ok (.putfield 92, 3) := by decide +kernel
theorem dX12_best_5 : decode cX12_best 5 = .ok (.aload_n 0, 1) := by decide +kernel
theorem dX12_best_6 : decode cX12_best 6 = .ok (.getfield 287, 3) := by decide +kernel
theorem dX12_best_9 : decode cX12_best 9 = .ok (.ifCond .eq 25, 3) := by decide +kernel
theorem dX12_best_12 : decode cX12_best 12 = .ok (.iload_n 1, 1) := by decide +kernel
theorem dX12_best_13 : decode cX12_best 13 = .ok (.i2l, 1) := by decide +kernel
theorem dX12_best_14 : decode cX12_best 14 = .ok (.lconst 1, 1) := by decide +kernel
theorem dX12_best_15 : decode cX12_best 15 = .ok (.ldc2_w 390, 3) := by decide +kernel
theorem dX12_best_18 : decode cX12_best 18 = .ok (.invokestatic 213, 3) := by decide +kernel
theorem dX12_best_21 : decode cX12_best 21 = .ok (.ifCond .eq 13, 3) := by decide +kernel
theorem dX12_best_24 : decode cX12_best 24 = .ok (.iload_n 2, 1) := by decide +kernel
theorem dX12_best_25 : decode cX12_best 25 = .ok (.i2l, 1) := by decide +kernel
theorem dX12_best_26 : decode cX12_best 26 = .ok (.lconst 0, 1) := by decide +kernel
theorem dX12_best_27 : decode cX12_best 27 = .ok (.lconst 1, 1) := by decide +kernel
theorem dX12_best_28 : decode cX12_best 28 = .ok (.invokestatic 213, 3) := by decide +kernel
theorem dX12_best_31 : decode cX12_best 31 = .ok (.ifCond .ne 7, 3) := by decide +kernel
theorem dX12_best_34 : decode cX12_best 34 = .ok (.ldc_w 405, 3) := by decide +kernel
theorem dX12_best_37 : decode cX12_best 37 = .ok (.ireturn, 1) := by decide +kernel
theorem dX12_best_38 : decode cX12_best 38 = .ok (.iconst (-1), 1) := by decide +kernel
theorem dX12_best_39 : decode cX12_best 39 = .ok (.istore_n 3, 1) := by decide +kernel
theorem dX12_best_40 : decode cX12_best 40 = .ok (.iconst 0, 1) := by decide +kernel
theorem dX12_best_41 : decode cX12_best 41 = .ok (.istore 4, 2) := by decide +kernel
theorem dX12_best_43 : decode cX12_best 43 = .ok (.iload_n 1, 1) := by decide +kernel
theorem dX12_best_44 : decode cX12_best 44 = .ok (.iconst 1, 1) := by decide +kernel
theorem dX12_best_45 : decode cX12_best 45 = .ok (.if_icmp .ne 8, 3) := by decide +kernel
theorem dX12_best_48 : decode cX12_best 48 = .ok (.bipush 10, 2) := by decide +kernel
theorem dX12_best_50 : decode cX12_best 50 = .ok (.goto 16, 3) := by decide +kernel
theorem dX12_best_53 : decode cX12_best 53 = .ok (.iload_n 1, 1) := by decide +kernel
theorem dX12_best_54 : decode cX12_best 54 = .ok (.iconst 2, 1) := by decide +kernel
theorem dX12_best_55 : decode cX12_best 55 = .ok (.if_icmp .ne 8, 3) := by decide +kernel
theorem dX12_best_58 : decode cX12_best 58 = .ok (.bipush 100, 2) := by decide +kernel
theorem dX12_best_60 : decode cX12_best 60 = .ok (.goto 6, 3) := by decide +kernel
theorem dX12_best_63 : decode cX12_best 63 = .ok (.sipush 1000, 3) := by decide +kernel
theorem dX12_best_66 : decode cX12_best 66 = .ok (.istore 5, 2) := by decide +kernel
theorem dX12_best_68 : decode cX12_best 68 = .ok (.iconst 0, 1) := by decide +kernel
theorem dX12_best_69 : decode cX12_best 69 = .ok (.istore 6, 2) := by decide +kernel
theorem dX12_best_71 : decode cX12_best 71 = .ok (.iload 6, 2) := by decide +kernel
theorem dX12_best_73 : decode cX12_best 73 = .ok (.iload 5, 2) := by decide +kernel
theorem dX12_best_75 : decode cX12_best 75 = .ok (.if_icmp .ge 148, 3) := by decide +kernel
theorem dX12_best_78 : decode cX12_best 78 = .ok (.aload_n 0, 1) := by decide +kernel
theorem dX12_best_79 : decode cX12_best 79 = .ok (.getfield 61, 3) := by decide +kernel
theorem dX12_best_82 : decode cX12_best 82 = .ok (.aload_n 0, 1) := by decide +kernel
theorem dX12_best_83 : decode cX12_best 83 = .ok (.getfield 64, 3) := by decide +kernel
theorem dX12_best_86 : decode cX12_best 86 = .ok (.invokestatic 409, 3) := by decide +kernel
theorem dX12_best_89 : decode cX12_best 89 = .ok (.iconst 1, 1) := by decide +kernel
theorem dX12_best_90 : decode cX12_best 90 = .ok (.istore 7, 2) := by decide +kernel
theorem dX12_best_92 : decode cX12_best 92 = .ok (.iload 5, 2) := by decide +kernel
theorem dX12_best_94 : decode cX12_best 94 = .ok (.bipush 10, 2) := by decide +kernel
theorem dX12_best_96 : decode cX12_best 96 = .ok (.idiv, 1) := by decide +kernel
theorem dX12_best_97 : decode cX12_best 97 = .ok (.istore 8, 2) := by decide +kernel
theorem dX12_best_99 : decode cX12_best 99 = .ok (.iconst 0, 1) := by decide +kernel
theorem dX12_best_100 : decode cX12_best 100 = .ok (.istore 9, 2) := by decide +kernel
theorem dX12_best_102 : decode cX12_best 102 = .ok (.iload 9, 2) := by decide +kernel
theorem dX12_best_104 : decode cX12_best 104 = .ok (.iload_n 1, 1) := by decide +kernel
theorem dX12_best_105 : decode cX12_best 105 = .ok (.iconst 3, 1) := by decide +kernel
theorem dX12_best_106 : decode cX12_best 106 = .ok (.iadd, 1) := by decide +kernel
theorem dX12_best_107 : decode cX12_best 107 = .ok (.if_icmp .ge 71, 3) := by decide +kernel
theorem dX12_best_110 : decode cX12_best 110 = .ok (.iload 7, 2) := by decide +kernel
theorem dX12_best_112 : decode cX12_best 112 = .ok (.ifCond .eq 66, 3) := by decide +kernel
theorem dX12_best_115 : decode cX12_best 115 = .ok (.iload 9, 2) := by decide +kernel
theorem dX12_best_117 : decode cX12_best 117 = .ok (.iload_n 1, 1) := by decide +kernel
theorem dX12_best_118 : decode cX12_best 118 = .ok (.if_icmp .ge 39, 3) := by decide +kernel
theorem dX12_best_121 : decode cX12_best 121 = .ok (.iload 6, 2) := by decide +kernel
theorem dX12_best_123 : decode cX12_best 123 = .ok (.iload 8, 2) := by decide +kernel
theorem dX12_best_125 : decode cX12_best 125 = .ok (.idiv, 1) := by decide +kernel
theorem dX12_best_126 : decode cX12_best 126 = .ok (.bipush 10, 2) := by decide +kernel
theorem dX12_best_128 : decode cX12_best 128 = .ok (.irem, 1) := by decide +kernel
theorem dX12_best_129 : decode cX12_best 129 = .ok (.istore 10, 2) := by decide +kernel
theorem dX12_best_131 : decode cX12_best 131 = .ok (.iload 8, 2) := by decide +kernel
theorem dX12_best_133 : decode cX12_best 133 = .ok (.bipush 10, 2) := by decide +kernel
theorem dX12_best_135 : decode cX12_best 135 = .ok (.idiv, 1) := by decide +kernel
theorem dX12_best_136 : decode cX12_best 136 = .ok (.istore 8, 2) := by decide +kernel
theorem dX12_best_138 : decode cX12_best 138 = .ok (.aload_n 0, 1) := by decide +kernel
theorem dX12_best_139 : decode cX12_best 139 = .ok (.iload 10, 2) := by decide +kernel
theorem dX12_best_141 : decode cX12_best 141 = .ok (.invokevirtual 357, 3) := by decide +kernel
theorem dX12_best_144 : decode cX12_best 144 = .ok (.istore 7, 2) := by decide +kernel
theorem dX12_best_146 : decode cX12_best 146 = .ok (.aload_n 0, 1) := by decide +kernel
theorem dX12_best_147 : decode cX12_best 147 = .ok (.getfield 64, 3) := by decide +kernel
theorem dX12_best_150 : decode cX12_best 150 = .ok (.bipush 34, 2) := by decide +kernel
theorem dX12_best_152 : decode cX12_best 152 = .ok (.iload 10, 2) := by decide +kernel
theorem dX12_best_154 : decode cX12_best 154 = .ok (.iconst 1, 1) := by decide +kernel
theorem dX12_best_155 : decode cX12_best 155 = .ok (.iadd, 1) := by decide +kernel
theorem dX12_best_156 : decode cX12_best 156 = .ok (.iastore, 1) := by decide +kernel
theorem dX12_best_157 : decode cX12_best 157 = .ok (.iload 7, 2) := by decide +kernel
theorem dX12_best_159 : decode cX12_best 159 = .ok (.ifCond .eq 13, 3) := by decide +kernel
theorem dX12_best_162 : decode cX12_best 162 = .ok (.aload_n 0, 1) := by decide +kernel
theorem dX12_best_163 : decode cX12_best 163 = .ok (.aload_n 0, 1) := by decide +kernel
theorem dX12_best_164 : decode cX12_best 164 = .ok (.getfield 64, 3) := by decide +kernel
theorem dX12_best_167 : decode cX12_best 167 = .ok (.invokevirtual 370, 3) := by decide +kernel
theorem dX12_best_170 : decode cX12_best 170 = .ok (.istore 10, 2) := by decide +kernel
theorem dX12_best_172 : decode cX12_best 172 = .ok (.iinc 9 1, 3) := by decide +kernel
theorem dX12_best_175 : decode cX12_best 175 = .ok (.goto (-73), 3) := by decide +kernel
theorem dX12_best_178 : decode cX12_best 178 = .ok (.iload 7, 2) := by decide +kernel
theorem dX12_best_180 : decode cX12_best 180 = .ok (.ifCond .eq 37, 3) := by decide +kernel
theorem dX12_best_183 : decode cX12_best 183 = .ok (.iload_n 3, 1) := by decide +kernel
theorem dX12_best_184 : decode cX12_best 184 = .ok (.iconst (-1), 1) := by decide +kernel
theorem dX12_best_185 : decode cX12_best 185 = .ok (.if_icmp .eq 19, 3) := by decide +kernel
theorem dX12_best_188 : decode cX12_best 188 = .ok (.aload_n 0, 1) := by decide +kernel
theorem dX12_best_189 : decode cX12_best 189 = .ok (.aload_n 0, 1) := by decide +kernel
theorem dX12_best_190 : decode cX12_best 190 = .ok (.getfield 64, 3) := by decide +kernel
theorem dX12_best_193 : decode cX12_best 193 = .ok (.invokevirtual 354, 3) := by decide +kernel
theorem dX12_best_196 : decode cX12_best 196 = .ok (.iload 4, 2) := by decide +kernel
theorem dX12_best_198 : decode cX12_best 198 = .ok (.if_icmp .gt 6, 3) := by decide +kernel
theorem dX12_best_201 : decode cX12_best 201 = .ok (.goto 16, 3) := by decide +kernel
theorem dX12_best_204 : decode cX12_best 204 = .ok (.iload 6, 2) := by decide +kernel
theorem dX12_best_206 : decode cX12_best 206 = .ok (.istore_n 3, 1) := by decide +kernel
theorem dX12_best_207 : decode cX12_best 207 = .ok (.aload_n 0, 1) := by decide +kernel
theorem dX12_best_208 : decode cX12_best 208 = .ok (.aload_n 0, 1) := by decide +kernel
theorem dX12_best_209 : decode cX12_best 209 = .ok (.getfield 64, 3) := by decide +kernel
theorem dX12_best_212 : decode cX12_best 212 = .ok (.invokevirtual 354, 3) := by decide +kernel
theorem dX12_best_215 : decode cX12_best 215 = .ok (.istore 4, 2) := by decide +kernel
theorem dX12_best_217 : decode cX12_best 217 = .ok (.iinc 6 1, 3) := by decide +kernel
theorem dX12_best_220 : decode cX12_best 220 = .ok (.goto (-149), 3) := by decide +kernel
theorem dX12_best_223 : decode cX12_best 223 = .ok (.iload_n 2, 1) := by decide +kernel
theorem dX12_best_224 : decode cX12_best 224 = .ok (.ifCond .ne 7, 3) := by decide +kernel
theorem dX12_best_227 : decode cX12_best 227 = .ok (.iload_n 3, 1) := by decide +kernel
theorem dX12_best_228 : decode cX12_best 228 = .ok (.goto 5, 3) := by decide +kernel
theorem dX12_best_231 : decode cX12_best 231 = .ok (.iload 4, 2) := by decide +kernel
theorem dX12_best_233 : decode cX12_best 233 = .ok (.ireturn, 1) := by decide +kernel
theorem dX12_madeUp_0 : decode cX12_madeUp 0 = .ok (.aload_n 0, 1) := by decide +kernel
theorem dX12_madeUp_1 : decode cX12_madeUp 1 = .ok (.iconst 0, 1) := by decide +kernel
theorem dX12_madeUp_2 : decode cX12_madeUp 2 = .ok (.putfield 92, 3) := by decide +kernel
theorem dX12_madeUp_5 : decode cX12_madeUp 5 = .ok (.aload_n 0, 1) := by decide +kernel
theorem dX12_madeUp_6 : decode cX12_madeUp 6 = .ok (.getfield 287, 3) := by decide +kernel
theorem dX12_madeUp_9 : decode cX12_madeUp 9 = .ok (.ifCond .eq 15, 3) := by decide +kernel
theorem dX12_madeUp_12 : decode cX12_madeUp 12 = .ok (.iload_n 1, 1) := by decide +kernel
theorem dX12_madeUp_13 : decode cX12_madeUp 13 = .ok (.i2l, 1) := by decide +kernel
theorem dX12_madeUp_14 : decode cX12_madeUp 14 = .ok (.lconst 0, 1) := by decide +kernel
theorem dX12_madeUp_15 : decode cX12_madeUp 15 = .ok (.ldc2_w 420, 3) := by decide +kernel
theorem dX12_madeUp_18 : decode cX12_madeUp 18 = .ok (.invokestatic 213, 3) := by decide +kernel
theorem dX12_madeUp_21 : decode cX12_madeUp 21 = .ok (.ifCond .ne 5, 3) := by decide +kernel
theorem dX12_madeUp_24 : decode cX12_madeUp 24 = .ok (.iconst (-1), 1) := by decide +kernel
theorem dX12_madeUp_25 : decode cX12_madeUp 25 = .ok (.ireturn, 1) := by decide +kernel
theorem dX12_madeUp_26 : decode cX12_madeUp 26 = .ok (.iconst 0, 1) := by decide +kernel
theorem dX12_madeUp_27 : decode cX12_madeUp 27 = .ok (.istore_n 2, 1) := by decide +kernel
theorem dX12_madeUp_28 : decode cX12_madeUp 28 = .ok (.iload_n 2, 1) := by decide +kernel
theorem dX12_madeUp_29 : decode cX12_madeUp 29 = .ok (.aload_n 0, 1) := by decide +kernel
theorem dX12_madeUp_30 : decode cX12_madeUp 30 = .ok (.getfield 61, 3) := by decide +kernel
theorem dX12_madeUp_33 : decode cX12_madeUp 33 = .ok (.bipush 32, 2) := by decide +kernel
theorem dX12_madeUp_35 : decode cX12_madeUp 35 = .ok (.iaload, 1) := by decide +kernel
theorem dX12_madeUp_36 : decode cX12_madeUp 36 = .ok (.if_icmp .gt 57, 3) := by decide +kernel
theorem dX12_madeUp_39 : decode cX12_madeUp 39 = .ok (.aload_n 0, 1) := by decide +kernel
theorem dX12_madeUp_40 : decode cX12_madeUp 40 = .ok (.getfield 61, 3) := by decide +kernel
theorem dX12_madeUp_43 : decode cX12_madeUp 43 = .ok (.aload_n 0, 1) := by decide +kernel
theorem dX12_madeUp_44 : decode cX12_madeUp 44 = .ok (.getfield 64, 3) := by decide +kernel
theorem dX12_madeUp_47 : decode cX12_madeUp 47 = .ok (.invokestatic 409, 3) := by decide +kernel
theorem dX12_madeUp_50 : decode cX12_madeUp 50 = .ok (.aload_n 0, 1) := by decide +kernel
theorem dX12_madeUp_51 : decode cX12_madeUp 51 = .ok (.getfield 64, 3) := by decide +kernel
theorem dX12_madeUp_54 : decode cX12_madeUp 54 = .ok (.bipush 32, 2) := by decide +kernel
theorem dX12_madeUp_56 : decode cX12_madeUp 56 = .ok (.dup2, 1) := by decide +kernel
theorem dX12_madeUp_57 : decode cX12_madeUp 57 = .ok (.iaload, 1) := by decide +kernel
theorem dX12_madeUp_58 : decode cX12_madeUp 58 = .ok (.iload_n 2, 1) := by decide +kernel
theorem dX12_madeUp_59 : decode cX12_madeUp 59 = .ok (.isub, 1) := by decide +kernel
theorem dX12_madeUp_60 : decode cX12_madeUp 60 = .ok (.iastore, 1) := by decide +kernel
theorem dX12_madeUp_61 : decode cX12_madeUp 61 = .ok (.aload_n 0, 1) := by decide +kernel
theorem dX12_madeUp_62 : decode cX12_madeUp 62 = .ok (.aload_n 0, 1) := by decide +kernel
theorem dX12_madeUp_63 : decode cX12_madeUp 63 = .ok (.getfield 64, 3) := by decide +kernel
theorem dX12_madeUp_66 : decode cX12_madeUp 66 = .ok (.invokevirtual 341, 3) := by decide +kernel
theorem dX12_madeUp_69 : decode cX12_madeUp 69 = .ok (.aload_n 0, 1) := by decide +kernel
theorem dX12_madeUp_70 : decode cX12_madeUp 70 = .ok (.getfield 313, 3) := by decide +kernel
theorem dX12_madeUp_73 : decode cX12_madeUp 73 = .ok (.iconst (-1), 1) := by decide +kernel
theorem dX12_madeUp_74 : decode cX12_madeUp 74 = .ok (.if_icmp .eq 13, 3) := by decide +kernel
theorem dX12_madeUp_77 : decode cX12_madeUp 77 = .ok (.aload_n 0, 1) := by decide +kernel
theorem dX12_madeUp_78 : decode cX12_madeUp 78 = .ok (.getfield 319, 3) := by decide +kernel
theorem dX12_madeUp_81 : decode cX12_madeUp 81 = .ok (.iload_n 1, 1) := by decide +kernel
theorem dX12_madeUp_82 : decode cX12_madeUp 82 = .ok (.if_icmp .lt 5, 3) := by decide +kernel
theorem dX12_madeUp_85 : decode cX12_madeUp 85 = .ok (.iload_n 2, 1) := by decide +kernel
theorem dX12_madeUp_86 : decode cX12_madeUp 86 = .ok (.ireturn, 1) := by decide +kernel
theorem dX12_madeUp_87 : decode cX12_madeUp 87 = .ok (.iinc 2 1, 3) := by decide +kernel
theorem dX12_madeUp_90 : decode cX12_madeUp 90 = .ok (.goto (-62), 3) := by decide +kernel
theorem dX12_madeUp_93 : decode cX12_madeUp 93 = .ok (.iconst (-1), 1) := by decide +kernel
theorem dX12_madeUp_94 : decode cX12_madeUp 94 = .ok (.ireturn, 1) := by decide +kernel
theorem dX12_seen_0 : decode cX12_seen 0 = .ok (.aload_n 0, 1) := by decide +kernel
theorem dX12_seen_1 : decode cX12_seen 1 = .ok (.iconst 0, 1) := by decide +kernel
theorem dX12_seen_2 : decode cX12_seen 2 = .ok (.putfield 92, 3) := by decide +kernel
theorem dX12_seen_5 : decode cX12_seen 5 = .ok (.aload_n 0, 1) := by decide +kernel
theorem dX12_seen_6 : decode cX12_seen 6 = .ok (.iload_n 1, 1) := by decide +kernel
theorem dX12_seen_7 : decode cX12_seen 7 = .ok (.invokevirtual 360, 3) := by decide +kernel
theorem dX12_seen_10 : decode cX12_seen 10 = .ok (.ifCond .eq 47, 3) := by decide +kernel
theorem dX12_seen_13 : decode cX12_seen 13 = .ok (.aload_n 0, 1) := by decide +kernel
theorem dX12_seen_14 : decode cX12_seen 14 = .ok (.iload_n 2, 1) := by decide +kernel
theorem dX12_seen_15 : decode cX12_seen 15 = .ok (.invokevirtual 357, 3) := by decide +kernel
theorem dX12_seen_18 : decode cX12_seen 18 = .ok (.ifCond .eq 39, 3) := by decide +kernel
theorem dX12_seen_21 : decode cX12_seen 21 = .ok (.iload_n 3, 1) := by decide +kernel
theorem dX12_seen_22 : decode cX12_seen 22 = .ok (.i2l, 1) := by decide +kernel
theorem dX12_seen_23 : decode cX12_seen 23 = .ok (.lconst 0, 1) := by decide +kernel
theorem dX12_seen_24 : decode cX12_seen 24 = .ok (.ldc2_w 420, 3) := by decide +kernel
theorem dX12_seen_27 : decode cX12_seen 27 = .ok (.invokestatic 213, 3) := by decide +kernel
theorem dX12_seen_30 : decode cX12_seen 30 = .ok (.ifCond .eq 27, 3) := by decide +kernel
theorem dX12_seen_33 : decode cX12_seen 33 = .ok (.iload 4, 2) := by decide +kernel
theorem dX12_seen_35 : decode cX12_seen 35 = .ok (.i2l, 1) := by decide +kernel
theorem dX12_seen_36 : decode cX12_seen 36 = .ok (.ldc2_w 428, 3) := by decide +kernel
theorem dX12_seen_39 : decode cX12_seen 39 = .ok (.ldc2_w 420, 3) := by decide +kernel
theorem dX12_seen_42 : decode cX12_seen 42 = .ok (.invokestatic 213, 3) := by decide +kernel
theorem dX12_seen_45 : decode cX12_seen 45 = .ok (.ifCond .eq 12, 3) := by decide +kernel
theorem dX12_seen_48 : decode cX12_seen 48 = .ok (.aload_n 0, 1) := by decide +kernel
theorem dX12_seen_49 : decode cX12_seen 49 = .ok (.getfield 290, 3) := by decide +kernel
theorem dX12_seen_52 : decode cX12_seen 52 = .ok (.bipush 10, 2) := by decide +kernel
theorem dX12_seen_54 : decode cX12_seen 54 = .ok (.if_icmp .ne 5, 3) := by decide +kernel
theorem dX12_seen_57 : decode cX12_seen 57 = .ok (.iconst (-1), 1) := by decide +kernel
theorem dX12_seen_58 : decode cX12_seen 58 = .ok (.ireturn, 1) := by decide +kernel
theorem dX12_seen_59 : decode cX12_seen 59 = .ok (.iconst 5, 1) := by decide +kernel
theorem dX12_seen_60 : decode cX12_seen 60 = .ok (.aload_n 0, 1) := by decide +kernel
theorem dX12_seen_61 : decode cX12_seen 61 = .ok (.getfield 290, 3) := by decide +kernel
theorem dX12_seen_64 : decode cX12_seen 64 = .ok (.imul, 1) := by decide +kernel
theorem dX12_seen_65 : decode cX12_seen 65 = .ok (.istore 6, 2) := by decide +kernel
theorem dX12_seen_67 : decode cX12_seen 67 = .ok (.aload_n 0, 1) := by decide +kernel
theorem dX12_seen_68 : decode cX12_seen 68 = .ok (.getfield 80, 3) := by decide +kernel
theorem dX12_seen_71 : decode cX12_seen 71 = .ok (.iload 6, 2) := by decide +kernel
theorem dX12_seen_73 : decode cX12_seen 73 = .ok (.iload_n 1, 1) := by decide +kernel
theorem dX12_seen_74 : decode cX12_seen 74 = .ok (.iastore, 1) := by decide +kernel
theorem dX12_seen_75 : decode cX12_seen 75 = .ok (.aload_n 0, 1) := by decide +kernel
theorem dX12_seen_76 : decode cX12_seen 76 = .ok (.getfield 80, 3) := by decide +kernel
theorem dX12_seen_79 : decode cX12_seen 79 = .ok (.iload 6, 2) := by decide +kernel
theorem dX12_seen_81 : decode cX12_seen 81 = .ok (.iconst 1, 1) := by decide +kernel
theorem dX12_seen_82 : decode cX12_seen 82 = .ok (.iadd, 1) := by decide +kernel
theorem dX12_seen_83 : decode cX12_seen 83 = .ok (.iload_n 2, 1) := by decide +kernel
theorem dX12_seen_84 : decode cX12_seen 84 = .ok (.iastore, 1) := by decide +kernel
theorem dX12_seen_85 : decode cX12_seen 85 = .ok (.aload_n 0, 1) := by decide +kernel
theorem dX12_seen_86 : decode cX12_seen 86 = .ok (.getfield 80, 3) := by decide +kernel
theorem dX12_seen_89 : decode cX12_seen 89 = .ok (.iload 6, 2) := by decide +kernel
theorem dX12_seen_91 : decode cX12_seen 91 = .ok (.iconst 2, 1) := by decide +kernel
theorem dX12_seen_92 : decode cX12_seen 92 = .ok (.iadd, 1) := by decide +kernel
theorem dX12_seen_93 : decode cX12_seen 93 = .ok (.iload_n 3, 1) := by decide +kernel
theorem dX12_seen_94 : decode cX12_seen 94 = .ok (.iastore, 1) := by decide +kernel
theorem dX12_seen_95 : decode cX12_seen 95 = .ok (.aload_n 0, 1) := by decide +kernel
theorem dX12_seen_96 : decode cX12_seen 96 = .ok (.getfield 80, 3) := by decide +kernel
theorem dX12_seen_99 : decode cX12_seen 99 = .ok (.iload 6, 2) := by decide +kernel
theorem dX12_seen_101 : decode cX12_seen 101 = .ok (.iconst 3, 1) := by decide +kernel
theorem dX12_seen_102 : decode cX12_seen 102 = .ok (.iadd, 1) := by decide +kernel
theorem dX12_seen_103 : decode cX12_seen 103 = .ok (.iload 4, 2) := by decide +kernel
theorem dX12_seen_105 : decode cX12_seen 105 = .ok (.iastore, 1) := by decide +kernel
theorem dX12_seen_106 : decode cX12_seen 106 = .ok (.aload_n 0, 1) := by decide +kernel
theorem dX12_seen_107 : decode cX12_seen 107 = .ok (.getfield 80, 3) := by decide +kernel
theorem dX12_seen_110 : decode cX12_seen 110 = .ok (.iload 6, 2) := by decide +kernel
theorem dX12_seen_112 : decode cX12_seen 112 = .ok (.iconst 4, 1) := by decide +kernel
theorem dX12_seen_113 : decode cX12_seen 113 = .ok (.iadd, 1) := by decide +kernel
theorem dX12_seen_114 : decode cX12_seen 114 = .ok (.iload 5, 2) := by decide +kernel
theorem dX12_seen_116 : decode cX12_seen 116 = .ok (.ifCond .eq 7, 3) := by decide +kernel
theorem dX12_seen_119 : decode cX12_seen 119 = .ok (.iconst 1, 1) := by decide +kernel
theorem dX12_seen_120 : decode cX12_seen 120 = .ok (.goto 4, 3) := by decide +kernel
theorem dX12_seen_123 : decode cX12_seen 123 = .ok (.iconst 0, 1) := by decide +kernel
theorem dX12_seen_124 : decode cX12_seen 124 = .ok (.iastore, 1) := by decide +kernel
theorem dX12_seen_125 : decode cX12_seen 125 = .ok (.aload_n 0, 1) := by decide +kernel
theorem dX12_seen_126 : decode cX12_seen 126 = .ok (.dup, 1) := by decide +kernel
theorem dX12_seen_127 : decode cX12_seen 127 = .ok (.getfield 290, 3) := by decide +kernel
theorem dX12_seen_130 : decode cX12_seen 130 = .ok (.iconst 1, 1) := by decide +kernel
theorem dX12_seen_131 : decode cX12_seen 131 = .ok (.iadd, 1) := by decide +kernel
theorem dX12_seen_132 : decode cX12_seen 132 = .ok (.putfield 290, 3) := by decide +kernel
theorem dX12_seen_135 : decode cX12_seen 135 = .ok (.aload_n 0, 1) := by decide +kernel
theorem dX12_seen_136 : decode cX12_seen 136 = .ok (.getfield 290, 3) := by decide +kernel
theorem dX12_seen_139 : decode cX12_seen 139 = .ok (.ireturn, 1) := by decide +kernel
theorem dX12_hasJoy_0 : decode cX12_hasJoy 0 = .ok (.aload_n 0, 1) := by decide +kernel
theorem dX12_hasJoy_1 : decode cX12_hasJoy 1 = .ok (.iload_n 1, 1) := by decide +kernel
theorem dX12_hasJoy_2 : decode cX12_hasJoy 2 = .ok (.iload 4, 2) := by decide +kernel
theorem dX12_hasJoy_4 : decode cX12_hasJoy 4 = .ok (.aload_n 0, 1) := by decide +kernel
theorem dX12_hasJoy_5 : decode cX12_hasJoy 5 = .ok (.iload_n 3, 1) := by decide +kernel
theorem dX12_hasJoy_6 : decode cX12_hasJoy 6 = .ok (.invokevirtual 344, 3) := by decide +kernel
theorem dX12_hasJoy_9 : decode cX12_hasJoy 9 = .ok (.iload_n 2, 1) := by decide +kernel
theorem dX12_hasJoy_10 : decode cX12_hasJoy 10 = .ok (.if_icmp .ne 7, 3) := by decide +kernel
theorem dX12_hasJoy_13 : decode cX12_hasJoy 13 = .ok (.iconst 1, 1) := by decide +kernel
theorem dX12_hasJoy_14 : decode cX12_hasJoy 14 = .ok (.goto 4, 3) := by decide +kernel
theorem dX12_hasJoy_17 : decode cX12_hasJoy 17 = .ok (.iconst 0, 1) := by decide +kernel
theorem dX12_hasJoy_18 : decode cX12_hasJoy 18 = .ok (.iconst 1, 1) := by decide +kernel
theorem dX12_hasJoy_19 : decode cX12_hasJoy 19 = .ok (.iconst 0, 1) := by decide +kernel
theorem dX12_hasJoy_20 : decode cX12_hasJoy 20 = .ok (.iconst 0, 1) := by decide +kernel
theorem dX12_hasJoy_21 : decode cX12_hasJoy 21 = .ok (.invokevirtual 347, 3) := by decide +kernel
theorem dX12_hasJoy_24 : decode cX12_hasJoy 24 = .ok (.iload 5, 2) := by decide +kernel
theorem dX12_hasJoy_26 : decode cX12_hasJoy 26 = .ok (.if_icmp .lt 7, 3) := by decide +kernel
theorem dX12_hasJoy_29 : decode cX12_hasJoy 29 = .ok (.iconst 1, 1) := by decide +kernel
theorem dX12_hasJoy_30 : decode cX12_hasJoy 30 = .ok (.goto 4, 3) := by decide +kernel
theorem dX12_hasJoy_33 : decode cX12_hasJoy 33 = .ok (.iconst 0, 1) := by decide +kernel
theorem dX12_hasJoy_34 : decode cX12_hasJoy 34 = .ok (.ireturn, 1) := by decide +kernel
theorem dX12_liked_0 : decode cX12_liked 0 = .ok (.iconst 0, 1) := by decide +kernel
theorem dX12_liked_1 : decode cX12_liked 1 = .ok (.istore_n 2, 1) := by decide +kernel
theorem dX12_liked_2 : decode cX12_liked 2 = .ok (.iconst 0, 1) := by decide +kernel
theorem dX12_liked_3 : decode cX12_liked 3 = .ok (.istore_n 3, 1) := by decide +kernel
theorem dX12_liked_4 : decode cX12_liked 4 = .ok (.iload_n 3, 1) := by decide +kernel
theorem dX12_liked_5 : decode cX12_liked 5 = .ok (.iconst 4, 1) := by decide +kernel
theorem dX12_liked_6 : decode cX12_liked 6 = .ok (.if_icmp .ge 132, 3) := by decide +kernel
theorem dX12_liked_9 : decode cX12_liked 9 = .ok (.iconst 1, 1) := by decide +kernel
theorem dX12_liked_10 : decode cX12_liked 10 = .ok (.istore 4, 2) := by decide +kernel
theorem dX12_liked_12 : decode cX12_liked 12 = .ok (.iconst 0, 1) := by decide +kernel
theorem dX12_liked_13 : decode cX12_liked 13 = .ok (.istore 5, 2) := by decide +kernel
theorem dX12_liked_15 : decode cX12_liked 15 = .ok (.iload 5, 2) := by decide +kernel
theorem dX12_liked_17 : decode cX12_liked 17 = .ok (.aload_n 0, 1) := by decide +kernel
theorem dX12_liked_18 : decode cX12_liked 18 = .ok (.getfield 290, 3) := by decide +kernel
theorem dX12_liked_21 : decode cX12_liked 21 = .ok (.if_icmp .ge 96, 3) := by decide +kernel
theorem dX12_liked_24 : decode cX12_liked 24 = .ok (.iload 4, 2) := by decide +kernel
theorem dX12_liked_26 : decode cX12_liked 26 = .ok (.ifCond .eq 91, 3) := by decide +kernel
theorem dX12_liked_29 : decode cX12_liked 29 = .ok (.aload_n 0, 1) := by decide +kernel
theorem dX12_liked_30 : decode cX12_liked 30 = .ok (.getfield 80, 3) := by decide +kernel
theorem dX12_liked_33 : decode cX12_liked 33 = .ok (.iconst 5, 1) := by decide +kernel
theorem dX12_liked_34 : decode cX12_liked 34 = .ok (.iload 5, 2) := by decide +kernel
theorem dX12_liked_36 : decode cX12_liked 36 = .ok (.imul, 1) := by decide +kernel
theorem dX12_liked_37 : decode cX12_liked 37 = .ok (.iaload, 1) := by decide +kernel
theorem dX12_liked_38 : decode cX12_liked 38 = .ok (.iload_n 1, 1) := by decide +kernel
theorem dX12_liked_39 : decode cX12_liked 39 = .ok (.if_icmp .ne 72, 3) := by decide +kernel
theorem dX12_liked_42 : decode cX12_liked 42 = .ok (.aload_n 0, 1) := by decide +kernel
theorem dX12_liked_43 : decode cX12_liked 43 = .ok (.iload_n 1, 1) := by decide +kernel
theorem dX12_liked_44 : decode cX12_liked 44 = .ok (.iload_n 3, 1) := by decide +kernel
theorem dX12_liked_45 : decode cX12_liked 45 = .ok (.aload_n 0, 1) := by decide +kernel
theorem dX12_liked_46 : decode cX12_liked 46 = .ok (.getfield 80, 3) := by decide +kernel
theorem dX12_liked_49 : decode cX12_liked 49 = .ok (.iconst 5, 1) := by decide +kernel
theorem dX12_liked_50 : decode cX12_liked 50 = .ok (.iload 5, 2) := by decide +kernel
theorem dX12_liked_52 : decode cX12_liked 52 = .ok (.imul, 1) := by decide +kernel
theorem dX12_liked_53 : decode cX12_liked 53 = .ok (.iconst 1, 1) := by decide +kernel
theorem dX12_liked_54 : decode cX12_liked 54 = .ok (.iadd, 1) := by decide +kernel
theorem dX12_liked_55 : decode cX12_liked 55 = .ok (.iaload, 1) := by decide +kernel
theorem dX12_liked_56 : decode cX12_liked 56 = .ok (.aload_n 0, 1) := by decide +kernel
theorem dX12_liked_57 : decode cX12_liked 57 = .ok (.getfield 80, 3) := by decide +kernel
theorem dX12_liked_60 : decode cX12_liked 60 = .ok (.iconst 5, 1) := by decide +kernel
theorem dX12_liked_61 : decode cX12_liked 61 = .ok (.iload 5, 2) := by decide +kernel
theorem dX12_liked_63 : decode cX12_liked 63 = .ok (.imul, 1) := by decide +kernel
theorem dX12_liked_64 : decode cX12_liked 64 = .ok (.iconst 2, 1) := by decide +kernel
theorem dX12_liked_65 : decode cX12_liked 65 = .ok (.iadd, 1) := by decide +kernel
theorem dX12_liked_66 : decode cX12_liked 66 = .ok (.iaload, 1) := by decide +kernel
theorem dX12_liked_67 : decode cX12_liked 67 = .ok (.aload_n 0, 1) := by decide +kernel
theorem dX12_liked_68 : decode cX12_liked 68 = .ok (.getfield 80, 3) := by decide +kernel
theorem dX12_liked_71 : decode cX12_liked 71 = .ok (.iconst 5, 1) := by decide +kernel
theorem dX12_liked_72 : decode cX12_liked 72 = .ok (.iload 5, 2) := by decide +kernel
theorem dX12_liked_74 : decode cX12_liked 74 = .ok (.imul, 1) := by decide +kernel
theorem dX12_liked_75 : decode cX12_liked 75 = .ok (.iconst 3, 1) := by decide +kernel
theorem dX12_liked_76 : decode cX12_liked 76 = .ok (.iadd, 1) := by decide +kernel
theorem dX12_liked_77 : decode cX12_liked 77 = .ok (.iaload, 1) := by decide +kernel
theorem dX12_liked_78 : decode cX12_liked 78 = .ok (.invokevirtual 430, 3) := by decide +kernel
theorem dX12_liked_81 : decode cX12_liked 81 = .ok (.aload_n 0, 1) := by decide +kernel
theorem dX12_liked_82 : decode cX12_liked 82 = .ok (.getfield 80, 3) := by decide +kernel
theorem dX12_liked_85 : decode cX12_liked 85 = .ok (.iconst 5, 1) := by decide +kernel
theorem dX12_liked_86 : decode cX12_liked 86 = .ok (.iload 5, 2) := by decide +kernel
theorem dX12_liked_88 : decode cX12_liked 88 = .ok (.imul, 1) := by decide +kernel
theorem dX12_liked_89 : decode cX12_liked 89 = .ok (.iconst 4, 1) := by decide +kernel
theorem dX12_liked_90 : decode cX12_liked 90 = .ok (.iadd, 1) := by decide +kernel
theorem dX12_liked_91 : decode cX12_liked 91 = .ok (.iaload, 1) := by decide +kernel
theorem dX12_liked_92 : decode cX12_liked 92 = .ok (.iconst 1, 1) := by decide +kernel
theorem dX12_liked_93 : decode cX12_liked 93 = .ok (.if_icmp .ne 7, 3) := by decide +kernel
theorem dX12_liked_96 : decode cX12_liked 96 = .ok (.iconst 1, 1) := by decide +kernel
theorem dX12_liked_97 : decode cX12_liked 97 = .ok (.goto 4, 3) := by decide +kernel
theorem dX12_liked_100 : decode cX12_liked 100 = .ok (.iconst 0, 1) := by decide +kernel
theorem dX12_liked_101 : decode cX12_liked 101 = .ok (.if_icmp .ne 7, 3) := by decide +kernel
theorem dX12_liked_104 : decode cX12_liked 104 = .ok (.iconst 1, 1) := by decide +kernel
theorem dX12_liked_105 : decode cX12_liked 105 = .ok (.goto 4, 3) := by decide +kernel
theorem dX12_liked_108 : decode cX12_liked 108 = .ok (.iconst 0, 1) := by decide +kernel
theorem dX12_liked_109 : decode cX12_liked 109 = .ok (.istore 4, 2) := by decide +kernel
theorem dX12_liked_111 : decode cX12_liked 111 = .ok (.iinc 5 1, 3) := by decide +kernel
theorem dX12_liked_114 : decode cX12_liked 114 = .ok (.goto (-99), 3) := by decide +kernel
theorem dX12_liked_117 : decode cX12_liked 117 = .ok (.iload_n 2, 1) := by decide +kernel
theorem dX12_liked_118 : decode cX12_liked 118 = .ok (.iload 4, 2) := by decide +kernel
theorem dX12_liked_120 : decode cX12_liked 120 = .ok (.ifCond .eq 9, 3) := by decide +kernel
theorem dX12_liked_123 : decode cX12_liked 123 = .ok (.iconst 1, 1) := by decide +kernel
theorem dX12_liked_124 : decode cX12_liked 124 = .ok (.iload_n 3, 1) := by decide +kernel
theorem dX12_liked_125 : decode cX12_liked 125 = .ok (.ishl, 1) := by decide +kernel
theorem dX12_liked_126 : decode cX12_liked 126 = .ok (.goto 4, 3) := by decide +kernel
theorem dX12_liked_129 : decode cX12_liked 129 = .ok (.iconst 0, 1) := by decide +kernel
theorem dX12_liked_130 : decode cX12_liked 130 = .ok (.ior, 1) := by decide +kernel
theorem dX12_liked_131 : decode cX12_liked 131 = .ok (.istore_n 2, 1) := by decide +kernel
theorem dX12_liked_132 : decode cX12_liked 132 = .ok (.iinc 3 1, 3) := by decide +kernel
theorem dX12_liked_135 : decode cX12_liked 135 = .ok (.goto (-131), 3) := by decide +kernel
theorem dX12_liked_138 : decode cX12_liked 138 = .ok (.iload_n 2, 1) := by decide +kernel
theorem dX12_liked_139 : decode cX12_liked 139 = .ok (.ireturn, 1) := by decide +kernel
theorem dX12_likes_0 : decode cX12_likes 0 = .ok (.aload_n 0, 1) := by decide +kernel
theorem dX12_likes_1 : decode cX12_likes 1 = .ok (.iconst 0, 1) := by decide +kernel
theorem dX12_likes_2 : decode cX12_likes 2 = .ok (.putfield 92, 3) := by decide +kernel
theorem dX12_likes_5 : decode cX12_likes 5 = .ok (.aload_n 0, 1) := by decide +kernel
theorem dX12_likes_6 : decode cX12_likes 6 = .ok (.iload_n 1, 1) := by decide +kernel
theorem dX12_likes_7 : decode cX12_likes 7 = .ok (.invokevirtual 360, 3) := by decide +kernel
theorem dX12_likes_10 : decode cX12_likes 10 = .ok (.ifCond .eq 11, 3) := by decide +kernel
theorem dX12_likes_13 : decode cX12_likes 13 = .ok (.aload_n 0, 1) := by decide +kernel
theorem dX12_likes_14 : decode cX12_likes 14 = .ok (.iload_n 1, 1) := by decide +kernel
theorem dX12_likes_15 : decode cX12_likes 15 = .ok (.invokevirtual 434, 3) := by decide +kernel
theorem dX12_likes_18 : decode cX12_likes 18 = .ok (.goto 4, 3) := by decide +kernel
theorem dX12_likes_21 : decode cX12_likes 21 = .ok (.iconst (-1), 1) := by decide +kernel
theorem dX12_likes_22 : decode cX12_likes 22 = .ok (.ireturn, 1) := by decide +kernel
theorem dX12_probe_0 : decode cX12_probe 0 = .ok (.aload_n 0, 1) := by decide +kernel
theorem dX12_probe_1 : decode cX12_probe 1 = .ok (.iconst 0, 1) := by decide +kernel
theorem dX12_probe_2 : decode cX12_probe 2 = .ok (.putfield 92, 3) := by decide +kernel
theorem dX12_probe_5 : decode cX12_probe 5 = .ok (.aload_n 0, 1) := by decide +kernel
theorem dX12_probe_6 : decode cX12_probe 6 = .ok (.iload_n 1, 1) := by decide +kernel
theorem dX12_probe_7 : decode cX12_probe 7 = .ok (.invokevirtual 360, 3) := by decide +kernel
theorem dX12_probe_10 : decode cX12_probe 10 = .ok (.ifCond .eq 29, 3) := by decide +kernel
theorem dX12_probe_13 : decode cX12_probe 13 = .ok (.iload_n 2, 1) := by decide +kernel
theorem dX12_probe_14 : decode cX12_probe 14 = .ok (.i2l, 1) := by decide +kernel
theorem dX12_probe_15 : decode cX12_probe 15 = .ok (.lconst 0, 1) := by decide +kernel
theorem dX12_probe_16 : decode cX12_probe 16 = .ok (.ldc2_w 420, 3) := by decide +kernel
theorem dX12_probe_19 : decode cX12_probe 19 = .ok (.invokestatic 213, 3) := by decide +kernel
theorem dX12_probe_22 : decode cX12_probe 22 = .ok (.ifCond .eq 17, 3) := by decide +kernel
theorem dX12_probe_25 : decode cX12_probe 25 = .ok (.iload_n 3, 1) := by decide +kernel
theorem dX12_probe_26 : decode cX12_probe 26 = .ok (.i2l, 1) := by decide +kernel
theorem dX12_probe_27 : decode cX12_probe 27 = .ok (.ldc2_w 428, 3) := by decide +kernel
theorem dX12_probe_30 : decode cX12_probe 30 = .ok (.ldc2_w 420, 3) := by decide +kernel
theorem dX12_probe_33 : decode cX12_probe 33 = .ok (.invokestatic 213, 3) := by decide +kernel
theorem dX12_probe_36 : decode cX12_probe 36 = .ok (.ifCond .ne 5, 3) := by decide +kernel
theorem dX12_probe_39 : decode cX12_probe 39 = .ok (.iconst (-1), 1) := by decide +kernel
theorem dX12_probe_40 : decode cX12_probe 40 = .ok (.ireturn, 1) := by decide +kernel
theorem dX12_probe_41 : decode cX12_probe 41 = .ok (.aload_n 0, 1) := by decide +kernel
theorem dX12_probe_42 : decode cX12_probe 42 = .ok (.iload_n 1, 1) := by decide +kernel
theorem dX12_probe_43 : decode cX12_probe 43 = .ok (.invokevirtual 434, 3) := by decide +kernel
theorem dX12_probe_46 : decode cX12_probe 46 = .ok (.istore 4, 2) := by decide +kernel
theorem dX12_probe_48 : decode cX12_probe 48 = .ok (.iload 4, 2) := by decide +kernel
theorem dX12_probe_50 : decode cX12_probe 50 = .ok (.ifCond .ne 5, 3) := by decide +kernel
theorem dX12_probe_53 : decode cX12_probe 53 = .ok (.iconst (-1), 1) := by decide +kernel
theorem dX12_probe_54 : decode cX12_probe 54 = .ok (.ireturn, 1) := by decide +kernel
theorem dX12_probe_55 : decode cX12_probe 55 = .ok (.iconst (-1), 1) := by decide +kernel
theorem dX12_probe_56 : decode cX12_probe 56 = .ok (.istore 5, 2) := by decide +kernel
theorem dX12_probe_58 : decode cX12_probe 58 = .ok (.iconst 0, 1) := by decide +kernel
theorem dX12_probe_59 : decode cX12_probe 59 = .ok (.istore 6, 2) := by decide +kernel
theorem dX12_probe_61 : decode cX12_probe 61 = .ok (.iconst 0, 1) := by decide +kernel
theorem dX12_probe_62 : decode cX12_probe 62 = .ok (.istore 7, 2) := by decide +kernel
theorem dX12_probe_64 : decode cX12_probe 64 = .ok (.iload 7, 2) := by decide +kernel
theorem dX12_probe_66 : decode cX12_probe 66 = .ok (.aload_n 0, 1) := by decide +kernel
theorem dX12_probe_67 : decode cX12_probe 67 = .ok (.getfield 284, 3) := by decide +kernel
theorem dX12_probe_70 : decode cX12_probe 70 = .ok (.if_icmp .ge 92, 3) := by decide +kernel
theorem dX12_probe_73 : decode cX12_probe 73 = .ok (.iconst 0, 1) := by decide +kernel
theorem dX12_probe_74 : decode cX12_probe 74 = .ok (.istore 8, 2) := by decide +kernel
theorem dX12_probe_76 : decode cX12_probe 76 = .ok (.iconst 0, 1) := by decide +kernel
theorem dX12_probe_77 : decode cX12_probe 77 = .ok (.istore 9, 2) := by decide +kernel
theorem dX12_probe_79 : decode cX12_probe 79 = .ok (.iload 9, 2) := by decide +kernel
theorem dX12_probe_81 : decode cX12_probe 81 = .ok (.iconst 4, 1) := by decide +kernel
theorem dX12_probe_82 : decode cX12_probe 82 = .ok (.if_icmp .ge 43, 3) := by decide +kernel
theorem dX12_probe_85 : decode cX12_probe 85 = .ok (.iload 4, 2) := by decide +kernel
theorem dX12_probe_87 : decode cX12_probe 87 = .ok (.iload 9, 2) := by decide +kernel
theorem dX12_probe_89 : decode cX12_probe 89 = .ok (.invokestatic 225, 3) := by decide +kernel
theorem dX12_probe_92 : decode cX12_probe 92 = .ok (.ifCond .eq 27, 3) := by decide +kernel
theorem dX12_probe_95 : decode cX12_probe 95 = .ok (.iload 8, 2) := by decide +kernel
theorem dX12_probe_97 : decode cX12_probe 97 = .ok (.aload_n 0, 1) := by decide +kernel
theorem dX12_probe_98 : decode cX12_probe 98 = .ok (.iload_n 1, 1) := by decide +kernel
theorem dX12_probe_99 : decode cX12_probe 99 = .ok (.iload 9, 2) := by decide +kernel
theorem dX12_probe_101 : decode cX12_probe 101 = .ok (.iload 7, 2) := by decide +kernel
theorem dX12_probe_103 : decode cX12_probe 103 = .ok (.iload_n 2, 1) := by decide +kernel
theorem dX12_probe_104 : decode cX12_probe 104 = .ok (.iload_n 3, 1) := by decide +kernel
theorem dX12_probe_105 : decode cX12_probe 105 = .ok (.invokevirtual 430, 3) := by decide +kernel
theorem dX12_probe_108 : decode cX12_probe 108 = .ok (.ifCond .eq 7, 3) := by decide +kernel
theorem dX12_probe_111 : decode cX12_probe 111 = .ok (.iconst 1, 1) := by decide +kernel
theorem dX12_probe_112 : decode cX12_probe 112 = .ok (.goto 4, 3) := by decide +kernel
theorem dX12_probe_115 : decode cX12_probe 115 = .ok (.iconst (-1), 1) := by decide +kernel
theorem dX12_probe_116 : decode cX12_probe 116 = .ok (.iadd, 1) := by decide +kernel
theorem dX12_probe_117 : decode cX12_probe 117 = .ok (.istore 8, 2) := by decide +kernel
theorem dX12_probe_119 : decode cX12_probe 119 = .ok (.iinc 9 1, 3) := by decide +kernel
theorem dX12_probe_122 : decode cX12_probe 122 = .ok (.goto (-43), 3) := by decide +kernel
theorem dX12_probe_125 : decode cX12_probe 125 = .ok (.iload 8, 2) := by decide +kernel
theorem dX12_probe_127 : decode cX12_probe 127 = .ok (.invokestatic 437, 3) := by decide +kernel
theorem dX12_probe_130 : decode cX12_probe 130 = .ok (.istore 8, 2) := by decide +kernel
theorem dX12_probe_132 : decode cX12_probe 132 = .ok (.iload 5, 2) := by decide +kernel
theorem dX12_probe_134 : decode cX12_probe 134 = .ok (.iconst (-1), 1) := by decide +kernel
theorem dX12_probe_135 : decode cX12_probe 135 = .ok (.if_icmp .eq 13, 3) := by decide +kernel
theorem dX12_probe_138 : decode cX12_probe 138 = .ok (.iload 8, 2) := by decide +kernel
theorem dX12_probe_140 : decode cX12_probe 140 = .ok (.iload 6, 2) := by decide +kernel
theorem dX12_probe_142 : decode cX12_probe 142 = .ok (.if_icmp .lt 6, 3) := by decide +kernel
theorem dX12_probe_145 : decode cX12_probe 145 = .ok (.goto 11, 3) := by decide +kernel
theorem dX12_probe_148 : decode cX12_probe 148 = .ok (.iload 7, 2) := by decide +kernel
theorem dX12_probe_150 : decode cX12_probe 150 = .ok (.istore 5, 2) := by decide +kernel
theorem dX12_probe_152 : decode cX12_probe 152 = .ok (.iload 8, 2) := by decide +kernel
theorem dX12_probe_154 : decode cX12_probe 154 = .ok (.istore 6, 2) := by decide +kernel
theorem dX12_probe_156 : decode cX12_probe 156 = .ok (.iinc 7 1, 3) := by decide +kernel
theorem dX12_probe_159 : decode cX12_probe 159 = .ok (.goto (-95), 3) := by decide +kernel
theorem dX12_probe_162 : decode cX12_probe 162 = .ok (.iload 5, 2) := by decide +kernel
theorem dX12_probe_164 : decode cX12_probe 164 = .ok (.ireturn, 1) := by decide +kernel
theorem dX12_leaves_0 : decode cX12_leaves 0 = .ok (.aload_n 0, 1) := by decide +kernel
theorem dX12_leaves_1 : decode cX12_leaves 1 = .ok (.iconst 0, 1) := by decide +kernel
theorem dX12_leaves_2 : decode cX12_leaves 2 = .ok (.putfield 92, 3) := by decide +kernel
theorem dX12_leaves_5 : decode cX12_leaves 5 = .ok (.aload_n 0, 1) := by decide +kernel
theorem dX12_leaves_6 : decode cX12_leaves 6 = .ok (.iload_n 1, 1) := by decide +kernel
theorem dX12_leaves_7 : decode cX12_leaves 7 = .ok (.invokevirtual 360, 3) := by decide +kernel
theorem dX12_leaves_10 : decode cX12_leaves 10 = .ok (.ifCond .eq 17, 3) := by decide +kernel
theorem dX12_leaves_13 : decode cX12_leaves 13 = .ok (.aload_n 0, 1) := by decide +kernel
theorem dX12_leaves_14 : decode cX12_leaves 14 = .ok (.getfield 61, 3) := by decide +kernel
theorem dX12_leaves_17 : decode cX12_leaves 17 = .ok (.iconst 4, 1) := by decide +kernel
theorem dX12_leaves_18 : decode cX12_leaves 18 = .ok (.iload_n 1, 1) := by decide +kernel
theorem dX12_leaves_19 : decode cX12_leaves 19 = .ok (.imul, 1) := by decide +kernel
theorem dX12_leaves_20 : decode cX12_leaves 20 = .ok (.iconst 3, 1) := by decide +kernel
theorem dX12_leaves_21 : decode cX12_leaves 21 = .ok (.iadd, 1) := by decide +kernel
theorem dX12_leaves_22 : decode cX12_leaves 22 = .ok (.iaload, 1) := by decide +kernel
theorem dX12_leaves_23 : decode cX12_leaves 23 = .ok (.iconst 1, 1) := by decide +kernel
theorem dX12_leaves_24 : decode cX12_leaves 24 = .ok (.if_icmp .ne 5, 3) := by decide +kernel
theorem dX12_leaves_27 : decode cX12_leaves 27 = .ok (.iconst (-1), 1) := by decide +kernel
theorem dX12_leaves_28 : decode cX12_leaves 28 = .ok (.ireturn, 1) := by decide +kernel
theorem dX12_leaves_29 : decode cX12_leaves 29 = .ok (.aload_n 0, 1) := by decide +kernel
theorem dX12_leaves_30 : decode cX12_leaves 30 = .ok (.getfield 61, 3) := by decide +kernel
theorem dX12_leaves_33 : decode cX12_leaves 33 = .ok (.aload_n 0, 1) := by decide +kernel
theorem dX12_leaves_34 : decode cX12_leaves 34 = .ok (.getfield 64, 3) := by decide +kernel
theorem dX12_leaves_37 : decode cX12_leaves 37 = .ok (.invokestatic 409, 3) := by decide +kernel
theorem dX12_leaves_40 : decode cX12_leaves 40 = .ok (.iconst 1, 1) := by decide +kernel
theorem dX12_leaves_41 : decode cX12_leaves 41 = .ok (.istore_n 2, 1) := by decide +kernel
theorem dX12_leaves_42 : decode cX12_leaves 42 = .ok (.iload_n 2, 1) := by decide +kernel
theorem dX12_leaves_43 : decode cX12_leaves 43 = .ok (.bipush 60, 2) := by decide +kernel
theorem dX12_leaves_45 : decode cX12_leaves 45 = .ok (.if_icmp .gt 34, 3) := by decide +kernel
theorem dX12_leaves_48 : decode cX12_leaves 48 = .ok (.aload_n 0, 1) := by decide +kernel
theorem dX12_leaves_49 : decode cX12_leaves 49 = .ok (.aload_n 0, 1) := by decide +kernel
theorem dX12_leaves_50 : decode cX12_leaves 50 = .ok (.getfield 64, 3) := by decide +kernel
theorem dX12_leaves_53 : decode cX12_leaves 53 = .ok (.invokevirtual 370, 3) := by decide +kernel
theorem dX12_leaves_56 : decode cX12_leaves 56 = .ok (.istore_n 3, 1) := by decide +kernel
theorem dX12_leaves_57 : decode cX12_leaves 57 = .ok (.aload_n 0, 1) := by decide +kernel
theorem dX12_leaves_58 : decode cX12_leaves 58 = .ok (.getfield 64, 3) := by decide +kernel
theorem dX12_leaves_61 : decode cX12_leaves 61 = .ok (.iconst 4, 1) := by decide +kernel
theorem dX12_leaves_62 : decode cX12_leaves 62 = .ok (.iload_n 1, 1) := by decide +kernel
theorem dX12_leaves_63 : decode cX12_leaves 63 = .ok (.imul, 1) := by decide +kernel
theorem dX12_leaves_64 : decode cX12_leaves 64 = .ok (.iconst 3, 1) := by decide +kernel
theorem dX12_leaves_65 : decode cX12_leaves 65 = .ok (.iadd, 1) := by decide +kernel
theorem dX12_leaves_66 : decode cX12_leaves 66 = .ok (.iaload, 1) := by decide +kernel
theorem dX12_leaves_67 : decode cX12_leaves 67 = .ok (.iconst 1, 1) := by decide +kernel
theorem dX12_leaves_68 : decode cX12_leaves 68 = .ok (.if_icmp .ne 5, 3) := by decide +kernel
theorem dX12_leaves_71 : decode cX12_leaves 71 = .ok (.iload_n 2, 1) := by decide +kernel
theorem dX12_leaves_72 : decode cX12_leaves 72 = .ok (.ireturn, 1) := by decide +kernel
theorem dX12_leaves_73 : decode cX12_leaves 73 = .ok (.iinc 2 1, 3) := by decide +kernel
theorem dX12_leaves_76 : decode cX12_leaves 76 = .ok (.goto (-34), 3) := by decide +kernel
theorem dX12_leaves_79 : decode cX12_leaves 79 = .ok (.iconst (-1), 1) := by decide +kernel
theorem dX12_leaves_80 : decode cX12_leaves 80 = .ok (.ireturn, 1) := by decide +kernel
theorem dX12_isGame_0 : decode cX12_isGame 0 = .ok (.aload_n 0, 1) := by decide +kernel
theorem dX12_isGame_1 : decode cX12_isGame 1 = .ok (.iload_n 1, 1) := by decide +kernel
theorem dX12_isGame_2 : decode cX12_isGame 2 = .ok (.invokevirtual 360, 3) := by decide +kernel
theorem dX12_isGame_5 : decode cX12_isGame 5 = .ok (.ifCond .eq 44, 3) := by decide +kernel
theorem dX12_isGame_8 : decode cX12_isGame 8 = .ok (.aload_n 0, 1) := by decide +kernel
theorem dX12_isGame_9 : decode cX12_isGame 9 = .ok (.iload_n 2, 1) := by decide +kernel
theorem dX12_isGame_10 : decode cX12_isGame 10 = .ok (.invokevirtual 360, 3) := by decide +kernel
theorem dX12_isGame_13 : decode cX12_isGame 13 = .ok (.ifCond .eq 36, 3) := by decide +kernel
theorem dX12_isGame_16 : decode cX12_isGame 16 = .ok (.iload_n 1, 1) := by decide +kernel
theorem dX12_isGame_17 : decode cX12_isGame 17 = .ok (.iload_n 2, 1) := by decide +kernel
theorem dX12_isGame_18 : decode cX12_isGame 18 = .ok (.if_icmp .eq 31, 3) := by decide +kernel
theorem dX12_isGame_21 : decode cX12_isGame 21 = .ok (.aload_n 0, 1) := by decide +kernel
theorem dX12_isGame_22 : decode cX12_isGame 22 = .ok (.getfield 61, 3) := by decide +kernel
theorem dX12_isGame_25 : decode cX12_isGame 25 = .ok (.iconst 4, 1) := by decide +kernel
theorem dX12_isGame_26 : decode cX12_isGame 26 = .ok (.iload_n 1, 1) := by decide +kernel
theorem dX12_isGame_27 : decode cX12_isGame 27 = .ok (.imul, 1) := by decide +kernel
theorem dX12_isGame_28 : decode cX12_isGame 28 = .ok (.iconst 3, 1) := by decide +kernel
theorem dX12_isGame_29 : decode cX12_isGame 29 = .ok (.iadd, 1) := by decide +kernel
theorem dX12_isGame_30 : decode cX12_isGame 30 = .ok (.iaload, 1) := by decide +kernel
theorem dX12_isGame_31 : decode cX12_isGame 31 = .ok (.aload_n 0, 1) := by decide +kernel
theorem dX12_isGame_32 : decode cX12_isGame 32 = .ok (.getfield 61, 3) := by decide +kernel
theorem dX12_isGame_35 : decode cX12_isGame 35 = .ok (.iconst 4, 1) := by decide +kernel
theorem dX12_isGame_36 : decode cX12_isGame 36 = .ok (.iload_n 2, 1) := by decide +kernel
theorem dX12_isGame_37 : decode cX12_isGame 37 = .ok (.imul, 1) := by decide +kernel
theorem dX12_isGame_38 : decode cX12_isGame 38 = .ok (.iconst 3, 1) := by decide +kernel
theorem dX12_isGame_39 : decode cX12_isGame 39 = .ok (.iadd, 1) := by decide +kernel
theorem dX12_isGame_40 : decode cX12_isGame 40 = .ok (.iaload, 1) := by decide +kernel
theorem dX12_isGame_41 : decode cX12_isGame 41 = .ok (.iadd, 1) := by decide +kernel
theorem dX12_isGame_42 : decode cX12_isGame 42 = .ok (.ifCond .ne 7, 3) := by decide +kernel
theorem dX12_isGame_45 : decode cX12_isGame 45 = .ok (.iconst 1, 1) := by decide +kernel
theorem dX12_isGame_46 : decode cX12_isGame 46 = .ok (.goto 4, 3) := by decide +kernel
theorem dX12_isGame_49 : decode cX12_isGame 49 = .ok (.iconst 0, 1) := by decide +kernel
theorem dX12_isGame_50 : decode cX12_isGame 50 = .ok (.ireturn, 1) := by decide +kernel
theorem dX12_gameOf_0 : decode cX12_gameOf 0 = .ok (.aload_n 0, 1) := by decide +kernel
theorem dX12_gameOf_1 : decode cX12_gameOf 1 = .ok (.getfield 61, 3) := by decide +kernel
theorem dX12_gameOf_4 : decode cX12_gameOf 4 = .ok (.aload_n 0, 1) := by decide +kernel
theorem dX12_gameOf_5 : decode cX12_gameOf 5 = .ok (.getfield 64, 3) := by decide +kernel
theorem dX12_gameOf_8 : decode cX12_gameOf 8 = .ok (.invokestatic 409, 3) := by decide +kernel
theorem dX12_gameOf_11 : decode cX12_gameOf 11 = .ok (.aload_n 0, 1) := by decide +kernel
theorem dX12_gameOf_12 : decode cX12_gameOf 12 = .ok (.getfield 64, 3) := by decide +kernel
theorem dX12_gameOf_15 : decode cX12_gameOf 15 = .ok (.iconst 4, 1) := by decide +kernel
theorem dX12_gameOf_16 : decode cX12_gameOf 16 = .ok (.iload_n 1, 1) := by decide +kernel
theorem dX12_gameOf_17 : decode cX12_gameOf 17 = .ok (.imul, 1) := by decide +kernel
theorem dX12_gameOf_18 : decode cX12_gameOf 18 = .ok (.iconst 0, 1) := by decide +kernel
theorem dX12_gameOf_19 : decode cX12_gameOf 19 = .ok (.iadd, 1) := by decide +kernel
theorem dX12_gameOf_20 : decode cX12_gameOf 20 = .ok (.dup2, 1) := by decide +kernel
theorem dX12_gameOf_21 : decode cX12_gameOf 21 = .ok (.iaload, 1) := by decide +kernel
theorem dX12_gameOf_22 : decode cX12_gameOf 22 = .ok (.iload_n 3, 1) := by decide +kernel
theorem dX12_gameOf_23 : decode cX12_gameOf 23 = .ok (.iadd, 1) := by decide +kernel
theorem dX12_gameOf_24 : decode cX12_gameOf 24 = .ok (.iastore, 1) := by decide +kernel
theorem dX12_gameOf_25 : decode cX12_gameOf 25 = .ok (.aload_n 0, 1) := by decide +kernel
theorem dX12_gameOf_26 : decode cX12_gameOf 26 = .ok (.getfield 64, 3) := by decide +kernel
theorem dX12_gameOf_29 : decode cX12_gameOf 29 = .ok (.iconst 4, 1) := by decide +kernel
theorem dX12_gameOf_30 : decode cX12_gameOf 30 = .ok (.iload_n 2, 1) := by decide +kernel
theorem dX12_gameOf_31 : decode cX12_gameOf 31 = .ok (.imul, 1) := by decide +kernel
theorem dX12_gameOf_32 : decode cX12_gameOf 32 = .ok (.iconst 0, 1) := by decide +kernel
theorem dX12_gameOf_33 : decode cX12_gameOf 33 = .ok (.iadd, 1) := by decide +kernel
theorem dX12_gameOf_34 : decode cX12_gameOf 34 = .ok (.dup2, 1) := by decide +kernel
theorem dX12_gameOf_35 : decode cX12_gameOf 35 = .ok (.iaload, 1) := by decide +kernel
theorem dX12_gameOf_36 : decode cX12_gameOf 36 = .ok (.iload 4, 2) := by decide +kernel
theorem dX12_gameOf_38 : decode cX12_gameOf 38 = .ok (.iadd, 1) := by decide +kernel
theorem dX12_gameOf_39 : decode cX12_gameOf 39 = .ok (.iastore, 1) := by decide +kernel
theorem dX12_gameOf_40 : decode cX12_gameOf 40 = .ok (.iload 5, 2) := by decide +kernel
theorem dX12_gameOf_42 : decode cX12_gameOf 42 = .ok (.ifCond .ne 7, 3) := by decide +kernel
theorem dX12_gameOf_45 : decode cX12_gameOf 45 = .ok (.iload_n 1, 1) := by decide +kernel
theorem dX12_gameOf_46 : decode cX12_gameOf 46 = .ok (.goto 4, 3) := by decide +kernel
theorem dX12_gameOf_49 : decode cX12_gameOf 49 = .ok (.iload_n 2, 1) := by decide +kernel
theorem dX12_gameOf_50 : decode cX12_gameOf 50 = .ok (.istore 6, 2) := by decide +kernel
theorem dX12_gameOf_52 : decode cX12_gameOf 52 = .ok (.iconst 0, 1) := by decide +kernel
theorem dX12_gameOf_53 : decode cX12_gameOf 53 = .ok (.istore 7, 2) := by decide +kernel
theorem dX12_gameOf_55 : decode cX12_gameOf 55 = .ok (.iconst 0, 1) := by decide +kernel
theorem dX12_gameOf_56 : decode cX12_gameOf 56 = .ok (.istore 8, 2) := by decide +kernel
theorem dX12_gameOf_58 : decode cX12_gameOf 58 = .ok (.iload 8, 2) := by decide +kernel
theorem dX12_gameOf_60 : decode cX12_gameOf 60 = .ok (.bipush 8, 2) := by decide +kernel
theorem dX12_gameOf_62 : decode cX12_gameOf 62 = .ok (.if_icmp .ge 63, 3) := by decide +kernel
theorem dX12_gameOf_65 : decode cX12_gameOf 65 = .ok (.aload_n 0, 1) := by decide +kernel
theorem dX12_gameOf_66 : decode cX12_gameOf 66 = .ok (.aload_n 0, 1) := by decide +kernel
theorem dX12_gameOf_67 : decode cX12_gameOf 67 = .ok (.getfield 64, 3) := by decide +kernel
theorem dX12_gameOf_70 : decode cX12_gameOf 70 = .ok (.iload 6, 2) := by decide +kernel
theorem dX12_gameOf_72 : decode cX12_gameOf 72 = .ok (.invokevirtual 302, 3) := by decide +kernel
theorem dX12_gameOf_75 : decode cX12_gameOf 75 = .ok (.istore 9, 2) := by decide +kernel
theorem dX12_gameOf_77 : decode cX12_gameOf 77 = .ok (.aload_n 0, 1) := by decide +kernel
theorem dX12_gameOf_78 : decode cX12_gameOf 78 = .ok (.aload_n 0, 1) := by decide +kernel
theorem dX12_gameOf_79 : decode cX12_gameOf 79 = .ok (.getfield 64, 3) := by decide +kernel
theorem dX12_gameOf_82 : decode cX12_gameOf 82 = .ok (.invokevirtual 370, 3) := by decide +kernel
theorem dX12_gameOf_85 : decode cX12_gameOf 85 = .ok (.istore 10, 2) := by decide +kernel
theorem dX12_gameOf_87 : decode cX12_gameOf 87 = .ok (.iload 9, 2) := by decide +kernel
theorem dX12_gameOf_89 : decode cX12_gameOf 89 = .ok (.ifCond .eq 30, 3) := by decide +kernel
theorem dX12_gameOf_92 : decode cX12_gameOf 92 = .ok (.iload 7, 2) := by decide +kernel
theorem dX12_gameOf_94 : decode cX12_gameOf 94 = .ok (.iload 10, 2) := by decide +kernel
theorem dX12_gameOf_96 : decode cX12_gameOf 96 = .ok (.iload 6, 2) := by decide +kernel
theorem dX12_gameOf_98 : decode cX12_gameOf 98 = .ok (.invokestatic 225, 3) := by decide +kernel
theorem dX12_gameOf_101 : decode cX12_gameOf 101 = .ok (.ifCond .eq 7, 3) := by decide +kernel
theorem dX12_gameOf_104 : decode cX12_gameOf 104 = .ok (.iconst 2, 1) := by decide +kernel
theorem dX12_gameOf_105 : decode cX12_gameOf 105 = .ok (.goto 4, 3) := by decide +kernel
theorem dX12_gameOf_108 : decode cX12_gameOf 108 = .ok (.iconst 0, 1) := by decide +kernel
theorem dX12_gameOf_109 : decode cX12_gameOf 109 = .ok (.aload_n 0, 1) := by decide +kernel
theorem dX12_gameOf_110 : decode cX12_gameOf 110 = .ok (.iload 6, 2) := by decide +kernel
theorem dX12_gameOf_112 : decode cX12_gameOf 112 = .ok (.invokevirtual 306, 3) := by decide +kernel
theorem dX12_gameOf_115 : decode cX12_gameOf 115 = .ok (.isub, 1) := by decide +kernel
theorem dX12_gameOf_116 : decode cX12_gameOf 116 = .ok (.iadd, 1) := by decide +kernel
theorem dX12_gameOf_117 : decode cX12_gameOf 117 = .ok (.istore 7, 2) := by decide +kernel
theorem dX12_gameOf_119 : decode cX12_gameOf 119 = .ok (.iinc 8 1, 3) := by decide +kernel
theorem dX12_gameOf_122 : decode cX12_gameOf 122 = .ok (.goto (-64), 3) := by decide +kernel
theorem dX12_gameOf_125 : decode cX12_gameOf 125 = .ok (.iload 7, 2) := by decide +kernel
theorem dX12_gameOf_127 : decode cX12_gameOf 127 = .ok (.aload_n 0, 1) := by decide +kernel
theorem dX12_gameOf_128 : decode cX12_gameOf 128 = .ok (.getfield 64, 3) := by decide +kernel
theorem dX12_gameOf_131 : decode cX12_gameOf 131 = .ok (.iconst 4, 1) := by decide +kernel
theorem dX12_gameOf_132 : decode cX12_gameOf 132 = .ok (.iload 6, 2) := by decide +kernel
theorem dX12_gameOf_134 : decode cX12_gameOf 134 = .ok (.imul, 1) := by decide +kernel
theorem dX12_gameOf_135 : decode cX12_gameOf 135 = .ok (.iconst 2, 1) := by decide +kernel
theorem dX12_gameOf_136 : decode cX12_gameOf 136 = .ok (.iadd, 1) := by decide +kernel
theorem dX12_gameOf_137 : decode cX12_gameOf 137 = .ok (.iaload, 1) := by decide +kernel
theorem dX12_gameOf_138 : decode cX12_gameOf 138 = .ok (.iadd, 1) := by decide +kernel
theorem dX12_gameOf_139 : decode cX12_gameOf 139 = .ok (.aload_n 0, 1) := by decide +kernel
theorem dX12_gameOf_140 : decode cX12_gameOf 140 = .ok (.getfield 61, 3) := by decide +kernel
theorem dX12_gameOf_143 : decode cX12_gameOf 143 = .ok (.iconst 4, 1) := by decide +kernel
theorem dX12_gameOf_144 : decode cX12_gameOf 144 = .ok (.iload 6, 2) := by decide +kernel
theorem dX12_gameOf_146 : decode cX12_gameOf 146 = .ok (.imul, 1) := by decide +kernel
theorem dX12_gameOf_147 : decode cX12_gameOf 147 = .ok (.iconst 2, 1) := by decide +kernel
theorem dX12_gameOf_148 : decode cX12_gameOf 148 = .ok (.iadd, 1) := by decide +kernel
theorem dX12_gameOf_149 : decode cX12_gameOf 149 = .ok (.iaload, 1) := by decide +kernel
theorem dX12_gameOf_150 : decode cX12_gameOf 150 = .ok (.isub, 1) := by decide +kernel
theorem dX12_gameOf_151 : decode cX12_gameOf 151 = .ok (.ireturn, 1) := by decide +kernel
theorem dX12_game_0 : decode cX12_game 0 = .ok (.aload_n 0, 1) := by decide +kernel
theorem dX12_game_1 : decode cX12_game 1 = .ok (.iconst 0, 1) := by decide +kernel
theorem dX12_game_2 : decode cX12_game 2 = .ok (.putfield 92, 3) := by decide +kernel
theorem dX12_game_5 : decode cX12_game 5 = .ok (.aload_n 0, 1) := by decide +kernel
theorem dX12_game_6 : decode cX12_game 6 = .ok (.iload_n 1, 1) := by decide +kernel
theorem dX12_game_7 : decode cX12_game 7 = .ok (.iload_n 2, 1) := by decide +kernel
theorem dX12_game_8 : decode cX12_game 8 = .ok (.invokevirtual 440, 3) := by decide +kernel
theorem dX12_game_11 : decode cX12_game 11 = .ok (.ifCond .eq 53, 3) := by decide +kernel
theorem dX12_game_14 : decode cX12_game 14 = .ok (.iload_n 3, 1) := by decide +kernel
theorem dX12_game_15 : decode cX12_game 15 = .ok (.i2l, 1) := by decide +kernel
theorem dX12_game_16 : decode cX12_game 16 = .ok (.lconst 0, 1) := by decide +kernel
theorem dX12_game_17 : decode cX12_game 17 = .ok (.ldc2_w 390, 3) := by decide +kernel
theorem dX12_game_20 : decode cX12_game 20 = .ok (.invokestatic 213, 3) := by decide +kernel
theorem dX12_game_23 : decode cX12_game 23 = .ok (.ifCond .eq 41, 3) := by decide +kernel
theorem dX12_game_26 : decode cX12_game 26 = .ok (.iload 4, 2) := by decide +kernel
theorem dX12_game_28 : decode cX12_game 28 = .ok (.i2l, 1) := by decide +kernel
theorem dX12_game_29 : decode cX12_game 29 = .ok (.lconst 0, 1) := by decide +kernel
theorem dX12_game_30 : decode cX12_game 30 = .ok (.ldc2_w 390, 3) := by decide +kernel
theorem dX12_game_33 : decode cX12_game 33 = .ok (.invokestatic 213, 3) := by decide +kernel
theorem dX12_game_36 : decode cX12_game 36 = .ok (.ifCond .eq 28, 3) := by decide +kernel
theorem dX12_game_39 : decode cX12_game 39 = .ok (.iload 5, 2) := by decide +kernel
theorem dX12_game_41 : decode cX12_game 41 = .ok (.i2l, 1) := by decide +kernel
theorem dX12_game_42 : decode cX12_game 42 = .ok (.lconst 0, 1) := by decide +kernel
theorem dX12_game_43 : decode cX12_game 43 = .ok (.lconst 1, 1) := by decide +kernel
theorem dX12_game_44 : decode cX12_game 44 = .ok (.invokestatic 213, 3) := by decide +kernel
theorem dX12_game_47 : decode cX12_game 47 = .ok (.ifCond .eq 17, 3) := by decide +kernel
theorem dX12_game_50 : decode cX12_game 50 = .ok (.aload_n 0, 1) := by decide +kernel
theorem dX12_game_51 : decode cX12_game 51 = .ok (.iload_n 1, 1) := by decide +kernel
theorem dX12_game_52 : decode cX12_game 52 = .ok (.iload_n 2, 1) := by decide +kernel
theorem dX12_game_53 : decode cX12_game 53 = .ok (.iload_n 3, 1) := by decide +kernel
theorem dX12_game_54 : decode cX12_game 54 = .ok (.iload 4, 2) := by decide +kernel
theorem dX12_game_56 : decode cX12_game 56 = .ok (.iload 5, 2) := by decide +kernel
theorem dX12_game_58 : decode cX12_game 58 = .ok (.invokevirtual 443, 3) := by decide +kernel
theorem dX12_game_61 : decode cX12_game 61 = .ok (.goto 6, 3) := by decide +kernel
theorem dX12_game_64 : decode cX12_game 64 = .ok (.ldc_w 405, 3) := by decide +kernel
theorem dX12_game_67 : decode cX12_game 67 = .ok (.ireturn, 1) := by decide +kernel
theorem dX12_rests_0 : decode cX12_rests 0 = .ok (.aload_n 0, 1) := by decide +kernel
theorem dX12_rests_1 : decode cX12_rests 1 = .ok (.iconst 0, 1) := by decide +kernel
theorem dX12_rests_2 : decode cX12_rests 2 = .ok (.putfield 92, 3) := by decide +kernel
theorem dX12_rests_5 : decode cX12_rests 5 = .ok (.aload_n 0, 1) := by decide +kernel
theorem dX12_rests_6 : decode cX12_rests 6 = .ok (.iload_n 1, 1) := by decide +kernel
theorem dX12_rests_7 : decode cX12_rests 7 = .ok (.iload_n 2, 1) := by decide +kernel
theorem dX12_rests_8 : decode cX12_rests 8 = .ok (.invokevirtual 440, 3) := by decide +kernel
theorem dX12_rests_11 : decode cX12_rests 11 = .ok (.ifCond .eq 8, 3) := by decide +kernel
theorem dX12_rests_14 : decode cX12_rests 14 = .ok (.iload_n 3, 1) := by decide +kernel
theorem dX12_rests_15 : decode cX12_rests 15 = .ok (.iconst (-1), 1) := by decide +kernel
theorem dX12_rests_16 : decode cX12_rests 16 = .ok (.if_icmp .ge 5, 3) := by decide +kernel
theorem dX12_rests_19 : decode cX12_rests 19 = .ok (.iconst (-1), 1) := by decide +kernel
theorem dX12_rests_20 : decode cX12_rests 20 = .ok (.ireturn, 1) := by decide +kernel
theorem dX12_rests_21 : decode cX12_rests 21 = .ok (.iconst 0, 1) := by decide +kernel
theorem dX12_rests_22 : decode cX12_rests 22 = .ok (.istore 4, 2) := by decide +kernel
theorem dX12_rests_24 : decode cX12_rests 24 = .ok (.iload 4, 2) := by decide +kernel
theorem dX12_rests_26 : decode cX12_rests 26 = .ok (.bipush 32, 2) := by decide +kernel
theorem dX12_rests_28 : decode cX12_rests 28 = .ok (.if_icmp .ge 37, 3) := by decide +kernel
theorem dX12_rests_31 : decode cX12_rests 31 = .ok (.aload_n 0, 1) := by decide +kernel
theorem dX12_rests_32 : decode cX12_rests 32 = .ok (.getfield 83, 3) := by decide +kernel
theorem dX12_rests_35 : decode cX12_rests 35 = .ok (.iload 4, 2) := by decide +kernel
theorem dX12_rests_37 : decode cX12_rests 37 = .ok (.aload_n 0, 1) := by decide +kernel
theorem dX12_rests_38 : decode cX12_rests 38 = .ok (.iload_n 1, 1) := by decide +kernel
theorem dX12_rests_39 : decode cX12_rests 39 = .ok (.iload_n 2, 1) := by decide +kernel
theorem dX12_rests_40 : decode cX12_rests 40 = .ok (.iload 4, 2) := by decide +kernel
theorem dX12_rests_42 : decode cX12_rests 42 = .ok (.bipush 8, 2) := by decide +kernel
theorem dX12_rests_44 : decode cX12_rests 44 = .ok (.idiv, 1) := by decide +kernel
theorem dX12_rests_45 : decode cX12_rests 45 = .ok (.iload 4, 2) := by decide +kernel
theorem dX12_rests_47 : decode cX12_rests 47 = .ok (.iconst 2, 1) := by decide +kernel
theorem dX12_rests_48 : decode cX12_rests 48 = .ok (.idiv, 1) := by decide +kernel
theorem dX12_rests_49 : decode cX12_rests 49 = .ok (.iconst 4, 1) := by decide +kernel
theorem dX12_rests_50 : decode cX12_rests 50 = .ok (.irem, 1) := by decide +kernel
theorem dX12_rests_51 : decode cX12_rests 51 = .ok (.iload 4, 2) := by decide +kernel
theorem dX12_rests_53 : decode cX12_rests 53 = .ok (.iconst 2, 1) := by decide +kernel
theorem dX12_rests_54 : decode cX12_rests 54 = .ok (.irem, 1) := by decide +kernel
theorem dX12_rests_55 : decode cX12_rests 55 = .ok (.invokevirtual 443, 3) := by decide +kernel
theorem dX12_rests_58 : decode cX12_rests 58 = .ok (.iastore, 1) := by decide +kernel
theorem dX12_rests_59 : decode cX12_rests 59 = .ok (.iinc 4 1, 3) := by decide +kernel
theorem dX12_rests_62 : decode cX12_rests 62 = .ok (.goto (-38), 3) := by decide +kernel
theorem dX12_rests_65 : decode cX12_rests 65 = .ok (.iconst 0, 1) := by decide +kernel
theorem dX12_rests_66 : decode cX12_rests 66 = .ok (.istore 4, 2) := by decide +kernel
theorem dX12_rests_68 : decode cX12_rests 68 = .ok (.iconst 0, 1) := by decide +kernel
theorem dX12_rests_69 : decode cX12_rests 69 = .ok (.istore 5, 2) := by decide +kernel
theorem dX12_rests_71 : decode cX12_rests 71 = .ok (.iload 5, 2) := by decide +kernel
theorem dX12_rests_73 : decode cX12_rests 73 = .ok (.iconst 4, 1) := by decide +kernel
theorem dX12_rests_74 : decode cX12_rests 74 = .ok (.if_icmp .ge 150, 3) := by decide +kernel
theorem dX12_rests_77 : decode cX12_rests 77 = .ok (.iconst 0, 1) := by decide +kernel
theorem dX12_rests_78 : decode cX12_rests 78 = .ok (.istore 6, 2) := by decide +kernel
theorem dX12_rests_80 : decode cX12_rests 80 = .ok (.iload 6, 2) := by decide +kernel
theorem dX12_rests_82 : decode cX12_rests 82 = .ok (.iconst 4, 1) := by decide +kernel
theorem dX12_rests_83 : decode cX12_rests 83 = .ok (.if_icmp .ge 135, 3) := by decide +kernel
theorem dX12_rests_86 : decode cX12_rests 86 = .ok (.iconst 1, 1) := by decide +kernel
theorem dX12_rests_87 : decode cX12_rests 87 = .ok (.istore 7, 2) := by decide +kernel
theorem dX12_rests_89 : decode cX12_rests 89 = .ok (.iconst 0, 1) := by decide +kernel
theorem dX12_rests_90 : decode cX12_rests 90 = .ok (.istore 8, 2) := by decide +kernel
theorem dX12_rests_92 : decode cX12_rests 92 = .ok (.iload 8, 2) := by decide +kernel
theorem dX12_rests_94 : decode cX12_rests 94 = .ok (.iconst 4, 1) := by decide +kernel
theorem dX12_rests_95 : decode cX12_rests 95 = .ok (.if_icmp .ge 91, 3) := by decide +kernel
theorem dX12_rests_98 : decode cX12_rests 98 = .ok (.iload 7, 2) := by decide +kernel
theorem dX12_rests_100 : decode cX12_rests 100 = .ok (.ifCond .eq 77, 3) := by decide +kernel
theorem dX12_rests_103 : decode cX12_rests 103 = .ok (.aload_n 0, 1) := by decide +kernel
theorem dX12_rests_104 : decode cX12_rests 104 = .ok (.getfield 83, 3) := by decide +kernel
theorem dX12_rests_107 : decode cX12_rests 107 = .ok (.bipush 8, 2) := by decide +kernel
theorem dX12_rests_109 : decode cX12_rests 109 = .ok (.iload 8, 2) := by decide +kernel
theorem dX12_rests_111 : decode cX12_rests 111 = .ok (.imul, 1) := by decide +kernel
theorem dX12_rests_112 : decode cX12_rests 112 = .ok (.iconst 2, 1) := by decide +kernel
theorem dX12_rests_113 : decode cX12_rests 113 = .ok (.iload 6, 2) := by decide +kernel
theorem dX12_rests_115 : decode cX12_rests 115 = .ok (.imul, 1) := by decide +kernel
theorem dX12_rests_116 : decode cX12_rests 116 = .ok (.iadd, 1) := by decide +kernel
theorem dX12_rests_117 : decode cX12_rests 117 = .ok (.iaload, 1) := by decide +kernel
theorem dX12_rests_118 : decode cX12_rests 118 = .ok (.aload_n 0, 1) := by decide +kernel
theorem dX12_rests_119 : decode cX12_rests 119 = .ok (.getfield 83, 3) := by decide +kernel
theorem dX12_rests_122 : decode cX12_rests 122 = .ok (.bipush 8, 2) := by decide +kernel
theorem dX12_rests_124 : decode cX12_rests 124 = .ok (.iload 5, 2) := by decide +kernel
theorem dX12_rests_126 : decode cX12_rests 126 = .ok (.imul, 1) := by decide +kernel
theorem dX12_rests_127 : decode cX12_rests 127 = .ok (.iconst 2, 1) := by decide +kernel
theorem dX12_rests_128 : decode cX12_rests 128 = .ok (.iload 6, 2) := by decide +kernel
theorem dX12_rests_130 : decode cX12_rests 130 = .ok (.imul, 1) := by decide +kernel
theorem dX12_rests_131 : decode cX12_rests 131 = .ok (.iadd, 1) := by decide +kernel
theorem dX12_rests_132 : decode cX12_rests 132 = .ok (.iaload, 1) := by decide +kernel
theorem dX12_rests_133 : decode cX12_rests 133 = .ok (.if_icmp .gt 44, 3) := by decide +kernel
theorem dX12_rests_136 : decode cX12_rests 136 = .ok (.aload_n 0, 1) := by decide +kernel
theorem dX12_rests_137 : decode cX12_rests 137 = .ok (.getfield 83, 3) := by decide +kernel
theorem dX12_rests_140 : decode cX12_rests 140 = .ok (.bipush 8, 2) := by decide +kernel
theorem dX12_rests_142 : decode cX12_rests 142 = .ok (.iload 5, 2) := by decide +kernel
theorem dX12_rests_144 : decode cX12_rests 144 = .ok (.imul, 1) := by decide +kernel
theorem dX12_rests_145 : decode cX12_rests 145 = .ok (.iconst 2, 1) := by decide +kernel
theorem dX12_rests_146 : decode cX12_rests 146 = .ok (.iload 8, 2) := by decide +kernel
theorem dX12_rests_148 : decode cX12_rests 148 = .ok (.imul, 1) := by decide +kernel
theorem dX12_rests_149 : decode cX12_rests 149 = .ok (.iadd, 1) := by decide +kernel
theorem dX12_rests_150 : decode cX12_rests 150 = .ok (.iconst 1, 1) := by decide +kernel
theorem dX12_rests_151 : decode cX12_rests 151 = .ok (.iadd, 1) := by decide +kernel
theorem dX12_rests_152 : decode cX12_rests 152 = .ok (.iaload, 1) := by decide +kernel
theorem dX12_rests_153 : decode cX12_rests 153 = .ok (.aload_n 0, 1) := by decide +kernel
theorem dX12_rests_154 : decode cX12_rests 154 = .ok (.getfield 83, 3) := by decide +kernel
theorem dX12_rests_157 : decode cX12_rests 157 = .ok (.bipush 8, 2) := by decide +kernel
theorem dX12_rests_159 : decode cX12_rests 159 = .ok (.iload 5, 2) := by decide +kernel
theorem dX12_rests_161 : decode cX12_rests 161 = .ok (.imul, 1) := by decide +kernel
theorem dX12_rests_162 : decode cX12_rests 162 = .ok (.iconst 2, 1) := by decide +kernel
theorem dX12_rests_163 : decode cX12_rests 163 = .ok (.iload 6, 2) := by decide +kernel
theorem dX12_rests_165 : decode cX12_rests 165 = .ok (.imul, 1) := by decide +kernel
theorem dX12_rests_166 : decode cX12_rests 166 = .ok (.iadd, 1) := by decide +kernel
theorem dX12_rests_167 : decode cX12_rests 167 = .ok (.iconst 1, 1) := by decide +kernel
theorem dX12_rests_168 : decode cX12_rests 168 = .ok (.iadd, 1) := by decide +kernel
theorem dX12_rests_169 : decode cX12_rests 169 = .ok (.iaload, 1) := by decide +kernel
theorem dX12_rests_170 : decode cX12_rests 170 = .ok (.if_icmp .gt 7, 3) := by decide +kernel
theorem dX12_rests_173 : decode cX12_rests 173 = .ok (.iconst 1, 1) := by decide +kernel
theorem dX12_rests_174 : decode cX12_rests 174 = .ok (.goto 4, 3) := by decide +kernel
theorem dX12_rests_177 : decode cX12_rests 177 = .ok (.iconst 0, 1) := by decide +kernel
theorem dX12_rests_178 : decode cX12_rests 178 = .ok (.istore 7, 2) := by decide +kernel
theorem dX12_rests_180 : decode cX12_rests 180 = .ok (.iinc 8 1, 3) := by decide +kernel
theorem dX12_rests_183 : decode cX12_rests 183 = .ok (.goto (-91), 3) := by decide +kernel
theorem dX12_rests_186 : decode cX12_rests 186 = .ok (.iload 7, 2) := by decide +kernel
theorem dX12_rests_188 : decode cX12_rests 188 = .ok (.ifCond .ne 6, 3) := by decide +kernel
theorem dX12_rests_191 : decode cX12_rests 191 = .ok (.goto 21, 3) := by decide +kernel
theorem dX12_rests_194 : decode cX12_rests 194 = .ok (.iload 4, 2) := by decide +kernel
theorem dX12_rests_196 : decode cX12_rests 196 = .ok (.iload_n 3, 1) := by decide +kernel
theorem dX12_rests_197 : decode cX12_rests 197 = .ok (.if_icmp .ne 12, 3) := by decide +kernel
theorem dX12_rests_200 : decode cX12_rests 200 = .ok (.bipush 10, 2) := by decide +kernel
theorem dX12_rests_202 : decode cX12_rests 202 = .ok (.iload 5, 2) := by decide +kernel
theorem dX12_rests_204 : decode cX12_rests 204 = .ok (.imul, 1) := by decide +kernel
theorem dX12_rests_205 : decode cX12_rests 205 = .ok (.iload 6, 2) := by decide +kernel
theorem dX12_rests_207 : decode cX12_rests 207 = .ok (.iadd, 1) := by decide +kernel
theorem dX12_rests_208 : decode cX12_rests 208 = .ok (.ireturn, 1) := by decide +kernel
theorem dX12_rests_209 : decode cX12_rests 209 = .ok (.iinc 4 1, 3) := by decide +kernel
theorem dX12_rests_212 : decode cX12_rests 212 = .ok (.iinc 6 1, 3) := by decide +kernel
theorem dX12_rests_215 : decode cX12_rests 215 = .ok (.goto (-135), 3) := by decide +kernel
theorem dX12_rests_218 : decode cX12_rests 218 = .ok (.iinc 5 1, 3) := by decide +kernel
theorem dX12_rests_221 : decode cX12_rests 221 = .ok (.goto (-150), 3) := by decide +kernel
theorem dX12_rests_224 : decode cX12_rests 224 = .ok (.iload_n 3, 1) := by decide +kernel
theorem dX12_rests_225 : decode cX12_rests 225 = .ok (.iconst (-1), 1) := by decide +kernel
theorem dX12_rests_226 : decode cX12_rests 226 = .ok (.if_icmp .ne 8, 3) := by decide +kernel
theorem dX12_rests_229 : decode cX12_rests 229 = .ok (.iload 4, 2) := by decide +kernel
theorem dX12_rests_231 : decode cX12_rests 231 = .ok (.goto 4, 3) := by decide +kernel
theorem dX12_rests_234 : decode cX12_rests 234 = .ok (.iconst (-1), 1) := by decide +kernel
theorem dX12_rests_235 : decode cX12_rests 235 = .ok (.ireturn, 1) := by decide +kernel
theorem dX12_oddsFrom_0 : decode cX12_oddsFrom 0 = .ok (.iload_n 2, 1) := by decide +kernel
theorem dX12_oddsFrom_1 : decode cX12_oddsFrom 1 = .ok (.ifCond .ne 41, 3) := by decide +kernel
theorem dX12_oddsFrom_4 : decode cX12_oddsFrom 4 = .ok (.aload_n 0, 1) := by decide +kernel
theorem dX12_oddsFrom_5 : decode cX12_oddsFrom 5 = .ok (.aload_n 0, 1) := by decide +kernel
theorem dX12_oddsFrom_6 : decode cX12_oddsFrom 6 = .ok (.getfield 64, 3) := by decide +kernel
theorem dX12_oddsFrom_9 : decode cX12_oddsFrom 9 = .ok (.iload_n 1, 1) := by decide +kernel
theorem dX12_oddsFrom_10 : decode cX12_oddsFrom 10 = .ok (.invokevirtual 302, 3) := by decide +kernel
theorem dX12_oddsFrom_13 : decode cX12_oddsFrom 13 = .ok (.ifCond .ne 5, 3) := by decide +kernel
theorem dX12_oddsFrom_16 : decode cX12_oddsFrom 16 = .ok (.iconst 0, 1) := by decide +kernel
theorem dX12_oddsFrom_17 : decode cX12_oddsFrom 17 = .ok (.ireturn, 1) := by decide +kernel
theorem dX12_oddsFrom_18 : decode cX12_oddsFrom 18 = .ok (.aload_n 0, 1) := by decide +kernel
theorem dX12_oddsFrom_19 : decode cX12_oddsFrom 19 = .ok (.aload_n 0, 1) := by decide +kernel
theorem dX12_oddsFrom_20 : decode cX12_oddsFrom 20 = .ok (.getfield 64, 3) := by decide +kernel
theorem dX12_oddsFrom_23 : decode cX12_oddsFrom 23 = .ok (.invokevirtual 341, 3) := by decide +kernel
theorem dX12_oddsFrom_26 : decode cX12_oddsFrom 26 = .ok (.aload_n 0, 1) := by decide +kernel
theorem dX12_oddsFrom_27 : decode cX12_oddsFrom 27 = .ok (.getfield 74, 3) := by decide +kernel
theorem dX12_oddsFrom_30 : decode cX12_oddsFrom 30 = .ok (.iload_n 1, 1) := by decide +kernel
theorem dX12_oddsFrom_31 : decode cX12_oddsFrom 31 = .ok (.iaload, 1) := by decide +kernel
theorem dX12_oddsFrom_32 : decode cX12_oddsFrom 32 = .ok (.ifCond .le 8, 3) := by decide +kernel
theorem dX12_oddsFrom_35 : decode cX12_oddsFrom 35 = .ok (.iload 4, 2) := by decide +kernel
theorem dX12_oddsFrom_37 : decode cX12_oddsFrom 37 = .ok (.goto 4, 3) := by decide +kernel
theorem dX12_oddsFrom_40 : decode cX12_oddsFrom 40 = .ok (.iconst 0, 1) := by decide +kernel
theorem dX12_oddsFrom_41 : decode cX12_oddsFrom 41 = .ok (.ireturn, 1) := by decide +kernel
theorem dX12_oddsFrom_42 : decode cX12_oddsFrom 42 = .ok (.iconst 0, 1) := by decide +kernel
theorem dX12_oddsFrom_43 : decode cX12_oddsFrom 43 = .ok (.istore 5, 2) := by decide +kernel
theorem dX12_oddsFrom_45 : decode cX12_oddsFrom 45 = .ok (.iload 5, 2) := by decide +kernel
theorem dX12_oddsFrom_47 : decode cX12_oddsFrom 47 = .ok (.bipush 36, 2) := by decide +kernel
theorem dX12_oddsFrom_49 : decode cX12_oddsFrom 49 = .ok (.if_icmp .gt 28, 3) := by decide +kernel
theorem dX12_oddsFrom_52 : decode cX12_oddsFrom 52 = .ok (.aload_n 0, 1) := by decide +kernel
theorem dX12_oddsFrom_53 : decode cX12_oddsFrom 53 = .ok (.getfield 86, 3) := by decide +kernel
theorem dX12_oddsFrom_56 : decode cX12_oddsFrom 56 = .ok (.bipush 37, 2) := by decide +kernel
theorem dX12_oddsFrom_58 : decode cX12_oddsFrom 58 = .ok (.iload_n 2, 1) := by decide +kernel
theorem dX12_oddsFrom_59 : decode cX12_oddsFrom 59 = .ok (.imul, 1) := by decide +kernel
theorem dX12_oddsFrom_60 : decode cX12_oddsFrom 60 = .ok (.iload 5, 2) := by decide +kernel
theorem dX12_oddsFrom_62 : decode cX12_oddsFrom 62 = .ok (.iadd, 1) := by decide +kernel
theorem dX12_oddsFrom_63 : decode cX12_oddsFrom 63 = .ok (.aload_n 0, 1) := by decide +kernel
theorem dX12_oddsFrom_64 : decode cX12_oddsFrom 64 = .ok (.getfield 64, 3) := by decide +kernel
theorem dX12_oddsFrom_67 : decode cX12_oddsFrom 67 = .ok (.iload 5, 2) := by decide +kernel
theorem dX12_oddsFrom_69 : decode cX12_oddsFrom 69 = .ok (.iaload, 1) := by decide +kernel
theorem dX12_oddsFrom_70 : decode cX12_oddsFrom 70 = .ok (.iastore, 1) := by decide +kernel
theorem dX12_oddsFrom_71 : decode cX12_oddsFrom 71 = .ok (.iinc 5 1, 3) := by decide +kernel
theorem dX12_oddsFrom_74 : decode cX12_oddsFrom 74 = .ok (.goto (-29), 3) := by decide +kernel
theorem dX12_oddsFrom_77 : decode cX12_oddsFrom 77 = .ok (.aload_n 0, 1) := by decide +kernel
theorem dX12_oddsFrom_78 : decode cX12_oddsFrom 78 = .ok (.getfield 64, 3) := by decide +kernel
theorem dX12_oddsFrom_81 : decode cX12_oddsFrom 81 = .ok (.invokestatic 376, 3) := by decide +kernel
theorem dX12_oddsFrom_84 : decode cX12_oddsFrom 84 = .ok (.ifCond .eq 17, 3) := by decide +kernel
theorem dX12_oddsFrom_87 : decode cX12_oddsFrom 87 = .ok (.iload 4, 2) := by decide +kernel
theorem dX12_oddsFrom_89 : decode cX12_oddsFrom 89 = .ok (.i2l, 1) := by decide +kernel
theorem dX12_oddsFrom_90 : decode cX12_oddsFrom 90 = .ok (.iload_n 3, 1) := by decide +kernel
theorem dX12_oddsFrom_91 : decode cX12_oddsFrom 91 = .ok (.i2l, 1) := by decide +kernel
theorem dX12_oddsFrom_92 : decode cX12_oddsFrom 92 = .ok (.lmul, 1) := by decide +kernel
theorem dX12_oddsFrom_93 : decode cX12_oddsFrom 93 = .ok (.ldc2_w 447, 3) := by decide +kernel
theorem dX12_oddsFrom_96 : decode cX12_oddsFrom 96 = .ok (.ldiv, 1) := by decide +kernel
theorem dX12_oddsFrom_97 : decode cX12_oddsFrom 97 = .ok (.l2i, 1) := by decide +kernel
theorem dX12_oddsFrom_98 : decode cX12_oddsFrom 98 = .ok (.goto 4, 3) := by decide +kernel
theorem dX12_oddsFrom_101 : decode cX12_oddsFrom 101 = .ok (.iconst 0, 1) := by decide +kernel
theorem dX12_oddsFrom_102 : decode cX12_oddsFrom 102 = .ok (.istore 5, 2) := by decide +kernel
theorem dX12_oddsFrom_104 : decode cX12_oddsFrom 104 = .ok (.aload_n 0, 1) := by decide +kernel
theorem dX12_oddsFrom_105 : decode cX12_oddsFrom 105 = .ok (.aload_n 0, 1) := by decide +kernel
theorem dX12_oddsFrom_106 : decode cX12_oddsFrom 106 = .ok (.getfield 64, 3) := by decide +kernel
theorem dX12_oddsFrom_109 : decode cX12_oddsFrom 109 = .ok (.invokevirtual 370, 3) := by decide +kernel
theorem dX12_oddsFrom_112 : decode cX12_oddsFrom 112 = .ok (.istore 6, 2) := by decide +kernel
theorem dX12_oddsFrom_114 : decode cX12_oddsFrom 114 = .ok (.aload_n 0, 1) := by decide +kernel
theorem dX12_oddsFrom_115 : decode cX12_oddsFrom 115 = .ok (.iload_n 1, 1) := by decide +kernel
theorem dX12_oddsFrom_116 : decode cX12_oddsFrom 116 = .ok (.iload_n 2, 1) := by decide +kernel
theorem dX12_oddsFrom_117 : decode cX12_oddsFrom 117 = .ok (.iconst 1, 1) := by decide +kernel
theorem dX12_oddsFrom_118 : decode cX12_oddsFrom 118 = .ok (.isub, 1) := by decide +kernel
theorem dX12_oddsFrom_119 : decode cX12_oddsFrom 119 = .ok (.iload_n 3, 1) := by decide +kernel
theorem dX12_oddsFrom_120 : decode cX12_oddsFrom 120 = .ok (.iload 4, 2) := by decide +kernel
theorem dX12_oddsFrom_122 : decode cX12_oddsFrom 122 = .ok (.iload 5, 2) := by decide +kernel
theorem dX12_oddsFrom_124 : decode cX12_oddsFrom 124 = .ok (.isub, 1) := by decide +kernel
theorem dX12_oddsFrom_125 : decode cX12_oddsFrom 125 = .ok (.invokevirtual 449, 3) := by decide +kernel
theorem dX12_oddsFrom_128 : decode cX12_oddsFrom 128 = .ok (.istore 7, 2) := by decide +kernel
theorem dX12_oddsFrom_130 : decode cX12_oddsFrom 130 = .ok (.iload 5, 2) := by decide +kernel
theorem dX12_oddsFrom_132 : decode cX12_oddsFrom 132 = .ok (.ifCond .le 75, 3) := by decide +kernel
theorem dX12_oddsFrom_135 : decode cX12_oddsFrom 135 = .ok (.iconst 0, 1) := by decide +kernel
theorem dX12_oddsFrom_136 : decode cX12_oddsFrom 136 = .ok (.istore 8, 2) := by decide +kernel
theorem dX12_oddsFrom_138 : decode cX12_oddsFrom 138 = .ok (.iload 8, 2) := by decide +kernel
theorem dX12_oddsFrom_140 : decode cX12_oddsFrom 140 = .ok (.bipush 36, 2) := by decide +kernel
theorem dX12_oddsFrom_142 : decode cX12_oddsFrom 142 = .ok (.if_icmp .gt 28, 3) := by decide +kernel
theorem dX12_oddsFrom_145 : decode cX12_oddsFrom 145 = .ok (.aload_n 0, 1) := by decide +kernel
theorem dX12_oddsFrom_146 : decode cX12_oddsFrom 146 = .ok (.getfield 64, 3) := by decide +kernel
theorem dX12_oddsFrom_149 : decode cX12_oddsFrom 149 = .ok (.iload 8, 2) := by decide +kernel
theorem dX12_oddsFrom_151 : decode cX12_oddsFrom 151 = .ok (.aload_n 0, 1) := by decide +kernel
theorem dX12_oddsFrom_152 : decode cX12_oddsFrom 152 = .ok (.getfield 86, 3) := by decide +kernel
theorem dX12_oddsFrom_155 : decode cX12_oddsFrom 155 = .ok (.bipush 37, 2) := by decide +kernel
theorem dX12_oddsFrom_157 : decode cX12_oddsFrom 157 = .ok (.iload_n 2, 1) := by decide +kernel
theorem dX12_oddsFrom_158 : decode cX12_oddsFrom 158 = .ok (.imul, 1) := by decide +kernel
theorem dX12_oddsFrom_159 : decode cX12_oddsFrom 159 = .ok (.iload 8, 2) := by decide +kernel
theorem dX12_oddsFrom_161 : decode cX12_oddsFrom 161 = .ok (.iadd, 1) := by decide +kernel
theorem dX12_oddsFrom_162 : decode cX12_oddsFrom 162 = .ok (.iaload, 1) := by decide +kernel
theorem dX12_oddsFrom_163 : decode cX12_oddsFrom 163 = .ok (.iastore, 1) := by decide +kernel
theorem dX12_oddsFrom_164 : decode cX12_oddsFrom 164 = .ok (.iinc 8 1, 3) := by decide +kernel
theorem dX12_oddsFrom_167 : decode cX12_oddsFrom 167 = .ok (.goto (-29), 3) := by decide +kernel
theorem dX12_oddsFrom_170 : decode cX12_oddsFrom 170 = .ok (.aload_n 0, 1) := by decide +kernel
theorem dX12_oddsFrom_171 : decode cX12_oddsFrom 171 = .ok (.getfield 64, 3) := by decide +kernel
theorem dX12_oddsFrom_174 : decode cX12_oddsFrom 174 = .ok (.bipush 32, 2) := by decide +kernel
theorem dX12_oddsFrom_176 : decode cX12_oddsFrom 176 = .ok (.dup2, 1) := by decide +kernel
theorem dX12_oddsFrom_177 : decode cX12_oddsFrom 177 = .ok (.iaload, 1) := by decide +kernel
theorem dX12_oddsFrom_178 : decode cX12_oddsFrom 178 = .ok (.iconst 1, 1) := by decide +kernel
theorem dX12_oddsFrom_179 : decode cX12_oddsFrom 179 = .ok (.iadd, 1) := by decide +kernel
theorem dX12_oddsFrom_180 : decode cX12_oddsFrom 180 = .ok (.iastore, 1) := by decide +kernel
theorem dX12_oddsFrom_181 : decode cX12_oddsFrom 181 = .ok (.aload_n 0, 1) := by decide +kernel
theorem dX12_oddsFrom_182 : decode cX12_oddsFrom 182 = .ok (.aload_n 0, 1) := by decide +kernel
theorem dX12_oddsFrom_183 : decode cX12_oddsFrom 183 = .ok (.getfield 64, 3) := by decide +kernel
theorem dX12_oddsFrom_186 : decode cX12_oddsFrom 186 = .ok (.invokevirtual 370, 3) := by decide +kernel
theorem dX12_oddsFrom_189 : decode cX12_oddsFrom 189 = .ok (.istore 6, 2) := by decide +kernel
theorem dX12_oddsFrom_191 : decode cX12_oddsFrom 191 = .ok (.iload 7, 2) := by decide +kernel
theorem dX12_oddsFrom_193 : decode cX12_oddsFrom 193 = .ok (.aload_n 0, 1) := by decide +kernel
theorem dX12_oddsFrom_194 : decode cX12_oddsFrom 194 = .ok (.iload_n 1, 1) := by decide +kernel
theorem dX12_oddsFrom_195 : decode cX12_oddsFrom 195 = .ok (.iload_n 2, 1) := by decide +kernel
theorem dX12_oddsFrom_196 : decode cX12_oddsFrom 196 = .ok (.iconst 1, 1) := by decide +kernel
theorem dX12_oddsFrom_197 : decode cX12_oddsFrom 197 = .ok (.isub, 1) := by decide +kernel
theorem dX12_oddsFrom_198 : decode cX12_oddsFrom 198 = .ok (.iload_n 3, 1) := by decide +kernel
theorem dX12_oddsFrom_199 : decode cX12_oddsFrom 199 = .ok (.iload 5, 2) := by decide +kernel
theorem dX12_oddsFrom_201 : decode cX12_oddsFrom 201 = .ok (.invokevirtual 449, 3) := by decide +kernel
theorem dX12_oddsFrom_204 : decode cX12_oddsFrom 204 = .ok (.iadd, 1) := by decide +kernel
theorem dX12_oddsFrom_205 : decode cX12_oddsFrom 205 = .ok (.istore 7, 2) := by decide +kernel
theorem dX12_oddsFrom_207 : decode cX12_oddsFrom 207 = .ok (.iload 7, 2) := by decide +kernel
theorem dX12_oddsFrom_209 : decode cX12_oddsFrom 209 = .ok (.ireturn, 1) := by decide +kernel
theorem dX12_odds_0 : decode cX12_odds 0 = .ok (.aload_n 0, 1) := by decide +kernel
theorem dX12_odds_1 : decode cX12_odds 1 = .ok (.iconst 0, 1) := by decide +kernel
theorem dX12_odds_2 : decode cX12_odds 2 = .ok (.putfield 92, 3) := by decide +kernel
theorem dX12_odds_5 : decode cX12_odds 5 = .ok (.aload_n 0, 1) := by decide +kernel
theorem dX12_odds_6 : decode cX12_odds 6 = .ok (.iload_n 1, 1) := by decide +kernel
theorem dX12_odds_7 : decode cX12_odds 7 = .ok (.invokevirtual 360, 3) := by decide +kernel
theorem dX12_odds_10 : decode cX12_odds 10 = .ok (.ifCond .eq 27, 3) := by decide +kernel
theorem dX12_odds_13 : decode cX12_odds 13 = .ok (.iload_n 2, 1) := by decide +kernel
theorem dX12_odds_14 : decode cX12_odds 14 = .ok (.i2l, 1) := by decide +kernel
theorem dX12_odds_15 : decode cX12_odds 15 = .ok (.lconst 0, 1) := by decide +kernel
theorem dX12_odds_16 : decode cX12_odds 16 = .ok (.ldc2_w 453, 3) := by decide +kernel
theorem dX12_odds_19 : decode cX12_odds 19 = .ok (.invokestatic 213, 3) := by decide +kernel
theorem dX12_odds_22 : decode cX12_odds 22 = .ok (.ifCond .eq 15, 3) := by decide +kernel
theorem dX12_odds_25 : decode cX12_odds 25 = .ok (.iload_n 3, 1) := by decide +kernel
theorem dX12_odds_26 : decode cX12_odds 26 = .ok (.i2l, 1) := by decide +kernel
theorem dX12_odds_27 : decode cX12_odds 27 = .ok (.lconst 0, 1) := by decide +kernel
theorem dX12_odds_28 : decode cX12_odds 28 = .ok (.ldc2_w 447, 3) := by decide +kernel
theorem dX12_odds_31 : decode cX12_odds 31 = .ok (.invokestatic 213, 3) := by decide +kernel
theorem dX12_odds_34 : decode cX12_odds 34 = .ok (.ifCond .ne 5, 3) := by decide +kernel
theorem dX12_odds_37 : decode cX12_odds 37 = .ok (.iconst (-1), 1) := by decide +kernel
theorem dX12_odds_38 : decode cX12_odds 38 = .ok (.ireturn, 1) := by decide +kernel
theorem dX12_odds_39 : decode cX12_odds 39 = .ok (.aload_n 0, 1) := by decide +kernel
theorem dX12_odds_40 : decode cX12_odds 40 = .ok (.getfield 61, 3) := by decide +kernel
theorem dX12_odds_43 : decode cX12_odds 43 = .ok (.aload_n 0, 1) := by decide +kernel
theorem dX12_odds_44 : decode cX12_odds 44 = .ok (.getfield 64, 3) := by decide +kernel
theorem dX12_odds_47 : decode cX12_odds 47 = .ok (.invokestatic 409, 3) := by decide +kernel
theorem dX12_odds_50 : decode cX12_odds 50 = .ok (.aload_n 0, 1) := by decide +kernel
theorem dX12_odds_51 : decode cX12_odds 51 = .ok (.iload_n 1, 1) := by decide +kernel
theorem dX12_odds_52 : decode cX12_odds 52 = .ok (.iload_n 2, 1) := by decide +kernel
theorem dX12_odds_53 : decode cX12_odds 53 = .ok (.iload_n 3, 1) := by decide +kernel
theorem dX12_odds_54 : decode cX12_odds 54 = .ok (.ldc_w 455, 3) := by decide +kernel
theorem dX12_odds_57 : decode cX12_odds 57 = .ok (.invokevirtual 449, 3) := by decide +kernel
theorem dX12_odds_60 : decode cX12_odds 60 = .ok (.ireturn, 1) := by decide +kernel
theorem dX12_valueOf_0 : decode cX12_valueOf 0 = .ok (.iload_n 1, 1) := by decide +kernel
theorem dX12_valueOf_1 : decode cX12_valueOf 1 = .ok (.ifCond .ne 16, 3) := by decide +kernel
theorem dX12_valueOf_4 : decode cX12_valueOf 4 = .ok (.aload_n 0, 1) := by decide +kernel
theorem dX12_valueOf_5 : decode cX12_valueOf 5 = .ok (.getfield 61, 3) := by decide +kernel
theorem dX12_valueOf_8 : decode cX12_valueOf 8 = .ok (.iconst 4, 1) := by decide +kernel
theorem dX12_valueOf_9 : decode cX12_valueOf 9 = .ok (.iload_n 2, 1) := by decide +kernel
theorem dX12_valueOf_10 : decode cX12_valueOf 10 = .ok (.imul, 1) := by decide +kernel
theorem dX12_valueOf_11 : decode cX12_valueOf 11 = .ok (.iconst 2, 1) := by decide +kernel
theorem dX12_valueOf_12 : decode cX12_valueOf 12 = .ok (.iadd, 1) := by decide +kernel
theorem dX12_valueOf_13 : decode cX12_valueOf 13 = .ok (.iaload, 1) := by decide +kernel
theorem dX12_valueOf_14 : decode cX12_valueOf 14 = .ok (.goto 26, 3) := by decide +kernel
theorem dX12_valueOf_17 : decode cX12_valueOf 17 = .ok (.iload_n 1, 1) := by decide +kernel
theorem dX12_valueOf_18 : decode cX12_valueOf 18 = .ok (.iconst 1, 1) := by decide +kernel
theorem dX12_valueOf_19 : decode cX12_valueOf 19 = .ok (.if_icmp .ne 16, 3) := by decide +kernel
theorem dX12_valueOf_22 : decode cX12_valueOf 22 = .ok (.aload_n 0, 1) := by decide +kernel
theorem dX12_valueOf_23 : decode cX12_valueOf 23 = .ok (.getfield 61, 3) := by decide +kernel
theorem dX12_valueOf_26 : decode cX12_valueOf 26 = .ok (.iconst 4, 1) := by decide +kernel
theorem dX12_valueOf_27 : decode cX12_valueOf 27 = .ok (.iload_n 2, 1) := by decide +kernel
theorem dX12_valueOf_28 : decode cX12_valueOf 28 = .ok (.imul, 1) := by decide +kernel
theorem dX12_valueOf_29 : decode cX12_valueOf 29 = .ok (.iconst 0, 1) := by decide +kernel
theorem dX12_valueOf_30 : decode cX12_valueOf 30 = .ok (.iadd, 1) := by decide +kernel
theorem dX12_valueOf_31 : decode cX12_valueOf 31 = .ok (.iaload, 1) := by decide +kernel
theorem dX12_valueOf_32 : decode cX12_valueOf 32 = .ok (.goto 8, 3) := by decide +kernel
theorem dX12_valueOf_35 : decode cX12_valueOf 35 = .ok (.aload_n 0, 1) := by decide +kernel
theorem dX12_valueOf_36 : decode cX12_valueOf 36 = .ok (.iload_n 2, 1) := by decide +kernel
theorem dX12_valueOf_37 : decode cX12_valueOf 37 = .ok (.invokevirtual 306, 3) := by decide +kernel
theorem dX12_valueOf_40 : decode cX12_valueOf 40 = .ok (.ireturn, 1) := by decide +kernel
theorem dX12_greatest_0 : decode cX12_greatest 0 = .ok (.iconst 0, 1) := by decide +kernel
theorem dX12_greatest_1 : decode cX12_greatest 1 = .ok (.istore_n 2, 1) := by decide +kernel
theorem dX12_greatest_2 : decode cX12_greatest 2 = .ok (.iconst 1, 1) := by decide +kernel
theorem dX12_greatest_3 : decode cX12_greatest 3 = .ok (.istore_n 3, 1) := by decide +kernel
theorem dX12_greatest_4 : decode cX12_greatest 4 = .ok (.iload_n 3, 1) := by decide +kernel
theorem dX12_greatest_5 : decode cX12_greatest 5 = .ok (.aload_n 0, 1) := by decide +kernel
theorem dX12_greatest_6 : decode cX12_greatest 6 = .ok (.getfield 287, 3) := by decide +kernel
theorem dX12_greatest_9 : decode cX12_greatest 9 = .ok (.if_icmp .ge 30, 3) := by decide +kernel
theorem dX12_greatest_12 : decode cX12_greatest 12 = .ok (.aload_n 0, 1) := by decide +kernel
theorem dX12_greatest_13 : decode cX12_greatest 13 = .ok (.iload_n 1, 1) := by decide +kernel
theorem dX12_greatest_14 : decode cX12_greatest 14 = .ok (.iload_n 3, 1) := by decide +kernel
theorem dX12_greatest_15 : decode cX12_greatest 15 = .ok (.invokevirtual 456, 3) := by decide +kernel
theorem dX12_greatest_18 : decode cX12_greatest 18 = .ok (.aload_n 0, 1) := by decide +kernel
theorem dX12_greatest_19 : decode cX12_greatest 19 = .ok (.iload_n 1, 1) := by decide +kernel
theorem dX12_greatest_20 : decode cX12_greatest 20 = .ok (.iload_n 2, 1) := by decide +kernel
theorem dX12_greatest_21 : decode cX12_greatest 21 = .ok (.invokevirtual 456, 3) := by decide +kernel
theorem dX12_greatest_24 : decode cX12_greatest 24 = .ok (.if_icmp .le 7, 3) := by decide +kernel
theorem dX12_greatest_27 : decode cX12_greatest 27 = .ok (.iload_n 3, 1) := by decide +kernel
theorem dX12_greatest_28 : decode cX12_greatest 28 = .ok (.goto 4, 3) := by decide +kernel
theorem dX12_greatest_31 : decode cX12_greatest 31 = .ok (.iload_n 2, 1) := by decide +kernel
theorem dX12_greatest_32 : decode cX12_greatest 32 = .ok (.istore_n 2, 1) := by decide +kernel
theorem dX12_greatest_33 : decode cX12_greatest 33 = .ok (.iinc 3 1, 3) := by decide +kernel
theorem dX12_greatest_36 : decode cX12_greatest 36 = .ok (.goto (-32), 3) := by decide +kernel
theorem dX12_greatest_39 : decode cX12_greatest 39 = .ok (.iload_n 2, 1) := by decide +kernel
theorem dX12_greatest_40 : decode cX12_greatest 40 = .ok (.ireturn, 1) := by decide +kernel
theorem dX12_likers_0 : decode cX12_likers 0 = .ok (.iconst 0, 1) := by decide +kernel
theorem dX12_likers_1 : decode cX12_likers 1 = .ok (.istore_n 2, 1) := by decide +kernel
theorem dX12_likers_2 : decode cX12_likers 2 = .ok (.iconst 0, 1) := by decide +kernel
theorem dX12_likers_3 : decode cX12_likers 3 = .ok (.istore_n 3, 1) := by decide +kernel
theorem dX12_likers_4 : decode cX12_likers 4 = .ok (.iload_n 3, 1) := by decide +kernel
theorem dX12_likers_5 : decode cX12_likers 5 = .ok (.aload_n 0, 1) := by decide +kernel
theorem dX12_likers_6 : decode cX12_likers 6 = .ok (.getfield 287, 3) := by decide +kernel
theorem dX12_likers_9 : decode cX12_likers 9 = .ok (.if_icmp .ge 47, 3) := by decide +kernel
theorem dX12_likers_12 : decode cX12_likers 12 = .ok (.iload_n 2, 1) := by decide +kernel
theorem dX12_likers_13 : decode cX12_likers 13 = .ok (.aload_n 0, 1) := by decide +kernel
theorem dX12_likers_14 : decode cX12_likers 14 = .ok (.aload_n 0, 1) := by decide +kernel
theorem dX12_likers_15 : decode cX12_likers 15 = .ok (.getfield 61, 3) := by decide +kernel
theorem dX12_likers_18 : decode cX12_likers 18 = .ok (.iload_n 3, 1) := by decide +kernel
theorem dX12_likers_19 : decode cX12_likers 19 = .ok (.invokevirtual 302, 3) := by decide +kernel
theorem dX12_likers_22 : decode cX12_likers 22 = .ok (.ifCond .eq 25, 3) := by decide +kernel
theorem dX12_likers_25 : decode cX12_likers 25 = .ok (.aload_n 0, 1) := by decide +kernel
theorem dX12_likers_26 : decode cX12_likers 26 = .ok (.getfield 61, 3) := by decide +kernel
theorem dX12_likers_29 : decode cX12_likers 29 = .ok (.iconst 4, 1) := by decide +kernel
theorem dX12_likers_30 : decode cX12_likers 30 = .ok (.iload_n 3, 1) := by decide +kernel
theorem dX12_likers_31 : decode cX12_likers 31 = .ok (.imul, 1) := by decide +kernel
theorem dX12_likers_32 : decode cX12_likers 32 = .ok (.iconst 1, 1) := by decide +kernel
theorem dX12_likers_33 : decode cX12_likers 33 = .ok (.iadd, 1) := by decide +kernel
theorem dX12_likers_34 : decode cX12_likers 34 = .ok (.iaload, 1) := by decide +kernel
theorem dX12_likers_35 : decode cX12_likers 35 = .ok (.aload_n 0, 1) := by decide +kernel
theorem dX12_likers_36 : decode cX12_likers 36 = .ok (.iload_n 1, 1) := by decide +kernel
theorem dX12_likers_37 : decode cX12_likers 37 = .ok (.invokevirtual 344, 3) := by decide +kernel
theorem dX12_likers_40 : decode cX12_likers 40 = .ok (.if_icmp .ne 7, 3) := by decide +kernel
theorem dX12_likers_43 : decode cX12_likers 43 = .ok (.iconst 1, 1) := by decide +kernel
theorem dX12_likers_44 : decode cX12_likers 44 = .ok (.goto 4, 3) := by decide +kernel
theorem dX12_likers_47 : decode cX12_likers 47 = .ok (.iconst 0, 1) := by decide +kernel
theorem dX12_likers_48 : decode cX12_likers 48 = .ok (.iadd, 1) := by decide +kernel
theorem dX12_likers_49 : decode cX12_likers 49 = .ok (.istore_n 2, 1) := by decide +kernel
theorem dX12_likers_50 : decode cX12_likers 50 = .ok (.iinc 3 1, 3) := by decide +kernel
theorem dX12_likers_53 : decode cX12_likers 53 = .ok (.goto (-49), 3) := by decide +kernel
theorem dX12_likers_56 : decode cX12_likers 56 = .ok (.iload_n 2, 1) := by decide +kernel
theorem dX12_likers_57 : decode cX12_likers 57 = .ok (.ireturn, 1) := by decide +kernel
theorem dX12_ofDish_0 : decode cX12_ofDish 0 = .ok (.iconst 0, 1) := by decide +kernel
theorem dX12_ofDish_1 : decode cX12_ofDish 1 = .ok (.istore_n 2, 1) := by decide +kernel
theorem dX12_ofDish_2 : decode cX12_ofDish 2 = .ok (.iconst 1, 1) := by decide +kernel
theorem dX12_ofDish_3 : decode cX12_ofDish 3 = .ok (.istore_n 3, 1) := by decide +kernel
theorem dX12_ofDish_4 : decode cX12_ofDish 4 = .ok (.iload_n 3, 1) := by decide +kernel
theorem dX12_ofDish_5 : decode cX12_ofDish 5 = .ok (.aload_n 0, 1) := by decide +kernel
theorem dX12_ofDish_6 : decode cX12_ofDish 6 = .ok (.getfield 284, 3) := by decide +kernel
theorem dX12_ofDish_9 : decode cX12_ofDish 9 = .ok (.if_icmp .ge 87, 3) := by decide +kernel
theorem dX12_ofDish_12 : decode cX12_ofDish 12 = .ok (.iload_n 1, 1) := by decide +kernel
theorem dX12_ofDish_13 : decode cX12_ofDish 13 = .ok (.iconst 3, 1) := by decide +kernel
theorem dX12_ofDish_14 : decode cX12_ofDish 14 = .ok (.if_icmp .ne 23, 3) := by decide +kernel
theorem dX12_ofDish_17 : decode cX12_ofDish 17 = .ok (.aload_n 0, 1) := by decide +kernel
theorem dX12_ofDish_18 : decode cX12_ofDish 18 = .ok (.getfield 43, 3) := by decide +kernel
theorem dX12_ofDish_21 : decode cX12_ofDish 21 = .ok (.iconst 3, 1) := by decide +kernel
theorem dX12_ofDish_22 : decode cX12_ofDish 22 = .ok (.iload_n 3, 1) := by decide +kernel
theorem dX12_ofDish_23 : decode cX12_ofDish 23 = .ok (.imul, 1) := by decide +kernel
theorem dX12_ofDish_24 : decode cX12_ofDish 24 = .ok (.iaload, 1) := by decide +kernel
theorem dX12_ofDish_25 : decode cX12_ofDish 25 = .ok (.aload_n 0, 1) := by decide +kernel
theorem dX12_ofDish_26 : decode cX12_ofDish 26 = .ok (.getfield 43, 3) := by decide +kernel
theorem dX12_ofDish_29 : decode cX12_ofDish 29 = .ok (.iconst 3, 1) := by decide +kernel
theorem dX12_ofDish_30 : decode cX12_ofDish 30 = .ok (.iload_n 2, 1) := by decide +kernel
theorem dX12_ofDish_31 : decode cX12_ofDish 31 = .ok (.imul, 1) := by decide +kernel
theorem dX12_ofDish_32 : decode cX12_ofDish 32 = .ok (.iaload, 1) := by decide +kernel
theorem dX12_ofDish_33 : decode cX12_ofDish 33 = .ok (.isub, 1) := by decide +kernel
theorem dX12_ofDish_34 : decode cX12_ofDish 34 = .ok (.goto 43, 3) := by decide +kernel
theorem dX12_ofDish_37 : decode cX12_ofDish 37 = .ok (.iload_n 1, 1) := by decide +kernel
theorem dX12_ofDish_38 : decode cX12_ofDish 38 = .ok (.iconst 4, 1) := by decide +kernel
theorem dX12_ofDish_39 : decode cX12_ofDish 39 = .ok (.if_icmp .ne 27, 3) := by decide +kernel
theorem dX12_ofDish_42 : decode cX12_ofDish 42 = .ok (.aload_n 0, 1) := by decide +kernel
theorem dX12_ofDish_43 : decode cX12_ofDish 43 = .ok (.getfield 43, 3) := by decide +kernel
theorem dX12_ofDish_46 : decode cX12_ofDish 46 = .ok (.iconst 3, 1) := by decide +kernel
theorem dX12_ofDish_47 : decode cX12_ofDish 47 = .ok (.iload_n 2, 1) := by decide +kernel
theorem dX12_ofDish_48 : decode cX12_ofDish 48 = .ok (.imul, 1) := by decide +kernel
theorem dX12_ofDish_49 : decode cX12_ofDish 49 = .ok (.iconst 1, 1) := by decide +kernel
theorem dX12_ofDish_50 : decode cX12_ofDish 50 = .ok (.iadd, 1) := by decide +kernel
theorem dX12_ofDish_51 : decode cX12_ofDish 51 = .ok (.iaload, 1) := by decide +kernel
theorem dX12_ofDish_52 : decode cX12_ofDish 52 = .ok (.aload_n 0, 1) := by decide +kernel
theorem dX12_ofDish_53 : decode cX12_ofDish 53 = .ok (.getfield 43, 3) := by decide +kernel
theorem dX12_ofDish_56 : decode cX12_ofDish 56 = .ok (.iconst 3, 1) := by decide +kernel
theorem dX12_ofDish_57 : decode cX12_ofDish 57 = .ok (.iload_n 3, 1) := by decide +kernel
theorem dX12_ofDish_58 : decode cX12_ofDish 58 = .ok (.imul, 1) := by decide +kernel
theorem dX12_ofDish_59 : decode cX12_ofDish 59 = .ok (.iconst 1, 1) := by decide +kernel
theorem dX12_ofDish_60 : decode cX12_ofDish 60 = .ok (.iadd, 1) := by decide +kernel
theorem dX12_ofDish_61 : decode cX12_ofDish 61 = .ok (.iaload, 1) := by decide +kernel
theorem dX12_ofDish_62 : decode cX12_ofDish 62 = .ok (.isub, 1) := by decide +kernel
theorem dX12_ofDish_63 : decode cX12_ofDish 63 = .ok (.goto 14, 3) := by decide +kernel
theorem dX12_ofDish_66 : decode cX12_ofDish 66 = .ok (.aload_n 0, 1) := by decide +kernel
theorem dX12_ofDish_67 : decode cX12_ofDish 67 = .ok (.iload_n 3, 1) := by decide +kernel
theorem dX12_ofDish_68 : decode cX12_ofDish 68 = .ok (.invokevirtual 459, 3) := by decide +kernel
theorem dX12_ofDish_71 : decode cX12_ofDish 71 = .ok (.aload_n 0, 1) := by decide +kernel
theorem dX12_ofDish_72 : decode cX12_ofDish 72 = .ok (.iload_n 2, 1) := by decide +kernel
theorem dX12_ofDish_73 : decode cX12_ofDish 73 = .ok (.invokevirtual 459, 3) := by decide +kernel
theorem dX12_ofDish_76 : decode cX12_ofDish 76 = .ok (.isub, 1) := by decide +kernel
theorem dX12_ofDish_77 : decode cX12_ofDish 77 = .ok (.istore 4, 2) := by decide +kernel
theorem dX12_ofDish_79 : decode cX12_ofDish 79 = .ok (.iload 4, 2) := by decide +kernel
theorem dX12_ofDish_81 : decode cX12_ofDish 81 = .ok (.ifCond .le 7, 3) := by decide +kernel
theorem dX12_ofDish_84 : decode cX12_ofDish 84 = .ok (.iload_n 3, 1) := by decide +kernel
theorem dX12_ofDish_85 : decode cX12_ofDish 85 = .ok (.goto 4, 3) := by decide +kernel
theorem dX12_ofDish_88 : decode cX12_ofDish 88 = .ok (.iload_n 2, 1) := by decide +kernel
theorem dX12_ofDish_89 : decode cX12_ofDish 89 = .ok (.istore_n 2, 1) := by decide +kernel
theorem dX12_ofDish_90 : decode cX12_ofDish 90 = .ok (.iinc 3 1, 3) := by decide +kernel
theorem dX12_ofDish_93 : decode cX12_ofDish 93 = .ok (.goto (-89), 3) := by decide +kernel
theorem dX12_ofDish_96 : decode cX12_ofDish 96 = .ok (.iload_n 2, 1) := by decide +kernel
theorem dX12_ofDish_97 : decode cX12_ofDish 97 = .ok (.ireturn, 1) := by decide +kernel
theorem dX12_last_0 : decode cX12_last 0 = .ok (.iconst (-1), 1) := by decide +kernel
theorem dX12_last_1 : decode cX12_last 1 = .ok (.istore_n 1, 1) := by decide +kernel
theorem dX12_last_2 : decode cX12_last 2 = .ok (.iconst 0, 1) := by decide +kernel
theorem dX12_last_3 : decode cX12_last 3 = .ok (.istore_n 2, 1) := by decide +kernel
theorem dX12_last_4 : decode cX12_last 4 = .ok (.iload_n 2, 1) := by decide +kernel
theorem dX12_last_5 : decode cX12_last 5 = .ok (.aload_n 0, 1) := by decide +kernel
theorem dX12_last_6 : decode cX12_last 6 = .ok (.getfield 287, 3) := by decide +kernel
theorem dX12_last_9 : decode cX12_last 9 = .ok (.if_icmp .ge 45, 3) := by decide +kernel
theorem dX12_last_12 : decode cX12_last 12 = .ok (.aload_n 0, 1) := by decide +kernel
theorem dX12_last_13 : decode cX12_last 13 = .ok (.getfield 61, 3) := by decide +kernel
theorem dX12_last_16 : decode cX12_last 16 = .ok (.iconst 4, 1) := by decide +kernel
theorem dX12_last_17 : decode cX12_last 17 = .ok (.iload_n 2, 1) := by decide +kernel
theorem dX12_last_18 : decode cX12_last 18 = .ok (.imul, 1) := by decide +kernel
theorem dX12_last_19 : decode cX12_last 19 = .ok (.iconst 3, 1) := by decide +kernel
theorem dX12_last_20 : decode cX12_last 20 = .ok (.iadd, 1) := by decide +kernel
theorem dX12_last_21 : decode cX12_last 21 = .ok (.iaload, 1) := by decide +kernel
theorem dX12_last_22 : decode cX12_last 22 = .ok (.ifCond .ne 26, 3) := by decide +kernel
theorem dX12_last_25 : decode cX12_last 25 = .ok (.iload_n 1, 1) := by decide +kernel
theorem dX12_last_26 : decode cX12_last 26 = .ok (.aload_n 0, 1) := by decide +kernel
theorem dX12_last_27 : decode cX12_last 27 = .ok (.iload_n 2, 1) := by decide +kernel
theorem dX12_last_28 : decode cX12_last 28 = .ok (.invokevirtual 299, 3) := by decide +kernel
theorem dX12_last_31 : decode cX12_last 31 = .ok (.aload_n 0, 1) := by decide +kernel
theorem dX12_last_32 : decode cX12_last 32 = .ok (.getfield 61, 3) := by decide +kernel
theorem dX12_last_35 : decode cX12_last 35 = .ok (.iconst 4, 1) := by decide +kernel
theorem dX12_last_36 : decode cX12_last 36 = .ok (.iload_n 2, 1) := by decide +kernel
theorem dX12_last_37 : decode cX12_last 37 = .ok (.imul, 1) := by decide +kernel
theorem dX12_last_38 : decode cX12_last 38 = .ok (.iconst 0, 1) := by decide +kernel
theorem dX12_last_39 : decode cX12_last 39 = .ok (.iadd, 1) := by decide +kernel
theorem dX12_last_40 : decode cX12_last 40 = .ok (.iaload, 1) := by decide +kernel
theorem dX12_last_41 : decode cX12_last 41 = .ok (.iadd, 1) := by decide +kernel
theorem dX12_last_42 : decode cX12_last 42 = .ok (.iconst 1, 1) := by decide +kernel
theorem dX12_last_43 : decode cX12_last 43 = .ok (.isub, 1) := by decide +kernel
theorem dX12_last_44 : decode cX12_last 44 = .ok (.invokestatic 311, 3) := by decide +kernel
theorem dX12_last_47 : decode cX12_last 47 = .ok (.istore_n 1, 1) := by decide +kernel
theorem dX12_last_48 : decode cX12_last 48 = .ok (.iinc 2 1, 3) := by decide +kernel
theorem dX12_last_51 : decode cX12_last 51 = .ok (.goto (-47), 3) := by decide +kernel
theorem dX12_last_54 : decode cX12_last 54 = .ok (.iload_n 1, 1) := by decide +kernel
theorem dX12_last_55 : decode cX12_last 55 = .ok (.ireturn, 1) := by decide +kernel
theorem dX12_takes__0 : decode cX12_takes_ 0 = .ok (.iconst 0, 1) := by decide +kernel
theorem dX12_takes__1 : decode cX12_takes_ 1 = .ok (.istore_n 1, 1) := by decide +kernel
theorem dX12_takes__2 : decode cX12_takes_ 2 = .ok (.iconst 0, 1) := by decide +kernel
theorem dX12_takes__3 : decode cX12_takes_ 3 = .ok (.istore_n 2, 1) := by decide +kernel
theorem dX12_takes__4 : decode cX12_takes_ 4 = .ok (.iload_n 2, 1) := by decide +kernel
theorem dX12_takes__5 : decode cX12_takes_ 5 = .ok (.aload_n 0, 1) := by decide +kernel
theorem dX12_takes__6 : decode cX12_takes_ 6 = .ok (.getfield 287, 3) := by decide +kernel
theorem dX12_takes__9 : decode cX12_takes_ 9 = .ok (.if_icmp .ge 33, 3) := by decide +kernel
theorem dX12_takes__12 : decode cX12_takes_ 12 = .ok (.iload_n 1, 1) := by decide +kernel
theorem dX12_takes__13 : decode cX12_takes_ 13 = .ok (.aload_n 0, 1) := by decide +kernel
theorem dX12_takes__14 : decode cX12_takes_ 14 = .ok (.aload_n 0, 1) := by decide +kernel
theorem dX12_takes__15 : decode cX12_takes_ 15 = .ok (.getfield 61, 3) := by decide +kernel
theorem dX12_takes__18 : decode cX12_takes_ 18 = .ok (.iload_n 2, 1) := by decide +kernel
theorem dX12_takes__19 : decode cX12_takes_ 19 = .ok (.invokevirtual 302, 3) := by decide +kernel
theorem dX12_takes__22 : decode cX12_takes_ 22 = .ok (.ifCond .eq 11, 3) := by decide +kernel
theorem dX12_takes__25 : decode cX12_takes_ 25 = .ok (.aload_n 0, 1) := by decide +kernel
theorem dX12_takes__26 : decode cX12_takes_ 26 = .ok (.iload_n 2, 1) := by decide +kernel
theorem dX12_takes__27 : decode cX12_takes_ 27 = .ok (.invokevirtual 306, 3) := by decide +kernel
theorem dX12_takes__30 : decode cX12_takes_ 30 = .ok (.goto 4, 3) := by decide +kernel
theorem dX12_takes__33 : decode cX12_takes_ 33 = .ok (.iconst 0, 1) := by decide +kernel
theorem dX12_takes__34 : decode cX12_takes_ 34 = .ok (.iadd, 1) := by decide +kernel
theorem dX12_takes__35 : decode cX12_takes_ 35 = .ok (.istore_n 1, 1) := by decide +kernel
theorem dX12_takes__36 : decode cX12_takes_ 36 = .ok (.iinc 2 1, 3) := by decide +kernel
theorem dX12_takes__39 : decode cX12_takes_ 39 = .ok (.goto (-35), 3) := by decide +kernel
theorem dX12_takes__42 : decode cX12_takes_ 42 = .ok (.iload_n 1, 1) := by decide +kernel
theorem dX12_takes__43 : decode cX12_takes_ 43 = .ok (.ireturn, 1) := by decide +kernel
theorem dX12_mustard_0 : decode cX12_mustard 0 = .ok (.aload_n 0, 1) := by decide +kernel
theorem dX12_mustard_1 : decode cX12_mustard 1 = .ok (.getfield 61, 3) := by decide +kernel
theorem dX12_mustard_4 : decode cX12_mustard 4 = .ok (.aload_n 0, 1) := by decide +kernel
theorem dX12_mustard_5 : decode cX12_mustard 5 = .ok (.getfield 64, 3) := by decide +kernel
theorem dX12_mustard_8 : decode cX12_mustard 8 = .ok (.invokestatic 409, 3) := by decide +kernel
theorem dX12_mustard_11 : decode cX12_mustard 11 = .ok (.iconst 0, 1) := by decide +kernel
theorem dX12_mustard_12 : decode cX12_mustard 12 = .ok (.istore_n 1, 1) := by decide +kernel
theorem dX12_mustard_13 : decode cX12_mustard 13 = .ok (.iload_n 1, 1) := by decide +kernel
theorem dX12_mustard_14 : decode cX12_mustard 14 = .ok (.bipush 60, 2) := by decide +kernel
theorem dX12_mustard_16 : decode cX12_mustard 16 = .ok (.if_icmp .gt 35, 3) := by decide +kernel
theorem dX12_mustard_19 : decode cX12_mustard 19 = .ok (.aload_n 0, 1) := by decide +kernel
theorem dX12_mustard_20 : decode cX12_mustard 20 = .ok (.aload_n 0, 1) := by decide +kernel
theorem dX12_mustard_21 : decode cX12_mustard 21 = .ok (.getfield 64, 3) := by decide +kernel
theorem dX12_mustard_24 : decode cX12_mustard 24 = .ok (.invokevirtual 326, 3) := by decide +kernel
theorem dX12_mustard_27 : decode cX12_mustard 27 = .ok (.istore_n 2, 1) := by decide +kernel
theorem dX12_mustard_28 : decode cX12_mustard 28 = .ok (.aload_n 0, 1) := by decide +kernel
theorem dX12_mustard_29 : decode cX12_mustard 29 = .ok (.aload_n 0, 1) := by decide +kernel
theorem dX12_mustard_30 : decode cX12_mustard 30 = .ok (.getfield 64, 3) := by decide +kernel
theorem dX12_mustard_33 : decode cX12_mustard 33 = .ok (.invokevirtual 370, 3) := by decide +kernel
theorem dX12_mustard_36 : decode cX12_mustard 36 = .ok (.ifCond .ne 9, 3) := by decide +kernel
theorem dX12_mustard_39 : decode cX12_mustard 39 = .ok (.iload_n 2, 1) := by decide +kernel
theorem dX12_mustard_40 : decode cX12_mustard 40 = .ok (.ifCond .eq 5, 3) := by decide +kernel
theorem dX12_mustard_43 : decode cX12_mustard 43 = .ok (.iload_n 1, 1) := by decide +kernel
theorem dX12_mustard_44 : decode cX12_mustard 44 = .ok (.ireturn, 1) := by decide +kernel
theorem dX12_mustard_45 : decode cX12_mustard 45 = .ok (.iinc 1 1, 3) := by decide +kernel
theorem dX12_mustard_48 : decode cX12_mustard 48 = .ok (.goto (-35), 3) := by decide +kernel
theorem dX12_mustard_51 : decode cX12_mustard 51 = .ok (.iconst (-1), 1) := by decide +kernel
theorem dX12_mustard_52 : decode cX12_mustard 52 = .ok (.ireturn, 1) := by decide +kernel
theorem dX12_fullest_0 : decode cX12_fullest 0 = .ok (.aload_n 0, 1) := by decide +kernel
theorem dX12_fullest_1 : decode cX12_fullest 1 = .ok (.getfield 61, 3) := by decide +kernel
theorem dX12_fullest_4 : decode cX12_fullest 4 = .ok (.aload_n 0, 1) := by decide +kernel
theorem dX12_fullest_5 : decode cX12_fullest 5 = .ok (.getfield 64, 3) := by decide +kernel
theorem dX12_fullest_8 : decode cX12_fullest 8 = .ok (.invokestatic 409, 3) := by decide +kernel
theorem dX12_fullest_11 : decode cX12_fullest 11 = .ok (.iconst 0, 1) := by decide +kernel
theorem dX12_fullest_12 : decode cX12_fullest 12 = .ok (.istore_n 1, 1) := by decide +kernel
theorem dX12_fullest_13 : decode cX12_fullest 13 = .ok (.iconst 0, 1) := by decide +kernel
theorem dX12_fullest_14 : decode cX12_fullest 14 = .ok (.istore_n 2, 1) := by decide +kernel
theorem dX12_fullest_15 : decode cX12_fullest 15 = .ok (.iconst 0, 1) := by decide +kernel
theorem dX12_fullest_16 : decode cX12_fullest 16 = .ok (.istore_n 3, 1) := by decide +kernel
theorem dX12_fullest_17 : decode cX12_fullest 17 = .ok (.iload_n 3, 1) := by decide +kernel
theorem dX12_fullest_18 : decode cX12_fullest 18 = .ok (.bipush 20, 2) := by decide +kernel
theorem dX12_fullest_20 : decode cX12_fullest 20 = .ok (.if_icmp .ge 47, 3) := by decide +kernel
theorem dX12_fullest_23 : decode cX12_fullest 23 = .ok (.aload_n 0, 1) := by decide +kernel
theorem dX12_fullest_24 : decode cX12_fullest 24 = .ok (.aload_n 0, 1) := by decide +kernel
theorem dX12_fullest_25 : decode cX12_fullest 25 = .ok (.getfield 64, 3) := by decide +kernel
theorem dX12_fullest_28 : decode cX12_fullest 28 = .ok (.invokevirtual 326, 3) := by decide +kernel
theorem dX12_fullest_31 : decode cX12_fullest 31 = .ok (.invokestatic 329, 3) := by decide +kernel
theorem dX12_fullest_34 : decode cX12_fullest 34 = .ok (.istore 4, 2) := by decide +kernel
theorem dX12_fullest_36 : decode cX12_fullest 36 = .ok (.iload 4, 2) := by decide +kernel
theorem dX12_fullest_38 : decode cX12_fullest 38 = .ok (.iload_n 2, 1) := by decide +kernel
theorem dX12_fullest_39 : decode cX12_fullest 39 = .ok (.if_icmp .le 5, 3) := by decide +kernel
theorem dX12_fullest_42 : decode cX12_fullest 42 = .ok (.iload_n 3, 1) := by decide +kernel
theorem dX12_fullest_43 : decode cX12_fullest 43 = .ok (.istore_n 1, 1) := by decide +kernel
theorem dX12_fullest_44 : decode cX12_fullest 44 = .ok (.iload_n 2, 1) := by decide +kernel
theorem dX12_fullest_45 : decode cX12_fullest 45 = .ok (.iload 4, 2) := by decide +kernel
theorem dX12_fullest_47 : decode cX12_fullest 47 = .ok (.invokestatic 311, 3) := by decide +kernel
theorem dX12_fullest_50 : decode cX12_fullest 50 = .ok (.istore_n 2, 1) := by decide +kernel
theorem dX12_fullest_51 : decode cX12_fullest 51 = .ok (.aload_n 0, 1) := by decide +kernel
theorem dX12_fullest_52 : decode cX12_fullest 52 = .ok (.aload_n 0, 1) := by decide +kernel
theorem dX12_fullest_53 : decode cX12_fullest 53 = .ok (.getfield 64, 3) := by decide +kernel
theorem dX12_fullest_56 : decode cX12_fullest 56 = .ok (.invokevirtual 370, 3) := by decide +kernel
theorem dX12_fullest_59 : decode cX12_fullest 59 = .ok (.istore 5, 2) := by decide +kernel
theorem dX12_fullest_61 : decode cX12_fullest 61 = .ok (.iinc 3 1, 3) := by decide +kernel
theorem dX12_fullest_64 : decode cX12_fullest 64 = .ok (.goto (-47), 3) := by decide +kernel
theorem dX12_fullest_67 : decode cX12_fullest 67 = .ok (.iload_n 1, 1) := by decide +kernel
theorem dX12_fullest_68 : decode cX12_fullest 68 = .ok (.ireturn, 1) := by decide +kernel
theorem dX12_all_0 : decode cX12_all 0 = .ok (.aload_n 0, 1) := by decide +kernel
theorem dX12_all_1 : decode cX12_all 1 = .ok (.iconst 0, 1) := by decide +kernel
theorem dX12_all_2 : decode cX12_all 2 = .ok (.putfield 92, 3) := by decide +kernel
theorem dX12_all_5 : decode cX12_all 5 = .ok (.aload_n 0, 1) := by decide +kernel
theorem dX12_all_6 : decode cX12_all 6 = .ok (.getfield 287, 3) := by decide +kernel
theorem dX12_all_9 : decode cX12_all 9 = .ok (.ifCond .ne 5, 3) := by decide +kernel
theorem dX12_all_12 : decode cX12_all 12 = .ok (.iconst (-1), 1) := by decide +kernel
theorem dX12_all_13 : decode cX12_all 13 = .ok (.ireturn, 1) := by decide +kernel
theorem dX12_all_14 : decode cX12_all 14 = .ok (.iload_n 1, 1) := by decide +kernel
theorem dX12_all_15 : decode cX12_all 15 = .ok (.tableswitch 135 0 12 #[65, 65, 65, 71, 71, 71, 77, 86, 91, 96, 105, 125, 130], 65) := by decide +kernel
theorem dX12_all_80 : decode cX12_all 80 = .ok (.aload_n 0, 1) := by decide +kernel
theorem dX12_all_81 : decode cX12_all 81 = .ok (.iload_n 1, 1) := by decide +kernel
theorem dX12_all_82 : decode cX12_all 82 = .ok (.invokevirtual 462, 3) := by decide +kernel
theorem dX12_all_85 : decode cX12_all 85 = .ok (.ireturn, 1) := by decide +kernel
theorem dX12_all_86 : decode cX12_all 86 = .ok (.aload_n 0, 1) := by decide +kernel
theorem dX12_all_87 : decode cX12_all 87 = .ok (.iload_n 1, 1) := by decide +kernel
theorem dX12_all_88 : decode cX12_all 88 = .ok (.invokevirtual 465, 3) := by decide +kernel
theorem dX12_all_91 : decode cX12_all 91 = .ok (.ireturn, 1) := by decide +kernel
theorem dX12_all_92 : decode cX12_all 92 = .ok (.aload_n 0, 1) := by decide +kernel
theorem dX12_all_93 : decode cX12_all 93 = .ok (.invokevirtual 425, 3) := by decide +kernel
theorem dX12_all_96 : decode cX12_all 96 = .ok (.aload_n 0, 1) := by decide +kernel
theorem dX12_all_97 : decode cX12_all 97 = .ok (.getfield 338, 3) := by decide +kernel
theorem dX12_all_100 : decode cX12_all 100 = .ok (.ireturn, 1) := by decide +kernel
theorem dX12_all_101 : decode cX12_all 101 = .ok (.aload_n 0, 1) := by decide +kernel
theorem dX12_all_102 : decode cX12_all 102 = .ok (.invokevirtual 468, 3) := by decide +kernel
theorem dX12_all_105 : decode cX12_all 105 = .ok (.ireturn, 1) := by decide +kernel
theorem dX12_all_106 : decode cX12_all 106 = .ok (.aload_n 0, 1) := by decide +kernel
theorem dX12_all_107 : decode cX12_all 107 = .ok (.invokevirtual 471, 3) := by decide +kernel
theorem dX12_all_110 : decode cX12_all 110 = .ok (.ireturn, 1) := by decide +kernel
theorem dX12_all_111 : decode cX12_all 111 = .ok (.aload_n 0, 1) := by decide +kernel
theorem dX12_all_112 : decode cX12_all 112 = .ok (.aload_n 0, 1) := by decide +kernel
theorem dX12_all_113 : decode cX12_all 113 = .ok (.getfield 61, 3) := by decide +kernel
theorem dX12_all_116 : decode cX12_all 116 = .ok (.invokevirtual 322, 3) := by decide +kernel
theorem dX12_all_119 : decode cX12_all 119 = .ok (.ireturn, 1) := by decide +kernel
theorem dX12_all_120 : decode cX12_all 120 = .ok (.aload_n 0, 1) := by decide +kernel
theorem dX12_all_121 : decode cX12_all 121 = .ok (.invokevirtual 425, 3) := by decide +kernel
theorem dX12_all_124 : decode cX12_all 124 = .ok (.aload_n 0, 1) := by decide +kernel
theorem dX12_all_125 : decode cX12_all 125 = .ok (.aload_n 0, 1) := by decide +kernel
theorem dX12_all_126 : decode cX12_all 126 = .ok (.getfield 61, 3) := by decide +kernel
theorem dX12_all_129 : decode cX12_all 129 = .ok (.invokevirtual 326, 3) := by decide +kernel
theorem dX12_all_132 : decode cX12_all 132 = .ok (.aload_n 0, 1) := by decide +kernel
theorem dX12_all_133 : decode cX12_all 133 = .ok (.invokevirtual 351, 3) := by decide +kernel
theorem dX12_all_136 : decode cX12_all 136 = .ok (.iconst (-1), 1) := by decide +kernel
theorem dX12_all_137 : decode cX12_all 137 = .ok (.ixor, 1) := by decide +kernel
theorem dX12_all_138 : decode cX12_all 138 = .ok (.iand, 1) := by decide +kernel
theorem dX12_all_139 : decode cX12_all 139 = .ok (.ireturn, 1) := by decide +kernel
theorem dX12_all_140 : decode cX12_all 140 = .ok (.aload_n 0, 1) := by decide +kernel
theorem dX12_all_141 : decode cX12_all 141 = .ok (.invokevirtual 473, 3) := by decide +kernel
theorem dX12_all_144 : decode cX12_all 144 = .ok (.ireturn, 1) := by decide +kernel
theorem dX12_all_145 : decode cX12_all 145 = .ok (.aload_n 0, 1) := by decide +kernel
theorem dX12_all_146 : decode cX12_all 146 = .ok (.invokevirtual 476, 3) := by decide +kernel
theorem dX12_all_149 : decode cX12_all 149 = .ok (.ireturn, 1) := by decide +kernel
theorem dX12_all_150 : decode cX12_all 150 = .ok (.iconst (-1), 1) := by decide +kernel
theorem dX12_all_151 : decode cX12_all 151 = .ok (.ireturn, 1) := by decide +kernel
theorem dX12_kinds_0 : decode cX12_kinds 0 = .ok (.aload_n 0, 1) := by decide +kernel
theorem dX12_kinds_1 : decode cX12_kinds 1 = .ok (.iconst 0, 1) := by decide +kernel
theorem dX12_kinds_2 : decode cX12_kinds 2 = .ok (.putfield 92, 3) := by decide +kernel
theorem dX12_kinds_5 : decode cX12_kinds 5 = .ok (.aload_n 0, 1) := by decide +kernel
theorem dX12_kinds_6 : decode cX12_kinds 6 = .ok (.getfield 287, 3) := by decide +kernel
theorem dX12_kinds_9 : decode cX12_kinds 9 = .ok (.ifCond .eq 15, 3) := by decide +kernel
theorem dX12_kinds_12 : decode cX12_kinds 12 = .ok (.iload_n 1, 1) := by decide +kernel
theorem dX12_kinds_13 : decode cX12_kinds 13 = .ok (.i2l, 1) := by decide +kernel
theorem dX12_kinds_14 : decode cX12_kinds 14 = .ok (.lconst 0, 1) := by decide +kernel
theorem dX12_kinds_15 : decode cX12_kinds 15 = .ok (.ldc2_w 390, 3) := by decide +kernel
theorem dX12_kinds_18 : decode cX12_kinds 18 = .ok (.invokestatic 213, 3) := by decide +kernel
theorem dX12_kinds_21 : decode cX12_kinds 21 = .ok (.ifCond .ne 5, 3) := by decide +kernel
theorem dX12_kinds_24 : decode cX12_kinds 24 = .ok (.iconst (-1), 1) := by decide +kernel
theorem dX12_kinds_25 : decode cX12_kinds 25 = .ok (.ireturn, 1) := by decide +kernel
theorem dX12_kinds_26 : decode cX12_kinds 26 = .ok (.iconst 0, 1) := by decide +kernel
theorem dX12_kinds_27 : decode cX12_kinds 27 = .ok (.istore_n 2, 1) := by decide +kernel
theorem dX12_kinds_28 : decode cX12_kinds 28 = .ok (.iconst 0, 1) := by decide +kernel
theorem dX12_kinds_29 : decode cX12_kinds 29 = .ok (.istore_n 3, 1) := by decide +kernel
theorem dX12_kinds_30 : decode cX12_kinds 30 = .ok (.iload_n 3, 1) := by decide +kernel
theorem dX12_kinds_31 : decode cX12_kinds 31 = .ok (.aload_n 0, 1) := by decide +kernel
theorem dX12_kinds_32 : decode cX12_kinds 32 = .ok (.getfield 284, 3) := by decide +kernel
theorem dX12_kinds_35 : decode cX12_kinds 35 = .ok (.if_icmp .ge 28, 3) := by decide +kernel
theorem dX12_kinds_38 : decode cX12_kinds 38 = .ok (.iload_n 2, 1) := by decide +kernel
theorem dX12_kinds_39 : decode cX12_kinds 39 = .ok (.aload_n 0, 1) := by decide +kernel
theorem dX12_kinds_40 : decode cX12_kinds 40 = .ok (.iload_n 3, 1) := by decide +kernel
theorem dX12_kinds_41 : decode cX12_kinds 41 = .ok (.invokevirtual 344, 3) := by decide +kernel
theorem dX12_kinds_44 : decode cX12_kinds 44 = .ok (.iload_n 1, 1) := by decide +kernel
theorem dX12_kinds_45 : decode cX12_kinds 45 = .ok (.if_icmp .ne 9, 3) := by decide +kernel
theorem dX12_kinds_48 : decode cX12_kinds 48 = .ok (.iconst 1, 1) := by decide +kernel
theorem dX12_kinds_49 : decode cX12_kinds 49 = .ok (.iload_n 3, 1) := by decide +kernel
theorem dX12_kinds_50 : decode cX12_kinds 50 = .ok (.ishl, 1) := by decide +kernel
theorem dX12_kinds_51 : decode cX12_kinds 51 = .ok (.goto 4, 3) := by decide +kernel
theorem dX12_kinds_54 : decode cX12_kinds 54 = .ok (.iconst 0, 1) := by decide +kernel
theorem dX12_kinds_55 : decode cX12_kinds 55 = .ok (.ior, 1) := by decide +kernel
theorem dX12_kinds_56 : decode cX12_kinds 56 = .ok (.istore_n 2, 1) := by decide +kernel
theorem dX12_kinds_57 : decode cX12_kinds 57 = .ok (.iinc 3 1, 3) := by decide +kernel
theorem dX12_kinds_60 : decode cX12_kinds 60 = .ok (.goto (-30), 3) := by decide +kernel
theorem dX12_kinds_63 : decode cX12_kinds 63 = .ok (.iload_n 2, 1) := by decide +kernel
theorem dX12_kinds_64 : decode cX12_kinds 64 = .ok (.ireturn, 1) := by decide +kernel
theorem dX12_staying_0 : decode cX12_staying 0 = .ok (.aload_n 0, 1) := by decide +kernel
theorem dX12_staying_1 : decode cX12_staying 1 = .ok (.iconst 0, 1) := by decide +kernel
theorem dX12_staying_2 : decode cX12_staying 2 = .ok (.putfield 92, 3) := by decide +kernel
theorem dX12_staying_5 : decode cX12_staying 5 = .ok (.aload_n 0, 1) := by decide +kernel
theorem dX12_staying_6 : decode cX12_staying 6 = .ok (.iload_n 1, 1) := by decide +kernel
theorem dX12_staying_7 : decode cX12_staying 7 = .ok (.invokevirtual 360, 3) := by decide +kernel
theorem dX12_staying_10 : decode cX12_staying 10 = .ok (.ifCond .ne 5, 3) := by decide +kernel
theorem dX12_staying_13 : decode cX12_staying 13 = .ok (.iconst (-1), 1) := by decide +kernel
theorem dX12_staying_14 : decode cX12_staying 14 = .ok (.ireturn, 1) := by decide +kernel
theorem dX12_staying_15 : decode cX12_staying 15 = .ok (.aload_n 0, 1) := by decide +kernel
theorem dX12_staying_16 : decode cX12_staying 16 = .ok (.getfield 61, 3) := by decide +kernel
theorem dX12_staying_19 : decode cX12_staying 19 = .ok (.iconst 4, 1) := by decide +kernel
theorem dX12_staying_20 : decode cX12_staying 20 = .ok (.iload_n 1, 1) := by decide +kernel
theorem dX12_staying_21 : decode cX12_staying 21 = .ok (.imul, 1) := by decide +kernel
theorem dX12_staying_22 : decode cX12_staying 22 = .ok (.iconst 3, 1) := by decide +kernel
theorem dX12_staying_23 : decode cX12_staying 23 = .ok (.iadd, 1) := by decide +kernel
theorem dX12_staying_24 : decode cX12_staying 24 = .ok (.iaload, 1) := by decide +kernel
theorem dX12_staying_25 : decode cX12_staying 25 = .ok (.iconst 1, 1) := by decide +kernel
theorem dX12_staying_26 : decode cX12_staying 26 = .ok (.if_icmp .ne 5, 3) := by decide +kernel
theorem dX12_staying_29 : decode cX12_staying 29 = .ok (.iconst 0, 1) := by decide +kernel
theorem dX12_staying_30 : decode cX12_staying 30 = .ok (.ireturn, 1) := by decide +kernel
theorem dX12_staying_31 : decode cX12_staying 31 = .ok (.iconst 0, 1) := by decide +kernel
theorem dX12_staying_32 : decode cX12_staying 32 = .ok (.aload_n 0, 1) := by decide +kernel
theorem dX12_staying_33 : decode cX12_staying 33 = .ok (.iload_n 1, 1) := by decide +kernel
theorem dX12_staying_34 : decode cX12_staying 34 = .ok (.invokevirtual 299, 3) := by decide +kernel
theorem dX12_staying_37 : decode cX12_staying 37 = .ok (.aload_n 0, 1) := by decide +kernel
theorem dX12_staying_38 : decode cX12_staying 38 = .ok (.getfield 61, 3) := by decide +kernel
theorem dX12_staying_41 : decode cX12_staying 41 = .ok (.iconst 4, 1) := by decide +kernel
theorem dX12_staying_42 : decode cX12_staying 42 = .ok (.iload_n 1, 1) := by decide +kernel
theorem dX12_staying_43 : decode cX12_staying 43 = .ok (.imul, 1) := by decide +kernel
theorem dX12_staying_44 : decode cX12_staying 44 = .ok (.iconst 0, 1) := by decide +kernel
theorem dX12_staying_45 : decode cX12_staying 45 = .ok (.iadd, 1) := by decide +kernel
theorem dX12_staying_46 : decode cX12_staying 46 = .ok (.iaload, 1) := by decide +kernel
theorem dX12_staying_47 : decode cX12_staying 47 = .ok (.iadd, 1) := by decide +kernel
theorem dX12_staying_48 : decode cX12_staying 48 = .ok (.aload_n 0, 1) := by decide +kernel
theorem dX12_staying_49 : decode cX12_staying 49 = .ok (.iload_n 1, 1) := by decide +kernel
theorem dX12_staying_50 : decode cX12_staying 50 = .ok (.invokevirtual 299, 3) := by decide +kernel
theorem dX12_staying_53 : decode cX12_staying 53 = .ok (.aload_n 0, 1) := by decide +kernel
theorem dX12_staying_54 : decode cX12_staying 54 = .ok (.getfield 61, 3) := by decide +kernel
theorem dX12_staying_57 : decode cX12_staying 57 = .ok (.bipush 35, 2) := by decide +kernel
theorem dX12_staying_59 : decode cX12_staying 59 = .ok (.iaload, 1) := by decide +kernel
theorem dX12_staying_60 : decode cX12_staying 60 = .ok (.invokestatic 311, 3) := by decide +kernel
theorem dX12_staying_63 : decode cX12_staying 63 = .ok (.isub, 1) := by decide +kernel
theorem dX12_staying_64 : decode cX12_staying 64 = .ok (.invokestatic 311, 3) := by decide +kernel
theorem dX12_staying_67 : decode cX12_staying 67 = .ok (.ireturn, 1) := by decide +kernel
theorem dX12_image_0 : decode cX12_image 0 = .ok (.aload_n 0, 1) := by decide +kernel
theorem dX12_image_1 : decode cX12_image 1 = .ok (.iconst 0, 1) := by decide +kernel
theorem dX12_image_2 : decode cX12_image 2 = .ok (.putfield 92, 3) := by decide +kernel
theorem dX12_image_5 : decode cX12_image 5 = .ok (.aload_n 0, 1) := by decide +kernel
theorem dX12_image_6 : decode cX12_image 6 = .ok (.getfield 287, 3) := by decide +kernel
theorem dX12_image_9 : decode cX12_image 9 = .ok (.ifCond .ne 5, 3) := by decide +kernel
theorem dX12_image_12 : decode cX12_image 12 = .ok (.iconst (-1), 1) := by decide +kernel
theorem dX12_image_13 : decode cX12_image 13 = .ok (.ireturn, 1) := by decide +kernel
theorem dX12_image_14 : decode cX12_image 14 = .ok (.iconst 0, 1) := by decide +kernel
theorem dX12_image_15 : decode cX12_image 15 = .ok (.istore_n 1, 1) := by decide +kernel
theorem dX12_image_16 : decode cX12_image 16 = .ok (.iload_n 1, 1) := by decide +kernel
theorem dX12_image_17 : decode cX12_image 17 = .ok (.sipush 217, 3) := by decide +kernel
theorem dX12_image_20 : decode cX12_image 20 = .ok (.if_icmp .ge 21, 3) := by decide +kernel
theorem dX12_image_23 : decode cX12_image 23 = .ok (.aload_n 0, 1) := by decide +kernel
theorem dX12_image_24 : decode cX12_image 24 = .ok (.getfield 89, 3) := by decide +kernel
theorem dX12_image_27 : decode cX12_image 27 = .ok (.iload_n 1, 1) := by decide +kernel
theorem dX12_image_28 : decode cX12_image 28 = .ok (.aload_n 0, 1) := by decide +kernel
theorem dX12_image_29 : decode cX12_image 29 = .ok (.getfield 61, 3) := by decide +kernel
theorem dX12_image_32 : decode cX12_image 32 = .ok (.iload_n 1, 1) := by decide +kernel
theorem dX12_image_33 : decode cX12_image 33 = .ok (.iaload, 1) := by decide +kernel
theorem dX12_image_34 : decode cX12_image 34 = .ok (.iastore, 1) := by decide +kernel
theorem dX12_image_35 : decode cX12_image 35 = .ok (.iinc 1 1, 3) := by decide +kernel
theorem dX12_image_38 : decode cX12_image 38 = .ok (.goto (-22), 3) := by decide +kernel
theorem dX12_image_41 : decode cX12_image 41 = .ok (.aload_n 0, 1) := by decide +kernel
theorem dX12_image_42 : decode cX12_image 42 = .ok (.iconst 1, 1) := by decide +kernel
theorem dX12_image_43 : decode cX12_image 43 = .ok (.putfield 296, 3) := by decide +kernel
theorem dX12_image_46 : decode cX12_image 46 = .ok (.aload_n 0, 1) := by decide +kernel
theorem dX12_image_47 : decode cX12_image 47 = .ok (.getfield 61, 3) := by decide +kernel
theorem dX12_image_50 : decode cX12_image 50 = .ok (.bipush 35, 2) := by decide +kernel
theorem dX12_image_52 : decode cX12_image 52 = .ok (.iaload, 1) := by decide +kernel
theorem dX12_image_53 : decode cX12_image 53 = .ok (.ireturn, 1) := by decide +kernel
theorem dX12_back_0 : decode cX12_back 0 = .ok (.aload_n 0, 1) := by decide +kernel
theorem dX12_back_1 : decode cX12_back 1 = .ok (.iconst 0, 1) := by decide +kernel
theorem dX12_back_2 : decode cX12_back 2 = .ok (.putfield 92, 3) := by decide +kernel
theorem dX12_back_5 : decode cX12_back 5 = .ok (.aload_n 0, 1) := by decide +kernel
theorem dX12_back_6 : decode cX12_back 6 = .ok (.getfield 296, 3) := by decide +kernel
theorem dX12_back_9 : decode cX12_back 9 = .ok (.ifCond .ne 5, 3) := by decide +kernel
theorem dX12_back_12 : decode cX12_back 12 = .ok (.iconst (-1), 1) := by decide +kernel
theorem dX12_back_13 : decode cX12_back 13 = .ok (.ireturn, 1) := by decide +kernel
theorem dX12_back_14 : decode cX12_back 14 = .ok (.iconst 0, 1) := by decide +kernel
theorem dX12_back_15 : decode cX12_back 15 = .ok (.istore_n 1, 1) := by decide +kernel
theorem dX12_back_16 : decode cX12_back 16 = .ok (.iload_n 1, 1) := by decide +kernel
theorem dX12_back_17 : decode cX12_back 17 = .ok (.sipush 217, 3) := by decide +kernel
theorem dX12_back_20 : decode cX12_back 20 = .ok (.if_icmp .ge 21, 3) := by decide +kernel
theorem dX12_back_23 : decode cX12_back 23 = .ok (.aload_n 0, 1) := by decide +kernel
theorem dX12_back_24 : decode cX12_back 24 = .ok (.getfield 61, 3) := by decide +kernel
theorem dX12_back_27 : decode cX12_back 27 = .ok (.iload_n 1, 1) := by decide +kernel
theorem dX12_back_28 : decode cX12_back 28 = .ok (.aload_n 0, 1) := by decide +kernel
theorem dX12_back_29 : decode cX12_back 29 = .ok (.getfield 89, 3) := by decide +kernel
theorem dX12_back_32 : decode cX12_back 32 = .ok (.iload_n 1, 1) := by decide +kernel
theorem dX12_back_33 : decode cX12_back 33 = .ok (.iaload, 1) := by decide +kernel
theorem dX12_back_34 : decode cX12_back 34 = .ok (.iastore, 1) := by decide +kernel
theorem dX12_back_35 : decode cX12_back 35 = .ok (.iinc 1 1, 3) := by decide +kernel
theorem dX12_back_38 : decode cX12_back 38 = .ok (.goto (-22), 3) := by decide +kernel
theorem dX12_back_41 : decode cX12_back 41 = .ok (.aload_n 0, 1) := by decide +kernel
theorem dX12_back_42 : decode cX12_back 42 = .ok (.iconst 0, 1) := by decide +kernel
theorem dX12_back_43 : decode cX12_back 43 = .ok (.putfield 293, 3) := by decide +kernel
theorem dX12_back_46 : decode cX12_back 46 = .ok (.aload_n 0, 1) := by decide +kernel
theorem dX12_back_47 : decode cX12_back 47 = .ok (.getfield 61, 3) := by decide +kernel
theorem dX12_back_50 : decode cX12_back 50 = .ok (.bipush 35, 2) := by decide +kernel
theorem dX12_back_52 : decode cX12_back 52 = .ok (.iaload, 1) := by decide +kernel
theorem dX12_back_53 : decode cX12_back 53 = .ok (.ireturn, 1) := by decide +kernel
theorem dX12_count_0 : decode cX12_count 0 = .ok (.aload_n 0, 1) := by decide +kernel
theorem dX12_count_1 : decode cX12_count 1 = .ok (.iconst 0, 1) := by decide +kernel
theorem dX12_count_2 : decode cX12_count 2 = .ok (.putfield 92, 3) := by decide +kernel
theorem dX12_count_5 : decode cX12_count 5 = .ok (.iload_n 1, 1) := by decide +kernel
theorem dX12_count_6 : decode cX12_count 6 = .ok (.tableswitch 171 0 12 #[66, 71, 76, 81, 86, 91, 96, 104, 113, 148, 153, 158, 166], 66) := by decide +kernel
theorem dX12_count_72 : decode cX12_count 72 = .ok (.aload_n 0, 1) := by decide +kernel
theorem dX12_count_73 : decode cX12_count 73 = .ok (.getfield 287, 3) := by decide +kernel
theorem dX12_count_76 : decode cX12_count 76 = .ok (.ireturn, 1) := by decide +kernel
theorem dX12_count_77 : decode cX12_count 77 = .ok (.aload_n 0, 1) := by decide +kernel
theorem dX12_count_78 : decode cX12_count 78 = .ok (.getfield 284, 3) := by decide +kernel
theorem dX12_count_81 : decode cX12_count 81 = .ok (.ireturn, 1) := by decide +kernel
theorem dX12_count_82 : decode cX12_count 82 = .ok (.aload_n 0, 1) := by decide +kernel
theorem dX12_count_83 : decode cX12_count 83 = .ok (.getfield 276, 3) := by decide +kernel
theorem dX12_count_86 : decode cX12_count 86 = .ok (.ireturn, 1) := by decide +kernel
theorem dX12_count_87 : decode cX12_count 87 = .ok (.aload_n 0, 1) := by decide +kernel
theorem dX12_count_88 : decode cX12_count 88 = .ok (.getfield 279, 3) := by decide +kernel
theorem dX12_count_91 : decode cX12_count 91 = .ok (.ireturn, 1) := by decide +kernel
theorem dX12_count_92 : decode cX12_count 92 = .ok (.aload_n 0, 1) := by decide +kernel
theorem dX12_count_93 : decode cX12_count 93 = .ok (.getfield 105, 3) := by decide +kernel
theorem dX12_count_96 : decode cX12_count 96 = .ok (.ireturn, 1) := by decide +kernel
theorem dX12_count_97 : decode cX12_count 97 = .ok (.aload_n 0, 1) := by decide +kernel
theorem dX12_count_98 : decode cX12_count 98 = .ok (.getfield 67, 3) := by decide +kernel
theorem dX12_count_101 : decode cX12_count 101 = .ok (.ireturn, 1) := by decide +kernel
theorem dX12_count_102 : decode cX12_count 102 = .ok (.aload_n 0, 1) := by decide +kernel
theorem dX12_count_103 : decode cX12_count 103 = .ok (.getfield 61, 3) := by decide +kernel
theorem dX12_count_106 : decode cX12_count 106 = .ok (.bipush 35, 2) := by decide +kernel
theorem dX12_count_108 : decode cX12_count 108 = .ok (.iaload, 1) := by decide +kernel
theorem dX12_count_109 : decode cX12_count 109 = .ok (.ireturn, 1) := by decide +kernel
theorem dX12_count_110 : decode cX12_count 110 = .ok (.aload_n 0, 1) := by decide +kernel
theorem dX12_count_111 : decode cX12_count 111 = .ok (.aload_n 0, 1) := by decide +kernel
theorem dX12_count_112 : decode cX12_count 112 = .ok (.getfield 61, 3) := by decide +kernel
theorem dX12_count_115 : decode cX12_count 115 = .ok (.invokevirtual 354, 3) := by decide +kernel
theorem dX12_count_118 : decode cX12_count 118 = .ok (.ireturn, 1) := by decide +kernel
theorem dX12_count_119 : decode cX12_count 119 = .ok (.iconst 0, 1) := by decide +kernel
theorem dX12_count_120 : decode cX12_count 120 = .ok (.istore_n 2, 1) := by decide +kernel
theorem dX12_count_121 : decode cX12_count 121 = .ok (.iconst 0, 1) := by decide +kernel
theorem dX12_count_122 : decode cX12_count 122 = .ok (.istore_n 3, 1) := by decide +kernel
theorem dX12_count_123 : decode cX12_count 123 = .ok (.iload_n 3, 1) := by decide +kernel
theorem dX12_count_124 : decode cX12_count 124 = .ok (.aload_n 0, 1) := by decide +kernel
theorem dX12_count_125 : decode cX12_count 125 = .ok (.getfield 287, 3) := by decide +kernel
theorem dX12_count_128 : decode cX12_count 128 = .ok (.if_icmp .ge 24, 3) := by decide +kernel
theorem dX12_count_131 : decode cX12_count 131 = .ok (.iload_n 2, 1) := by decide +kernel
theorem dX12_count_132 : decode cX12_count 132 = .ok (.aload_n 0, 1) := by decide +kernel
theorem dX12_count_133 : decode cX12_count 133 = .ok (.getfield 61, 3) := by decide +kernel
theorem dX12_count_136 : decode cX12_count 136 = .ok (.iconst 4, 1) := by decide +kernel
theorem dX12_count_137 : decode cX12_count 137 = .ok (.iload_n 3, 1) := by decide +kernel
theorem dX12_count_138 : decode cX12_count 138 = .ok (.imul, 1) := by decide +kernel
theorem dX12_count_139 : decode cX12_count 139 = .ok (.iconst 3, 1) := by decide +kernel
theorem dX12_count_140 : decode cX12_count 140 = .ok (.iadd, 1) := by decide +kernel
theorem dX12_count_141 : decode cX12_count 141 = .ok (.iaload, 1) := by decide +kernel
theorem dX12_count_142 : decode cX12_count 142 = .ok (.iload_n 3, 1) := by decide +kernel
theorem dX12_count_143 : decode cX12_count 143 = .ok (.ishl, 1) := by decide +kernel
theorem dX12_count_144 : decode cX12_count 144 = .ok (.ior, 1) := by decide +kernel
theorem dX12_count_145 : decode cX12_count 145 = .ok (.istore_n 2, 1) := by decide +kernel
theorem dX12_count_146 : decode cX12_count 146 = .ok (.iinc 3 1, 3) := by decide +kernel
theorem dX12_count_149 : decode cX12_count 149 = .ok (.goto (-26), 3) := by decide +kernel
theorem dX12_count_152 : decode cX12_count 152 = .ok (.iload_n 2, 1) := by decide +kernel
theorem dX12_count_153 : decode cX12_count 153 = .ok (.ireturn, 1) := by decide +kernel
theorem dX12_count_154 : decode cX12_count 154 = .ok (.aload_n 0, 1) := by decide +kernel
theorem dX12_count_155 : decode cX12_count 155 = .ok (.getfield 71, 3) := by decide +kernel
theorem dX12_count_158 : decode cX12_count 158 = .ok (.ireturn, 1) := by decide +kernel
theorem dX12_count_159 : decode cX12_count 159 = .ok (.aload_n 0, 1) := by decide +kernel
theorem dX12_count_160 : decode cX12_count 160 = .ok (.getfield 290, 3) := by decide +kernel
theorem dX12_count_163 : decode cX12_count 163 = .ok (.ireturn, 1) := by decide +kernel
theorem dX12_count_164 : decode cX12_count 164 = .ok (.aload_n 0, 1) := by decide +kernel
theorem dX12_count_165 : decode cX12_count 165 = .ok (.getfield 61, 3) := by decide +kernel
theorem dX12_count_168 : decode cX12_count 168 = .ok (.bipush 36, 2) := by decide +kernel
theorem dX12_count_170 : decode cX12_count 170 = .ok (.iaload, 1) := by decide +kernel
theorem dX12_count_171 : decode cX12_count 171 = .ok (.ireturn, 1) := by decide +kernel
theorem dX12_count_172 : decode cX12_count 172 = .ok (.aload_n 0, 1) := by decide +kernel
theorem dX12_count_173 : decode cX12_count 173 = .ok (.getfield 293, 3) := by decide +kernel
theorem dX12_count_176 : decode cX12_count 176 = .ok (.ireturn, 1) := by decide +kernel
theorem dX12_count_177 : decode cX12_count 177 = .ok (.ldc_w 405, 3) := by decide +kernel
theorem dX12_count_180 : decode cX12_count 180 = .ok (.ireturn, 1) := by decide +kernel
