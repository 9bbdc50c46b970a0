/-! Method constants and decode rows, written by wip/whole/gen/code.py out of the listing. -/
def xZ_cell : mt_X := (⟨"LeasedPagesLaw", "cell", "([II)I"⟩, method_2_code, 2, (Option.some FieldType.int))
theorem dZ_cell_0 : decode xZ_cell.2.1 0 = .ok (.iload_n 1, 1) := by decide +kernel
theorem dZ_cell_1 : decode xZ_cell.2.1 1 = .ok (.aload_n 0, 1) := by decide +kernel
theorem dZ_cell_2 : decode xZ_cell.2.1 2 = .ok (.arraylength, 1) := by decide +kernel
theorem dZ_cell_3 : decode xZ_cell.2.1 3 = .ok (.if_icmp .ge 9, 3) := by decide +kernel
theorem dZ_cell_6 : decode xZ_cell.2.1 6 = .ok (.aload_n 0, 1) := by decide +kernel
theorem dZ_cell_7 : decode xZ_cell.2.1 7 = .ok (.iload_n 1, 1) := by decide +kernel
theorem dZ_cell_8 : decode xZ_cell.2.1 8 = .ok (.iaload, 1) := by decide +kernel
theorem dZ_cell_9 : decode xZ_cell.2.1 9 = .ok (.goto 4, 3) := by decide +kernel
theorem dZ_cell_12 : decode xZ_cell.2.1 12 = .ok (.iconst 0, 1) := by decide +kernel
theorem dZ_cell_13 : decode xZ_cell.2.1 13 = .ok (.ireturn, 1) := by decide +kernel
def xZ_law : mt_X := (⟨"LeasedPagesLaw", "law", "([I)Z"⟩, code, 4, some .boolean)
theorem dZ_law_0 : decode xZ_law.2.1 0 = .ok (.new 7, 3) := by decide +kernel
theorem dZ_law_3 : decode xZ_law.2.1 3 = .ok (.dup, 1) := by decide +kernel
theorem dZ_law_4 : decode xZ_law.2.1 4 = .ok (.aload_n 0, 1) := by decide +kernel
theorem dZ_law_5 : decode xZ_law.2.1 5 = .ok (.iconst 0, 1) := by decide +kernel
theorem dZ_law_6 : decode xZ_law.2.1 6 = .ok (.invokestatic 9, 3) := by decide +kernel
theorem dZ_law_9 : decode xZ_law.2.1 9 = .ok (.invokespecial 15, 3) := by decide +kernel
theorem dZ_law_12 : decode xZ_law.2.1 12 = .ok (.astore_n 1, 1) := by decide +kernel
theorem dZ_law_13 : decode xZ_law.2.1 13 = .ok (.new 18, 3) := by decide +kernel
theorem dZ_law_16 : decode xZ_law.2.1 16 = .ok (.dup, 1) := by decide +kernel
theorem dZ_law_17 : decode xZ_law.2.1 17 = .ok (.aload_n 0, 1) := by decide +kernel
theorem dZ_law_18 : decode xZ_law.2.1 18 = .ok (.iconst 0, 1) := by decide +kernel
theorem dZ_law_19 : decode xZ_law.2.1 19 = .ok (.invokestatic 9, 3) := by decide +kernel
theorem dZ_law_22 : decode xZ_law.2.1 22 = .ok (.invokespecial 20, 3) := by decide +kernel
theorem dZ_law_25 : decode xZ_law.2.1 25 = .ok (.astore_n 2, 1) := by decide +kernel
theorem dZ_law_26 : decode xZ_law.2.1 26 = .ok (.iconst 1, 1) := by decide +kernel
theorem dZ_law_27 : decode xZ_law.2.1 27 = .ok (.istore_n 3, 1) := by decide +kernel
theorem dZ_law_28 : decode xZ_law.2.1 28 = .ok (.iload_n 3, 1) := by decide +kernel
theorem dZ_law_29 : decode xZ_law.2.1 29 = .ok (.aload_n 0, 1) := by decide +kernel
theorem dZ_law_30 : decode xZ_law.2.1 30 = .ok (.arraylength, 1) := by decide +kernel
theorem dZ_law_31 : decode xZ_law.2.1 31 = .ok (.iconst 5, 1) := by decide +kernel
theorem dZ_law_32 : decode xZ_law.2.1 32 = .ok (.isub, 1) := by decide +kernel
theorem dZ_law_33 : decode xZ_law.2.1 33 = .ok (.if_icmp .gt 689, 3) := by decide +kernel
theorem dZ_law_36 : decode xZ_law.2.1 36 = .ok (.aload_n 0, 1) := by decide +kernel
theorem dZ_law_37 : decode xZ_law.2.1 37 = .ok (.iload_n 3, 1) := by decide +kernel
theorem dZ_law_38 : decode xZ_law.2.1 38 = .ok (.iaload, 1) := by decide +kernel
theorem dZ_law_39 : decode xZ_law.2.1 39 = .ok (.bipush 31, 2) := by decide +kernel
theorem dZ_law_41 : decode xZ_law.2.1 41 = .ok (.iand, 1) := by decide +kernel
theorem dZ_law_42 : decode xZ_law.2.1 42 = .ok (.tableswitch 674 0 19 #[94, 137, 190, 243, 266, 299, 322, 335, 358, 381, 404, 427, 460, 483, 506, 529, 562, 585, 618, 641], 94) := by decide +kernel
theorem dZ_law_136 : decode xZ_law.2.1 136 = .ok (.aload_n 1, 1) := by decide +kernel
theorem dZ_law_137 : decode xZ_law.2.1 137 = .ok (.aload_n 0, 1) := by decide +kernel
theorem dZ_law_138 : decode xZ_law.2.1 138 = .ok (.iload_n 3, 1) := by decide +kernel
theorem dZ_law_139 : decode xZ_law.2.1 139 = .ok (.iconst 1, 1) := by decide +kernel
theorem dZ_law_140 : decode xZ_law.2.1 140 = .ok (.iadd, 1) := by decide +kernel
theorem dZ_law_141 : decode xZ_law.2.1 141 = .ok (.iaload, 1) := by decide +kernel
theorem dZ_law_142 : decode xZ_law.2.1 142 = .ok (.aload_n 0, 1) := by decide +kernel
theorem dZ_law_143 : decode xZ_law.2.1 143 = .ok (.iload_n 3, 1) := by decide +kernel
theorem dZ_law_144 : decode xZ_law.2.1 144 = .ok (.iconst 2, 1) := by decide +kernel
theorem dZ_law_145 : decode xZ_law.2.1 145 = .ok (.iadd, 1) := by decide +kernel
theorem dZ_law_146 : decode xZ_law.2.1 146 = .ok (.iaload, 1) := by decide +kernel
theorem dZ_law_147 : decode xZ_law.2.1 147 = .ok (.aload_n 0, 1) := by decide +kernel
theorem dZ_law_148 : decode xZ_law.2.1 148 = .ok (.iload_n 3, 1) := by decide +kernel
theorem dZ_law_149 : decode xZ_law.2.1 149 = .ok (.iconst 3, 1) := by decide +kernel
theorem dZ_law_150 : decode xZ_law.2.1 150 = .ok (.iadd, 1) := by decide +kernel
theorem dZ_law_151 : decode xZ_law.2.1 151 = .ok (.iaload, 1) := by decide +kernel
theorem dZ_law_152 : decode xZ_law.2.1 152 = .ok (.invokevirtual 21, 3) := by decide +kernel
theorem dZ_law_155 : decode xZ_law.2.1 155 = .ok (.aload_n 2, 1) := by decide +kernel
theorem dZ_law_156 : decode xZ_law.2.1 156 = .ok (.aload_n 0, 1) := by decide +kernel
theorem dZ_law_157 : decode xZ_law.2.1 157 = .ok (.iload_n 3, 1) := by decide +kernel
theorem dZ_law_158 : decode xZ_law.2.1 158 = .ok (.iconst 1, 1) := by decide +kernel
theorem dZ_law_159 : decode xZ_law.2.1 159 = .ok (.iadd, 1) := by decide +kernel
theorem dZ_law_160 : decode xZ_law.2.1 160 = .ok (.iaload, 1) := by decide +kernel
theorem dZ_law_161 : decode xZ_law.2.1 161 = .ok (.aload_n 0, 1) := by decide +kernel
theorem dZ_law_162 : decode xZ_law.2.1 162 = .ok (.iload_n 3, 1) := by decide +kernel
theorem dZ_law_163 : decode xZ_law.2.1 163 = .ok (.iconst 2, 1) := by decide +kernel
theorem dZ_law_164 : decode xZ_law.2.1 164 = .ok (.iadd, 1) := by decide +kernel
theorem dZ_law_165 : decode xZ_law.2.1 165 = .ok (.iaload, 1) := by decide +kernel
theorem dZ_law_166 : decode xZ_law.2.1 166 = .ok (.aload_n 0, 1) := by decide +kernel
theorem dZ_law_167 : decode xZ_law.2.1 167 = .ok (.iload_n 3, 1) := by decide +kernel
theorem dZ_law_168 : decode xZ_law.2.1 168 = .ok (.iconst 3, 1) := by decide +kernel
theorem dZ_law_169 : decode xZ_law.2.1 169 = .ok (.iadd, 1) := by decide +kernel
theorem dZ_law_170 : decode xZ_law.2.1 170 = .ok (.iaload, 1) := by decide +kernel
theorem dZ_law_171 : decode xZ_law.2.1 171 = .ok (.invokevirtual 25, 3) := by decide +kernel
theorem dZ_law_174 : decode xZ_law.2.1 174 = .ok (.if_icmp .eq 542, 3) := by decide +kernel
theorem dZ_law_177 : decode xZ_law.2.1 177 = .ok (.iconst 0, 1) := by decide +kernel
theorem dZ_law_178 : decode xZ_law.2.1 178 = .ok (.ireturn, 1) := by decide +kernel
theorem dZ_law_179 : decode xZ_law.2.1 179 = .ok (.aload_n 1, 1) := by decide +kernel
theorem dZ_law_180 : decode xZ_law.2.1 180 = .ok (.aload_n 0, 1) := by decide +kernel
theorem dZ_law_181 : decode xZ_law.2.1 181 = .ok (.iload_n 3, 1) := by decide +kernel
theorem dZ_law_182 : decode xZ_law.2.1 182 = .ok (.iconst 1, 1) := by decide +kernel
theorem dZ_law_183 : decode xZ_law.2.1 183 = .ok (.iadd, 1) := by decide +kernel
theorem dZ_law_184 : decode xZ_law.2.1 184 = .ok (.iaload, 1) := by decide +kernel
theorem dZ_law_185 : decode xZ_law.2.1 185 = .ok (.aload_n 0, 1) := by decide +kernel
theorem dZ_law_186 : decode xZ_law.2.1 186 = .ok (.iload_n 3, 1) := by decide +kernel
theorem dZ_law_187 : decode xZ_law.2.1 187 = .ok (.iconst 2, 1) := by decide +kernel
theorem dZ_law_188 : decode xZ_law.2.1 188 = .ok (.iadd, 1) := by decide +kernel
theorem dZ_law_189 : decode xZ_law.2.1 189 = .ok (.iaload, 1) := by decide +kernel
theorem dZ_law_190 : decode xZ_law.2.1 190 = .ok (.aload_n 0, 1) := by decide +kernel
theorem dZ_law_191 : decode xZ_law.2.1 191 = .ok (.iload_n 3, 1) := by decide +kernel
theorem dZ_law_192 : decode xZ_law.2.1 192 = .ok (.iconst 3, 1) := by decide +kernel
theorem dZ_law_193 : decode xZ_law.2.1 193 = .ok (.iadd, 1) := by decide +kernel
theorem dZ_law_194 : decode xZ_law.2.1 194 = .ok (.iaload, 1) := by decide +kernel
theorem dZ_law_195 : decode xZ_law.2.1 195 = .ok (.aload_n 0, 1) := by decide +kernel
theorem dZ_law_196 : decode xZ_law.2.1 196 = .ok (.iload_n 3, 1) := by decide +kernel
theorem dZ_law_197 : decode xZ_law.2.1 197 = .ok (.iconst 4, 1) := by decide +kernel
theorem dZ_law_198 : decode xZ_law.2.1 198 = .ok (.iadd, 1) := by decide +kernel
theorem dZ_law_199 : decode xZ_law.2.1 199 = .ok (.iaload, 1) := by decide +kernel
theorem dZ_law_200 : decode xZ_law.2.1 200 = .ok (.invokevirtual 26, 3) := by decide +kernel
theorem dZ_law_203 : decode xZ_law.2.1 203 = .ok (.aload_n 2, 1) := by decide +kernel
theorem dZ_law_204 : decode xZ_law.2.1 204 = .ok (.aload_n 0, 1) := by decide +kernel
theorem dZ_law_205 : decode xZ_law.2.1 205 = .ok (.iload_n 3, 1) := by decide +kernel
theorem dZ_law_206 : decode xZ_law.2.1 206 = .ok (.iconst 1, 1) := by decide +kernel
theorem dZ_law_207 : decode xZ_law.2.1 207 = .ok (.iadd, 1) := by decide +kernel
theorem dZ_law_208 : decode xZ_law.2.1 208 = .ok (.iaload, 1) := by decide +kernel
theorem dZ_law_209 : decode xZ_law.2.1 209 = .ok (.aload_n 0, 1) := by decide +kernel
theorem dZ_law_210 : decode xZ_law.2.1 210 = .ok (.iload_n 3, 1) := by decide +kernel
theorem dZ_law_211 : decode xZ_law.2.1 211 = .ok (.iconst 2, 1) := by decide +kernel
theorem dZ_law_212 : decode xZ_law.2.1 212 = .ok (.iadd, 1) := by decide +kernel
theorem dZ_law_213 : decode xZ_law.2.1 213 = .ok (.iaload, 1) := by decide +kernel
theorem dZ_law_214 : decode xZ_law.2.1 214 = .ok (.aload_n 0, 1) := by decide +kernel
theorem dZ_law_215 : decode xZ_law.2.1 215 = .ok (.iload_n 3, 1) := by decide +kernel
theorem dZ_law_216 : decode xZ_law.2.1 216 = .ok (.iconst 3, 1) := by decide +kernel
theorem dZ_law_217 : decode xZ_law.2.1 217 = .ok (.iadd, 1) := by decide +kernel
theorem dZ_law_218 : decode xZ_law.2.1 218 = .ok (.iaload, 1) := by decide +kernel
theorem dZ_law_219 : decode xZ_law.2.1 219 = .ok (.aload_n 0, 1) := by decide +kernel
theorem dZ_law_220 : decode xZ_law.2.1 220 = .ok (.iload_n 3, 1) := by decide +kernel
theorem dZ_law_221 : decode xZ_law.2.1 221 = .ok (.iconst 4, 1) := by decide +kernel
theorem dZ_law_222 : decode xZ_law.2.1 222 = .ok (.iadd, 1) := by decide +kernel
theorem dZ_law_223 : decode xZ_law.2.1 223 = .ok (.iaload, 1) := by decide +kernel
theorem dZ_law_224 : decode xZ_law.2.1 224 = .ok (.invokevirtual 30, 3) := by decide +kernel
theorem dZ_law_227 : decode xZ_law.2.1 227 = .ok (.if_icmp .eq 489, 3) := by decide +kernel
theorem dZ_law_230 : decode xZ_law.2.1 230 = .ok (.iconst 0, 1) := by decide +kernel
theorem dZ_law_231 : decode xZ_law.2.1 231 = .ok (.ireturn, 1) := by decide +kernel
theorem dZ_law_232 : decode xZ_law.2.1 232 = .ok (.aload_n 1, 1) := by decide +kernel
theorem dZ_law_233 : decode xZ_law.2.1 233 = .ok (.aload_n 0, 1) := by decide +kernel
theorem dZ_law_234 : decode xZ_law.2.1 234 = .ok (.iload_n 3, 1) := by decide +kernel
theorem dZ_law_235 : decode xZ_law.2.1 235 = .ok (.iconst 1, 1) := by decide +kernel
theorem dZ_law_236 : decode xZ_law.2.1 236 = .ok (.iadd, 1) := by decide +kernel
theorem dZ_law_237 : decode xZ_law.2.1 237 = .ok (.iaload, 1) := by decide +kernel
theorem dZ_law_238 : decode xZ_law.2.1 238 = .ok (.aload_n 0, 1) := by decide +kernel
theorem dZ_law_239 : decode xZ_law.2.1 239 = .ok (.iload_n 3, 1) := by decide +kernel
theorem dZ_law_240 : decode xZ_law.2.1 240 = .ok (.iconst 2, 1) := by decide +kernel
theorem dZ_law_241 : decode xZ_law.2.1 241 = .ok (.iadd, 1) := by decide +kernel
theorem dZ_law_242 : decode xZ_law.2.1 242 = .ok (.iaload, 1) := by decide +kernel
theorem dZ_law_243 : decode xZ_law.2.1 243 = .ok (.aload_n 0, 1) := by decide +kernel
theorem dZ_law_244 : decode xZ_law.2.1 244 = .ok (.iload_n 3, 1) := by decide +kernel
theorem dZ_law_245 : decode xZ_law.2.1 245 = .ok (.iconst 3, 1) := by decide +kernel
theorem dZ_law_246 : decode xZ_law.2.1 246 = .ok (.iadd, 1) := by decide +kernel
theorem dZ_law_247 : decode xZ_law.2.1 247 = .ok (.iaload, 1) := by decide +kernel
theorem dZ_law_248 : decode xZ_law.2.1 248 = .ok (.aload_n 0, 1) := by decide +kernel
theorem dZ_law_249 : decode xZ_law.2.1 249 = .ok (.iload_n 3, 1) := by decide +kernel
theorem dZ_law_250 : decode xZ_law.2.1 250 = .ok (.iconst 4, 1) := by decide +kernel
theorem dZ_law_251 : decode xZ_law.2.1 251 = .ok (.iadd, 1) := by decide +kernel
theorem dZ_law_252 : decode xZ_law.2.1 252 = .ok (.iaload, 1) := by decide +kernel
theorem dZ_law_253 : decode xZ_law.2.1 253 = .ok (.invokevirtual 31, 3) := by decide +kernel
theorem dZ_law_256 : decode xZ_law.2.1 256 = .ok (.aload_n 2, 1) := by decide +kernel
theorem dZ_law_257 : decode xZ_law.2.1 257 = .ok (.aload_n 0, 1) := by decide +kernel
theorem dZ_law_258 : decode xZ_law.2.1 258 = .ok (.iload_n 3, 1) := by decide +kernel
theorem dZ_law_259 : decode xZ_law.2.1 259 = .ok (.iconst 1, 1) := by decide +kernel
theorem dZ_law_260 : decode xZ_law.2.1 260 = .ok (.iadd, 1) := by decide +kernel
theorem dZ_law_261 : decode xZ_law.2.1 261 = .ok (.iaload, 1) := by decide +kernel
theorem dZ_law_262 : decode xZ_law.2.1 262 = .ok (.aload_n 0, 1) := by decide +kernel
theorem dZ_law_263 : decode xZ_law.2.1 263 = .ok (.iload_n 3, 1) := by decide +kernel
theorem dZ_law_264 : decode xZ_law.2.1 264 = .ok (.iconst 2, 1) := by decide +kernel
theorem dZ_law_265 : decode xZ_law.2.1 265 = .ok (.iadd, 1) := by decide +kernel
theorem dZ_law_266 : decode xZ_law.2.1 266 = .ok (.iaload, 1) := by decide +kernel
theorem dZ_law_267 : decode xZ_law.2.1 267 = .ok (.aload_n 0, 1) := by decide +kernel
theorem dZ_law_268 : decode xZ_law.2.1 268 = .ok (.iload_n 3, 1) := by decide +kernel
theorem dZ_law_269 : decode xZ_law.2.1 269 = .ok (.iconst 3, 1) := by decide +kernel
theorem dZ_law_270 : decode xZ_law.2.1 270 = .ok (.iadd, 1) := by decide +kernel
theorem dZ_law_271 : decode xZ_law.2.1 271 = .ok (.iaload, 1) := by decide +kernel
theorem dZ_law_272 : decode xZ_law.2.1 272 = .ok (.aload_n 0, 1) := by decide +kernel
theorem dZ_law_273 : decode xZ_law.2.1 273 = .ok (.iload_n 3, 1) := by decide +kernel
theorem dZ_law_274 : decode xZ_law.2.1 274 = .ok (.iconst 4, 1) := by decide +kernel
theorem dZ_law_275 : decode xZ_law.2.1 275 = .ok (.iadd, 1) := by decide +kernel
theorem dZ_law_276 : decode xZ_law.2.1 276 = .ok (.iaload, 1) := by decide +kernel
theorem dZ_law_277 : decode xZ_law.2.1 277 = .ok (.invokevirtual 34, 3) := by decide +kernel
theorem dZ_law_280 : decode xZ_law.2.1 280 = .ok (.if_icmp .eq 436, 3) := by decide +kernel
theorem dZ_law_283 : decode xZ_law.2.1 283 = .ok (.iconst 0, 1) := by decide +kernel
theorem dZ_law_284 : decode xZ_law.2.1 284 = .ok (.ireturn, 1) := by decide +kernel
theorem dZ_law_285 : decode xZ_law.2.1 285 = .ok (.aload_n 1, 1) := by decide +kernel
theorem dZ_law_286 : decode xZ_law.2.1 286 = .ok (.aload_n 0, 1) := by decide +kernel
theorem dZ_law_287 : decode xZ_law.2.1 287 = .ok (.iload_n 3, 1) := by decide +kernel
theorem dZ_law_288 : decode xZ_law.2.1 288 = .ok (.iconst 1, 1) := by decide +kernel
theorem dZ_law_289 : decode xZ_law.2.1 289 = .ok (.iadd, 1) := by decide +kernel
theorem dZ_law_290 : decode xZ_law.2.1 290 = .ok (.iaload, 1) := by decide +kernel
theorem dZ_law_291 : decode xZ_law.2.1 291 = .ok (.invokevirtual 35, 3) := by decide +kernel
theorem dZ_law_294 : decode xZ_law.2.1 294 = .ok (.aload_n 2, 1) := by decide +kernel
theorem dZ_law_295 : decode xZ_law.2.1 295 = .ok (.aload_n 0, 1) := by decide +kernel
theorem dZ_law_296 : decode xZ_law.2.1 296 = .ok (.iload_n 3, 1) := by decide +kernel
theorem dZ_law_297 : decode xZ_law.2.1 297 = .ok (.iconst 1, 1) := by decide +kernel
theorem dZ_law_298 : decode xZ_law.2.1 298 = .ok (.iadd, 1) := by decide +kernel
theorem dZ_law_299 : decode xZ_law.2.1 299 = .ok (.iaload, 1) := by decide +kernel
theorem dZ_law_300 : decode xZ_law.2.1 300 = .ok (.invokevirtual 39, 3) := by decide +kernel
theorem dZ_law_303 : decode xZ_law.2.1 303 = .ok (.if_icmp .eq 413, 3) := by decide +kernel
theorem dZ_law_306 : decode xZ_law.2.1 306 = .ok (.iconst 0, 1) := by decide +kernel
theorem dZ_law_307 : decode xZ_law.2.1 307 = .ok (.ireturn, 1) := by decide +kernel
theorem dZ_law_308 : decode xZ_law.2.1 308 = .ok (.aload_n 1, 1) := by decide +kernel
theorem dZ_law_309 : decode xZ_law.2.1 309 = .ok (.aload_n 0, 1) := by decide +kernel
theorem dZ_law_310 : decode xZ_law.2.1 310 = .ok (.iload_n 3, 1) := by decide +kernel
theorem dZ_law_311 : decode xZ_law.2.1 311 = .ok (.iconst 1, 1) := by decide +kernel
theorem dZ_law_312 : decode xZ_law.2.1 312 = .ok (.iadd, 1) := by decide +kernel
theorem dZ_law_313 : decode xZ_law.2.1 313 = .ok (.iaload, 1) := by decide +kernel
theorem dZ_law_314 : decode xZ_law.2.1 314 = .ok (.aload_n 0, 1) := by decide +kernel
theorem dZ_law_315 : decode xZ_law.2.1 315 = .ok (.iload_n 3, 1) := by decide +kernel
theorem dZ_law_316 : decode xZ_law.2.1 316 = .ok (.iconst 2, 1) := by decide +kernel
theorem dZ_law_317 : decode xZ_law.2.1 317 = .ok (.iadd, 1) := by decide +kernel
theorem dZ_law_318 : decode xZ_law.2.1 318 = .ok (.iaload, 1) := by decide +kernel
theorem dZ_law_319 : decode xZ_law.2.1 319 = .ok (.invokevirtual 40, 3) := by decide +kernel
theorem dZ_law_322 : decode xZ_law.2.1 322 = .ok (.aload_n 2, 1) := by decide +kernel
theorem dZ_law_323 : decode xZ_law.2.1 323 = .ok (.aload_n 0, 1) := by decide +kernel
theorem dZ_law_324 : decode xZ_law.2.1 324 = .ok (.iload_n 3, 1) := by decide +kernel
theorem dZ_law_325 : decode xZ_law.2.1 325 = .ok (.iconst 1, 1) := by decide +kernel
theorem dZ_law_326 : decode xZ_law.2.1 326 = .ok (.iadd, 1) := by decide +kernel
theorem dZ_law_327 : decode xZ_law.2.1 327 = .ok (.iaload, 1) := by decide +kernel
theorem dZ_law_328 : decode xZ_law.2.1 328 = .ok (.aload_n 0, 1) := by decide +kernel
theorem dZ_law_329 : decode xZ_law.2.1 329 = .ok (.iload_n 3, 1) := by decide +kernel
theorem dZ_law_330 : decode xZ_law.2.1 330 = .ok (.iconst 2, 1) := by decide +kernel
theorem dZ_law_331 : decode xZ_law.2.1 331 = .ok (.iadd, 1) := by decide +kernel
theorem dZ_law_332 : decode xZ_law.2.1 332 = .ok (.iaload, 1) := by decide +kernel
theorem dZ_law_333 : decode xZ_law.2.1 333 = .ok (.invokevirtual 44, 3) := by decide +kernel
theorem dZ_law_336 : decode xZ_law.2.1 336 = .ok (.if_icmp .eq 380, 3) := by decide +kernel
theorem dZ_law_339 : decode xZ_law.2.1 339 = .ok (.iconst 0, 1) := by decide +kernel
theorem dZ_law_340 : decode xZ_law.2.1 340 = .ok (.ireturn, 1) := by decide +kernel
theorem dZ_law_341 : decode xZ_law.2.1 341 = .ok (.aload_n 1, 1) := by decide +kernel
theorem dZ_law_342 : decode xZ_law.2.1 342 = .ok (.aload_n 0, 1) := by decide +kernel
theorem dZ_law_343 : decode xZ_law.2.1 343 = .ok (.iload_n 3, 1) := by decide +kernel
theorem dZ_law_344 : decode xZ_law.2.1 344 = .ok (.iconst 1, 1) := by decide +kernel
theorem dZ_law_345 : decode xZ_law.2.1 345 = .ok (.iadd, 1) := by decide +kernel
theorem dZ_law_346 : decode xZ_law.2.1 346 = .ok (.iaload, 1) := by decide +kernel
theorem dZ_law_347 : decode xZ_law.2.1 347 = .ok (.invokevirtual 45, 3) := by decide +kernel
theorem dZ_law_350 : decode xZ_law.2.1 350 = .ok (.aload_n 2, 1) := by decide +kernel
theorem dZ_law_351 : decode xZ_law.2.1 351 = .ok (.aload_n 0, 1) := by decide +kernel
theorem dZ_law_352 : decode xZ_law.2.1 352 = .ok (.iload_n 3, 1) := by decide +kernel
theorem dZ_law_353 : decode xZ_law.2.1 353 = .ok (.iconst 1, 1) := by decide +kernel
theorem dZ_law_354 : decode xZ_law.2.1 354 = .ok (.iadd, 1) := by decide +kernel
theorem dZ_law_355 : decode xZ_law.2.1 355 = .ok (.iaload, 1) := by decide +kernel
theorem dZ_law_356 : decode xZ_law.2.1 356 = .ok (.invokevirtual 48, 3) := by decide +kernel
theorem dZ_law_359 : decode xZ_law.2.1 359 = .ok (.if_icmp .eq 357, 3) := by decide +kernel
theorem dZ_law_362 : decode xZ_law.2.1 362 = .ok (.iconst 0, 1) := by decide +kernel
theorem dZ_law_363 : decode xZ_law.2.1 363 = .ok (.ireturn, 1) := by decide +kernel
theorem dZ_law_364 : decode xZ_law.2.1 364 = .ok (.aload_n 1, 1) := by decide +kernel
theorem dZ_law_365 : decode xZ_law.2.1 365 = .ok (.invokevirtual 49, 3) := by decide +kernel
theorem dZ_law_368 : decode xZ_law.2.1 368 = .ok (.aload_n 2, 1) := by decide +kernel
theorem dZ_law_369 : decode xZ_law.2.1 369 = .ok (.invokevirtual 53, 3) := by decide +kernel
theorem dZ_law_372 : decode xZ_law.2.1 372 = .ok (.if_icmp .eq 344, 3) := by decide +kernel
theorem dZ_law_375 : decode xZ_law.2.1 375 = .ok (.iconst 0, 1) := by decide +kernel
theorem dZ_law_376 : decode xZ_law.2.1 376 = .ok (.ireturn, 1) := by decide +kernel
theorem dZ_law_377 : decode xZ_law.2.1 377 = .ok (.aload_n 1, 1) := by decide +kernel
theorem dZ_law_378 : decode xZ_law.2.1 378 = .ok (.aload_n 0, 1) := by decide +kernel
theorem dZ_law_379 : decode xZ_law.2.1 379 = .ok (.iload_n 3, 1) := by decide +kernel
theorem dZ_law_380 : decode xZ_law.2.1 380 = .ok (.iconst 1, 1) := by decide +kernel
theorem dZ_law_381 : decode xZ_law.2.1 381 = .ok (.iadd, 1) := by decide +kernel
theorem dZ_law_382 : decode xZ_law.2.1 382 = .ok (.iaload, 1) := by decide +kernel
theorem dZ_law_383 : decode xZ_law.2.1 383 = .ok (.invokevirtual 54, 3) := by decide +kernel
theorem dZ_law_386 : decode xZ_law.2.1 386 = .ok (.aload_n 2, 1) := by decide +kernel
theorem dZ_law_387 : decode xZ_law.2.1 387 = .ok (.aload_n 0, 1) := by decide +kernel
theorem dZ_law_388 : decode xZ_law.2.1 388 = .ok (.iload_n 3, 1) := by decide +kernel
theorem dZ_law_389 : decode xZ_law.2.1 389 = .ok (.iconst 1, 1) := by decide +kernel
theorem dZ_law_390 : decode xZ_law.2.1 390 = .ok (.iadd, 1) := by decide +kernel
theorem dZ_law_391 : decode xZ_law.2.1 391 = .ok (.iaload, 1) := by decide +kernel
theorem dZ_law_392 : decode xZ_law.2.1 392 = .ok (.invokevirtual 57, 3) := by decide +kernel
theorem dZ_law_395 : decode xZ_law.2.1 395 = .ok (.if_icmp .eq 321, 3) := by decide +kernel
theorem dZ_law_398 : decode xZ_law.2.1 398 = .ok (.iconst 0, 1) := by decide +kernel
theorem dZ_law_399 : decode xZ_law.2.1 399 = .ok (.ireturn, 1) := by decide +kernel
theorem dZ_law_400 : decode xZ_law.2.1 400 = .ok (.aload_n 1, 1) := by decide +kernel
theorem dZ_law_401 : decode xZ_law.2.1 401 = .ok (.aload_n 0, 1) := by decide +kernel
theorem dZ_law_402 : decode xZ_law.2.1 402 = .ok (.iload_n 3, 1) := by decide +kernel
theorem dZ_law_403 : decode xZ_law.2.1 403 = .ok (.iconst 1, 1) := by decide +kernel
theorem dZ_law_404 : decode xZ_law.2.1 404 = .ok (.iadd, 1) := by decide +kernel
theorem dZ_law_405 : decode xZ_law.2.1 405 = .ok (.iaload, 1) := by decide +kernel
theorem dZ_law_406 : decode xZ_law.2.1 406 = .ok (.invokevirtual 58, 3) := by decide +kernel
theorem dZ_law_409 : decode xZ_law.2.1 409 = .ok (.aload_n 2, 1) := by decide +kernel
theorem dZ_law_410 : decode xZ_law.2.1 410 = .ok (.aload_n 0, 1) := by decide +kernel
theorem dZ_law_411 : decode xZ_law.2.1 411 = .ok (.iload_n 3, 1) := by decide +kernel
theorem dZ_law_412 : decode xZ_law.2.1 412 = .ok (.iconst 1, 1) := by decide +kernel
theorem dZ_law_413 : decode xZ_law.2.1 413 = .ok (.iadd, 1) := by decide +kernel
theorem dZ_law_414 : decode xZ_law.2.1 414 = .ok (.iaload, 1) := by decide +kernel
theorem dZ_law_415 : decode xZ_law.2.1 415 = .ok (.invokevirtual 62, 3) := by decide +kernel
theorem dZ_law_418 : decode xZ_law.2.1 418 = .ok (.if_icmp .eq 298, 3) := by decide +kernel
theorem dZ_law_421 : decode xZ_law.2.1 421 = .ok (.iconst 0, 1) := by decide +kernel
theorem dZ_law_422 : decode xZ_law.2.1 422 = .ok (.ireturn, 1) := by decide +kernel
theorem dZ_law_423 : decode xZ_law.2.1 423 = .ok (.aload_n 1, 1) := by decide +kernel
theorem dZ_law_424 : decode xZ_law.2.1 424 = .ok (.aload_n 0, 1) := by decide +kernel
theorem dZ_law_425 : decode xZ_law.2.1 425 = .ok (.iload_n 3, 1) := by decide +kernel
theorem dZ_law_426 : decode xZ_law.2.1 426 = .ok (.iconst 1, 1) := by decide +kernel
theorem dZ_law_427 : decode xZ_law.2.1 427 = .ok (.iadd, 1) := by decide +kernel
theorem dZ_law_428 : decode xZ_law.2.1 428 = .ok (.iaload, 1) := by decide +kernel
theorem dZ_law_429 : decode xZ_law.2.1 429 = .ok (.invokevirtual 63, 3) := by decide +kernel
theorem dZ_law_432 : decode xZ_law.2.1 432 = .ok (.aload_n 2, 1) := by decide +kernel
theorem dZ_law_433 : decode xZ_law.2.1 433 = .ok (.aload_n 0, 1) := by decide +kernel
theorem dZ_law_434 : decode xZ_law.2.1 434 = .ok (.iload_n 3, 1) := by decide +kernel
theorem dZ_law_435 : decode xZ_law.2.1 435 = .ok (.iconst 1, 1) := by decide +kernel
theorem dZ_law_436 : decode xZ_law.2.1 436 = .ok (.iadd, 1) := by decide +kernel
theorem dZ_law_437 : decode xZ_law.2.1 437 = .ok (.iaload, 1) := by decide +kernel
theorem dZ_law_438 : decode xZ_law.2.1 438 = .ok (.invokevirtual 66, 3) := by decide +kernel
theorem dZ_law_441 : decode xZ_law.2.1 441 = .ok (.if_icmp .eq 275, 3) := by decide +kernel
theorem dZ_law_444 : decode xZ_law.2.1 444 = .ok (.iconst 0, 1) := by decide +kernel
theorem dZ_law_445 : decode xZ_law.2.1 445 = .ok (.ireturn, 1) := by decide +kernel
theorem dZ_law_446 : decode xZ_law.2.1 446 = .ok (.aload_n 1, 1) := by decide +kernel
theorem dZ_law_447 : decode xZ_law.2.1 447 = .ok (.aload_n 0, 1) := by decide +kernel
theorem dZ_law_448 : decode xZ_law.2.1 448 = .ok (.iload_n 3, 1) := by decide +kernel
theorem dZ_law_449 : decode xZ_law.2.1 449 = .ok (.iconst 1, 1) := by decide +kernel
theorem dZ_law_450 : decode xZ_law.2.1 450 = .ok (.iadd, 1) := by decide +kernel
theorem dZ_law_451 : decode xZ_law.2.1 451 = .ok (.iaload, 1) := by decide +kernel
theorem dZ_law_452 : decode xZ_law.2.1 452 = .ok (.invokevirtual 67, 3) := by decide +kernel
theorem dZ_law_455 : decode xZ_law.2.1 455 = .ok (.aload_n 2, 1) := by decide +kernel
theorem dZ_law_456 : decode xZ_law.2.1 456 = .ok (.aload_n 0, 1) := by decide +kernel
theorem dZ_law_457 : decode xZ_law.2.1 457 = .ok (.iload_n 3, 1) := by decide +kernel
theorem dZ_law_458 : decode xZ_law.2.1 458 = .ok (.iconst 1, 1) := by decide +kernel
theorem dZ_law_459 : decode xZ_law.2.1 459 = .ok (.iadd, 1) := by decide +kernel
theorem dZ_law_460 : decode xZ_law.2.1 460 = .ok (.iaload, 1) := by decide +kernel
theorem dZ_law_461 : decode xZ_law.2.1 461 = .ok (.invokevirtual 70, 3) := by decide +kernel
theorem dZ_law_464 : decode xZ_law.2.1 464 = .ok (.if_icmp .eq 252, 3) := by decide +kernel
theorem dZ_law_467 : decode xZ_law.2.1 467 = .ok (.iconst 0, 1) := by decide +kernel
theorem dZ_law_468 : decode xZ_law.2.1 468 = .ok (.ireturn, 1) := by decide +kernel
theorem dZ_law_469 : decode xZ_law.2.1 469 = .ok (.aload_n 1, 1) := by decide +kernel
theorem dZ_law_470 : decode xZ_law.2.1 470 = .ok (.aload_n 0, 1) := by decide +kernel
theorem dZ_law_471 : decode xZ_law.2.1 471 = .ok (.iload_n 3, 1) := by decide +kernel
theorem dZ_law_472 : decode xZ_law.2.1 472 = .ok (.iconst 1, 1) := by decide +kernel
theorem dZ_law_473 : decode xZ_law.2.1 473 = .ok (.iadd, 1) := by decide +kernel
theorem dZ_law_474 : decode xZ_law.2.1 474 = .ok (.iaload, 1) := by decide +kernel
theorem dZ_law_475 : decode xZ_law.2.1 475 = .ok (.aload_n 0, 1) := by decide +kernel
theorem dZ_law_476 : decode xZ_law.2.1 476 = .ok (.iload_n 3, 1) := by decide +kernel
theorem dZ_law_477 : decode xZ_law.2.1 477 = .ok (.iconst 2, 1) := by decide +kernel
theorem dZ_law_478 : decode xZ_law.2.1 478 = .ok (.iadd, 1) := by decide +kernel
theorem dZ_law_479 : decode xZ_law.2.1 479 = .ok (.iaload, 1) := by decide +kernel
theorem dZ_law_480 : decode xZ_law.2.1 480 = .ok (.invokevirtual 71, 3) := by decide +kernel
theorem dZ_law_483 : decode xZ_law.2.1 483 = .ok (.aload_n 2, 1) := by decide +kernel
theorem dZ_law_484 : decode xZ_law.2.1 484 = .ok (.aload_n 0, 1) := by decide +kernel
theorem dZ_law_485 : decode xZ_law.2.1 485 = .ok (.iload_n 3, 1) := by decide +kernel
theorem dZ_law_486 : decode xZ_law.2.1 486 = .ok (.iconst 1, 1) := by decide +kernel
theorem dZ_law_487 : decode xZ_law.2.1 487 = .ok (.iadd, 1) := by decide +kernel
theorem dZ_law_488 : decode xZ_law.2.1 488 = .ok (.iaload, 1) := by decide +kernel
theorem dZ_law_489 : decode xZ_law.2.1 489 = .ok (.aload_n 0, 1) := by decide +kernel
theorem dZ_law_490 : decode xZ_law.2.1 490 = .ok (.iload_n 3, 1) := by decide +kernel
theorem dZ_law_491 : decode xZ_law.2.1 491 = .ok (.iconst 2, 1) := by decide +kernel
theorem dZ_law_492 : decode xZ_law.2.1 492 = .ok (.iadd, 1) := by decide +kernel
theorem dZ_law_493 : decode xZ_law.2.1 493 = .ok (.iaload, 1) := by decide +kernel
theorem dZ_law_494 : decode xZ_law.2.1 494 = .ok (.invokevirtual 75, 3) := by decide +kernel
theorem dZ_law_497 : decode xZ_law.2.1 497 = .ok (.if_icmp .eq 219, 3) := by decide +kernel
theorem dZ_law_500 : decode xZ_law.2.1 500 = .ok (.iconst 0, 1) := by decide +kernel
theorem dZ_law_501 : decode xZ_law.2.1 501 = .ok (.ireturn, 1) := by decide +kernel
theorem dZ_law_502 : decode xZ_law.2.1 502 = .ok (.aload_n 1, 1) := by decide +kernel
theorem dZ_law_503 : decode xZ_law.2.1 503 = .ok (.aload_n 0, 1) := by decide +kernel
theorem dZ_law_504 : decode xZ_law.2.1 504 = .ok (.iload_n 3, 1) := by decide +kernel
theorem dZ_law_505 : decode xZ_law.2.1 505 = .ok (.iconst 1, 1) := by decide +kernel
theorem dZ_law_506 : decode xZ_law.2.1 506 = .ok (.iadd, 1) := by decide +kernel
theorem dZ_law_507 : decode xZ_law.2.1 507 = .ok (.iaload, 1) := by decide +kernel
theorem dZ_law_508 : decode xZ_law.2.1 508 = .ok (.invokevirtual 76, 3) := by decide +kernel
theorem dZ_law_511 : decode xZ_law.2.1 511 = .ok (.aload_n 2, 1) := by decide +kernel
theorem dZ_law_512 : decode xZ_law.2.1 512 = .ok (.aload_n 0, 1) := by decide +kernel
theorem dZ_law_513 : decode xZ_law.2.1 513 = .ok (.iload_n 3, 1) := by decide +kernel
theorem dZ_law_514 : decode xZ_law.2.1 514 = .ok (.iconst 1, 1) := by decide +kernel
theorem dZ_law_515 : decode xZ_law.2.1 515 = .ok (.iadd, 1) := by decide +kernel
theorem dZ_law_516 : decode xZ_law.2.1 516 = .ok (.iaload, 1) := by decide +kernel
theorem dZ_law_517 : decode xZ_law.2.1 517 = .ok (.invokevirtual 79, 3) := by decide +kernel
theorem dZ_law_520 : decode xZ_law.2.1 520 = .ok (.if_icmp .eq 196, 3) := by decide +kernel
theorem dZ_law_523 : decode xZ_law.2.1 523 = .ok (.iconst 0, 1) := by decide +kernel
theorem dZ_law_524 : decode xZ_law.2.1 524 = .ok (.ireturn, 1) := by decide +kernel
theorem dZ_law_525 : decode xZ_law.2.1 525 = .ok (.aload_n 1, 1) := by decide +kernel
theorem dZ_law_526 : decode xZ_law.2.1 526 = .ok (.aload_n 0, 1) := by decide +kernel
theorem dZ_law_527 : decode xZ_law.2.1 527 = .ok (.iload_n 3, 1) := by decide +kernel
theorem dZ_law_528 : decode xZ_law.2.1 528 = .ok (.iconst 1, 1) := by decide +kernel
theorem dZ_law_529 : decode xZ_law.2.1 529 = .ok (.iadd, 1) := by decide +kernel
theorem dZ_law_530 : decode xZ_law.2.1 530 = .ok (.iaload, 1) := by decide +kernel
theorem dZ_law_531 : decode xZ_law.2.1 531 = .ok (.invokevirtual 80, 3) := by decide +kernel
theorem dZ_law_534 : decode xZ_law.2.1 534 = .ok (.aload_n 2, 1) := by decide +kernel
theorem dZ_law_535 : decode xZ_law.2.1 535 = .ok (.aload_n 0, 1) := by decide +kernel
theorem dZ_law_536 : decode xZ_law.2.1 536 = .ok (.iload_n 3, 1) := by decide +kernel
theorem dZ_law_537 : decode xZ_law.2.1 537 = .ok (.iconst 1, 1) := by decide +kernel
theorem dZ_law_538 : decode xZ_law.2.1 538 = .ok (.iadd, 1) := by decide +kernel
theorem dZ_law_539 : decode xZ_law.2.1 539 = .ok (.iaload, 1) := by decide +kernel
theorem dZ_law_540 : decode xZ_law.2.1 540 = .ok (.invokevirtual 83, 3) := by decide +kernel
theorem dZ_law_543 : decode xZ_law.2.1 543 = .ok (.if_icmp .eq 173, 3) := by decide +kernel
theorem dZ_law_546 : decode xZ_law.2.1 546 = .ok (.iconst 0, 1) := by decide +kernel
theorem dZ_law_547 : decode xZ_law.2.1 547 = .ok (.ireturn, 1) := by decide +kernel
theorem dZ_law_548 : decode xZ_law.2.1 548 = .ok (.aload_n 1, 1) := by decide +kernel
theorem dZ_law_549 : decode xZ_law.2.1 549 = .ok (.aload_n 0, 1) := by decide +kernel
theorem dZ_law_550 : decode xZ_law.2.1 550 = .ok (.iload_n 3, 1) := by decide +kernel
theorem dZ_law_551 : decode xZ_law.2.1 551 = .ok (.iconst 1, 1) := by decide +kernel
theorem dZ_law_552 : decode xZ_law.2.1 552 = .ok (.iadd, 1) := by decide +kernel
theorem dZ_law_553 : decode xZ_law.2.1 553 = .ok (.iaload, 1) := by decide +kernel
theorem dZ_law_554 : decode xZ_law.2.1 554 = .ok (.invokevirtual 84, 3) := by decide +kernel
theorem dZ_law_557 : decode xZ_law.2.1 557 = .ok (.aload_n 2, 1) := by decide +kernel
theorem dZ_law_558 : decode xZ_law.2.1 558 = .ok (.aload_n 0, 1) := by decide +kernel
theorem dZ_law_559 : decode xZ_law.2.1 559 = .ok (.iload_n 3, 1) := by decide +kernel
theorem dZ_law_560 : decode xZ_law.2.1 560 = .ok (.iconst 1, 1) := by decide +kernel
theorem dZ_law_561 : decode xZ_law.2.1 561 = .ok (.iadd, 1) := by decide +kernel
theorem dZ_law_562 : decode xZ_law.2.1 562 = .ok (.iaload, 1) := by decide +kernel
theorem dZ_law_563 : decode xZ_law.2.1 563 = .ok (.invokevirtual 87, 3) := by decide +kernel
theorem dZ_law_566 : decode xZ_law.2.1 566 = .ok (.if_icmp .eq 150, 3) := by decide +kernel
theorem dZ_law_569 : decode xZ_law.2.1 569 = .ok (.iconst 0, 1) := by decide +kernel
theorem dZ_law_570 : decode xZ_law.2.1 570 = .ok (.ireturn, 1) := by decide +kernel
theorem dZ_law_571 : decode xZ_law.2.1 571 = .ok (.aload_n 1, 1) := by decide +kernel
theorem dZ_law_572 : decode xZ_law.2.1 572 = .ok (.aload_n 0, 1) := by decide +kernel
theorem dZ_law_573 : decode xZ_law.2.1 573 = .ok (.iload_n 3, 1) := by decide +kernel
theorem dZ_law_574 : decode xZ_law.2.1 574 = .ok (.iconst 1, 1) := by decide +kernel
theorem dZ_law_575 : decode xZ_law.2.1 575 = .ok (.iadd, 1) := by decide +kernel
theorem dZ_law_576 : decode xZ_law.2.1 576 = .ok (.iaload, 1) := by decide +kernel
theorem dZ_law_577 : decode xZ_law.2.1 577 = .ok (.aload_n 0, 1) := by decide +kernel
theorem dZ_law_578 : decode xZ_law.2.1 578 = .ok (.iload_n 3, 1) := by decide +kernel
theorem dZ_law_579 : decode xZ_law.2.1 579 = .ok (.iconst 2, 1) := by decide +kernel
theorem dZ_law_580 : decode xZ_law.2.1 580 = .ok (.iadd, 1) := by decide +kernel
theorem dZ_law_581 : decode xZ_law.2.1 581 = .ok (.iaload, 1) := by decide +kernel
theorem dZ_law_582 : decode xZ_law.2.1 582 = .ok (.invokevirtual 88, 3) := by decide +kernel
theorem dZ_law_585 : decode xZ_law.2.1 585 = .ok (.aload_n 2, 1) := by decide +kernel
theorem dZ_law_586 : decode xZ_law.2.1 586 = .ok (.aload_n 0, 1) := by decide +kernel
theorem dZ_law_587 : decode xZ_law.2.1 587 = .ok (.iload_n 3, 1) := by decide +kernel
theorem dZ_law_588 : decode xZ_law.2.1 588 = .ok (.iconst 1, 1) := by decide +kernel
theorem dZ_law_589 : decode xZ_law.2.1 589 = .ok (.iadd, 1) := by decide +kernel
theorem dZ_law_590 : decode xZ_law.2.1 590 = .ok (.iaload, 1) := by decide +kernel
theorem dZ_law_591 : decode xZ_law.2.1 591 = .ok (.aload_n 0, 1) := by decide +kernel
theorem dZ_law_592 : decode xZ_law.2.1 592 = .ok (.iload_n 3, 1) := by decide +kernel
theorem dZ_law_593 : decode xZ_law.2.1 593 = .ok (.iconst 2, 1) := by decide +kernel
theorem dZ_law_594 : decode xZ_law.2.1 594 = .ok (.iadd, 1) := by decide +kernel
theorem dZ_law_595 : decode xZ_law.2.1 595 = .ok (.iaload, 1) := by decide +kernel
theorem dZ_law_596 : decode xZ_law.2.1 596 = .ok (.invokevirtual 91, 3) := by decide +kernel
theorem dZ_law_599 : decode xZ_law.2.1 599 = .ok (.if_icmp .eq 117, 3) := by decide +kernel
theorem dZ_law_602 : decode xZ_law.2.1 602 = .ok (.iconst 0, 1) := by decide +kernel
theorem dZ_law_603 : decode xZ_law.2.1 603 = .ok (.ireturn, 1) := by decide +kernel
theorem dZ_law_604 : decode xZ_law.2.1 604 = .ok (.aload_n 1, 1) := by decide +kernel
theorem dZ_law_605 : decode xZ_law.2.1 605 = .ok (.aload_n 0, 1) := by decide +kernel
theorem dZ_law_606 : decode xZ_law.2.1 606 = .ok (.iload_n 3, 1) := by decide +kernel
theorem dZ_law_607 : decode xZ_law.2.1 607 = .ok (.iconst 1, 1) := by decide +kernel
theorem dZ_law_608 : decode xZ_law.2.1 608 = .ok (.iadd, 1) := by decide +kernel
theorem dZ_law_609 : decode xZ_law.2.1 609 = .ok (.iaload, 1) := by decide +kernel
theorem dZ_law_610 : decode xZ_law.2.1 610 = .ok (.invokevirtual 92, 3) := by decide +kernel
theorem dZ_law_613 : decode xZ_law.2.1 613 = .ok (.aload_n 2, 1) := by decide +kernel
theorem dZ_law_614 : decode xZ_law.2.1 614 = .ok (.aload_n 0, 1) := by decide +kernel
theorem dZ_law_615 : decode xZ_law.2.1 615 = .ok (.iload_n 3, 1) := by decide +kernel
theorem dZ_law_616 : decode xZ_law.2.1 616 = .ok (.iconst 1, 1) := by decide +kernel
theorem dZ_law_617 : decode xZ_law.2.1 617 = .ok (.iadd, 1) := by decide +kernel
theorem dZ_law_618 : decode xZ_law.2.1 618 = .ok (.iaload, 1) := by decide +kernel
theorem dZ_law_619 : decode xZ_law.2.1 619 = .ok (.invokevirtual 95, 3) := by decide +kernel
theorem dZ_law_622 : decode xZ_law.2.1 622 = .ok (.if_icmp .eq 94, 3) := by decide +kernel
theorem dZ_law_625 : decode xZ_law.2.1 625 = .ok (.iconst 0, 1) := by decide +kernel
theorem dZ_law_626 : decode xZ_law.2.1 626 = .ok (.ireturn, 1) := by decide +kernel
theorem dZ_law_627 : decode xZ_law.2.1 627 = .ok (.aload_n 1, 1) := by decide +kernel
theorem dZ_law_628 : decode xZ_law.2.1 628 = .ok (.aload_n 0, 1) := by decide +kernel
theorem dZ_law_629 : decode xZ_law.2.1 629 = .ok (.iload_n 3, 1) := by decide +kernel
theorem dZ_law_630 : decode xZ_law.2.1 630 = .ok (.iconst 1, 1) := by decide +kernel
theorem dZ_law_631 : decode xZ_law.2.1 631 = .ok (.iadd, 1) := by decide +kernel
theorem dZ_law_632 : decode xZ_law.2.1 632 = .ok (.iaload, 1) := by decide +kernel
theorem dZ_law_633 : decode xZ_law.2.1 633 = .ok (.aload_n 0, 1) := by decide +kernel
theorem dZ_law_634 : decode xZ_law.2.1 634 = .ok (.iload_n 3, 1) := by decide +kernel
theorem dZ_law_635 : decode xZ_law.2.1 635 = .ok (.iconst 2, 1) := by decide +kernel
theorem dZ_law_636 : decode xZ_law.2.1 636 = .ok (.iadd, 1) := by decide +kernel
theorem dZ_law_637 : decode xZ_law.2.1 637 = .ok (.iaload, 1) := by decide +kernel
theorem dZ_law_638 : decode xZ_law.2.1 638 = .ok (.invokevirtual 96, 3) := by decide +kernel
theorem dZ_law_641 : decode xZ_law.2.1 641 = .ok (.aload_n 2, 1) := by decide +kernel
theorem dZ_law_642 : decode xZ_law.2.1 642 = .ok (.aload_n 0, 1) := by decide +kernel
theorem dZ_law_643 : decode xZ_law.2.1 643 = .ok (.iload_n 3, 1) := by decide +kernel
theorem dZ_law_644 : decode xZ_law.2.1 644 = .ok (.iconst 1, 1) := by decide +kernel
theorem dZ_law_645 : decode xZ_law.2.1 645 = .ok (.iadd, 1) := by decide +kernel
theorem dZ_law_646 : decode xZ_law.2.1 646 = .ok (.iaload, 1) := by decide +kernel
theorem dZ_law_647 : decode xZ_law.2.1 647 = .ok (.aload_n 0, 1) := by decide +kernel
theorem dZ_law_648 : decode xZ_law.2.1 648 = .ok (.iload_n 3, 1) := by decide +kernel
theorem dZ_law_649 : decode xZ_law.2.1 649 = .ok (.iconst 2, 1) := by decide +kernel
theorem dZ_law_650 : decode xZ_law.2.1 650 = .ok (.iadd, 1) := by decide +kernel
theorem dZ_law_651 : decode xZ_law.2.1 651 = .ok (.iaload, 1) := by decide +kernel
theorem dZ_law_652 : decode xZ_law.2.1 652 = .ok (.invokevirtual 99, 3) := by decide +kernel
theorem dZ_law_655 : decode xZ_law.2.1 655 = .ok (.if_icmp .eq 61, 3) := by decide +kernel
theorem dZ_law_658 : decode xZ_law.2.1 658 = .ok (.iconst 0, 1) := by decide +kernel
theorem dZ_law_659 : decode xZ_law.2.1 659 = .ok (.ireturn, 1) := by decide +kernel
theorem dZ_law_660 : decode xZ_law.2.1 660 = .ok (.aload_n 1, 1) := by decide +kernel
theorem dZ_law_661 : decode xZ_law.2.1 661 = .ok (.aload_n 0, 1) := by decide +kernel
theorem dZ_law_662 : decode xZ_law.2.1 662 = .ok (.iload_n 3, 1) := by decide +kernel
theorem dZ_law_663 : decode xZ_law.2.1 663 = .ok (.iconst 1, 1) := by decide +kernel
theorem dZ_law_664 : decode xZ_law.2.1 664 = .ok (.iadd, 1) := by decide +kernel
theorem dZ_law_665 : decode xZ_law.2.1 665 = .ok (.iaload, 1) := by decide +kernel
theorem dZ_law_666 : decode xZ_law.2.1 666 = .ok (.invokevirtual 100, 3) := by decide +kernel
theorem dZ_law_669 : decode xZ_law.2.1 669 = .ok (.aload_n 2, 1) := by decide +kernel
theorem dZ_law_670 : decode xZ_law.2.1 670 = .ok (.aload_n 0, 1) := by decide +kernel
theorem dZ_law_671 : decode xZ_law.2.1 671 = .ok (.iload_n 3, 1) := by decide +kernel
theorem dZ_law_672 : decode xZ_law.2.1 672 = .ok (.iconst 1, 1) := by decide +kernel
theorem dZ_law_673 : decode xZ_law.2.1 673 = .ok (.iadd, 1) := by decide +kernel
theorem dZ_law_674 : decode xZ_law.2.1 674 = .ok (.iaload, 1) := by decide +kernel
theorem dZ_law_675 : decode xZ_law.2.1 675 = .ok (.invokevirtual 103, 3) := by decide +kernel
theorem dZ_law_678 : decode xZ_law.2.1 678 = .ok (.if_icmp .eq 38, 3) := by decide +kernel
theorem dZ_law_681 : decode xZ_law.2.1 681 = .ok (.iconst 0, 1) := by decide +kernel
theorem dZ_law_682 : decode xZ_law.2.1 682 = .ok (.ireturn, 1) := by decide +kernel
theorem dZ_law_683 : decode xZ_law.2.1 683 = .ok (.aload_n 1, 1) := by decide +kernel
theorem dZ_law_684 : decode xZ_law.2.1 684 = .ok (.aload_n 0, 1) := by decide +kernel
theorem dZ_law_685 : decode xZ_law.2.1 685 = .ok (.iload_n 3, 1) := by decide +kernel
theorem dZ_law_686 : decode xZ_law.2.1 686 = .ok (.iconst 1, 1) := by decide +kernel
theorem dZ_law_687 : decode xZ_law.2.1 687 = .ok (.iadd, 1) := by decide +kernel
theorem dZ_law_688 : decode xZ_law.2.1 688 = .ok (.iaload, 1) := by decide +kernel
theorem dZ_law_689 : decode xZ_law.2.1 689 = .ok (.aload_n 0, 1) := by decide +kernel
theorem dZ_law_690 : decode xZ_law.2.1 690 = .ok (.iload_n 3, 1) := by decide +kernel
theorem dZ_law_691 : decode xZ_law.2.1 691 = .ok (.iconst 2, 1) := by decide +kernel
theorem dZ_law_692 : decode xZ_law.2.1 692 = .ok (.iadd, 1) := by decide +kernel
theorem dZ_law_693 : decode xZ_law.2.1 693 = .ok (.iaload, 1) := by decide +kernel
theorem dZ_law_694 : decode xZ_law.2.1 694 = .ok (.invokevirtual 104, 3) := by decide +kernel
theorem dZ_law_697 : decode xZ_law.2.1 697 = .ok (.aload_n 2, 1) := by decide +kernel
theorem dZ_law_698 : decode xZ_law.2.1 698 = .ok (.aload_n 0, 1) := by decide +kernel
theorem dZ_law_699 : decode xZ_law.2.1 699 = .ok (.iload_n 3, 1) := by decide +kernel
theorem dZ_law_700 : decode xZ_law.2.1 700 = .ok (.iconst 1, 1) := by decide +kernel
theorem dZ_law_701 : decode xZ_law.2.1 701 = .ok (.iadd, 1) := by decide +kernel
theorem dZ_law_702 : decode xZ_law.2.1 702 = .ok (.iaload, 1) := by decide +kernel
theorem dZ_law_703 : decode xZ_law.2.1 703 = .ok (.aload_n 0, 1) := by decide +kernel
theorem dZ_law_704 : decode xZ_law.2.1 704 = .ok (.iload_n 3, 1) := by decide +kernel
theorem dZ_law_705 : decode xZ_law.2.1 705 = .ok (.iconst 2, 1) := by decide +kernel
theorem dZ_law_706 : decode xZ_law.2.1 706 = .ok (.iadd, 1) := by decide +kernel
theorem dZ_law_707 : decode xZ_law.2.1 707 = .ok (.iaload, 1) := by decide +kernel
theorem dZ_law_708 : decode xZ_law.2.1 708 = .ok (.invokevirtual 107, 3) := by decide +kernel
theorem dZ_law_711 : decode xZ_law.2.1 711 = .ok (.if_icmp .eq 5, 3) := by decide +kernel
theorem dZ_law_714 : decode xZ_law.2.1 714 = .ok (.iconst 0, 1) := by decide +kernel
theorem dZ_law_715 : decode xZ_law.2.1 715 = .ok (.ireturn, 1) := by decide +kernel
theorem dZ_law_716 : decode xZ_law.2.1 716 = .ok (.iinc 3 5, 3) := by decide +kernel
theorem dZ_law_719 : decode xZ_law.2.1 719 = .ok (.goto (-691), 3) := by decide +kernel
theorem dZ_law_722 : decode xZ_law.2.1 722 = .ok (.iconst 1, 1) := by decide +kernel
theorem dZ_law_723 : decode xZ_law.2.1 723 = .ok (.ireturn, 1) := by decide +kernel
