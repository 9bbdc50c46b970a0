/-! Method constants and decode rows, written by wip/whole/gen/code.py out of the listing. -/
def xM_init : mt_X := (⟨"LeasedPagesModel", "<init>", "(I)V"⟩, prog_12_method_1_code, 3, (Option.none : Option FieldType))
theorem dM_init_0 : decode xM_init.2.1 0 = .ok (.aload_n 0, 1) := by decide +kernel
theorem dM_init_1 : decode xM_init.2.1 1 = .ok (.invokespecial 1, 3) := by decide +kernel
theorem dM_init_4 : decode xM_init.2.1 4 = .ok (.aload_n 0, 1) := by decide +kernel
theorem dM_init_5 : decode xM_init.2.1 5 = .ok (.iconst 4, 1) := by decide +kernel
theorem dM_init_6 : decode xM_init.2.1 6 = .ok (.newarray .boolean, 2) := by decide +kernel
theorem dM_init_8 : decode xM_init.2.1 8 = .ok (.putfield 7, 3) := by decide +kernel
theorem dM_init_11 : decode xM_init.2.1 11 = .ok (.aload_n 0, 1) := by decide +kernel
theorem dM_init_12 : decode xM_init.2.1 12 = .ok (.iconst 4, 1) := by decide +kernel
theorem dM_init_13 : decode xM_init.2.1 13 = .ok (.newarray .int, 2) := by decide +kernel
theorem dM_init_15 : decode xM_init.2.1 15 = .ok (.putfield 13, 3) := by decide +kernel
theorem dM_init_18 : decode xM_init.2.1 18 = .ok (.aload_n 0, 1) := by decide +kernel
theorem dM_init_19 : decode xM_init.2.1 19 = .ok (.bipush 16, 2) := by decide +kernel
theorem dM_init_21 : decode xM_init.2.1 21 = .ok (.newarray .int, 2) := by decide +kernel
theorem dM_init_23 : decode xM_init.2.1 23 = .ok (.putfield 17, 3) := by decide +kernel
theorem dM_init_26 : decode xM_init.2.1 26 = .ok (.aload_n 0, 1) := by decide +kernel
theorem dM_init_27 : decode xM_init.2.1 27 = .ok (.bipush 12, 2) := by decide +kernel
theorem dM_init_29 : decode xM_init.2.1 29 = .ok (.newarray .int, 2) := by decide +kernel
theorem dM_init_31 : decode xM_init.2.1 31 = .ok (.putfield 20, 3) := by decide +kernel
theorem dM_init_34 : decode xM_init.2.1 34 = .ok (.aload_n 0, 1) := by decide +kernel
theorem dM_init_35 : decode xM_init.2.1 35 = .ok (.bipush 12, 2) := by decide +kernel
theorem dM_init_37 : decode xM_init.2.1 37 = .ok (.newarray .int, 2) := by decide +kernel
theorem dM_init_39 : decode xM_init.2.1 39 = .ok (.putfield 23, 3) := by decide +kernel
theorem dM_init_42 : decode xM_init.2.1 42 = .ok (.aload_n 0, 1) := by decide +kernel
theorem dM_init_43 : decode xM_init.2.1 43 = .ok (.iconst 3, 1) := by decide +kernel
theorem dM_init_44 : decode xM_init.2.1 44 = .ok (.newarray .int, 2) := by decide +kernel
theorem dM_init_46 : decode xM_init.2.1 46 = .ok (.putfield 26, 3) := by decide +kernel
theorem dM_init_49 : decode xM_init.2.1 49 = .ok (.aload_n 0, 1) := by decide +kernel
theorem dM_init_50 : decode xM_init.2.1 50 = .ok (.iconst 3, 1) := by decide +kernel
theorem dM_init_51 : decode xM_init.2.1 51 = .ok (.newarray .int, 2) := by decide +kernel
theorem dM_init_53 : decode xM_init.2.1 53 = .ok (.putfield 29, 3) := by decide +kernel
theorem dM_init_56 : decode xM_init.2.1 56 = .ok (.aload_n 0, 1) := by decide +kernel
theorem dM_init_57 : decode xM_init.2.1 57 = .ok (.iconst 3, 1) := by decide +kernel
theorem dM_init_58 : decode xM_init.2.1 58 = .ok (.newarray .int, 2) := by decide +kernel
theorem dM_init_60 : decode xM_init.2.1 60 = .ok (.putfield 32, 3) := by decide +kernel
theorem dM_init_63 : decode xM_init.2.1 63 = .ok (.aload_n 0, 1) := by decide +kernel
theorem dM_init_64 : decode xM_init.2.1 64 = .ok (.iconst 3, 1) := by decide +kernel
theorem dM_init_65 : decode xM_init.2.1 65 = .ok (.newarray .int, 2) := by decide +kernel
theorem dM_init_67 : decode xM_init.2.1 67 = .ok (.putfield 35, 3) := by decide +kernel
theorem dM_init_70 : decode xM_init.2.1 70 = .ok (.aload_n 0, 1) := by decide +kernel
theorem dM_init_71 : decode xM_init.2.1 71 = .ok (.iconst 3, 1) := by decide +kernel
theorem dM_init_72 : decode xM_init.2.1 72 = .ok (.newarray .boolean, 2) := by decide +kernel
theorem dM_init_74 : decode xM_init.2.1 74 = .ok (.putfield 38, 3) := by decide +kernel
theorem dM_init_77 : decode xM_init.2.1 77 = .ok (.aload_n 0, 1) := by decide +kernel
theorem dM_init_78 : decode xM_init.2.1 78 = .ok (.bipush 12, 2) := by decide +kernel
theorem dM_init_80 : decode xM_init.2.1 80 = .ok (.newarray .int, 2) := by decide +kernel
theorem dM_init_82 : decode xM_init.2.1 82 = .ok (.putfield 41, 3) := by decide +kernel
theorem dM_init_85 : decode xM_init.2.1 85 = .ok (.aload_n 0, 1) := by decide +kernel
theorem dM_init_86 : decode xM_init.2.1 86 = .ok (.iconst 3, 1) := by decide +kernel
theorem dM_init_87 : decode xM_init.2.1 87 = .ok (.newarray .int, 2) := by decide +kernel
theorem dM_init_89 : decode xM_init.2.1 89 = .ok (.putfield 44, 3) := by decide +kernel
theorem dM_init_92 : decode xM_init.2.1 92 = .ok (.aload_n 0, 1) := by decide +kernel
theorem dM_init_93 : decode xM_init.2.1 93 = .ok (.iconst 3, 1) := by decide +kernel
theorem dM_init_94 : decode xM_init.2.1 94 = .ok (.newarray .int, 2) := by decide +kernel
theorem dM_init_96 : decode xM_init.2.1 96 = .ok (.putfield 47, 3) := by decide +kernel
theorem dM_init_99 : decode xM_init.2.1 99 = .ok (.aload_n 0, 1) := by decide +kernel
theorem dM_init_100 : decode xM_init.2.1 100 = .ok (.iconst 3, 1) := by decide +kernel
theorem dM_init_101 : decode xM_init.2.1 101 = .ok (.newarray .int, 2) := by decide +kernel
theorem dM_init_103 : decode xM_init.2.1 103 = .ok (.putfield 50, 3) := by decide +kernel
theorem dM_init_106 : decode xM_init.2.1 106 = .ok (.aload_n 0, 1) := by decide +kernel
theorem dM_init_107 : decode xM_init.2.1 107 = .ok (.iconst 3, 1) := by decide +kernel
theorem dM_init_108 : decode xM_init.2.1 108 = .ok (.newarray .int, 2) := by decide +kernel
theorem dM_init_110 : decode xM_init.2.1 110 = .ok (.putfield 53, 3) := by decide +kernel
theorem dM_init_113 : decode xM_init.2.1 113 = .ok (.aload_n 0, 1) := by decide +kernel
theorem dM_init_114 : decode xM_init.2.1 114 = .ok (.iconst 3, 1) := by decide +kernel
theorem dM_init_115 : decode xM_init.2.1 115 = .ok (.newarray .int, 2) := by decide +kernel
theorem dM_init_117 : decode xM_init.2.1 117 = .ok (.putfield 56, 3) := by decide +kernel
theorem dM_init_120 : decode xM_init.2.1 120 = .ok (.aload_n 0, 1) := by decide +kernel
theorem dM_init_121 : decode xM_init.2.1 121 = .ok (.bipush 12, 2) := by decide +kernel
theorem dM_init_123 : decode xM_init.2.1 123 = .ok (.newarray .int, 2) := by decide +kernel
theorem dM_init_125 : decode xM_init.2.1 125 = .ok (.putfield 59, 3) := by decide +kernel
theorem dM_init_128 : decode xM_init.2.1 128 = .ok (.aload_n 0, 1) := by decide +kernel
theorem dM_init_129 : decode xM_init.2.1 129 = .ok (.bipush 12, 2) := by decide +kernel
theorem dM_init_131 : decode xM_init.2.1 131 = .ok (.newarray .int, 2) := by decide +kernel
theorem dM_init_133 : decode xM_init.2.1 133 = .ok (.putfield 62, 3) := by decide +kernel
theorem dM_init_136 : decode xM_init.2.1 136 = .ok (.aload_n 0, 1) := by decide +kernel
theorem dM_init_137 : decode xM_init.2.1 137 = .ok (.bipush 12, 2) := by decide +kernel
theorem dM_init_139 : decode xM_init.2.1 139 = .ok (.newarray .boolean, 2) := by decide +kernel
theorem dM_init_141 : decode xM_init.2.1 141 = .ok (.putfield 65, 3) := by decide +kernel
theorem dM_init_144 : decode xM_init.2.1 144 = .ok (.aload_n 0, 1) := by decide +kernel
theorem dM_init_145 : decode xM_init.2.1 145 = .ok (.bipush 12, 2) := by decide +kernel
theorem dM_init_147 : decode xM_init.2.1 147 = .ok (.newarray .boolean, 2) := by decide +kernel
theorem dM_init_149 : decode xM_init.2.1 149 = .ok (.putfield 68, 3) := by decide +kernel
theorem dM_init_152 : decode xM_init.2.1 152 = .ok (.aload_n 0, 1) := by decide +kernel
theorem dM_init_153 : decode xM_init.2.1 153 = .ok (.bipush 48, 2) := by decide +kernel
theorem dM_init_155 : decode xM_init.2.1 155 = .ok (.newarray .int, 2) := by decide +kernel
theorem dM_init_157 : decode xM_init.2.1 157 = .ok (.putfield 71, 3) := by decide +kernel
theorem dM_init_160 : decode xM_init.2.1 160 = .ok (.aload_n 0, 1) := by decide +kernel
theorem dM_init_161 : decode xM_init.2.1 161 = .ok (.iconst 3, 1) := by decide +kernel
theorem dM_init_162 : decode xM_init.2.1 162 = .ok (.newarray .int, 2) := by decide +kernel
theorem dM_init_164 : decode xM_init.2.1 164 = .ok (.putfield 74, 3) := by decide +kernel
theorem dM_init_167 : decode xM_init.2.1 167 = .ok (.aload_n 0, 1) := by decide +kernel
theorem dM_init_168 : decode xM_init.2.1 168 = .ok (.bipush 18, 2) := by decide +kernel
theorem dM_init_170 : decode xM_init.2.1 170 = .ok (.newarray .int, 2) := by decide +kernel
theorem dM_init_172 : decode xM_init.2.1 172 = .ok (.putfield 77, 3) := by decide +kernel
theorem dM_init_175 : decode xM_init.2.1 175 = .ok (.aload_n 0, 1) := by decide +kernel
theorem dM_init_176 : decode xM_init.2.1 176 = .ok (.bipush 18, 2) := by decide +kernel
theorem dM_init_178 : decode xM_init.2.1 178 = .ok (.newarray .int, 2) := by decide +kernel
theorem dM_init_180 : decode xM_init.2.1 180 = .ok (.putfield 80, 3) := by decide +kernel
theorem dM_init_183 : decode xM_init.2.1 183 = .ok (.aload_n 0, 1) := by decide +kernel
theorem dM_init_184 : decode xM_init.2.1 184 = .ok (.iconst 3, 1) := by decide +kernel
theorem dM_init_185 : decode xM_init.2.1 185 = .ok (.newarray .int, 2) := by decide +kernel
theorem dM_init_187 : decode xM_init.2.1 187 = .ok (.putfield 83, 3) := by decide +kernel
theorem dM_init_190 : decode xM_init.2.1 190 = .ok (.aload_n 0, 1) := by decide +kernel
theorem dM_init_191 : decode xM_init.2.1 191 = .ok (.iconst 3, 1) := by decide +kernel
theorem dM_init_192 : decode xM_init.2.1 192 = .ok (.newarray .int, 2) := by decide +kernel
theorem dM_init_194 : decode xM_init.2.1 194 = .ok (.putfield 86, 3) := by decide +kernel
theorem dM_init_197 : decode xM_init.2.1 197 = .ok (.aload_n 0, 1) := by decide +kernel
theorem dM_init_198 : decode xM_init.2.1 198 = .ok (.iconst 3, 1) := by decide +kernel
theorem dM_init_199 : decode xM_init.2.1 199 = .ok (.newarray .int, 2) := by decide +kernel
theorem dM_init_201 : decode xM_init.2.1 201 = .ok (.putfield 89, 3) := by decide +kernel
theorem dM_init_204 : decode xM_init.2.1 204 = .ok (.aload_n 0, 1) := by decide +kernel
theorem dM_init_205 : decode xM_init.2.1 205 = .ok (.iconst 3, 1) := by decide +kernel
theorem dM_init_206 : decode xM_init.2.1 206 = .ok (.newarray .boolean, 2) := by decide +kernel
theorem dM_init_208 : decode xM_init.2.1 208 = .ok (.putfield 92, 3) := by decide +kernel
theorem dM_init_211 : decode xM_init.2.1 211 = .ok (.aload_n 0, 1) := by decide +kernel
theorem dM_init_212 : decode xM_init.2.1 212 = .ok (.iconst 3, 1) := by decide +kernel
theorem dM_init_213 : decode xM_init.2.1 213 = .ok (.newarray .int, 2) := by decide +kernel
theorem dM_init_215 : decode xM_init.2.1 215 = .ok (.putfield 95, 3) := by decide +kernel
theorem dM_init_218 : decode xM_init.2.1 218 = .ok (.aload_n 0, 1) := by decide +kernel
theorem dM_init_219 : decode xM_init.2.1 219 = .ok (.iconst 3, 1) := by decide +kernel
theorem dM_init_220 : decode xM_init.2.1 220 = .ok (.newarray .int, 2) := by decide +kernel
theorem dM_init_222 : decode xM_init.2.1 222 = .ok (.putfield 98, 3) := by decide +kernel
theorem dM_init_225 : decode xM_init.2.1 225 = .ok (.aload_n 0, 1) := by decide +kernel
theorem dM_init_226 : decode xM_init.2.1 226 = .ok (.iconst 3, 1) := by decide +kernel
theorem dM_init_227 : decode xM_init.2.1 227 = .ok (.newarray .int, 2) := by decide +kernel
theorem dM_init_229 : decode xM_init.2.1 229 = .ok (.putfield 101, 3) := by decide +kernel
theorem dM_init_232 : decode xM_init.2.1 232 = .ok (.aload_n 0, 1) := by decide +kernel
theorem dM_init_233 : decode xM_init.2.1 233 = .ok (.bipush 60, 2) := by decide +kernel
theorem dM_init_235 : decode xM_init.2.1 235 = .ok (.newarray .int, 2) := by decide +kernel
theorem dM_init_237 : decode xM_init.2.1 237 = .ok (.putfield 104, 3) := by decide +kernel
theorem dM_init_240 : decode xM_init.2.1 240 = .ok (.aload_n 0, 1) := by decide +kernel
theorem dM_init_241 : decode xM_init.2.1 241 = .ok (.bipush 60, 2) := by decide +kernel
theorem dM_init_243 : decode xM_init.2.1 243 = .ok (.newarray .int, 2) := by decide +kernel
theorem dM_init_245 : decode xM_init.2.1 245 = .ok (.putfield 107, 3) := by decide +kernel
theorem dM_init_248 : decode xM_init.2.1 248 = .ok (.aload_n 0, 1) := by decide +kernel
theorem dM_init_249 : decode xM_init.2.1 249 = .ok (.bipush 60, 2) := by decide +kernel
theorem dM_init_251 : decode xM_init.2.1 251 = .ok (.newarray .int, 2) := by decide +kernel
theorem dM_init_253 : decode xM_init.2.1 253 = .ok (.putfield 110, 3) := by decide +kernel
theorem dM_init_256 : decode xM_init.2.1 256 = .ok (.aload_n 0, 1) := by decide +kernel
theorem dM_init_257 : decode xM_init.2.1 257 = .ok (.bipush 60, 2) := by decide +kernel
theorem dM_init_259 : decode xM_init.2.1 259 = .ok (.newarray .int, 2) := by decide +kernel
theorem dM_init_261 : decode xM_init.2.1 261 = .ok (.putfield 113, 3) := by decide +kernel
theorem dM_init_264 : decode xM_init.2.1 264 = .ok (.aload_n 0, 1) := by decide +kernel
theorem dM_init_265 : decode xM_init.2.1 265 = .ok (.bipush 60, 2) := by decide +kernel
theorem dM_init_267 : decode xM_init.2.1 267 = .ok (.newarray .int, 2) := by decide +kernel
theorem dM_init_269 : decode xM_init.2.1 269 = .ok (.putfield 116, 3) := by decide +kernel
theorem dM_init_272 : decode xM_init.2.1 272 = .ok (.aload_n 0, 1) := by decide +kernel
theorem dM_init_273 : decode xM_init.2.1 273 = .ok (.bipush 60, 2) := by decide +kernel
theorem dM_init_275 : decode xM_init.2.1 275 = .ok (.newarray .boolean, 2) := by decide +kernel
theorem dM_init_277 : decode xM_init.2.1 277 = .ok (.putfield 119, 3) := by decide +kernel
theorem dM_init_280 : decode xM_init.2.1 280 = .ok (.aload_n 0, 1) := by decide +kernel
theorem dM_init_281 : decode xM_init.2.1 281 = .ok (.bipush 60, 2) := by decide +kernel
theorem dM_init_283 : decode xM_init.2.1 283 = .ok (.newarray .int, 2) := by decide +kernel
theorem dM_init_285 : decode xM_init.2.1 285 = .ok (.putfield 122, 3) := by decide +kernel
theorem dM_init_288 : decode xM_init.2.1 288 = .ok (.aload_n 0, 1) := by decide +kernel
theorem dM_init_289 : decode xM_init.2.1 289 = .ok (.bipush 60, 2) := by decide +kernel
theorem dM_init_291 : decode xM_init.2.1 291 = .ok (.newarray .int, 2) := by decide +kernel
theorem dM_init_293 : decode xM_init.2.1 293 = .ok (.putfield 125, 3) := by decide +kernel
theorem dM_init_296 : decode xM_init.2.1 296 = .ok (.aload_n 0, 1) := by decide +kernel
theorem dM_init_297 : decode xM_init.2.1 297 = .ok (.sipush 240, 3) := by decide +kernel
theorem dM_init_300 : decode xM_init.2.1 300 = .ok (.newarray .int, 2) := by decide +kernel
theorem dM_init_302 : decode xM_init.2.1 302 = .ok (.putfield 128, 3) := by decide +kernel
theorem dM_init_305 : decode xM_init.2.1 305 = .ok (.aload_n 0, 1) := by decide +kernel
theorem dM_init_306 : decode xM_init.2.1 306 = .ok (.iload_n 1, 1) := by decide +kernel
theorem dM_init_307 : decode xM_init.2.1 307 = .ok (.bipush 8, 2) := by decide +kernel
theorem dM_init_309 : decode xM_init.2.1 309 = .ok (.if_icmp .ge 8, 3) := by decide +kernel
theorem dM_init_312 : decode xM_init.2.1 312 = .ok (.bipush 8, 2) := by decide +kernel
theorem dM_init_314 : decode xM_init.2.1 314 = .ok (.goto 17, 3) := by decide +kernel
theorem dM_init_317 : decode xM_init.2.1 317 = .ok (.iload_n 1, 1) := by decide +kernel
theorem dM_init_318 : decode xM_init.2.1 318 = .ok (.sipush 200, 3) := by decide +kernel
theorem dM_init_321 : decode xM_init.2.1 321 = .ok (.if_icmp .le 9, 3) := by decide +kernel
theorem dM_init_324 : decode xM_init.2.1 324 = .ok (.sipush 200, 3) := by decide +kernel
theorem dM_init_327 : decode xM_init.2.1 327 = .ok (.goto 4, 3) := by decide +kernel
theorem dM_init_330 : decode xM_init.2.1 330 = .ok (.iload_n 1, 1) := by decide +kernel
theorem dM_init_331 : decode xM_init.2.1 331 = .ok (.putfield 131, 3) := by decide +kernel
theorem dM_init_334 : decode xM_init.2.1 334 = .ok (.iconst 0, 1) := by decide +kernel
theorem dM_init_335 : decode xM_init.2.1 335 = .ok (.istore_n 2, 1) := by decide +kernel
theorem dM_init_336 : decode xM_init.2.1 336 = .ok (.iload_n 2, 1) := by decide +kernel
theorem dM_init_337 : decode xM_init.2.1 337 = .ok (.iconst 3, 1) := by decide +kernel
theorem dM_init_338 : decode xM_init.2.1 338 = .ok (.if_icmp .ge 16, 3) := by decide +kernel
theorem dM_init_341 : decode xM_init.2.1 341 = .ok (.aload_n 0, 1) := by decide +kernel
theorem dM_init_342 : decode xM_init.2.1 342 = .ok (.getfield 44, 3) := by decide +kernel
theorem dM_init_345 : decode xM_init.2.1 345 = .ok (.iload_n 2, 1) := by decide +kernel
theorem dM_init_346 : decode xM_init.2.1 346 = .ok (.iconst (-1), 1) := by decide +kernel
theorem dM_init_347 : decode xM_init.2.1 347 = .ok (.iastore, 1) := by decide +kernel
theorem dM_init_348 : decode xM_init.2.1 348 = .ok (.iinc 2 1, 3) := by decide +kernel
theorem dM_init_351 : decode xM_init.2.1 351 = .ok (.goto (-15), 3) := by decide +kernel
theorem dM_init_354 : decode xM_init.2.1 354 = .ok (.return_, 1) := by decide +kernel
def xM_in : mt_X := (⟨"LeasedPagesModel", "in", "(III)Z"⟩, prog_12_method_2_code, 3, (Option.some FieldType.boolean))
theorem dM_in_0 : decode xM_in.2.1 0 = .ok (.iload_n 0, 1) := by decide +kernel
theorem dM_in_1 : decode xM_in.2.1 1 = .ok (.iload_n 1, 1) := by decide +kernel
theorem dM_in_2 : decode xM_in.2.1 2 = .ok (.if_icmp .lt 12, 3) := by decide +kernel
theorem dM_in_5 : decode xM_in.2.1 5 = .ok (.iload_n 0, 1) := by decide +kernel
theorem dM_in_6 : decode xM_in.2.1 6 = .ok (.iload_n 2, 1) := by decide +kernel
theorem dM_in_7 : decode xM_in.2.1 7 = .ok (.if_icmp .gt 7, 3) := by decide +kernel
theorem dM_in_10 : decode xM_in.2.1 10 = .ok (.iconst 1, 1) := by decide +kernel
theorem dM_in_11 : decode xM_in.2.1 11 = .ok (.goto 4, 3) := by decide +kernel
theorem dM_in_14 : decode xM_in.2.1 14 = .ok (.iconst 0, 1) := by decide +kernel
theorem dM_in_15 : decode xM_in.2.1 15 = .ok (.ireturn, 1) := by decide +kernel
def xM_room : mt_X := (⟨"LeasedPagesModel", "room", "(IIII)I"⟩, prog_12_method_3_code, 5, (Option.some FieldType.int))
theorem dM_room_0 : decode xM_room.2.1 0 = .ok (.aload_n 0, 1) := by decide +kernel
theorem dM_room_1 : decode xM_room.2.1 1 = .ok (.getfield 135, 3) := by decide +kernel
theorem dM_room_4 : decode xM_room.2.1 4 = .ok (.bipush 60, 2) := by decide +kernel
theorem dM_room_6 : decode xM_room.2.1 6 = .ok (.if_icmp .ne 5, 3) := by decide +kernel
theorem dM_room_9 : decode xM_room.2.1 9 = .ok (.iconst (-1), 1) := by decide +kernel
theorem dM_room_10 : decode xM_room.2.1 10 = .ok (.ireturn, 1) := by decide +kernel
theorem dM_room_11 : decode xM_room.2.1 11 = .ok (.aload_n 0, 1) := by decide +kernel
theorem dM_room_12 : decode xM_room.2.1 12 = .ok (.getfield 104, 3) := by decide +kernel
theorem dM_room_15 : decode xM_room.2.1 15 = .ok (.aload_n 0, 1) := by decide +kernel
theorem dM_room_16 : decode xM_room.2.1 16 = .ok (.getfield 135, 3) := by decide +kernel
theorem dM_room_19 : decode xM_room.2.1 19 = .ok (.iload_n 1, 1) := by decide +kernel
theorem dM_room_20 : decode xM_room.2.1 20 = .ok (.iastore, 1) := by decide +kernel
theorem dM_room_21 : decode xM_room.2.1 21 = .ok (.aload_n 0, 1) := by decide +kernel
theorem dM_room_22 : decode xM_room.2.1 22 = .ok (.getfield 107, 3) := by decide +kernel
theorem dM_room_25 : decode xM_room.2.1 25 = .ok (.aload_n 0, 1) := by decide +kernel
theorem dM_room_26 : decode xM_room.2.1 26 = .ok (.getfield 135, 3) := by decide +kernel
theorem dM_room_29 : decode xM_room.2.1 29 = .ok (.iload_n 2, 1) := by decide +kernel
theorem dM_room_30 : decode xM_room.2.1 30 = .ok (.iastore, 1) := by decide +kernel
theorem dM_room_31 : decode xM_room.2.1 31 = .ok (.aload_n 0, 1) := by decide +kernel
theorem dM_room_32 : decode xM_room.2.1 32 = .ok (.getfield 110, 3) := by decide +kernel
theorem dM_room_35 : decode xM_room.2.1 35 = .ok (.aload_n 0, 1) := by decide +kernel
theorem dM_room_36 : decode xM_room.2.1 36 = .ok (.getfield 135, 3) := by decide +kernel
theorem dM_room_39 : decode xM_room.2.1 39 = .ok (.iload_n 3, 1) := by decide +kernel
theorem dM_room_40 : decode xM_room.2.1 40 = .ok (.iastore, 1) := by decide +kernel
theorem dM_room_41 : decode xM_room.2.1 41 = .ok (.aload_n 0, 1) := by decide +kernel
theorem dM_room_42 : decode xM_room.2.1 42 = .ok (.getfield 113, 3) := by decide +kernel
theorem dM_room_45 : decode xM_room.2.1 45 = .ok (.aload_n 0, 1) := by decide +kernel
theorem dM_room_46 : decode xM_room.2.1 46 = .ok (.getfield 135, 3) := by decide +kernel
theorem dM_room_49 : decode xM_room.2.1 49 = .ok (.iload 4, 2) := by decide +kernel
theorem dM_room_51 : decode xM_room.2.1 51 = .ok (.iastore, 1) := by decide +kernel
theorem dM_room_52 : decode xM_room.2.1 52 = .ok (.aload_n 0, 1) := by decide +kernel
theorem dM_room_53 : decode xM_room.2.1 53 = .ok (.getfield 116, 3) := by decide +kernel
theorem dM_room_56 : decode xM_room.2.1 56 = .ok (.aload_n 0, 1) := by decide +kernel
theorem dM_room_57 : decode xM_room.2.1 57 = .ok (.getfield 135, 3) := by decide +kernel
theorem dM_room_60 : decode xM_room.2.1 60 = .ok (.iconst 0, 1) := by decide +kernel
theorem dM_room_61 : decode xM_room.2.1 61 = .ok (.iastore, 1) := by decide +kernel
theorem dM_room_62 : decode xM_room.2.1 62 = .ok (.aload_n 0, 1) := by decide +kernel
theorem dM_room_63 : decode xM_room.2.1 63 = .ok (.getfield 119, 3) := by decide +kernel
theorem dM_room_66 : decode xM_room.2.1 66 = .ok (.aload_n 0, 1) := by decide +kernel
theorem dM_room_67 : decode xM_room.2.1 67 = .ok (.getfield 135, 3) := by decide +kernel
theorem dM_room_70 : decode xM_room.2.1 70 = .ok (.iconst 0, 1) := by decide +kernel
theorem dM_room_71 : decode xM_room.2.1 71 = .ok (.bastore, 1) := by decide +kernel
theorem dM_room_72 : decode xM_room.2.1 72 = .ok (.aload_n 0, 1) := by decide +kernel
theorem dM_room_73 : decode xM_room.2.1 73 = .ok (.getfield 122, 3) := by decide +kernel
theorem dM_room_76 : decode xM_room.2.1 76 = .ok (.aload_n 0, 1) := by decide +kernel
theorem dM_room_77 : decode xM_room.2.1 77 = .ok (.getfield 135, 3) := by decide +kernel
theorem dM_room_80 : decode xM_room.2.1 80 = .ok (.iconst 0, 1) := by decide +kernel
theorem dM_room_81 : decode xM_room.2.1 81 = .ok (.iastore, 1) := by decide +kernel
theorem dM_room_82 : decode xM_room.2.1 82 = .ok (.aload_n 0, 1) := by decide +kernel
theorem dM_room_83 : decode xM_room.2.1 83 = .ok (.getfield 125, 3) := by decide +kernel
theorem dM_room_86 : decode xM_room.2.1 86 = .ok (.aload_n 0, 1) := by decide +kernel
theorem dM_room_87 : decode xM_room.2.1 87 = .ok (.getfield 135, 3) := by decide +kernel
theorem dM_room_90 : decode xM_room.2.1 90 = .ok (.iconst 0, 1) := by decide +kernel
theorem dM_room_91 : decode xM_room.2.1 91 = .ok (.iastore, 1) := by decide +kernel
theorem dM_room_92 : decode xM_room.2.1 92 = .ok (.aload_n 0, 1) := by decide +kernel
theorem dM_room_93 : decode xM_room.2.1 93 = .ok (.dup, 1) := by decide +kernel
theorem dM_room_94 : decode xM_room.2.1 94 = .ok (.getfield 135, 3) := by decide +kernel
theorem dM_room_97 : decode xM_room.2.1 97 = .ok (.iconst 1, 1) := by decide +kernel
theorem dM_room_98 : decode xM_room.2.1 98 = .ok (.iadd, 1) := by decide +kernel
theorem dM_room_99 : decode xM_room.2.1 99 = .ok (.putfield 135, 3) := by decide +kernel
theorem dM_room_102 : decode xM_room.2.1 102 = .ok (.aload_n 0, 1) := by decide +kernel
theorem dM_room_103 : decode xM_room.2.1 103 = .ok (.getfield 135, 3) := by decide +kernel
theorem dM_room_106 : decode xM_room.2.1 106 = .ok (.iconst 1, 1) := by decide +kernel
theorem dM_room_107 : decode xM_room.2.1 107 = .ok (.isub, 1) := by decide +kernel
theorem dM_room_108 : decode xM_room.2.1 108 = .ok (.ireturn, 1) := by decide +kernel
def xM_move : mt_X := (⟨"LeasedPagesModel", "move", "(II)V"⟩, prog_12_method_4_code, 4, (Option.none : Option FieldType))
theorem dM_move_0 : decode xM_move.2.1 0 = .ok (.aload_n 0, 1) := by decide +kernel
theorem dM_move_1 : decode xM_move.2.1 1 = .ok (.getfield 104, 3) := by decide +kernel
theorem dM_move_4 : decode xM_move.2.1 4 = .ok (.iload_n 2, 1) := by decide +kernel
theorem dM_move_5 : decode xM_move.2.1 5 = .ok (.aload_n 0, 1) := by decide +kernel
theorem dM_move_6 : decode xM_move.2.1 6 = .ok (.getfield 104, 3) := by decide +kernel
theorem dM_move_9 : decode xM_move.2.1 9 = .ok (.iload_n 1, 1) := by decide +kernel
theorem dM_move_10 : decode xM_move.2.1 10 = .ok (.iaload, 1) := by decide +kernel
theorem dM_move_11 : decode xM_move.2.1 11 = .ok (.iastore, 1) := by decide +kernel
theorem dM_move_12 : decode xM_move.2.1 12 = .ok (.aload_n 0, 1) := by decide +kernel
theorem dM_move_13 : decode xM_move.2.1 13 = .ok (.getfield 107, 3) := by decide +kernel
theorem dM_move_16 : decode xM_move.2.1 16 = .ok (.iload_n 2, 1) := by decide +kernel
theorem dM_move_17 : decode xM_move.2.1 17 = .ok (.aload_n 0, 1) := by decide +kernel
theorem dM_move_18 : decode xM_move.2.1 18 = .ok (.getfield 107, 3) := by decide +kernel
theorem dM_move_21 : decode xM_move.2.1 21 = .ok (.iload_n 1, 1) := by decide +kernel
theorem dM_move_22 : decode xM_move.2.1 22 = .ok (.iaload, 1) := by decide +kernel
theorem dM_move_23 : decode xM_move.2.1 23 = .ok (.iastore, 1) := by decide +kernel
theorem dM_move_24 : decode xM_move.2.1 24 = .ok (.aload_n 0, 1) := by decide +kernel
theorem dM_move_25 : decode xM_move.2.1 25 = .ok (.getfield 110, 3) := by decide +kernel
theorem dM_move_28 : decode xM_move.2.1 28 = .ok (.iload_n 2, 1) := by decide +kernel
theorem dM_move_29 : decode xM_move.2.1 29 = .ok (.aload_n 0, 1) := by decide +kernel
theorem dM_move_30 : decode xM_move.2.1 30 = .ok (.getfield 110, 3) := by decide +kernel
theorem dM_move_33 : decode xM_move.2.1 33 = .ok (.iload_n 1, 1) := by decide +kernel
theorem dM_move_34 : decode xM_move.2.1 34 = .ok (.iaload, 1) := by decide +kernel
theorem dM_move_35 : decode xM_move.2.1 35 = .ok (.iastore, 1) := by decide +kernel
theorem dM_move_36 : decode xM_move.2.1 36 = .ok (.aload_n 0, 1) := by decide +kernel
theorem dM_move_37 : decode xM_move.2.1 37 = .ok (.getfield 113, 3) := by decide +kernel
theorem dM_move_40 : decode xM_move.2.1 40 = .ok (.iload_n 2, 1) := by decide +kernel
theorem dM_move_41 : decode xM_move.2.1 41 = .ok (.aload_n 0, 1) := by decide +kernel
theorem dM_move_42 : decode xM_move.2.1 42 = .ok (.getfield 113, 3) := by decide +kernel
theorem dM_move_45 : decode xM_move.2.1 45 = .ok (.iload_n 1, 1) := by decide +kernel
theorem dM_move_46 : decode xM_move.2.1 46 = .ok (.iaload, 1) := by decide +kernel
theorem dM_move_47 : decode xM_move.2.1 47 = .ok (.iastore, 1) := by decide +kernel
theorem dM_move_48 : decode xM_move.2.1 48 = .ok (.aload_n 0, 1) := by decide +kernel
theorem dM_move_49 : decode xM_move.2.1 49 = .ok (.getfield 116, 3) := by decide +kernel
theorem dM_move_52 : decode xM_move.2.1 52 = .ok (.iload_n 2, 1) := by decide +kernel
theorem dM_move_53 : decode xM_move.2.1 53 = .ok (.aload_n 0, 1) := by decide +kernel
theorem dM_move_54 : decode xM_move.2.1 54 = .ok (.getfield 116, 3) := by decide +kernel
theorem dM_move_57 : decode xM_move.2.1 57 = .ok (.iload_n 1, 1) := by decide +kernel
theorem dM_move_58 : decode xM_move.2.1 58 = .ok (.iaload, 1) := by decide +kernel
theorem dM_move_59 : decode xM_move.2.1 59 = .ok (.iastore, 1) := by decide +kernel
theorem dM_move_60 : decode xM_move.2.1 60 = .ok (.aload_n 0, 1) := by decide +kernel
theorem dM_move_61 : decode xM_move.2.1 61 = .ok (.getfield 119, 3) := by decide +kernel
theorem dM_move_64 : decode xM_move.2.1 64 = .ok (.iload_n 2, 1) := by decide +kernel
theorem dM_move_65 : decode xM_move.2.1 65 = .ok (.aload_n 0, 1) := by decide +kernel
theorem dM_move_66 : decode xM_move.2.1 66 = .ok (.getfield 119, 3) := by decide +kernel
theorem dM_move_69 : decode xM_move.2.1 69 = .ok (.iload_n 1, 1) := by decide +kernel
theorem dM_move_70 : decode xM_move.2.1 70 = .ok (.baload, 1) := by decide +kernel
theorem dM_move_71 : decode xM_move.2.1 71 = .ok (.bastore, 1) := by decide +kernel
theorem dM_move_72 : decode xM_move.2.1 72 = .ok (.aload_n 0, 1) := by decide +kernel
theorem dM_move_73 : decode xM_move.2.1 73 = .ok (.getfield 122, 3) := by decide +kernel
theorem dM_move_76 : decode xM_move.2.1 76 = .ok (.iload_n 2, 1) := by decide +kernel
theorem dM_move_77 : decode xM_move.2.1 77 = .ok (.aload_n 0, 1) := by decide +kernel
theorem dM_move_78 : decode xM_move.2.1 78 = .ok (.getfield 122, 3) := by decide +kernel
theorem dM_move_81 : decode xM_move.2.1 81 = .ok (.iload_n 1, 1) := by decide +kernel
theorem dM_move_82 : decode xM_move.2.1 82 = .ok (.iaload, 1) := by decide +kernel
theorem dM_move_83 : decode xM_move.2.1 83 = .ok (.iastore, 1) := by decide +kernel
theorem dM_move_84 : decode xM_move.2.1 84 = .ok (.aload_n 0, 1) := by decide +kernel
theorem dM_move_85 : decode xM_move.2.1 85 = .ok (.getfield 125, 3) := by decide +kernel
theorem dM_move_88 : decode xM_move.2.1 88 = .ok (.iload_n 2, 1) := by decide +kernel
theorem dM_move_89 : decode xM_move.2.1 89 = .ok (.aload_n 0, 1) := by decide +kernel
theorem dM_move_90 : decode xM_move.2.1 90 = .ok (.getfield 125, 3) := by decide +kernel
theorem dM_move_93 : decode xM_move.2.1 93 = .ok (.iload_n 1, 1) := by decide +kernel
theorem dM_move_94 : decode xM_move.2.1 94 = .ok (.iaload, 1) := by decide +kernel
theorem dM_move_95 : decode xM_move.2.1 95 = .ok (.iastore, 1) := by decide +kernel
theorem dM_move_96 : decode xM_move.2.1 96 = .ok (.iconst 0, 1) := by decide +kernel
theorem dM_move_97 : decode xM_move.2.1 97 = .ok (.istore_n 3, 1) := by decide +kernel
theorem dM_move_98 : decode xM_move.2.1 98 = .ok (.iload_n 3, 1) := by decide +kernel
theorem dM_move_99 : decode xM_move.2.1 99 = .ok (.iconst 4, 1) := by decide +kernel
theorem dM_move_100 : decode xM_move.2.1 100 = .ok (.if_icmp .ge 29, 3) := by decide +kernel
theorem dM_move_103 : decode xM_move.2.1 103 = .ok (.aload_n 0, 1) := by decide +kernel
theorem dM_move_104 : decode xM_move.2.1 104 = .ok (.getfield 128, 3) := by decide +kernel
theorem dM_move_107 : decode xM_move.2.1 107 = .ok (.iconst 4, 1) := by decide +kernel
theorem dM_move_108 : decode xM_move.2.1 108 = .ok (.iload_n 2, 1) := by decide +kernel
theorem dM_move_109 : decode xM_move.2.1 109 = .ok (.imul, 1) := by decide +kernel
theorem dM_move_110 : decode xM_move.2.1 110 = .ok (.iload_n 3, 1) := by decide +kernel
theorem dM_move_111 : decode xM_move.2.1 111 = .ok (.iadd, 1) := by decide +kernel
theorem dM_move_112 : decode xM_move.2.1 112 = .ok (.aload_n 0, 1) := by decide +kernel
theorem dM_move_113 : decode xM_move.2.1 113 = .ok (.getfield 128, 3) := by decide +kernel
theorem dM_move_116 : decode xM_move.2.1 116 = .ok (.iconst 4, 1) := by decide +kernel
theorem dM_move_117 : decode xM_move.2.1 117 = .ok (.iload_n 1, 1) := by decide +kernel
theorem dM_move_118 : decode xM_move.2.1 118 = .ok (.imul, 1) := by decide +kernel
theorem dM_move_119 : decode xM_move.2.1 119 = .ok (.iload_n 3, 1) := by decide +kernel
theorem dM_move_120 : decode xM_move.2.1 120 = .ok (.iadd, 1) := by decide +kernel
theorem dM_move_121 : decode xM_move.2.1 121 = .ok (.iaload, 1) := by decide +kernel
theorem dM_move_122 : decode xM_move.2.1 122 = .ok (.iastore, 1) := by decide +kernel
theorem dM_move_123 : decode xM_move.2.1 123 = .ok (.iinc 3 1, 3) := by decide +kernel
theorem dM_move_126 : decode xM_move.2.1 126 = .ok (.goto (-28), 3) := by decide +kernel
theorem dM_move_129 : decode xM_move.2.1 129 = .ok (.return_, 1) := by decide +kernel
def xM_messages : mt_X := (⟨"LeasedPagesModel", "messages", "()I"⟩, prog_12_method_5_code, 1, (Option.some FieldType.int))
theorem dM_messages_0 : decode xM_messages.2.1 0 = .ok (.aload_n 0, 1) := by decide +kernel
theorem dM_messages_1 : decode xM_messages.2.1 1 = .ok (.getfield 135, 3) := by decide +kernel
theorem dM_messages_4 : decode xM_messages.2.1 4 = .ok (.ireturn, 1) := by decide +kernel
def xM_message : mt_X := (⟨"LeasedPagesModel", "message", "(I)I"⟩, prog_12_method_6_code, 2, (Option.some FieldType.int))
theorem dM_message_0 : decode xM_message.2.1 0 = .ok (.iload_n 1, 1) := by decide +kernel
theorem dM_message_1 : decode xM_message.2.1 1 = .ok (.iconst 0, 1) := by decide +kernel
theorem dM_message_2 : decode xM_message.2.1 2 = .ok (.aload_n 0, 1) := by decide +kernel
theorem dM_message_3 : decode xM_message.2.1 3 = .ok (.getfield 135, 3) := by decide +kernel
theorem dM_message_6 : decode xM_message.2.1 6 = .ok (.iconst 1, 1) := by decide +kernel
theorem dM_message_7 : decode xM_message.2.1 7 = .ok (.isub, 1) := by decide +kernel
theorem dM_message_8 : decode xM_message.2.1 8 = .ok (.invokestatic 138, 3) := by decide +kernel
theorem dM_message_11 : decode xM_message.2.1 11 = .ok (.ifCond .eq 43, 3) := by decide +kernel
theorem dM_message_14 : decode xM_message.2.1 14 = .ok (.ldc 142, 2) := by decide +kernel
theorem dM_message_16 : decode xM_message.2.1 16 = .ok (.aload_n 0, 1) := by decide +kernel
theorem dM_message_17 : decode xM_message.2.1 17 = .ok (.getfield 104, 3) := by decide +kernel
theorem dM_message_20 : decode xM_message.2.1 20 = .ok (.iload_n 1, 1) := by decide +kernel
theorem dM_message_21 : decode xM_message.2.1 21 = .ok (.iaload, 1) := by decide +kernel
theorem dM_message_22 : decode xM_message.2.1 22 = .ok (.imul, 1) := by decide +kernel
theorem dM_message_23 : decode xM_message.2.1 23 = .ok (.ldc 143, 2) := by decide +kernel
theorem dM_message_25 : decode xM_message.2.1 25 = .ok (.aload_n 0, 1) := by decide +kernel
theorem dM_message_26 : decode xM_message.2.1 26 = .ok (.getfield 107, 3) := by decide +kernel
theorem dM_message_29 : decode xM_message.2.1 29 = .ok (.iload_n 1, 1) := by decide +kernel
theorem dM_message_30 : decode xM_message.2.1 30 = .ok (.iaload, 1) := by decide +kernel
theorem dM_message_31 : decode xM_message.2.1 31 = .ok (.imul, 1) := by decide +kernel
theorem dM_message_32 : decode xM_message.2.1 32 = .ok (.iadd, 1) := by decide +kernel
theorem dM_message_33 : decode xM_message.2.1 33 = .ok (.sipush 10000, 3) := by decide +kernel
theorem dM_message_36 : decode xM_message.2.1 36 = .ok (.aload_n 0, 1) := by decide +kernel
theorem dM_message_37 : decode xM_message.2.1 37 = .ok (.getfield 110, 3) := by decide +kernel
theorem dM_message_40 : decode xM_message.2.1 40 = .ok (.iload_n 1, 1) := by decide +kernel
theorem dM_message_41 : decode xM_message.2.1 41 = .ok (.iaload, 1) := by decide +kernel
theorem dM_message_42 : decode xM_message.2.1 42 = .ok (.imul, 1) := by decide +kernel
theorem dM_message_43 : decode xM_message.2.1 43 = .ok (.iadd, 1) := by decide +kernel
theorem dM_message_44 : decode xM_message.2.1 44 = .ok (.aload_n 0, 1) := by decide +kernel
theorem dM_message_45 : decode xM_message.2.1 45 = .ok (.getfield 113, 3) := by decide +kernel
theorem dM_message_48 : decode xM_message.2.1 48 = .ok (.iload_n 1, 1) := by decide +kernel
theorem dM_message_49 : decode xM_message.2.1 49 = .ok (.iaload, 1) := by decide +kernel
theorem dM_message_50 : decode xM_message.2.1 50 = .ok (.iadd, 1) := by decide +kernel
theorem dM_message_51 : decode xM_message.2.1 51 = .ok (.goto 4, 3) := by decide +kernel
theorem dM_message_54 : decode xM_message.2.1 54 = .ok (.iconst (-1), 1) := by decide +kernel
theorem dM_message_55 : decode xM_message.2.1 55 = .ok (.ireturn, 1) := by decide +kernel
def xM_drop : mt_X := (⟨"LeasedPagesModel", "drop", "(I)Z"⟩, prog_12_method_7_code, 3, (Option.some FieldType.boolean))
theorem dM_drop_0 : decode xM_drop.2.1 0 = .ok (.iload_n 1, 1) := by decide +kernel
theorem dM_drop_1 : decode xM_drop.2.1 1 = .ok (.iconst 0, 1) := by decide +kernel
theorem dM_drop_2 : decode xM_drop.2.1 2 = .ok (.aload_n 0, 1) := by decide +kernel
theorem dM_drop_3 : decode xM_drop.2.1 3 = .ok (.getfield 135, 3) := by decide +kernel
theorem dM_drop_6 : decode xM_drop.2.1 6 = .ok (.iconst 1, 1) := by decide +kernel
theorem dM_drop_7 : decode xM_drop.2.1 7 = .ok (.isub, 1) := by decide +kernel
theorem dM_drop_8 : decode xM_drop.2.1 8 = .ok (.invokestatic 138, 3) := by decide +kernel
theorem dM_drop_11 : decode xM_drop.2.1 11 = .ok (.ifCond .ne 5, 3) := by decide +kernel
theorem dM_drop_14 : decode xM_drop.2.1 14 = .ok (.iconst 0, 1) := by decide +kernel
theorem dM_drop_15 : decode xM_drop.2.1 15 = .ok (.ireturn, 1) := by decide +kernel
theorem dM_drop_16 : decode xM_drop.2.1 16 = .ok (.aload_n 0, 1) := by decide +kernel
theorem dM_drop_17 : decode xM_drop.2.1 17 = .ok (.dup, 1) := by decide +kernel
theorem dM_drop_18 : decode xM_drop.2.1 18 = .ok (.getfield 135, 3) := by decide +kernel
theorem dM_drop_21 : decode xM_drop.2.1 21 = .ok (.iconst 1, 1) := by decide +kernel
theorem dM_drop_22 : decode xM_drop.2.1 22 = .ok (.isub, 1) := by decide +kernel
theorem dM_drop_23 : decode xM_drop.2.1 23 = .ok (.putfield 135, 3) := by decide +kernel
theorem dM_drop_26 : decode xM_drop.2.1 26 = .ok (.iload_n 1, 1) := by decide +kernel
theorem dM_drop_27 : decode xM_drop.2.1 27 = .ok (.istore_n 2, 1) := by decide +kernel
theorem dM_drop_28 : decode xM_drop.2.1 28 = .ok (.iload_n 2, 1) := by decide +kernel
theorem dM_drop_29 : decode xM_drop.2.1 29 = .ok (.aload_n 0, 1) := by decide +kernel
theorem dM_drop_30 : decode xM_drop.2.1 30 = .ok (.getfield 135, 3) := by decide +kernel
theorem dM_drop_33 : decode xM_drop.2.1 33 = .ok (.if_icmp .ge 17, 3) := by decide +kernel
theorem dM_drop_36 : decode xM_drop.2.1 36 = .ok (.aload_n 0, 1) := by decide +kernel
theorem dM_drop_37 : decode xM_drop.2.1 37 = .ok (.iload_n 2, 1) := by decide +kernel
theorem dM_drop_38 : decode xM_drop.2.1 38 = .ok (.iconst 1, 1) := by decide +kernel
theorem dM_drop_39 : decode xM_drop.2.1 39 = .ok (.iadd, 1) := by decide +kernel
theorem dM_drop_40 : decode xM_drop.2.1 40 = .ok (.iload_n 2, 1) := by decide +kernel
theorem dM_drop_41 : decode xM_drop.2.1 41 = .ok (.invokevirtual 144, 3) := by decide +kernel
theorem dM_drop_44 : decode xM_drop.2.1 44 = .ok (.iinc 2 1, 3) := by decide +kernel
theorem dM_drop_47 : decode xM_drop.2.1 47 = .ok (.goto (-19), 3) := by decide +kernel
theorem dM_drop_50 : decode xM_drop.2.1 50 = .ok (.iconst 1, 1) := by decide +kernel
theorem dM_drop_51 : decode xM_drop.2.1 51 = .ok (.ireturn, 1) := by decide +kernel
def xM_duplicate : mt_X := (⟨"LeasedPagesModel", "duplicate", "(I)Z"⟩, prog_12_method_8_code, 2, (Option.some FieldType.boolean))
theorem dM_duplicate_0 : decode xM_duplicate.2.1 0 = .ok (.iload_n 1, 1) := by decide +kernel
theorem dM_duplicate_1 : decode xM_duplicate.2.1 1 = .ok (.iconst 0, 1) := by decide +kernel
theorem dM_duplicate_2 : decode xM_duplicate.2.1 2 = .ok (.aload_n 0, 1) := by decide +kernel
theorem dM_duplicate_3 : decode xM_duplicate.2.1 3 = .ok (.getfield 135, 3) := by decide +kernel
theorem dM_duplicate_6 : decode xM_duplicate.2.1 6 = .ok (.iconst 1, 1) := by decide +kernel
theorem dM_duplicate_7 : decode xM_duplicate.2.1 7 = .ok (.isub, 1) := by decide +kernel
theorem dM_duplicate_8 : decode xM_duplicate.2.1 8 = .ok (.invokestatic 138, 3) := by decide +kernel
theorem dM_duplicate_11 : decode xM_duplicate.2.1 11 = .ok (.ifCond .eq 12, 3) := by decide +kernel
theorem dM_duplicate_14 : decode xM_duplicate.2.1 14 = .ok (.aload_n 0, 1) := by decide +kernel
theorem dM_duplicate_15 : decode xM_duplicate.2.1 15 = .ok (.getfield 135, 3) := by decide +kernel
theorem dM_duplicate_18 : decode xM_duplicate.2.1 18 = .ok (.bipush 60, 2) := by decide +kernel
theorem dM_duplicate_20 : decode xM_duplicate.2.1 20 = .ok (.if_icmp .ne 5, 3) := by decide +kernel
theorem dM_duplicate_23 : decode xM_duplicate.2.1 23 = .ok (.iconst 0, 1) := by decide +kernel
theorem dM_duplicate_24 : decode xM_duplicate.2.1 24 = .ok (.ireturn, 1) := by decide +kernel
theorem dM_duplicate_25 : decode xM_duplicate.2.1 25 = .ok (.aload_n 0, 1) := by decide +kernel
theorem dM_duplicate_26 : decode xM_duplicate.2.1 26 = .ok (.iload_n 1, 1) := by decide +kernel
theorem dM_duplicate_27 : decode xM_duplicate.2.1 27 = .ok (.aload_n 0, 1) := by decide +kernel
theorem dM_duplicate_28 : decode xM_duplicate.2.1 28 = .ok (.getfield 135, 3) := by decide +kernel
theorem dM_duplicate_31 : decode xM_duplicate.2.1 31 = .ok (.invokevirtual 144, 3) := by decide +kernel
theorem dM_duplicate_34 : decode xM_duplicate.2.1 34 = .ok (.aload_n 0, 1) := by decide +kernel
theorem dM_duplicate_35 : decode xM_duplicate.2.1 35 = .ok (.dup, 1) := by decide +kernel
theorem dM_duplicate_36 : decode xM_duplicate.2.1 36 = .ok (.getfield 135, 3) := by decide +kernel
theorem dM_duplicate_39 : decode xM_duplicate.2.1 39 = .ok (.iconst 1, 1) := by decide +kernel
theorem dM_duplicate_40 : decode xM_duplicate.2.1 40 = .ok (.iadd, 1) := by decide +kernel
theorem dM_duplicate_41 : decode xM_duplicate.2.1 41 = .ok (.putfield 135, 3) := by decide +kernel
theorem dM_duplicate_44 : decode xM_duplicate.2.1 44 = .ok (.iconst 1, 1) := by decide +kernel
theorem dM_duplicate_45 : decode xM_duplicate.2.1 45 = .ok (.ireturn, 1) := by decide +kernel
def xM_ask : mt_X := (⟨"LeasedPagesModel", "ask", "(I)V"⟩, prog_12_method_9_code, 3, (Option.none : Option FieldType))
theorem dM_ask_0 : decode xM_ask.2.1 0 = .ok (.aload_n 0, 1) := by decide +kernel
theorem dM_ask_1 : decode xM_ask.2.1 1 = .ok (.aload_n 0, 1) := by decide +kernel
theorem dM_ask_2 : decode xM_ask.2.1 2 = .ok (.getfield 83, 3) := by decide +kernel
theorem dM_ask_5 : decode xM_ask.2.1 5 = .ok (.iload_n 1, 1) := by decide +kernel
theorem dM_ask_6 : decode xM_ask.2.1 6 = .ok (.iaload, 1) := by decide +kernel
theorem dM_ask_7 : decode xM_ask.2.1 7 = .ok (.iload_n 1, 1) := by decide +kernel
theorem dM_ask_8 : decode xM_ask.2.1 8 = .ok (.aload_n 0, 1) := by decide +kernel
theorem dM_ask_9 : decode xM_ask.2.1 9 = .ok (.getfield 86, 3) := by decide +kernel
theorem dM_ask_12 : decode xM_ask.2.1 12 = .ok (.iload_n 1, 1) := by decide +kernel
theorem dM_ask_13 : decode xM_ask.2.1 13 = .ok (.iaload, 1) := by decide +kernel
theorem dM_ask_14 : decode xM_ask.2.1 14 = .ok (.aload_n 0, 1) := by decide +kernel
theorem dM_ask_15 : decode xM_ask.2.1 15 = .ok (.getfield 56, 3) := by decide +kernel
theorem dM_ask_18 : decode xM_ask.2.1 18 = .ok (.iload_n 1, 1) := by decide +kernel
theorem dM_ask_19 : decode xM_ask.2.1 19 = .ok (.iaload, 1) := by decide +kernel
theorem dM_ask_20 : decode xM_ask.2.1 20 = .ok (.invokevirtual 148, 3) := by decide +kernel
theorem dM_ask_23 : decode xM_ask.2.1 23 = .ok (.istore_n 2, 1) := by decide +kernel
theorem dM_ask_24 : decode xM_ask.2.1 24 = .ok (.iload_n 2, 1) := by decide +kernel
theorem dM_ask_25 : decode xM_ask.2.1 25 = .ok (.ifCond .ge 4, 3) := by decide +kernel
theorem dM_ask_28 : decode xM_ask.2.1 28 = .ok (.return_, 1) := by decide +kernel
theorem dM_ask_29 : decode xM_ask.2.1 29 = .ok (.aload_n 0, 1) := by decide +kernel
theorem dM_ask_30 : decode xM_ask.2.1 30 = .ok (.getfield 116, 3) := by decide +kernel
theorem dM_ask_33 : decode xM_ask.2.1 33 = .ok (.iload_n 2, 1) := by decide +kernel
theorem dM_ask_34 : decode xM_ask.2.1 34 = .ok (.aload_n 0, 1) := by decide +kernel
theorem dM_ask_35 : decode xM_ask.2.1 35 = .ok (.getfield 89, 3) := by decide +kernel
theorem dM_ask_38 : decode xM_ask.2.1 38 = .ok (.iload_n 1, 1) := by decide +kernel
theorem dM_ask_39 : decode xM_ask.2.1 39 = .ok (.iaload, 1) := by decide +kernel
theorem dM_ask_40 : decode xM_ask.2.1 40 = .ok (.iastore, 1) := by decide +kernel
theorem dM_ask_41 : decode xM_ask.2.1 41 = .ok (.aload_n 0, 1) := by decide +kernel
theorem dM_ask_42 : decode xM_ask.2.1 42 = .ok (.getfield 119, 3) := by decide +kernel
theorem dM_ask_45 : decode xM_ask.2.1 45 = .ok (.iload_n 2, 1) := by decide +kernel
theorem dM_ask_46 : decode xM_ask.2.1 46 = .ok (.aload_n 0, 1) := by decide +kernel
theorem dM_ask_47 : decode xM_ask.2.1 47 = .ok (.getfield 92, 3) := by decide +kernel
theorem dM_ask_50 : decode xM_ask.2.1 50 = .ok (.iload_n 1, 1) := by decide +kernel
theorem dM_ask_51 : decode xM_ask.2.1 51 = .ok (.baload, 1) := by decide +kernel
theorem dM_ask_52 : decode xM_ask.2.1 52 = .ok (.bastore, 1) := by decide +kernel
theorem dM_ask_53 : decode xM_ask.2.1 53 = .ok (.aload_n 0, 1) := by decide +kernel
theorem dM_ask_54 : decode xM_ask.2.1 54 = .ok (.getfield 122, 3) := by decide +kernel
theorem dM_ask_57 : decode xM_ask.2.1 57 = .ok (.iload_n 2, 1) := by decide +kernel
theorem dM_ask_58 : decode xM_ask.2.1 58 = .ok (.aload_n 0, 1) := by decide +kernel
theorem dM_ask_59 : decode xM_ask.2.1 59 = .ok (.getfield 95, 3) := by decide +kernel
theorem dM_ask_62 : decode xM_ask.2.1 62 = .ok (.iload_n 1, 1) := by decide +kernel
theorem dM_ask_63 : decode xM_ask.2.1 63 = .ok (.iaload, 1) := by decide +kernel
theorem dM_ask_64 : decode xM_ask.2.1 64 = .ok (.iastore, 1) := by decide +kernel
theorem dM_ask_65 : decode xM_ask.2.1 65 = .ok (.aload_n 0, 1) := by decide +kernel
theorem dM_ask_66 : decode xM_ask.2.1 66 = .ok (.getfield 125, 3) := by decide +kernel
theorem dM_ask_69 : decode xM_ask.2.1 69 = .ok (.iload_n 2, 1) := by decide +kernel
theorem dM_ask_70 : decode xM_ask.2.1 70 = .ok (.aload_n 0, 1) := by decide +kernel
theorem dM_ask_71 : decode xM_ask.2.1 71 = .ok (.getfield 98, 3) := by decide +kernel
theorem dM_ask_74 : decode xM_ask.2.1 74 = .ok (.iload_n 1, 1) := by decide +kernel
theorem dM_ask_75 : decode xM_ask.2.1 75 = .ok (.iaload, 1) := by decide +kernel
theorem dM_ask_76 : decode xM_ask.2.1 76 = .ok (.iastore, 1) := by decide +kernel
theorem dM_ask_77 : decode xM_ask.2.1 77 = .ok (.return_, 1) := by decide +kernel
def xM_answer : mt_X := (⟨"LeasedPagesModel", "answer", "(I)V"⟩, prog_12_method_10_code, 4, (Option.none : Option FieldType))
theorem dM_answer_0 : decode xM_answer.2.1 0 = .ok (.aload_n 0, 1) := by decide +kernel
theorem dM_answer_1 : decode xM_answer.2.1 1 = .ok (.aload_n 0, 1) := by decide +kernel
theorem dM_answer_2 : decode xM_answer.2.1 2 = .ok (.getfield 29, 3) := by decide +kernel
theorem dM_answer_5 : decode xM_answer.2.1 5 = .ok (.iload_n 1, 1) := by decide +kernel
theorem dM_answer_6 : decode xM_answer.2.1 6 = .ok (.iaload, 1) := by decide +kernel
theorem dM_answer_7 : decode xM_answer.2.1 7 = .ok (.iload_n 1, 1) := by decide +kernel
theorem dM_answer_8 : decode xM_answer.2.1 8 = .ok (.aload_n 0, 1) := by decide +kernel
theorem dM_answer_9 : decode xM_answer.2.1 9 = .ok (.getfield 32, 3) := by decide +kernel
theorem dM_answer_12 : decode xM_answer.2.1 12 = .ok (.iload_n 1, 1) := by decide +kernel
theorem dM_answer_13 : decode xM_answer.2.1 13 = .ok (.iaload, 1) := by decide +kernel
theorem dM_answer_14 : decode xM_answer.2.1 14 = .ok (.aload_n 0, 1) := by decide +kernel
theorem dM_answer_15 : decode xM_answer.2.1 15 = .ok (.getfield 26, 3) := by decide +kernel
theorem dM_answer_18 : decode xM_answer.2.1 18 = .ok (.iload_n 1, 1) := by decide +kernel
theorem dM_answer_19 : decode xM_answer.2.1 19 = .ok (.iaload, 1) := by decide +kernel
theorem dM_answer_20 : decode xM_answer.2.1 20 = .ok (.invokevirtual 148, 3) := by decide +kernel
theorem dM_answer_23 : decode xM_answer.2.1 23 = .ok (.istore_n 2, 1) := by decide +kernel
theorem dM_answer_24 : decode xM_answer.2.1 24 = .ok (.iload_n 2, 1) := by decide +kernel
theorem dM_answer_25 : decode xM_answer.2.1 25 = .ok (.ifCond .ge 4, 3) := by decide +kernel
theorem dM_answer_28 : decode xM_answer.2.1 28 = .ok (.return_, 1) := by decide +kernel
theorem dM_answer_29 : decode xM_answer.2.1 29 = .ok (.aload_n 0, 1) := by decide +kernel
theorem dM_answer_30 : decode xM_answer.2.1 30 = .ok (.getfield 116, 3) := by decide +kernel
theorem dM_answer_33 : decode xM_answer.2.1 33 = .ok (.iload_n 2, 1) := by decide +kernel
theorem dM_answer_34 : decode xM_answer.2.1 34 = .ok (.aload_n 0, 1) := by decide +kernel
theorem dM_answer_35 : decode xM_answer.2.1 35 = .ok (.getfield 35, 3) := by decide +kernel
theorem dM_answer_38 : decode xM_answer.2.1 38 = .ok (.iload_n 1, 1) := by decide +kernel
theorem dM_answer_39 : decode xM_answer.2.1 39 = .ok (.iaload, 1) := by decide +kernel
theorem dM_answer_40 : decode xM_answer.2.1 40 = .ok (.iastore, 1) := by decide +kernel
theorem dM_answer_41 : decode xM_answer.2.1 41 = .ok (.aload_n 0, 1) := by decide +kernel
theorem dM_answer_42 : decode xM_answer.2.1 42 = .ok (.getfield 119, 3) := by decide +kernel
theorem dM_answer_45 : decode xM_answer.2.1 45 = .ok (.iload_n 2, 1) := by decide +kernel
theorem dM_answer_46 : decode xM_answer.2.1 46 = .ok (.aload_n 0, 1) := by decide +kernel
theorem dM_answer_47 : decode xM_answer.2.1 47 = .ok (.getfield 38, 3) := by decide +kernel
theorem dM_answer_50 : decode xM_answer.2.1 50 = .ok (.iload_n 1, 1) := by decide +kernel
theorem dM_answer_51 : decode xM_answer.2.1 51 = .ok (.baload, 1) := by decide +kernel
theorem dM_answer_52 : decode xM_answer.2.1 52 = .ok (.bastore, 1) := by decide +kernel
theorem dM_answer_53 : decode xM_answer.2.1 53 = .ok (.iconst 0, 1) := by decide +kernel
theorem dM_answer_54 : decode xM_answer.2.1 54 = .ok (.istore_n 3, 1) := by decide +kernel
theorem dM_answer_55 : decode xM_answer.2.1 55 = .ok (.iload_n 3, 1) := by decide +kernel
theorem dM_answer_56 : decode xM_answer.2.1 56 = .ok (.iconst 4, 1) := by decide +kernel
theorem dM_answer_57 : decode xM_answer.2.1 57 = .ok (.if_icmp .ge 29, 3) := by decide +kernel
theorem dM_answer_60 : decode xM_answer.2.1 60 = .ok (.aload_n 0, 1) := by decide +kernel
theorem dM_answer_61 : decode xM_answer.2.1 61 = .ok (.getfield 128, 3) := by decide +kernel
theorem dM_answer_64 : decode xM_answer.2.1 64 = .ok (.iconst 4, 1) := by decide +kernel
theorem dM_answer_65 : decode xM_answer.2.1 65 = .ok (.iload_n 2, 1) := by decide +kernel
theorem dM_answer_66 : decode xM_answer.2.1 66 = .ok (.imul, 1) := by decide +kernel
theorem dM_answer_67 : decode xM_answer.2.1 67 = .ok (.iload_n 3, 1) := by decide +kernel
theorem dM_answer_68 : decode xM_answer.2.1 68 = .ok (.iadd, 1) := by decide +kernel
theorem dM_answer_69 : decode xM_answer.2.1 69 = .ok (.aload_n 0, 1) := by decide +kernel
theorem dM_answer_70 : decode xM_answer.2.1 70 = .ok (.getfield 41, 3) := by decide +kernel
theorem dM_answer_73 : decode xM_answer.2.1 73 = .ok (.iconst 4, 1) := by decide +kernel
theorem dM_answer_74 : decode xM_answer.2.1 74 = .ok (.iload_n 1, 1) := by decide +kernel
theorem dM_answer_75 : decode xM_answer.2.1 75 = .ok (.imul, 1) := by decide +kernel
theorem dM_answer_76 : decode xM_answer.2.1 76 = .ok (.iload_n 3, 1) := by decide +kernel
theorem dM_answer_77 : decode xM_answer.2.1 77 = .ok (.iadd, 1) := by decide +kernel
theorem dM_answer_78 : decode xM_answer.2.1 78 = .ok (.iaload, 1) := by decide +kernel
theorem dM_answer_79 : decode xM_answer.2.1 79 = .ok (.iastore, 1) := by decide +kernel
theorem dM_answer_80 : decode xM_answer.2.1 80 = .ok (.iinc 3 1, 3) := by decide +kernel
theorem dM_answer_83 : decode xM_answer.2.1 83 = .ok (.goto (-28), 3) := by decide +kernel
theorem dM_answer_86 : decode xM_answer.2.1 86 = .ok (.return_, 1) := by decide +kernel
def xM_deliver : mt_X := (⟨"LeasedPagesModel", "deliver", "(I)Z"⟩, prog_12_method_11_code, 10, (Option.some FieldType.boolean))
theorem dM_deliver_0 : decode xM_deliver.2.1 0 = .ok (.iload_n 1, 1) := by decide +kernel
theorem dM_deliver_1 : decode xM_deliver.2.1 1 = .ok (.iconst 0, 1) := by decide +kernel
theorem dM_deliver_2 : decode xM_deliver.2.1 2 = .ok (.aload_n 0, 1) := by decide +kernel
theorem dM_deliver_3 : decode xM_deliver.2.1 3 = .ok (.getfield 135, 3) := by decide +kernel
theorem dM_deliver_6 : decode xM_deliver.2.1 6 = .ok (.iconst 1, 1) := by decide +kernel
theorem dM_deliver_7 : decode xM_deliver.2.1 7 = .ok (.isub, 1) := by decide +kernel
theorem dM_deliver_8 : decode xM_deliver.2.1 8 = .ok (.invokestatic 138, 3) := by decide +kernel
theorem dM_deliver_11 : decode xM_deliver.2.1 11 = .ok (.ifCond .ne 5, 3) := by decide +kernel
theorem dM_deliver_14 : decode xM_deliver.2.1 14 = .ok (.iconst 0, 1) := by decide +kernel
theorem dM_deliver_15 : decode xM_deliver.2.1 15 = .ok (.ireturn, 1) := by decide +kernel
theorem dM_deliver_16 : decode xM_deliver.2.1 16 = .ok (.aload_n 0, 1) := by decide +kernel
theorem dM_deliver_17 : decode xM_deliver.2.1 17 = .ok (.getfield 104, 3) := by decide +kernel
theorem dM_deliver_20 : decode xM_deliver.2.1 20 = .ok (.iload_n 1, 1) := by decide +kernel
theorem dM_deliver_21 : decode xM_deliver.2.1 21 = .ok (.iaload, 1) := by decide +kernel
theorem dM_deliver_22 : decode xM_deliver.2.1 22 = .ok (.istore_n 2, 1) := by decide +kernel
theorem dM_deliver_23 : decode xM_deliver.2.1 23 = .ok (.aload_n 0, 1) := by decide +kernel
theorem dM_deliver_24 : decode xM_deliver.2.1 24 = .ok (.getfield 107, 3) := by decide +kernel
theorem dM_deliver_27 : decode xM_deliver.2.1 27 = .ok (.iload_n 1, 1) := by decide +kernel
theorem dM_deliver_28 : decode xM_deliver.2.1 28 = .ok (.iaload, 1) := by decide +kernel
theorem dM_deliver_29 : decode xM_deliver.2.1 29 = .ok (.istore_n 3, 1) := by decide +kernel
theorem dM_deliver_30 : decode xM_deliver.2.1 30 = .ok (.aload_n 0, 1) := by decide +kernel
theorem dM_deliver_31 : decode xM_deliver.2.1 31 = .ok (.getfield 110, 3) := by decide +kernel
theorem dM_deliver_34 : decode xM_deliver.2.1 34 = .ok (.iload_n 1, 1) := by decide +kernel
theorem dM_deliver_35 : decode xM_deliver.2.1 35 = .ok (.iaload, 1) := by decide +kernel
theorem dM_deliver_36 : decode xM_deliver.2.1 36 = .ok (.istore 4, 2) := by decide +kernel
theorem dM_deliver_38 : decode xM_deliver.2.1 38 = .ok (.aload_n 0, 1) := by decide +kernel
theorem dM_deliver_39 : decode xM_deliver.2.1 39 = .ok (.getfield 113, 3) := by decide +kernel
theorem dM_deliver_42 : decode xM_deliver.2.1 42 = .ok (.iload_n 1, 1) := by decide +kernel
theorem dM_deliver_43 : decode xM_deliver.2.1 43 = .ok (.iaload, 1) := by decide +kernel
theorem dM_deliver_44 : decode xM_deliver.2.1 44 = .ok (.istore 5, 2) := by decide +kernel
theorem dM_deliver_46 : decode xM_deliver.2.1 46 = .ok (.aload_n 0, 1) := by decide +kernel
theorem dM_deliver_47 : decode xM_deliver.2.1 47 = .ok (.getfield 116, 3) := by decide +kernel
theorem dM_deliver_50 : decode xM_deliver.2.1 50 = .ok (.iload_n 1, 1) := by decide +kernel
theorem dM_deliver_51 : decode xM_deliver.2.1 51 = .ok (.iaload, 1) := by decide +kernel
theorem dM_deliver_52 : decode xM_deliver.2.1 52 = .ok (.istore 6, 2) := by decide +kernel
theorem dM_deliver_54 : decode xM_deliver.2.1 54 = .ok (.aload_n 0, 1) := by decide +kernel
theorem dM_deliver_55 : decode xM_deliver.2.1 55 = .ok (.getfield 119, 3) := by decide +kernel
theorem dM_deliver_58 : decode xM_deliver.2.1 58 = .ok (.iload_n 1, 1) := by decide +kernel
theorem dM_deliver_59 : decode xM_deliver.2.1 59 = .ok (.baload, 1) := by decide +kernel
theorem dM_deliver_60 : decode xM_deliver.2.1 60 = .ok (.istore 7, 2) := by decide +kernel
theorem dM_deliver_62 : decode xM_deliver.2.1 62 = .ok (.iconst 4, 1) := by decide +kernel
theorem dM_deliver_63 : decode xM_deliver.2.1 63 = .ok (.iload 4, 2) := by decide +kernel
theorem dM_deliver_65 : decode xM_deliver.2.1 65 = .ok (.imul, 1) := by decide +kernel
theorem dM_deliver_66 : decode xM_deliver.2.1 66 = .ok (.aload_n 0, 1) := by decide +kernel
theorem dM_deliver_67 : decode xM_deliver.2.1 67 = .ok (.getfield 122, 3) := by decide +kernel
theorem dM_deliver_70 : decode xM_deliver.2.1 70 = .ok (.iload_n 1, 1) := by decide +kernel
theorem dM_deliver_71 : decode xM_deliver.2.1 71 = .ok (.iaload, 1) := by decide +kernel
theorem dM_deliver_72 : decode xM_deliver.2.1 72 = .ok (.iadd, 1) := by decide +kernel
theorem dM_deliver_73 : decode xM_deliver.2.1 73 = .ok (.istore 8, 2) := by decide +kernel
theorem dM_deliver_75 : decode xM_deliver.2.1 75 = .ok (.aload_n 0, 1) := by decide +kernel
theorem dM_deliver_76 : decode xM_deliver.2.1 76 = .ok (.getfield 125, 3) := by decide +kernel
theorem dM_deliver_79 : decode xM_deliver.2.1 79 = .ok (.iload_n 1, 1) := by decide +kernel
theorem dM_deliver_80 : decode xM_deliver.2.1 80 = .ok (.iaload, 1) := by decide +kernel
theorem dM_deliver_81 : decode xM_deliver.2.1 81 = .ok (.istore 9, 2) := by decide +kernel
theorem dM_deliver_83 : decode xM_deliver.2.1 83 = .ok (.iload_n 2, 1) := by decide +kernel
theorem dM_deliver_84 : decode xM_deliver.2.1 84 = .ok (.iconst 4, 1) := by decide +kernel
theorem dM_deliver_85 : decode xM_deliver.2.1 85 = .ok (.if_icmp .ne 46, 3) := by decide +kernel
theorem dM_deliver_88 : decode xM_deliver.2.1 88 = .ok (.aload_n 0, 1) := by decide +kernel
theorem dM_deliver_89 : decode xM_deliver.2.1 89 = .ok (.getfield 7, 3) := by decide +kernel
theorem dM_deliver_92 : decode xM_deliver.2.1 92 = .ok (.iload_n 3, 1) := by decide +kernel
theorem dM_deliver_93 : decode xM_deliver.2.1 93 = .ok (.baload, 1) := by decide +kernel
theorem dM_deliver_94 : decode xM_deliver.2.1 94 = .ok (.ifCond .ne 37, 3) := by decide +kernel
theorem dM_deliver_97 : decode xM_deliver.2.1 97 = .ok (.aload_n 0, 1) := by decide +kernel
theorem dM_deliver_98 : decode xM_deliver.2.1 98 = .ok (.getfield 83, 3) := by decide +kernel
theorem dM_deliver_101 : decode xM_deliver.2.1 101 = .ok (.iload_n 3, 1) := by decide +kernel
theorem dM_deliver_102 : decode xM_deliver.2.1 102 = .ok (.iaload, 1) := by decide +kernel
theorem dM_deliver_103 : decode xM_deliver.2.1 103 = .ok (.ifCond .le 28, 3) := by decide +kernel
theorem dM_deliver_106 : decode xM_deliver.2.1 106 = .ok (.aload_n 0, 1) := by decide +kernel
theorem dM_deliver_107 : decode xM_deliver.2.1 107 = .ok (.getfield 56, 3) := by decide +kernel
theorem dM_deliver_110 : decode xM_deliver.2.1 110 = .ok (.iload_n 3, 1) := by decide +kernel
theorem dM_deliver_111 : decode xM_deliver.2.1 111 = .ok (.iaload, 1) := by decide +kernel
theorem dM_deliver_112 : decode xM_deliver.2.1 112 = .ok (.iload 5, 2) := by decide +kernel
theorem dM_deliver_114 : decode xM_deliver.2.1 114 = .ok (.if_icmp .ne 17, 3) := by decide +kernel
theorem dM_deliver_117 : decode xM_deliver.2.1 117 = .ok (.aload_n 0, 1) := by decide +kernel
theorem dM_deliver_118 : decode xM_deliver.2.1 118 = .ok (.iload_n 3, 1) := by decide +kernel
theorem dM_deliver_119 : decode xM_deliver.2.1 119 = .ok (.iload 4, 2) := by decide +kernel
theorem dM_deliver_121 : decode xM_deliver.2.1 121 = .ok (.iload 6, 2) := by decide +kernel
theorem dM_deliver_123 : decode xM_deliver.2.1 123 = .ok (.iload 7, 2) := by decide +kernel
theorem dM_deliver_125 : decode xM_deliver.2.1 125 = .ok (.iconst 4, 1) := by decide +kernel
theorem dM_deliver_126 : decode xM_deliver.2.1 126 = .ok (.iload_n 1, 1) := by decide +kernel
theorem dM_deliver_127 : decode xM_deliver.2.1 127 = .ok (.imul, 1) := by decide +kernel
theorem dM_deliver_128 : decode xM_deliver.2.1 128 = .ok (.invokevirtual 152, 3) := by decide +kernel
theorem dM_deliver_131 : decode xM_deliver.2.1 131 = .ok (.aload_n 0, 1) := by decide +kernel
theorem dM_deliver_132 : decode xM_deliver.2.1 132 = .ok (.iload_n 1, 1) := by decide +kernel
theorem dM_deliver_133 : decode xM_deliver.2.1 133 = .ok (.invokevirtual 156, 3) := by decide +kernel
theorem dM_deliver_136 : decode xM_deliver.2.1 136 = .ok (.pop, 1) := by decide +kernel
theorem dM_deliver_137 : decode xM_deliver.2.1 137 = .ok (.iload_n 2, 1) := by decide +kernel
theorem dM_deliver_138 : decode xM_deliver.2.1 138 = .ok (.iconst 3, 1) := by decide +kernel
theorem dM_deliver_139 : decode xM_deliver.2.1 139 = .ok (.if_icmp .gt 34, 3) := by decide +kernel
theorem dM_deliver_142 : decode xM_deliver.2.1 142 = .ok (.aload_n 0, 1) := by decide +kernel
theorem dM_deliver_143 : decode xM_deliver.2.1 143 = .ok (.getfield 7, 3) := by decide +kernel
theorem dM_deliver_146 : decode xM_deliver.2.1 146 = .ok (.iconst 3, 1) := by decide +kernel
theorem dM_deliver_147 : decode xM_deliver.2.1 147 = .ok (.baload, 1) := by decide +kernel
theorem dM_deliver_148 : decode xM_deliver.2.1 148 = .ok (.ifCond .ne 25, 3) := by decide +kernel
theorem dM_deliver_151 : decode xM_deliver.2.1 151 = .ok (.aload_n 0, 1) := by decide +kernel
theorem dM_deliver_152 : decode xM_deliver.2.1 152 = .ok (.iload_n 2, 1) := by decide +kernel
theorem dM_deliver_153 : decode xM_deliver.2.1 153 = .ok (.iload_n 3, 1) := by decide +kernel
theorem dM_deliver_154 : decode xM_deliver.2.1 154 = .ok (.iload 4, 2) := by decide +kernel
theorem dM_deliver_156 : decode xM_deliver.2.1 156 = .ok (.iload 5, 2) := by decide +kernel
theorem dM_deliver_158 : decode xM_deliver.2.1 158 = .ok (.iload 6, 2) := by decide +kernel
theorem dM_deliver_160 : decode xM_deliver.2.1 160 = .ok (.iload 7, 2) := by decide +kernel
theorem dM_deliver_162 : decode xM_deliver.2.1 162 = .ok (.iload 8, 2) := by decide +kernel
theorem dM_deliver_164 : decode xM_deliver.2.1 164 = .ok (.iload 9, 2) := by decide +kernel
theorem dM_deliver_166 : decode xM_deliver.2.1 166 = .ok (.invokevirtual 160, 3) := by decide +kernel
theorem dM_deliver_169 : decode xM_deliver.2.1 169 = .ok (.aload_n 0, 1) := by decide +kernel
theorem dM_deliver_170 : decode xM_deliver.2.1 170 = .ok (.invokevirtual 164, 3) := by decide +kernel
theorem dM_deliver_173 : decode xM_deliver.2.1 173 = .ok (.iload_n 2, 1) := by decide +kernel
theorem dM_deliver_174 : decode xM_deliver.2.1 174 = .ok (.iconst 5, 1) := by decide +kernel
theorem dM_deliver_175 : decode xM_deliver.2.1 175 = .ok (.if_icmp .lt 46, 3) := by decide +kernel
theorem dM_deliver_178 : decode xM_deliver.2.1 178 = .ok (.iload_n 2, 1) := by decide +kernel
theorem dM_deliver_179 : decode xM_deliver.2.1 179 = .ok (.bipush 7, 2) := by decide +kernel
theorem dM_deliver_181 : decode xM_deliver.2.1 181 = .ok (.if_icmp .gt 40, 3) := by decide +kernel
theorem dM_deliver_184 : decode xM_deliver.2.1 184 = .ok (.aload_n 0, 1) := by decide +kernel
theorem dM_deliver_185 : decode xM_deliver.2.1 185 = .ok (.getfield 7, 3) := by decide +kernel
theorem dM_deliver_188 : decode xM_deliver.2.1 188 = .ok (.iload_n 3, 1) := by decide +kernel
theorem dM_deliver_189 : decode xM_deliver.2.1 189 = .ok (.baload, 1) := by decide +kernel
theorem dM_deliver_190 : decode xM_deliver.2.1 190 = .ok (.ifCond .ne 31, 3) := by decide +kernel
theorem dM_deliver_193 : decode xM_deliver.2.1 193 = .ok (.aload_n 0, 1) := by decide +kernel
theorem dM_deliver_194 : decode xM_deliver.2.1 194 = .ok (.getfield 83, 3) := by decide +kernel
theorem dM_deliver_197 : decode xM_deliver.2.1 197 = .ok (.iload_n 3, 1) := by decide +kernel
theorem dM_deliver_198 : decode xM_deliver.2.1 198 = .ok (.iaload, 1) := by decide +kernel
theorem dM_deliver_199 : decode xM_deliver.2.1 199 = .ok (.ifCond .le 22, 3) := by decide +kernel
theorem dM_deliver_202 : decode xM_deliver.2.1 202 = .ok (.aload_n 0, 1) := by decide +kernel
theorem dM_deliver_203 : decode xM_deliver.2.1 203 = .ok (.getfield 56, 3) := by decide +kernel
theorem dM_deliver_206 : decode xM_deliver.2.1 206 = .ok (.iload_n 3, 1) := by decide +kernel
theorem dM_deliver_207 : decode xM_deliver.2.1 207 = .ok (.iaload, 1) := by decide +kernel
theorem dM_deliver_208 : decode xM_deliver.2.1 208 = .ok (.iload 5, 2) := by decide +kernel
theorem dM_deliver_210 : decode xM_deliver.2.1 210 = .ok (.if_icmp .ne 11, 3) := by decide +kernel
theorem dM_deliver_213 : decode xM_deliver.2.1 213 = .ok (.aload_n 0, 1) := by decide +kernel
theorem dM_deliver_214 : decode xM_deliver.2.1 214 = .ok (.iload_n 2, 1) := by decide +kernel
theorem dM_deliver_215 : decode xM_deliver.2.1 215 = .ok (.iload_n 3, 1) := by decide +kernel
theorem dM_deliver_216 : decode xM_deliver.2.1 216 = .ok (.iload 4, 2) := by decide +kernel
theorem dM_deliver_218 : decode xM_deliver.2.1 218 = .ok (.invokevirtual 167, 3) := by decide +kernel
theorem dM_deliver_221 : decode xM_deliver.2.1 221 = .ok (.iload_n 2, 1) := by decide +kernel
theorem dM_deliver_222 : decode xM_deliver.2.1 222 = .ok (.bipush 8, 2) := by decide +kernel
theorem dM_deliver_224 : decode xM_deliver.2.1 224 = .ok (.if_icmp .ne 24, 3) := by decide +kernel
theorem dM_deliver_227 : decode xM_deliver.2.1 227 = .ok (.aload_n 0, 1) := by decide +kernel
theorem dM_deliver_228 : decode xM_deliver.2.1 228 = .ok (.getfield 7, 3) := by decide +kernel
theorem dM_deliver_231 : decode xM_deliver.2.1 231 = .ok (.iload_n 3, 1) := by decide +kernel
theorem dM_deliver_232 : decode xM_deliver.2.1 232 = .ok (.baload, 1) := by decide +kernel
theorem dM_deliver_233 : decode xM_deliver.2.1 233 = .ok (.ifCond .ne 15, 3) := by decide +kernel
theorem dM_deliver_236 : decode xM_deliver.2.1 236 = .ok (.aload_n 0, 1) := by decide +kernel
theorem dM_deliver_237 : decode xM_deliver.2.1 237 = .ok (.getfield 65, 3) := by decide +kernel
theorem dM_deliver_240 : decode xM_deliver.2.1 240 = .ok (.iconst 4, 1) := by decide +kernel
theorem dM_deliver_241 : decode xM_deliver.2.1 241 = .ok (.iload_n 3, 1) := by decide +kernel
theorem dM_deliver_242 : decode xM_deliver.2.1 242 = .ok (.imul, 1) := by decide +kernel
theorem dM_deliver_243 : decode xM_deliver.2.1 243 = .ok (.iload 4, 2) := by decide +kernel
theorem dM_deliver_245 : decode xM_deliver.2.1 245 = .ok (.iadd, 1) := by decide +kernel
theorem dM_deliver_246 : decode xM_deliver.2.1 246 = .ok (.iconst 1, 1) := by decide +kernel
theorem dM_deliver_247 : decode xM_deliver.2.1 247 = .ok (.bastore, 1) := by decide +kernel
theorem dM_deliver_248 : decode xM_deliver.2.1 248 = .ok (.iconst 1, 1) := by decide +kernel
theorem dM_deliver_249 : decode xM_deliver.2.1 249 = .ok (.ireturn, 1) := by decide +kernel
def xM_has : mt_X := (⟨"LeasedPagesModel", "has", "(II)Z"⟩, prog_12_method_12_code, 3, (Option.some FieldType.boolean))
theorem dM_has_0 : decode xM_has.2.1 0 = .ok (.aload_n 0, 1) := by decide +kernel
theorem dM_has_1 : decode xM_has.2.1 1 = .ok (.getfield 20, 3) := by decide +kernel
theorem dM_has_4 : decode xM_has.2.1 4 = .ok (.iconst 4, 1) := by decide +kernel
theorem dM_has_5 : decode xM_has.2.1 5 = .ok (.iload_n 1, 1) := by decide +kernel
theorem dM_has_6 : decode xM_has.2.1 6 = .ok (.imul, 1) := by decide +kernel
theorem dM_has_7 : decode xM_has.2.1 7 = .ok (.iload_n 2, 1) := by decide +kernel
theorem dM_has_8 : decode xM_has.2.1 8 = .ok (.iadd, 1) := by decide +kernel
theorem dM_has_9 : decode xM_has.2.1 9 = .ok (.iaload, 1) := by decide +kernel
theorem dM_has_10 : decode xM_has.2.1 10 = .ok (.ifCond .le 7, 3) := by decide +kernel
theorem dM_has_13 : decode xM_has.2.1 13 = .ok (.iconst 1, 1) := by decide +kernel
theorem dM_has_14 : decode xM_has.2.1 14 = .ok (.goto 4, 3) := by decide +kernel
theorem dM_has_17 : decode xM_has.2.1 17 = .ok (.iconst 0, 1) := by decide +kernel
theorem dM_has_18 : decode xM_has.2.1 18 = .ok (.ireturn, 1) := by decide +kernel
def xM_conflicts : mt_X := (⟨"LeasedPagesModel", "conflicts", "(III)Z"⟩, prog_12_method_13_code, 6, (Option.some FieldType.boolean))
theorem dM_conflicts_0 : decode xM_conflicts.2.1 0 = .ok (.iconst 0, 1) := by decide +kernel
theorem dM_conflicts_1 : decode xM_conflicts.2.1 1 = .ok (.istore 4, 2) := by decide +kernel
theorem dM_conflicts_3 : decode xM_conflicts.2.1 3 = .ok (.iconst 0, 1) := by decide +kernel
theorem dM_conflicts_4 : decode xM_conflicts.2.1 4 = .ok (.istore 5, 2) := by decide +kernel
theorem dM_conflicts_6 : decode xM_conflicts.2.1 6 = .ok (.iload 5, 2) := by decide +kernel
theorem dM_conflicts_8 : decode xM_conflicts.2.1 8 = .ok (.iconst 3, 1) := by decide +kernel
theorem dM_conflicts_9 : decode xM_conflicts.2.1 9 = .ok (.if_icmp .ge 57, 3) := by decide +kernel
theorem dM_conflicts_12 : decode xM_conflicts.2.1 12 = .ok (.iload 4, 2) := by decide +kernel
theorem dM_conflicts_14 : decode xM_conflicts.2.1 14 = .ok (.ifCond .ne 39, 3) := by decide +kernel
theorem dM_conflicts_17 : decode xM_conflicts.2.1 17 = .ok (.iload 5, 2) := by decide +kernel
theorem dM_conflicts_19 : decode xM_conflicts.2.1 19 = .ok (.iload_n 1, 1) := by decide +kernel
theorem dM_conflicts_20 : decode xM_conflicts.2.1 20 = .ok (.if_icmp .eq 37, 3) := by decide +kernel
theorem dM_conflicts_23 : decode xM_conflicts.2.1 23 = .ok (.aload_n 0, 1) := by decide +kernel
theorem dM_conflicts_24 : decode xM_conflicts.2.1 24 = .ok (.iload 5, 2) := by decide +kernel
theorem dM_conflicts_26 : decode xM_conflicts.2.1 26 = .ok (.iload_n 2, 1) := by decide +kernel
theorem dM_conflicts_27 : decode xM_conflicts.2.1 27 = .ok (.invokevirtual 171, 3) := by decide +kernel
theorem dM_conflicts_30 : decode xM_conflicts.2.1 30 = .ok (.ifCond .eq 27, 3) := by decide +kernel
theorem dM_conflicts_33 : decode xM_conflicts.2.1 33 = .ok (.iload_n 3, 1) := by decide +kernel
theorem dM_conflicts_34 : decode xM_conflicts.2.1 34 = .ok (.iconst 2, 1) := by decide +kernel
theorem dM_conflicts_35 : decode xM_conflicts.2.1 35 = .ok (.if_icmp .eq 18, 3) := by decide +kernel
theorem dM_conflicts_38 : decode xM_conflicts.2.1 38 = .ok (.aload_n 0, 1) := by decide +kernel
theorem dM_conflicts_39 : decode xM_conflicts.2.1 39 = .ok (.getfield 20, 3) := by decide +kernel
theorem dM_conflicts_42 : decode xM_conflicts.2.1 42 = .ok (.iconst 4, 1) := by decide +kernel
theorem dM_conflicts_43 : decode xM_conflicts.2.1 43 = .ok (.iload 5, 2) := by decide +kernel
theorem dM_conflicts_45 : decode xM_conflicts.2.1 45 = .ok (.imul, 1) := by decide +kernel
theorem dM_conflicts_46 : decode xM_conflicts.2.1 46 = .ok (.iload_n 2, 1) := by decide +kernel
theorem dM_conflicts_47 : decode xM_conflicts.2.1 47 = .ok (.iadd, 1) := by decide +kernel
theorem dM_conflicts_48 : decode xM_conflicts.2.1 48 = .ok (.iaload, 1) := by decide +kernel
theorem dM_conflicts_49 : decode xM_conflicts.2.1 49 = .ok (.iconst 2, 1) := by decide +kernel
theorem dM_conflicts_50 : decode xM_conflicts.2.1 50 = .ok (.if_icmp .ne 7, 3) := by decide +kernel
theorem dM_conflicts_53 : decode xM_conflicts.2.1 53 = .ok (.iconst 1, 1) := by decide +kernel
theorem dM_conflicts_54 : decode xM_conflicts.2.1 54 = .ok (.goto 4, 3) := by decide +kernel
theorem dM_conflicts_57 : decode xM_conflicts.2.1 57 = .ok (.iconst 0, 1) := by decide +kernel
theorem dM_conflicts_58 : decode xM_conflicts.2.1 58 = .ok (.istore 4, 2) := by decide +kernel
theorem dM_conflicts_60 : decode xM_conflicts.2.1 60 = .ok (.iinc 5 1, 3) := by decide +kernel
theorem dM_conflicts_63 : decode xM_conflicts.2.1 63 = .ok (.goto (-57), 3) := by decide +kernel
theorem dM_conflicts_66 : decode xM_conflicts.2.1 66 = .ok (.iload 4, 2) := by decide +kernel
theorem dM_conflicts_68 : decode xM_conflicts.2.1 68 = .ok (.ireturn, 1) := by decide +kernel
def xM_others : mt_X := (⟨"LeasedPagesModel", "others", "(II)Z"⟩, prog_12_method_14_code, 5, (Option.some FieldType.boolean))
theorem dM_others_0 : decode xM_others.2.1 0 = .ok (.iconst 0, 1) := by decide +kernel
theorem dM_others_1 : decode xM_others.2.1 1 = .ok (.istore_n 3, 1) := by decide +kernel
theorem dM_others_2 : decode xM_others.2.1 2 = .ok (.iconst 0, 1) := by decide +kernel
theorem dM_others_3 : decode xM_others.2.1 3 = .ok (.istore 4, 2) := by decide +kernel
theorem dM_others_5 : decode xM_others.2.1 5 = .ok (.iload 4, 2) := by decide +kernel
theorem dM_others_7 : decode xM_others.2.1 7 = .ok (.iconst 3, 1) := by decide +kernel
theorem dM_others_8 : decode xM_others.2.1 8 = .ok (.if_icmp .ge 36, 3) := by decide +kernel
theorem dM_others_11 : decode xM_others.2.1 11 = .ok (.iload_n 3, 1) := by decide +kernel
theorem dM_others_12 : decode xM_others.2.1 12 = .ok (.ifCond .ne 20, 3) := by decide +kernel
theorem dM_others_15 : decode xM_others.2.1 15 = .ok (.iload 4, 2) := by decide +kernel
theorem dM_others_17 : decode xM_others.2.1 17 = .ok (.iload_n 1, 1) := by decide +kernel
theorem dM_others_18 : decode xM_others.2.1 18 = .ok (.if_icmp .eq 18, 3) := by decide +kernel
theorem dM_others_21 : decode xM_others.2.1 21 = .ok (.aload_n 0, 1) := by decide +kernel
theorem dM_others_22 : decode xM_others.2.1 22 = .ok (.getfield 44, 3) := by decide +kernel
theorem dM_others_25 : decode xM_others.2.1 25 = .ok (.iload 4, 2) := by decide +kernel
theorem dM_others_27 : decode xM_others.2.1 27 = .ok (.iaload, 1) := by decide +kernel
theorem dM_others_28 : decode xM_others.2.1 28 = .ok (.iload_n 2, 1) := by decide +kernel
theorem dM_others_29 : decode xM_others.2.1 29 = .ok (.if_icmp .ne 7, 3) := by decide +kernel
theorem dM_others_32 : decode xM_others.2.1 32 = .ok (.iconst 1, 1) := by decide +kernel
theorem dM_others_33 : decode xM_others.2.1 33 = .ok (.goto 4, 3) := by decide +kernel
theorem dM_others_36 : decode xM_others.2.1 36 = .ok (.iconst 0, 1) := by decide +kernel
theorem dM_others_37 : decode xM_others.2.1 37 = .ok (.istore_n 3, 1) := by decide +kernel
theorem dM_others_38 : decode xM_others.2.1 38 = .ok (.iinc 4 1, 3) := by decide +kernel
theorem dM_others_41 : decode xM_others.2.1 41 = .ok (.goto (-36), 3) := by decide +kernel
theorem dM_others_44 : decode xM_others.2.1 44 = .ok (.iload_n 3, 1) := by decide +kernel
theorem dM_others_45 : decode xM_others.2.1 45 = .ok (.ireturn, 1) := by decide +kernel
