theorem dL_law_0 : decode code 0 = .ok (.new 8, 3) := by decide +kernel
theorem dL_law_3 : decode code 3 = .ok (.dup, 1) := by decide +kernel
theorem dL_law_4 : decode code 4 = .ok (.aload_n 0, 1) := by decide +kernel
theorem dL_law_5 : decode code 5 = .ok (.iconst 0, 1) := by decide +kernel
theorem dL_law_6 : decode code 6 = .ok (.invokestatic 71, 3) := by decide +kernel
theorem dL_law_9 : decode code 9 = .ok (.aload_n 0, 1) := by decide +kernel
theorem dL_law_10 : decode code 10 = .ok (.iconst 1, 1) := by decide +kernel
theorem dL_law_11 : decode code 11 = .ok (.invokestatic 71, 3) := by decide +kernel
theorem dL_law_14 : decode code 14 = .ok (.aload_n 0, 1) := by decide +kernel
theorem dL_law_15 : decode code 15 = .ok (.iconst 2, 1) := by decide +kernel
theorem dL_law_16 : decode code 16 = .ok (.invokestatic 71, 3) := by decide +kernel
theorem dL_law_19 : decode code 19 = .ok (.aload_n 0, 1) := by decide +kernel
theorem dL_law_20 : decode code 20 = .ok (.iconst 3, 1) := by decide +kernel
theorem dL_law_21 : decode code 21 = .ok (.invokestatic 71, 3) := by decide +kernel
theorem dL_law_24 : decode code 24 = .ok (.invokespecial 77, 3) := by decide +kernel
theorem dL_law_27 : decode code 27 = .ok (.astore_n 1, 1) := by decide +kernel
theorem dL_law_28 : decode code 28 = .ok (.new 80, 3) := by decide +kernel
theorem dL_law_31 : decode code 31 = .ok (.dup, 1) := by decide +kernel
theorem dL_law_32 : decode code 32 = .ok (.aload_n 0, 1) := by decide +kernel
theorem dL_law_33 : decode code 33 = .ok (.iconst 0, 1) := by decide +kernel
theorem dL_law_34 : decode code 34 = .ok (.invokestatic 71, 3) := by decide +kernel
theorem dL_law_37 : decode code 37 = .ok (.aload_n 0, 1) := by decide +kernel
theorem dL_law_38 : decode code 38 = .ok (.iconst 1, 1) := by decide +kernel
theorem dL_law_39 : decode code 39 = .ok (.invokestatic 71, 3) := by decide +kernel
theorem dL_law_42 : decode code 42 = .ok (.aload_n 0, 1) := by decide +kernel
theorem dL_law_43 : decode code 43 = .ok (.iconst 2, 1) := by decide +kernel
theorem dL_law_44 : decode code 44 = .ok (.invokestatic 71, 3) := by decide +kernel
theorem dL_law_47 : decode code 47 = .ok (.aload_n 0, 1) := by decide +kernel
theorem dL_law_48 : decode code 48 = .ok (.iconst 3, 1) := by decide +kernel
theorem dL_law_49 : decode code 49 = .ok (.invokestatic 71, 3) := by decide +kernel
theorem dL_law_52 : decode code 52 = .ok (.invokespecial 82, 3) := by decide +kernel
theorem dL_law_55 : decode code 55 = .ok (.astore_n 2, 1) := by decide +kernel
theorem dL_law_56 : decode code 56 = .ok (.iconst 1, 1) := by decide +kernel
theorem dL_law_57 : decode code 57 = .ok (.newarray .long, 2) := by decide +kernel
theorem dL_law_59 : decode code 59 = .ok (.astore_n 3, 1) := by decide +kernel
theorem dL_law_60 : decode code 60 = .ok (.iconst 1, 1) := by decide +kernel
theorem dL_law_61 : decode code 61 = .ok (.newarray .double, 2) := by decide +kernel
theorem dL_law_63 : decode code 63 = .ok (.astore 4, 2) := by decide +kernel
theorem dL_law_65 : decode code 65 = .ok (.iconst 4, 1) := by decide +kernel
theorem dL_law_66 : decode code 66 = .ok (.istore 5, 2) := by decide +kernel
theorem dL_law_68 : decode code 68 = .ok (.iload 5, 2) := by decide +kernel
theorem dL_law_70 : decode code 70 = .ok (.aload_n 0, 1) := by decide +kernel
theorem dL_law_71 : decode code 71 = .ok (.arraylength, 1) := by decide +kernel
theorem dL_law_72 : decode code 72 = .ok (.iconst 5, 1) := by decide +kernel
theorem dL_law_73 : decode code 73 = .ok (.isub, 1) := by decide +kernel
theorem dL_law_74 : decode code 74 = .ok (.if_icmp .gt 664, 3) := by decide +kernel
theorem dL_law_77 : decode code 77 = .ok (.aload_n 0, 1) := by decide +kernel
theorem dL_law_78 : decode code 78 = .ok (.iload 5, 2) := by decide +kernel
theorem dL_law_80 : decode code 80 = .ok (.iaload, 1) := by decide +kernel
theorem dL_law_81 : decode code 81 = .ok (.bipush 15, 2) := by decide +kernel
theorem dL_law_83 : decode code 83 = .ok (.iand, 1) := by decide +kernel
theorem dL_law_84 : decode code 84 = .ok (.tableswitch 648 0 13 #[72, 136, 164, 204, 232, 288, 316, 388, 426, 470, 510, 538, 566, 583], 72) := by decide +kernel
theorem dL_law_156 : decode code 156 = .ok (.aload_n 1, 1) := by decide +kernel
theorem dL_law_157 : decode code 157 = .ok (.aload_n 0, 1) := by decide +kernel
theorem dL_law_158 : decode code 158 = .ok (.iload 5, 2) := by decide +kernel
theorem dL_law_160 : decode code 160 = .ok (.iconst 1, 1) := by decide +kernel
theorem dL_law_161 : decode code 161 = .ok (.iadd, 1) := by decide +kernel
theorem dL_law_162 : decode code 162 = .ok (.iaload, 1) := by decide +kernel
theorem dL_law_163 : decode code 163 = .ok (.aload_n 0, 1) := by decide +kernel
theorem dL_law_164 : decode code 164 = .ok (.iload 5, 2) := by decide +kernel
theorem dL_law_166 : decode code 166 = .ok (.iconst 2, 1) := by decide +kernel
theorem dL_law_167 : decode code 167 = .ok (.iadd, 1) := by decide +kernel
theorem dL_law_168 : decode code 168 = .ok (.iaload, 1) := by decide +kernel
theorem dL_law_169 : decode code 169 = .ok (.aload_n 0, 1) := by decide +kernel
theorem dL_law_170 : decode code 170 = .ok (.iload 5, 2) := by decide +kernel
theorem dL_law_172 : decode code 172 = .ok (.iconst 3, 1) := by decide +kernel
theorem dL_law_173 : decode code 173 = .ok (.iadd, 1) := by decide +kernel
theorem dL_law_174 : decode code 174 = .ok (.iaload, 1) := by decide +kernel
theorem dL_law_175 : decode code 175 = .ok (.aload_n 0, 1) := by decide +kernel
theorem dL_law_176 : decode code 176 = .ok (.iload 5, 2) := by decide +kernel
theorem dL_law_178 : decode code 178 = .ok (.iconst 4, 1) := by decide +kernel
theorem dL_law_179 : decode code 179 = .ok (.iadd, 1) := by decide +kernel
theorem dL_law_180 : decode code 180 = .ok (.iaload, 1) := by decide +kernel
theorem dL_law_181 : decode code 181 = .ok (.aload_n 3, 1) := by decide +kernel
theorem dL_law_182 : decode code 182 = .ok (.invokestatic 83, 3) := by decide +kernel
theorem dL_law_185 : decode code 185 = .ok (.istore 6, 2) := by decide +kernel
theorem dL_law_187 : decode code 187 = .ok (.aload_n 2, 1) := by decide +kernel
theorem dL_law_188 : decode code 188 = .ok (.aload_n 0, 1) := by decide +kernel
theorem dL_law_189 : decode code 189 = .ok (.iload 5, 2) := by decide +kernel
theorem dL_law_191 : decode code 191 = .ok (.iconst 1, 1) := by decide +kernel
theorem dL_law_192 : decode code 192 = .ok (.iadd, 1) := by decide +kernel
theorem dL_law_193 : decode code 193 = .ok (.iaload, 1) := by decide +kernel
theorem dL_law_194 : decode code 194 = .ok (.aload_n 0, 1) := by decide +kernel
theorem dL_law_195 : decode code 195 = .ok (.iload 5, 2) := by decide +kernel
theorem dL_law_197 : decode code 197 = .ok (.iconst 2, 1) := by decide +kernel
theorem dL_law_198 : decode code 198 = .ok (.iadd, 1) := by decide +kernel
theorem dL_law_199 : decode code 199 = .ok (.iaload, 1) := by decide +kernel
theorem dL_law_200 : decode code 200 = .ok (.aload_n 0, 1) := by decide +kernel
theorem dL_law_201 : decode code 201 = .ok (.iload 5, 2) := by decide +kernel
theorem dL_law_203 : decode code 203 = .ok (.iconst 3, 1) := by decide +kernel
theorem dL_law_204 : decode code 204 = .ok (.iadd, 1) := by decide +kernel
theorem dL_law_205 : decode code 205 = .ok (.iaload, 1) := by decide +kernel
theorem dL_law_206 : decode code 206 = .ok (.aload_n 0, 1) := by decide +kernel
theorem dL_law_207 : decode code 207 = .ok (.iload 5, 2) := by decide +kernel
theorem dL_law_209 : decode code 209 = .ok (.iconst 4, 1) := by decide +kernel
theorem dL_law_210 : decode code 210 = .ok (.iadd, 1) := by decide +kernel
theorem dL_law_211 : decode code 211 = .ok (.iaload, 1) := by decide +kernel
theorem dL_law_212 : decode code 212 = .ok (.invokevirtual 86, 3) := by decide +kernel
theorem dL_law_215 : decode code 215 = .ok (.istore 7, 2) := by decide +kernel
theorem dL_law_217 : decode code 217 = .ok (.goto 515, 3) := by decide +kernel
theorem dL_law_220 : decode code 220 = .ok (.aload_n 1, 1) := by decide +kernel
theorem dL_law_221 : decode code 221 = .ok (.aload_n 0, 1) := by decide +kernel
theorem dL_law_222 : decode code 222 = .ok (.iload 5, 2) := by decide +kernel
theorem dL_law_224 : decode code 224 = .ok (.iconst 1, 1) := by decide +kernel
theorem dL_law_225 : decode code 225 = .ok (.iadd, 1) := by decide +kernel
theorem dL_law_226 : decode code 226 = .ok (.iaload, 1) := by decide +kernel
theorem dL_law_227 : decode code 227 = .ok (.aload_n 3, 1) := by decide +kernel
theorem dL_law_228 : decode code 228 = .ok (.invokestatic 87, 3) := by decide +kernel
theorem dL_law_231 : decode code 231 = .ok (.istore 6, 2) := by decide +kernel
theorem dL_law_233 : decode code 233 = .ok (.aload_n 2, 1) := by decide +kernel
theorem dL_law_234 : decode code 234 = .ok (.aload_n 0, 1) := by decide +kernel
theorem dL_law_235 : decode code 235 = .ok (.iload 5, 2) := by decide +kernel
theorem dL_law_237 : decode code 237 = .ok (.iconst 1, 1) := by decide +kernel
theorem dL_law_238 : decode code 238 = .ok (.iadd, 1) := by decide +kernel
theorem dL_law_239 : decode code 239 = .ok (.iaload, 1) := by decide +kernel
theorem dL_law_240 : decode code 240 = .ok (.invokevirtual 90, 3) := by decide +kernel
theorem dL_law_243 : decode code 243 = .ok (.istore 7, 2) := by decide +kernel
theorem dL_law_245 : decode code 245 = .ok (.goto 487, 3) := by decide +kernel
theorem dL_law_248 : decode code 248 = .ok (.aload_n 1, 1) := by decide +kernel
theorem dL_law_249 : decode code 249 = .ok (.aload_n 0, 1) := by decide +kernel
theorem dL_law_250 : decode code 250 = .ok (.iload 5, 2) := by decide +kernel
theorem dL_law_252 : decode code 252 = .ok (.iconst 1, 1) := by decide +kernel
theorem dL_law_253 : decode code 253 = .ok (.iadd, 1) := by decide +kernel
theorem dL_law_254 : decode code 254 = .ok (.iaload, 1) := by decide +kernel
theorem dL_law_255 : decode code 255 = .ok (.aload_n 0, 1) := by decide +kernel
theorem dL_law_256 : decode code 256 = .ok (.iload 5, 2) := by decide +kernel
theorem dL_law_258 : decode code 258 = .ok (.iconst 2, 1) := by decide +kernel
theorem dL_law_259 : decode code 259 = .ok (.iadd, 1) := by decide +kernel
theorem dL_law_260 : decode code 260 = .ok (.iaload, 1) := by decide +kernel
theorem dL_law_261 : decode code 261 = .ok (.aload_n 3, 1) := by decide +kernel
theorem dL_law_262 : decode code 262 = .ok (.invokestatic 91, 3) := by decide +kernel
theorem dL_law_265 : decode code 265 = .ok (.istore 6, 2) := by decide +kernel
theorem dL_law_267 : decode code 267 = .ok (.aload_n 2, 1) := by decide +kernel
theorem dL_law_268 : decode code 268 = .ok (.aload_n 0, 1) := by decide +kernel
theorem dL_law_269 : decode code 269 = .ok (.iload 5, 2) := by decide +kernel
theorem dL_law_271 : decode code 271 = .ok (.iconst 1, 1) := by decide +kernel
theorem dL_law_272 : decode code 272 = .ok (.iadd, 1) := by decide +kernel
theorem dL_law_273 : decode code 273 = .ok (.iaload, 1) := by decide +kernel
theorem dL_law_274 : decode code 274 = .ok (.aload_n 0, 1) := by decide +kernel
theorem dL_law_275 : decode code 275 = .ok (.iload 5, 2) := by decide +kernel
