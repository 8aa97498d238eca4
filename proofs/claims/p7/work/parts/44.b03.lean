theorem d_139_0 : decode prog_14_method_1_code 0 = .ok (.aload_n 0, 1) := by decide +kernel
theorem d_139_1 : decode prog_14_method_1_code 1 = .ok (.invokespecial 1, 3) := by decide +kernel
theorem d_139_4 : decode prog_14_method_1_code 4 = .ok (.aload_n 0, 1) := by decide +kernel
theorem d_139_5 : decode prog_14_method_1_code 5 = .ok (.bipush 6, 2) := by decide +kernel
theorem d_139_7 : decode prog_14_method_1_code 7 = .ok (.newarray .int, 2) := by decide +kernel
theorem d_139_9 : decode prog_14_method_1_code 9 = .ok (.putfield 7, 3) := by decide +kernel
theorem d_139_12 : decode prog_14_method_1_code 12 = .ok (.aload_n 0, 1) := by decide +kernel
theorem d_139_13 : decode prog_14_method_1_code 13 = .ok (.bipush 6, 2) := by decide +kernel
theorem d_139_15 : decode prog_14_method_1_code 15 = .ok (.newarray .int, 2) := by decide +kernel
theorem d_139_17 : decode prog_14_method_1_code 17 = .ok (.putfield 13, 3) := by decide +kernel
theorem d_139_20 : decode prog_14_method_1_code 20 = .ok (.aload_n 0, 1) := by decide +kernel
theorem d_139_21 : decode prog_14_method_1_code 21 = .ok (.bipush 6, 2) := by decide +kernel
theorem d_139_23 : decode prog_14_method_1_code 23 = .ok (.newarray .int, 2) := by decide +kernel
theorem d_139_25 : decode prog_14_method_1_code 25 = .ok (.putfield 16, 3) := by decide +kernel
theorem d_139_28 : decode prog_14_method_1_code 28 = .ok (.aload_n 0, 1) := by decide +kernel
theorem d_139_29 : decode prog_14_method_1_code 29 = .ok (.iconst 5, 1) := by decide +kernel
theorem d_139_30 : decode prog_14_method_1_code 30 = .ok (.newarray .int, 2) := by decide +kernel
theorem d_139_32 : decode prog_14_method_1_code 32 = .ok (.putfield 19, 3) := by decide +kernel
theorem d_139_35 : decode prog_14_method_1_code 35 = .ok (.aload_n 0, 1) := by decide +kernel
theorem d_139_36 : decode prog_14_method_1_code 36 = .ok (.iconst 5, 1) := by decide +kernel
theorem d_139_37 : decode prog_14_method_1_code 37 = .ok (.newarray .int, 2) := by decide +kernel
theorem d_139_39 : decode prog_14_method_1_code 39 = .ok (.putfield 22, 3) := by decide +kernel
theorem d_139_42 : decode prog_14_method_1_code 42 = .ok (.aload_n 0, 1) := by decide +kernel
theorem d_139_43 : decode prog_14_method_1_code 43 = .ok (.iconst 4, 1) := by decide +kernel
theorem d_139_44 : decode prog_14_method_1_code 44 = .ok (.putfield 25, 3) := by decide +kernel
theorem d_139_47 : decode prog_14_method_1_code 47 = .ok (.aload_n 0, 1) := by decide +kernel
theorem d_139_48 : decode prog_14_method_1_code 48 = .ok (.iconst 3, 1) := by decide +kernel
theorem d_139_49 : decode prog_14_method_1_code 49 = .ok (.putfield 29, 3) := by decide +kernel
theorem d_139_52 : decode prog_14_method_1_code 52 = .ok (.aload_n 0, 1) := by decide +kernel
theorem d_139_53 : decode prog_14_method_1_code 53 = .ok (.bipush 12, 2) := by decide +kernel
theorem d_139_55 : decode prog_14_method_1_code 55 = .ok (.anewarray 32, 3) := by decide +kernel
theorem d_139_58 : decode prog_14_method_1_code 58 = .ok (.dup, 1) := by decide +kernel
theorem d_139_59 : decode prog_14_method_1_code 59 = .ok (.iconst 0, 1) := by decide +kernel
theorem d_139_60 : decode prog_14_method_1_code 60 = .ok (.iconst 4, 1) := by decide +kernel
theorem d_139_61 : decode prog_14_method_1_code 61 = .ok (.newarray .int, 2) := by decide +kernel
theorem d_139_63 : decode prog_14_method_1_code 63 = .ok (.dup, 1) := by decide +kernel
theorem d_139_64 : decode prog_14_method_1_code 64 = .ok (.iconst 0, 1) := by decide +kernel
theorem d_139_65 : decode prog_14_method_1_code 65 = .ok (.bipush 102, 2) := by decide +kernel
theorem d_139_67 : decode prog_14_method_1_code 67 = .ok (.iastore, 1) := by decide +kernel
theorem d_139_68 : decode prog_14_method_1_code 68 = .ok (.dup, 1) := by decide +kernel
theorem d_139_69 : decode prog_14_method_1_code 69 = .ok (.iconst 1, 1) := by decide +kernel
theorem d_139_70 : decode prog_14_method_1_code 70 = .ok (.bipush 114, 2) := by decide +kernel
theorem d_139_72 : decode prog_14_method_1_code 72 = .ok (.iastore, 1) := by decide +kernel
theorem d_139_73 : decode prog_14_method_1_code 73 = .ok (.dup, 1) := by decide +kernel
theorem d_139_74 : decode prog_14_method_1_code 74 = .ok (.iconst 2, 1) := by decide +kernel
theorem d_139_75 : decode prog_14_method_1_code 75 = .ok (.bipush 111, 2) := by decide +kernel
theorem d_139_77 : decode prog_14_method_1_code 77 = .ok (.iastore, 1) := by decide +kernel
theorem d_139_78 : decode prog_14_method_1_code 78 = .ok (.dup, 1) := by decide +kernel
theorem d_139_79 : decode prog_14_method_1_code 79 = .ok (.iconst 3, 1) := by decide +kernel
theorem d_139_80 : decode prog_14_method_1_code 80 = .ok (.bipush 109, 2) := by decide +kernel
theorem d_139_82 : decode prog_14_method_1_code 82 = .ok (.iastore, 1) := by decide +kernel
theorem d_139_83 : decode prog_14_method_1_code 83 = .ok (.aastore, 1) := by decide +kernel
theorem d_139_84 : decode prog_14_method_1_code 84 = .ok (.dup, 1) := by decide +kernel
theorem d_139_85 : decode prog_14_method_1_code 85 = .ok (.iconst 1, 1) := by decide +kernel
theorem d_139_86 : decode prog_14_method_1_code 86 = .ok (.iconst 2, 1) := by decide +kernel
theorem d_139_87 : decode prog_14_method_1_code 87 = .ok (.newarray .int, 2) := by decide +kernel
theorem d_139_89 : decode prog_14_method_1_code 89 = .ok (.dup, 1) := by decide +kernel
theorem d_139_90 : decode prog_14_method_1_code 90 = .ok (.iconst 0, 1) := by decide +kernel
theorem d_139_91 : decode prog_14_method_1_code 91 = .ok (.bipush 116, 2) := by decide +kernel
theorem d_139_93 : decode prog_14_method_1_code 93 = .ok (.iastore, 1) := by decide +kernel
theorem d_139_94 : decode prog_14_method_1_code 94 = .ok (.dup, 1) := by decide +kernel
theorem d_139_95 : decode prog_14_method_1_code 95 = .ok (.iconst 1, 1) := by decide +kernel
theorem d_139_96 : decode prog_14_method_1_code 96 = .ok (.bipush 111, 2) := by decide +kernel
theorem d_139_98 : decode prog_14_method_1_code 98 = .ok (.iastore, 1) := by decide +kernel
theorem d_139_99 : decode prog_14_method_1_code 99 = .ok (.aastore, 1) := by decide +kernel
theorem d_139_100 : decode prog_14_method_1_code 100 = .ok (.dup, 1) := by decide +kernel
theorem d_139_101 : decode prog_14_method_1_code 101 = .ok (.iconst 2, 1) := by decide +kernel
theorem d_139_102 : decode prog_14_method_1_code 102 = .ok (.iconst 4, 1) := by decide +kernel
theorem d_139_103 : decode prog_14_method_1_code 103 = .ok (.newarray .int, 2) := by decide +kernel
theorem d_139_105 : decode prog_14_method_1_code 105 = .ok (.dup, 1) := by decide +kernel
theorem d_139_106 : decode prog_14_method_1_code 106 = .ok (.iconst 0, 1) := by decide +kernel
theorem d_139_107 : decode prog_14_method_1_code 107 = .ok (.bipush 110, 2) := by decide +kernel
theorem d_139_109 : decode prog_14_method_1_code 109 = .ok (.iastore, 1) := by decide +kernel
theorem d_139_110 : decode prog_14_method_1_code 110 = .ok (.dup, 1) := by decide +kernel
theorem d_139_111 : decode prog_14_method_1_code 111 = .ok (.iconst 1, 1) := by decide +kernel
theorem d_139_112 : decode prog_14_method_1_code 112 = .ok (.bipush 101, 2) := by decide +kernel
theorem d_139_114 : decode prog_14_method_1_code 114 = .ok (.iastore, 1) := by decide +kernel
theorem d_139_115 : decode prog_14_method_1_code 115 = .ok (.dup, 1) := by decide +kernel
theorem d_139_116 : decode prog_14_method_1_code 116 = .ok (.iconst 2, 1) := by decide +kernel
theorem d_139_117 : decode prog_14_method_1_code 117 = .ok (.bipush 97, 2) := by decide +kernel
theorem d_139_119 : decode prog_14_method_1_code 119 = .ok (.iastore, 1) := by decide +kernel
theorem d_139_120 : decode prog_14_method_1_code 120 = .ok (.dup, 1) := by decide +kernel
theorem d_139_121 : decode prog_14_method_1_code 121 = .ok (.iconst 3, 1) := by decide +kernel
theorem d_139_122 : decode prog_14_method_1_code 122 = .ok (.bipush 114, 2) := by decide +kernel
theorem d_139_124 : decode prog_14_method_1_code 124 = .ok (.iastore, 1) := by decide +kernel
theorem d_139_125 : decode prog_14_method_1_code 125 = .ok (.aastore, 1) := by decide +kernel
theorem d_139_126 : decode prog_14_method_1_code 126 = .ok (.dup, 1) := by decide +kernel
theorem d_139_127 : decode prog_14_method_1_code 127 = .ok (.iconst 3, 1) := by decide +kernel
theorem d_139_128 : decode prog_14_method_1_code 128 = .ok (.bipush 6, 2) := by decide +kernel
theorem d_139_130 : decode prog_14_method_1_code 130 = .ok (.newarray .int, 2) := by decide +kernel
theorem d_139_132 : decode prog_14_method_1_code 132 = .ok (.dup, 1) := by decide +kernel
theorem d_139_133 : decode prog_14_method_1_code 133 = .ok (.iconst 0, 1) := by decide +kernel
theorem d_139_134 : decode prog_14_method_1_code 134 = .ok (.bipush 115, 2) := by decide +kernel
theorem d_139_136 : decode prog_14_method_1_code 136 = .ok (.iastore, 1) := by decide +kernel
theorem d_139_137 : decode prog_14_method_1_code 137 = .ok (.dup, 1) := by decide +kernel
theorem d_139_138 : decode prog_14_method_1_code 138 = .ok (.iconst 1, 1) := by decide +kernel
theorem d_139_139 : decode prog_14_method_1_code 139 = .ok (.bipush 112, 2) := by decide +kernel
theorem d_139_141 : decode prog_14_method_1_code 141 = .ok (.iastore, 1) := by decide +kernel
theorem d_139_142 : decode prog_14_method_1_code 142 = .ok (.dup, 1) := by decide +kernel
theorem d_139_143 : decode prog_14_method_1_code 143 = .ok (.iconst 2, 1) := by decide +kernel
theorem d_139_144 : decode prog_14_method_1_code 144 = .ok (.bipush 114, 2) := by decide +kernel
theorem d_139_146 : decode prog_14_method_1_code 146 = .ok (.iastore, 1) := by decide +kernel
theorem d_139_147 : decode prog_14_method_1_code 147 = .ok (.dup, 1) := by decide +kernel
theorem d_139_148 : decode prog_14_method_1_code 148 = .ok (.iconst 3, 1) := by decide +kernel
theorem d_139_149 : decode prog_14_method_1_code 149 = .ok (.bipush 105, 2) := by decide +kernel
theorem d_139_151 : decode prog_14_method_1_code 151 = .ok (.iastore, 1) := by decide +kernel
theorem d_139_152 : decode prog_14_method_1_code 152 = .ok (.dup, 1) := by decide +kernel
theorem d_139_153 : decode prog_14_method_1_code 153 = .ok (.iconst 4, 1) := by decide +kernel
theorem d_139_154 : decode prog_14_method_1_code 154 = .ok (.bipush 110, 2) := by decide +kernel
theorem d_139_156 : decode prog_14_method_1_code 156 = .ok (.iastore, 1) := by decide +kernel
theorem d_139_157 : decode prog_14_method_1_code 157 = .ok (.dup, 1) := by decide +kernel
theorem d_139_158 : decode prog_14_method_1_code 158 = .ok (.iconst 5, 1) := by decide +kernel
theorem d_139_159 : decode prog_14_method_1_code 159 = .ok (.bipush 103, 2) := by decide +kernel
theorem d_139_161 : decode prog_14_method_1_code 161 = .ok (.iastore, 1) := by decide +kernel
theorem d_139_162 : decode prog_14_method_1_code 162 = .ok (.aastore, 1) := by decide +kernel
theorem d_139_163 : decode prog_14_method_1_code 163 = .ok (.dup, 1) := by decide +kernel
theorem d_139_164 : decode prog_14_method_1_code 164 = .ok (.iconst 4, 1) := by decide +kernel
theorem d_139_165 : decode prog_14_method_1_code 165 = .ok (.iconst 4, 1) := by decide +kernel
theorem d_139_166 : decode prog_14_method_1_code 166 = .ok (.newarray .int, 2) := by decide +kernel
theorem d_139_168 : decode prog_14_method_1_code 168 = .ok (.dup, 1) := by decide +kernel
theorem d_139_169 : decode prog_14_method_1_code 169 = .ok (.iconst 0, 1) := by decide +kernel
theorem d_139_170 : decode prog_14_method_1_code 170 = .ok (.bipush 107, 2) := by decide +kernel
theorem d_139_172 : decode prog_14_method_1_code 172 = .ok (.iastore, 1) := by decide +kernel
theorem d_139_173 : decode prog_14_method_1_code 173 = .ok (.dup, 1) := by decide +kernel
theorem d_139_174 : decode prog_14_method_1_code 174 = .ok (.iconst 1, 1) := by decide +kernel
theorem d_139_175 : decode prog_14_method_1_code 175 = .ok (.bipush 101, 2) := by decide +kernel
theorem d_139_177 : decode prog_14_method_1_code 177 = .ok (.iastore, 1) := by decide +kernel
theorem d_139_178 : decode prog_14_method_1_code 178 = .ok (.dup, 1) := by decide +kernel
theorem d_139_179 : decode prog_14_method_1_code 179 = .ok (.iconst 2, 1) := by decide +kernel
theorem d_139_180 : decode prog_14_method_1_code 180 = .ok (.bipush 112, 2) := by decide +kernel
theorem d_139_182 : decode prog_14_method_1_code 182 = .ok (.iastore, 1) := by decide +kernel
theorem d_139_183 : decode prog_14_method_1_code 183 = .ok (.dup, 1) := by decide +kernel
theorem d_139_184 : decode prog_14_method_1_code 184 = .ok (.iconst 3, 1) := by decide +kernel
theorem d_139_185 : decode prog_14_method_1_code 185 = .ok (.bipush 116, 2) := by decide +kernel
theorem d_139_187 : decode prog_14_method_1_code 187 = .ok (.iastore, 1) := by decide +kernel
theorem d_139_188 : decode prog_14_method_1_code 188 = .ok (.aastore, 1) := by decide +kernel
theorem d_139_189 : decode prog_14_method_1_code 189 = .ok (.dup, 1) := by decide +kernel
theorem d_139_190 : decode prog_14_method_1_code 190 = .ok (.iconst 5, 1) := by decide +kernel
theorem d_139_191 : decode prog_14_method_1_code 191 = .ok (.iconst 5, 1) := by decide +kernel
theorem d_139_192 : decode prog_14_method_1_code 192 = .ok (.newarray .int, 2) := by decide +kernel
theorem d_139_194 : decode prog_14_method_1_code 194 = .ok (.dup, 1) := by decide +kernel
theorem d_139_195 : decode prog_14_method_1_code 195 = .ok (.iconst 0, 1) := by decide +kernel
theorem d_139_196 : decode prog_14_method_1_code 196 = .ok (.bipush 104, 2) := by decide +kernel
theorem d_139_198 : decode prog_14_method_1_code 198 = .ok (.iastore, 1) := by decide +kernel
theorem d_139_199 : decode prog_14_method_1_code 199 = .ok (.dup, 1) := by decide +kernel
theorem d_139_200 : decode prog_14_method_1_code 200 = .ok (.iconst 1, 1) := by decide +kernel
theorem d_139_201 : decode prog_14_method_1_code 201 = .ok (.bipush 111, 2) := by decide +kernel
theorem d_139_203 : decode prog_14_method_1_code 203 = .ok (.iastore, 1) := by decide +kernel
theorem d_139_204 : decode prog_14_method_1_code 204 = .ok (.dup, 1) := by decide +kernel
theorem d_139_205 : decode prog_14_method_1_code 205 = .ok (.iconst 2, 1) := by decide +kernel
theorem d_139_206 : decode prog_14_method_1_code 206 = .ok (.bipush 117, 2) := by decide +kernel
theorem d_139_208 : decode prog_14_method_1_code 208 = .ok (.iastore, 1) := by decide +kernel
theorem d_139_209 : decode prog_14_method_1_code 209 = .ok (.dup, 1) := by decide +kernel
theorem d_139_210 : decode prog_14_method_1_code 210 = .ok (.iconst 3, 1) := by decide +kernel
theorem d_139_211 : decode prog_14_method_1_code 211 = .ok (.bipush 115, 2) := by decide +kernel
theorem d_139_213 : decode prog_14_method_1_code 213 = .ok (.iastore, 1) := by decide +kernel
theorem d_139_214 : decode prog_14_method_1_code 214 = .ok (.dup, 1) := by decide +kernel
theorem d_139_215 : decode prog_14_method_1_code 215 = .ok (.iconst 4, 1) := by decide +kernel
theorem d_139_216 : decode prog_14_method_1_code 216 = .ok (.bipush 101, 2) := by decide +kernel
theorem d_139_218 : decode prog_14_method_1_code 218 = .ok (.iastore, 1) := by decide +kernel
theorem d_139_219 : decode prog_14_method_1_code 219 = .ok (.aastore, 1) := by decide +kernel
theorem d_139_220 : decode prog_14_method_1_code 220 = .ok (.dup, 1) := by decide +kernel
theorem d_139_221 : decode prog_14_method_1_code 221 = .ok (.bipush 6, 2) := by decide +kernel
theorem d_139_223 : decode prog_14_method_1_code 223 = .ok (.iconst 3, 1) := by decide +kernel
theorem d_139_224 : decode prog_14_method_1_code 224 = .ok (.newarray .int, 2) := by decide +kernel
theorem d_139_226 : decode prog_14_method_1_code 226 = .ok (.dup, 1) := by decide +kernel
theorem d_139_227 : decode prog_14_method_1_code 227 = .ok (.iconst 0, 1) := by decide +kernel
theorem d_139_228 : decode prog_14_method_1_code 228 = .ok (.bipush 109, 2) := by decide +kernel
theorem d_139_230 : decode prog_14_method_1_code 230 = .ok (.iastore, 1) := by decide +kernel
theorem d_139_231 : decode prog_14_method_1_code 231 = .ok (.dup, 1) := by decide +kernel
theorem d_139_232 : decode prog_14_method_1_code 232 = .ok (.iconst 1, 1) := by decide +kernel
theorem d_139_233 : decode prog_14_method_1_code 233 = .ok (.bipush 97, 2) := by decide +kernel
theorem d_139_235 : decode prog_14_method_1_code 235 = .ok (.iastore, 1) := by decide +kernel
theorem d_139_236 : decode prog_14_method_1_code 236 = .ok (.dup, 1) := by decide +kernel
theorem d_139_237 : decode prog_14_method_1_code 237 = .ok (.iconst 2, 1) := by decide +kernel
theorem d_139_238 : decode prog_14_method_1_code 238 = .ok (.bipush 121, 2) := by decide +kernel
theorem d_139_240 : decode prog_14_method_1_code 240 = .ok (.iastore, 1) := by decide +kernel
theorem d_139_241 : decode prog_14_method_1_code 241 = .ok (.aastore, 1) := by decide +kernel
theorem d_139_242 : decode prog_14_method_1_code 242 = .ok (.dup, 1) := by decide +kernel
theorem d_139_243 : decode prog_14_method_1_code 243 = .ok (.bipush 7, 2) := by decide +kernel
theorem d_139_245 : decode prog_14_method_1_code 245 = .ok (.iconst 3, 1) := by decide +kernel
theorem d_139_246 : decode prog_14_method_1_code 246 = .ok (.newarray .int, 2) := by decide +kernel
theorem d_139_248 : decode prog_14_method_1_code 248 = .ok (.dup, 1) := by decide +kernel
theorem d_139_249 : decode prog_14_method_1_code 249 = .ok (.iconst 0, 1) := by decide +kernel
theorem d_139_250 : decode prog_14_method_1_code 250 = .ok (.bipush 102, 2) := by decide +kernel
theorem d_139_252 : decode prog_14_method_1_code 252 = .ok (.iastore, 1) := by decide +kernel
theorem d_139_253 : decode prog_14_method_1_code 253 = .ok (.dup, 1) := by decide +kernel
theorem d_139_254 : decode prog_14_method_1_code 254 = .ok (.iconst 1, 1) := by decide +kernel
theorem d_139_255 : decode prog_14_method_1_code 255 = .ok (.bipush 101, 2) := by decide +kernel
theorem d_139_257 : decode prog_14_method_1_code 257 = .ok (.iastore, 1) := by decide +kernel
theorem d_139_258 : decode prog_14_method_1_code 258 = .ok (.dup, 1) := by decide +kernel
theorem d_139_259 : decode prog_14_method_1_code 259 = .ok (.iconst 2, 1) := by decide +kernel
theorem d_139_260 : decode prog_14_method_1_code 260 = .ok (.bipush 101, 2) := by decide +kernel
theorem d_139_262 : decode prog_14_method_1_code 262 = .ok (.iastore, 1) := by decide +kernel
theorem d_139_263 : decode prog_14_method_1_code 263 = .ok (.aastore, 1) := by decide +kernel
theorem d_139_264 : decode prog_14_method_1_code 264 = .ok (.dup, 1) := by decide +kernel
theorem d_139_265 : decode prog_14_method_1_code 265 = .ok (.bipush 8, 2) := by decide +kernel
theorem d_139_267 : decode prog_14_method_1_code 267 = .ok (.iconst 3, 1) := by decide +kernel
theorem d_139_268 : decode prog_14_method_1_code 268 = .ok (.newarray .int, 2) := by decide +kernel
theorem d_139_270 : decode prog_14_method_1_code 270 = .ok (.dup, 1) := by decide +kernel
theorem d_139_271 : decode prog_14_method_1_code 271 = .ok (.iconst 0, 1) := by decide +kernel
theorem d_139_272 : decode prog_14_method_1_code 272 = .ok (.bipush 106, 2) := by decide +kernel
theorem d_139_274 : decode prog_14_method_1_code 274 = .ok (.iastore, 1) := by decide +kernel
theorem d_139_275 : decode prog_14_method_1_code 275 = .ok (.dup, 1) := by decide +kernel
theorem d_139_276 : decode prog_14_method_1_code 276 = .ok (.iconst 1, 1) := by decide +kernel
theorem d_139_277 : decode prog_14_method_1_code 277 = .ok (.bipush 111, 2) := by decide +kernel
theorem d_139_279 : decode prog_14_method_1_code 279 = .ok (.iastore, 1) := by decide +kernel
theorem d_139_280 : decode prog_14_method_1_code 280 = .ok (.dup, 1) := by decide +kernel
theorem d_139_281 : decode prog_14_method_1_code 281 = .ok (.iconst 2, 1) := by decide +kernel
theorem d_139_282 : decode prog_14_method_1_code 282 = .ok (.bipush 121, 2) := by decide +kernel
theorem d_139_284 : decode prog_14_method_1_code 284 = .ok (.iastore, 1) := by decide +kernel
theorem d_139_285 : decode prog_14_method_1_code 285 = .ok (.aastore, 1) := by decide +kernel
theorem d_139_286 : decode prog_14_method_1_code 286 = .ok (.dup, 1) := by decide +kernel
theorem d_139_287 : decode prog_14_method_1_code 287 = .ok (.bipush 9, 2) := by decide +kernel
theorem d_139_289 : decode prog_14_method_1_code 289 = .ok (.iconst 2, 1) := by decide +kernel
theorem d_139_290 : decode prog_14_method_1_code 290 = .ok (.newarray .int, 2) := by decide +kernel
theorem d_139_292 : decode prog_14_method_1_code 292 = .ok (.dup, 1) := by decide +kernel
theorem d_139_293 : decode prog_14_method_1_code 293 = .ok (.iconst 0, 1) := by decide +kernel
theorem d_139_294 : decode prog_14_method_1_code 294 = .ok (.bipush 111, 2) := by decide +kernel
theorem d_139_296 : decode prog_14_method_1_code 296 = .ok (.iastore, 1) := by decide +kernel
theorem d_139_297 : decode prog_14_method_1_code 297 = .ok (.dup, 1) := by decide +kernel
theorem d_139_298 : decode prog_14_method_1_code 298 = .ok (.iconst 1, 1) := by decide +kernel
theorem d_139_299 : decode prog_14_method_1_code 299 = .ok (.bipush 114, 2) := by decide +kernel
theorem d_139_301 : decode prog_14_method_1_code 301 = .ok (.iastore, 1) := by decide +kernel
theorem d_139_302 : decode prog_14_method_1_code 302 = .ok (.aastore, 1) := by decide +kernel
theorem d_139_303 : decode prog_14_method_1_code 303 = .ok (.dup, 1) := by decide +kernel
theorem d_139_304 : decode prog_14_method_1_code 304 = .ok (.bipush 10, 2) := by decide +kernel
theorem d_139_306 : decode prog_14_method_1_code 306 = .ok (.iconst 3, 1) := by decide +kernel
theorem d_139_307 : decode prog_14_method_1_code 307 = .ok (.newarray .int, 2) := by decide +kernel
theorem d_139_309 : decode prog_14_method_1_code 309 = .ok (.dup, 1) := by decide +kernel
theorem d_139_310 : decode prog_14_method_1_code 310 = .ok (.iconst 0, 1) := by decide +kernel
theorem d_139_311 : decode prog_14_method_1_code 311 = .ok (.bipush 97, 2) := by decide +kernel
theorem d_139_313 : decode prog_14_method_1_code 313 = .ok (.iastore, 1) := by decide +kernel
theorem d_139_314 : decode prog_14_method_1_code 314 = .ok (.dup, 1) := by decide +kernel
theorem d_139_315 : decode prog_14_method_1_code 315 = .ok (.iconst 1, 1) := by decide +kernel
theorem d_139_316 : decode prog_14_method_1_code 316 = .ok (.bipush 110, 2) := by decide +kernel
theorem d_139_318 : decode prog_14_method_1_code 318 = .ok (.iastore, 1) := by decide +kernel
theorem d_139_319 : decode prog_14_method_1_code 319 = .ok (.dup, 1) := by decide +kernel
theorem d_139_320 : decode prog_14_method_1_code 320 = .ok (.iconst 2, 1) := by decide +kernel
theorem d_139_321 : decode prog_14_method_1_code 321 = .ok (.bipush 100, 2) := by decide +kernel
theorem d_139_323 : decode prog_14_method_1_code 323 = .ok (.iastore, 1) := by decide +kernel
theorem d_139_324 : decode prog_14_method_1_code 324 = .ok (.aastore, 1) := by decide +kernel
theorem d_139_325 : decode prog_14_method_1_code 325 = .ok (.dup, 1) := by decide +kernel
theorem d_139_326 : decode prog_14_method_1_code 326 = .ok (.bipush 11, 2) := by decide +kernel
theorem d_139_328 : decode prog_14_method_1_code 328 = .ok (.iconst 3, 1) := by decide +kernel
theorem d_139_329 : decode prog_14_method_1_code 329 = .ok (.newarray .int, 2) := by decide +kernel
theorem d_139_331 : decode prog_14_method_1_code 331 = .ok (.dup, 1) := by decide +kernel
theorem d_139_332 : decode prog_14_method_1_code 332 = .ok (.iconst 0, 1) := by decide +kernel
theorem d_139_333 : decode prog_14_method_1_code 333 = .ok (.bipush 110, 2) := by decide +kernel
theorem d_139_335 : decode prog_14_method_1_code 335 = .ok (.iastore, 1) := by decide +kernel
theorem d_139_336 : decode prog_14_method_1_code 336 = .ok (.dup, 1) := by decide +kernel
theorem d_139_337 : decode prog_14_method_1_code 337 = .ok (.iconst 1, 1) := by decide +kernel
theorem d_139_338 : decode prog_14_method_1_code 338 = .ok (.bipush 111, 2) := by decide +kernel
theorem d_139_340 : decode prog_14_method_1_code 340 = .ok (.iastore, 1) := by decide +kernel
theorem d_139_341 : decode prog_14_method_1_code 341 = .ok (.dup, 1) := by decide +kernel
theorem d_139_342 : decode prog_14_method_1_code 342 = .ok (.iconst 2, 1) := by decide +kernel
theorem d_139_343 : decode prog_14_method_1_code 343 = .ok (.bipush 116, 2) := by decide +kernel
theorem d_139_345 : decode prog_14_method_1_code 345 = .ok (.iastore, 1) := by decide +kernel
theorem d_139_346 : decode prog_14_method_1_code 346 = .ok (.aastore, 1) := by decide +kernel
theorem d_139_347 : decode prog_14_method_1_code 347 = .ok (.putfield 33, 3) := by decide +kernel
theorem d_139_350 : decode prog_14_method_1_code 350 = .ok (.aload_n 0, 1) := by decide +kernel
theorem d_139_351 : decode prog_14_method_1_code 351 = .ok (.sipush 160, 3) := by decide +kernel
theorem d_139_354 : decode prog_14_method_1_code 354 = .ok (.newarray .int, 2) := by decide +kernel
theorem d_139_356 : decode prog_14_method_1_code 356 = .ok (.putfield 37, 3) := by decide +kernel
theorem d_139_359 : decode prog_14_method_1_code 359 = .ok (.aload_n 0, 1) := by decide +kernel
theorem d_139_360 : decode prog_14_method_1_code 360 = .ok (.sipush 3060, 3) := by decide +kernel
theorem d_139_363 : decode prog_14_method_1_code 363 = .ok (.newarray .int, 2) := by decide +kernel
theorem d_139_365 : decode prog_14_method_1_code 365 = .ok (.putfield 40, 3) := by decide +kernel
theorem d_139_368 : decode prog_14_method_1_code 368 = .ok (.aload_n 0, 1) := by decide +kernel
theorem d_139_369 : decode prog_14_method_1_code 369 = .ok (.bipush 18, 2) := by decide +kernel
theorem d_139_371 : decode prog_14_method_1_code 371 = .ok (.newarray .int, 2) := by decide +kernel
theorem d_139_373 : decode prog_14_method_1_code 373 = .ok (.putfield 43, 3) := by decide +kernel
theorem d_139_376 : decode prog_14_method_1_code 376 = .ok (.aload_n 0, 1) := by decide +kernel
theorem d_139_377 : decode prog_14_method_1_code 377 = .ok (.sipush 200, 3) := by decide +kernel
theorem d_139_380 : decode prog_14_method_1_code 380 = .ok (.newarray .int, 2) := by decide +kernel
theorem d_139_382 : decode prog_14_method_1_code 382 = .ok (.putfield 46, 3) := by decide +kernel
theorem d_139_385 : decode prog_14_method_1_code 385 = .ok (.aload_n 0, 1) := by decide +kernel
theorem d_139_386 : decode prog_14_method_1_code 386 = .ok (.sipush 200, 3) := by decide +kernel
theorem d_139_389 : decode prog_14_method_1_code 389 = .ok (.newarray .int, 2) := by decide +kernel
theorem d_139_391 : decode prog_14_method_1_code 391 = .ok (.putfield 49, 3) := by decide +kernel
theorem d_139_394 : decode prog_14_method_1_code 394 = .ok (.aload_n 0, 1) := by decide +kernel
theorem d_139_395 : decode prog_14_method_1_code 395 = .ok (.iconst 1, 1) := by decide +kernel
theorem d_139_396 : decode prog_14_method_1_code 396 = .ok (.putfield 52, 3) := by decide +kernel
theorem d_139_399 : decode prog_14_method_1_code 399 = .ok (.aload_n 0, 1) := by decide +kernel
theorem d_139_400 : decode prog_14_method_1_code 400 = .ok (.sipush 150, 3) := by decide +kernel
theorem d_139_403 : decode prog_14_method_1_code 403 = .ok (.newarray .int, 2) := by decide +kernel
theorem d_139_405 : decode prog_14_method_1_code 405 = .ok (.putfield 55, 3) := by decide +kernel
theorem d_139_408 : decode prog_14_method_1_code 408 = .ok (.aload_n 0, 1) := by decide +kernel
theorem d_139_409 : decode prog_14_method_1_code 409 = .ok (.bipush 7, 2) := by decide +kernel
theorem d_139_411 : decode prog_14_method_1_code 411 = .ok (.newarray .int, 2) := by decide +kernel
theorem d_139_413 : decode prog_14_method_1_code 413 = .ok (.putfield 58, 3) := by decide +kernel
theorem d_139_416 : decode prog_14_method_1_code 416 = .ok (.aload_n 0, 1) := by decide +kernel
theorem d_139_417 : decode prog_14_method_1_code 417 = .ok (.sipush 4096, 3) := by decide +kernel
theorem d_139_420 : decode prog_14_method_1_code 420 = .ok (.newarray .int, 2) := by decide +kernel
theorem d_139_422 : decode prog_14_method_1_code 422 = .ok (.putfield 61, 3) := by decide +kernel
theorem d_139_425 : decode prog_14_method_1_code 425 = .ok (.aload_n 0, 1) := by decide +kernel
theorem d_139_426 : decode prog_14_method_1_code 426 = .ok (.sipush 4096, 3) := by decide +kernel
theorem d_139_429 : decode prog_14_method_1_code 429 = .ok (.newarray .int, 2) := by decide +kernel
theorem d_139_431 : decode prog_14_method_1_code 431 = .ok (.putfield 64, 3) := by decide +kernel
theorem d_139_434 : decode prog_14_method_1_code 434 = .ok (.aload_n 0, 1) := by decide +kernel
theorem d_139_435 : decode prog_14_method_1_code 435 = .ok (.sipush 4097, 3) := by decide +kernel
theorem d_139_438 : decode prog_14_method_1_code 438 = .ok (.newarray .int, 2) := by decide +kernel
theorem d_139_440 : decode prog_14_method_1_code 440 = .ok (.putfield 67, 3) := by decide +kernel
theorem d_139_443 : decode prog_14_method_1_code 443 = .ok (.aload_n 0, 1) := by decide +kernel
theorem d_139_444 : decode prog_14_method_1_code 444 = .ok (.sipush 4096, 3) := by decide +kernel
theorem d_139_447 : decode prog_14_method_1_code 447 = .ok (.newarray .int, 2) := by decide +kernel
theorem d_139_449 : decode prog_14_method_1_code 449 = .ok (.putfield 70, 3) := by decide +kernel
theorem d_139_452 : decode prog_14_method_1_code 452 = .ok (.aload_n 0, 1) := by decide +kernel
theorem d_139_453 : decode prog_14_method_1_code 453 = .ok (.bipush 6, 2) := by decide +kernel
theorem d_139_455 : decode prog_14_method_1_code 455 = .ok (.newarray .int, 2) := by decide +kernel
theorem d_139_457 : decode prog_14_method_1_code 457 = .ok (.putfield 73, 3) := by decide +kernel
theorem d_139_460 : decode prog_14_method_1_code 460 = .ok (.aload_n 0, 1) := by decide +kernel
theorem d_139_461 : decode prog_14_method_1_code 461 = .ok (.bipush 6, 2) := by decide +kernel
theorem d_139_463 : decode prog_14_method_1_code 463 = .ok (.newarray .int, 2) := by decide +kernel
theorem d_139_465 : decode prog_14_method_1_code 465 = .ok (.putfield 76, 3) := by decide +kernel
theorem d_139_468 : decode prog_14_method_1_code 468 = .ok (.aload_n 0, 1) := by decide +kernel
theorem d_139_469 : decode prog_14_method_1_code 469 = .ok (.iconst 4, 1) := by decide +kernel
theorem d_139_470 : decode prog_14_method_1_code 470 = .ok (.newarray .int, 2) := by decide +kernel
theorem d_139_472 : decode prog_14_method_1_code 472 = .ok (.putfield 79, 3) := by decide +kernel
theorem d_139_475 : decode prog_14_method_1_code 475 = .ok (.aload_n 0, 1) := by decide +kernel
theorem d_139_476 : decode prog_14_method_1_code 476 = .ok (.iconst 4, 1) := by decide +kernel
theorem d_139_477 : decode prog_14_method_1_code 477 = .ok (.newarray .int, 2) := by decide +kernel
theorem d_139_479 : decode prog_14_method_1_code 479 = .ok (.putfield 82, 3) := by decide +kernel
theorem d_139_482 : decode prog_14_method_1_code 482 = .ok (.aload_n 0, 1) := by decide +kernel
theorem d_139_483 : decode prog_14_method_1_code 483 = .ok (.sipush 160, 3) := by decide +kernel
theorem d_139_486 : decode prog_14_method_1_code 486 = .ok (.newarray .int, 2) := by decide +kernel
theorem d_139_488 : decode prog_14_method_1_code 488 = .ok (.putfield 85, 3) := by decide +kernel
theorem d_139_491 : decode prog_14_method_1_code 491 = .ok (.aload_n 0, 1) := by decide +kernel
theorem d_139_492 : decode prog_14_method_1_code 492 = .ok (.bipush 40, 2) := by decide +kernel
theorem d_139_494 : decode prog_14_method_1_code 494 = .ok (.newarray .int, 2) := by decide +kernel
theorem d_139_496 : decode prog_14_method_1_code 496 = .ok (.putfield 88, 3) := by decide +kernel
theorem d_139_499 : decode prog_14_method_1_code 499 = .ok (.iconst 0, 1) := by decide +kernel
theorem d_139_500 : decode prog_14_method_1_code 500 = .ok (.istore_n 1, 1) := by decide +kernel
theorem d_139_501 : decode prog_14_method_1_code 501 = .ok (.iload_n 1, 1) := by decide +kernel
theorem d_139_502 : decode prog_14_method_1_code 502 = .ok (.iconst 4, 1) := by decide +kernel
theorem d_139_503 : decode prog_14_method_1_code 503 = .ok (.if_icmp .ge 16, 3) := by decide +kernel
theorem d_139_506 : decode prog_14_method_1_code 506 = .ok (.aload_n 0, 1) := by decide +kernel
theorem d_139_507 : decode prog_14_method_1_code 507 = .ok (.getfield 79, 3) := by decide +kernel
theorem d_139_510 : decode prog_14_method_1_code 510 = .ok (.iload_n 1, 1) := by decide +kernel
theorem d_139_511 : decode prog_14_method_1_code 511 = .ok (.iconst (-1), 1) := by decide +kernel
theorem d_139_512 : decode prog_14_method_1_code 512 = .ok (.iastore, 1) := by decide +kernel
theorem d_139_513 : decode prog_14_method_1_code 513 = .ok (.iinc 1 1, 3) := by decide +kernel
theorem d_139_516 : decode prog_14_method_1_code 516 = .ok (.goto (-15), 3) := by decide +kernel
theorem d_139_519 : decode prog_14_method_1_code 519 = .ok (.aload_n 0, 1) := by decide +kernel
theorem d_139_520 : decode prog_14_method_1_code 520 = .ok (.iconst 4, 1) := by decide +kernel
theorem d_139_521 : decode prog_14_method_1_code 521 = .ok (.iconst 3, 1) := by decide +kernel
theorem d_139_522 : decode prog_14_method_1_code 522 = .ok (.invokevirtual 91, 3) := by decide +kernel
theorem d_139_525 : decode prog_14_method_1_code 525 = .ok (.aload_n 0, 1) := by decide +kernel
theorem d_139_526 : decode prog_14_method_1_code 526 = .ok (.invokevirtual 95, 3) := by decide +kernel
theorem d_139_529 : decode prog_14_method_1_code 529 = .ok (.return_, 1) := by decide +kernel
theorem s_139_519 {Γ : m_G} : m_ok Γ m_tab 139 M_139 519 (g_139_519) := ok_al_n (pc := 519) d_139_519 rfl (ok_ic (pc := 520) d_139_520 rfl (ok_ic (pc := 521) d_139_521 rfl (ok_cvi (pc := 522) (k2 := 141) rfl rfl tb_141 (by decide) (by decide) rfl (go_V d_139_522 w_901 w_903 ws_38 w_11 w_904 nn_141 (by decide) cl_12 rfl) (ok_al_n (pc := 525) d_139_525 rfl (ok_cvi (pc := 526) (k2 := 159) rfl rfl tb_159 (by decide) (by decide) rfl (go_V d_139_526 w_905 w_907 ws_39 w_11 w_908 nn_159 (by decide) cl_12 rfl) (ok_rv (pc := 529) d_139_529 rfl))))))
theorem s_139_501 {Γ : m_G} : m_ok Γ m_tab 139 M_139 501 (g_139_501) := ok_il_n (pc := 501) d_139_501 rfl (ok_ic (pc := 502) d_139_502 rfl (ok_cige (pc := 503) (t := 519) d_139_503 rfl (by decide) rfl (ok_al_n (pc := 506) d_139_506 rfl (ok_getf (pc := 507) d_139_507 w_951 (hc1 fo_70) (ok_il_n (pc := 510) d_139_510 rfl (ok_ic (pc := 511) d_139_511 rfl (ok_iast (pc := 512) d_139_512 (ok_inc (pc := 513) d_139_513 rfl (by decide) (ok_go (pc := 516) (t := 501) d_139_516 rfl (by decide) rfl)))))))))
theorem s_139_476 {Γ : m_G} : m_ok Γ m_tab 139 M_139 476 (g_139_476) := ok_ic (pc := 476) d_139_476 rfl (ok_newa (pc := 477) d_139_477 rfl w_88 (ok_putf (pc := 479) d_139_479 w_952 (hc1 ⟨_, _, _, tyX12, cl_12, in_12, by decide, rfl, rfl, rfl, tyX12_ok, nmX12, Or.inr ⟨rfl, rfl, rfl⟩⟩) pd_1 vt_A (ok_al_n (pc := 482) d_139_482 rfl (ok_si (pc := 483) d_139_483 rfl (ok_newa (pc := 486) d_139_486 rfl w_88 (ok_putf (pc := 488) d_139_488 w_953 (hc1 ⟨_, _, _, tyX12, cl_12, in_12, by decide, rfl, rfl, rfl, tyX12_ok, nmX12, Or.inr ⟨rfl, rfl, rfl⟩⟩) pd_1 vt_A (ok_al_n (pc := 491) d_139_491 rfl (ok_bi (pc := 492) d_139_492 rfl (ok_newa (pc := 494) d_139_494 rfl w_88 (ok_putf (pc := 496) d_139_496 w_954 (hc1 ⟨_, _, _, tyX12, cl_12, in_12, by decide, rfl, rfl, rfl, tyX12_ok, nmX12, Or.inr ⟨rfl, rfl, rfl⟩⟩) pd_1 vt_A (ok_ic (pc := 499) d_139_499 rfl (ok_is_n (pc := 500) d_139_500 rfl (by decide) (s_139_501)))))))))))))
theorem s_139_394 {Γ : m_G} : m_ok Γ m_tab 139 M_139 394 (g_139_394) := ok_al_n (pc := 394) d_139_394 rfl (ok_ic (pc := 395) d_139_395 rfl (ok_putf (pc := 396) d_139_396 w_932 (hc1 ⟨_, _, _, tyX12, cl_12, in_12, by decide, rfl, rfl, rfl, tyX12_ok, nmX12, Or.inl rfl⟩) pd_0 vt_I (ok_al_n (pc := 399) d_139_399 rfl (ok_si (pc := 400) d_139_400 rfl (ok_newa (pc := 403) d_139_403 rfl w_88 (ok_putf (pc := 405) d_139_405 w_940 (hc1 ⟨_, _, _, tyX12, cl_12, in_12, by decide, rfl, rfl, rfl, tyX12_ok, nmX12, Or.inr ⟨rfl, rfl, rfl⟩⟩) pd_1 vt_A (ok_al_n (pc := 408) d_139_408 rfl (ok_bi (pc := 409) d_139_409 rfl (ok_newa (pc := 411) d_139_411 rfl w_88 (ok_putf (pc := 413) d_139_413 w_941 (hc1 ⟨_, _, _, tyX12, cl_12, in_12, by decide, rfl, rfl, rfl, tyX12_ok, nmX12, Or.inr ⟨rfl, rfl, rfl⟩⟩) pd_1 vt_A (ok_al_n (pc := 416) d_139_416 rfl (ok_si (pc := 417) d_139_417 rfl (ok_newa (pc := 420) d_139_420 rfl w_88 (ok_putf (pc := 422) d_139_422 w_942 (hc1 ⟨_, _, _, tyX12, cl_12, in_12, by decide, rfl, rfl, rfl, tyX12_ok, nmX12, Or.inr ⟨rfl, rfl, rfl⟩⟩) pd_1 vt_A (ok_al_n (pc := 425) d_139_425 rfl (ok_si (pc := 426) d_139_426 rfl (ok_newa (pc := 429) d_139_429 rfl w_88 (ok_putf (pc := 431) d_139_431 w_943 (hc1 ⟨_, _, _, tyX12, cl_12, in_12, by decide, rfl, rfl, rfl, tyX12_ok, nmX12, Or.inr ⟨rfl, rfl, rfl⟩⟩) pd_1 vt_A (ok_al_n (pc := 434) d_139_434 rfl (ok_si (pc := 435) d_139_435 rfl (ok_newa (pc := 438) d_139_438 rfl w_88 (ok_putf (pc := 440) d_139_440 w_944 (hc1 ⟨_, _, _, tyX12, cl_12, in_12, by decide, rfl, rfl, rfl, tyX12_ok, nmX12, Or.inr ⟨rfl, rfl, rfl⟩⟩) pd_1 vt_A (ok_al_n (pc := 443) d_139_443 rfl (ok_si (pc := 444) d_139_444 rfl (ok_newa (pc := 447) d_139_447 rfl w_88 (ok_putf (pc := 449) d_139_449 w_945 (hc1 ⟨_, _, _, tyX12, cl_12, in_12, by decide, rfl, rfl, rfl, tyX12_ok, nmX12, Or.inr ⟨rfl, rfl, rfl⟩⟩) pd_1 vt_A (ok_al_n (pc := 452) d_139_452 rfl (ok_bi (pc := 453) d_139_453 rfl (ok_newa (pc := 455) d_139_455 rfl w_88 (ok_putf (pc := 457) d_139_457 w_946 (hc1 ⟨_, _, _, tyX12, cl_12, in_12, by decide, rfl, rfl, rfl, tyX12_ok, nmX12, Or.inr ⟨rfl, rfl, rfl⟩⟩) pd_1 vt_A (ok_al_n (pc := 460) d_139_460 rfl (ok_bi (pc := 461) d_139_461 rfl (ok_newa (pc := 463) d_139_463 rfl w_88 (ok_putf (pc := 465) d_139_465 w_947 (hc1 ⟨_, _, _, tyX12, cl_12, in_12, by decide, rfl, rfl, rfl, tyX12_ok, nmX12, Or.inr ⟨rfl, rfl, rfl⟩⟩) pd_1 vt_A (ok_al_n (pc := 468) d_139_468 rfl (ok_ic (pc := 469) d_139_469 rfl (ok_newa (pc := 470) d_139_470 rfl w_88 (ok_putf (pc := 472) d_139_472 w_951 (hc1 ⟨_, _, _, tyX12, cl_12, in_12, by decide, rfl, rfl, rfl, tyX12_ok, nmX12, Or.inr ⟨rfl, rfl, rfl⟩⟩) pd_1 vt_A (ok_al_n (pc := 475) d_139_475 rfl (s_139_476))))))))))))))))))))))))))))))))))))))))
theorem s_139_323 {Γ : m_G} : m_ok Γ m_tab 139 M_139 323 (g_139_323) := ok_iast (pc := 323) d_139_323 (ok_aastA (pc := 324) d_139_324 rfl (ok_dup (pc := 325) d_139_325 (ok_bi (pc := 326) d_139_326 rfl (ok_ic (pc := 328) d_139_328 rfl (ok_newa (pc := 329) d_139_329 rfl w_88 (ok_dup (pc := 331) d_139_331 (ok_ic (pc := 332) d_139_332 rfl (ok_bi (pc := 333) d_139_333 rfl (ok_iast (pc := 335) d_139_335 (ok_dup (pc := 336) d_139_336 (ok_ic (pc := 337) d_139_337 rfl (ok_bi (pc := 338) d_139_338 rfl (ok_iast (pc := 340) d_139_340 (ok_dup (pc := 341) d_139_341 (ok_ic (pc := 342) d_139_342 rfl (ok_bi (pc := 343) d_139_343 rfl (ok_iast (pc := 345) d_139_345 (ok_aastA (pc := 346) d_139_346 rfl (ok_putf (pc := 347) d_139_347 w_925 (hc1 ⟨_, _, _, tyX12, cl_12, in_12, by decide, rfl, rfl, rfl, tyX12_ok, nmX12, Or.inr ⟨rfl, rfl, rfl⟩⟩) pd_10 vt_A (ok_al_n (pc := 350) d_139_350 rfl (ok_si (pc := 351) d_139_351 rfl (ok_newa (pc := 354) d_139_354 rfl w_88 (ok_putf (pc := 356) d_139_356 w_926 (hc1 ⟨_, _, _, tyX12, cl_12, in_12, by decide, rfl, rfl, rfl, tyX12_ok, nmX12, Or.inr ⟨rfl, rfl, rfl⟩⟩) pd_1 vt_A (ok_al_n (pc := 359) d_139_359 rfl (ok_si (pc := 360) d_139_360 rfl (ok_newa (pc := 363) d_139_363 rfl w_88 (ok_putf (pc := 365) d_139_365 w_927 (hc1 ⟨_, _, _, tyX12, cl_12, in_12, by decide, rfl, rfl, rfl, tyX12_ok, nmX12, Or.inr ⟨rfl, rfl, rfl⟩⟩) pd_1 vt_A (ok_al_n (pc := 368) d_139_368 rfl (ok_bi (pc := 369) d_139_369 rfl (ok_newa (pc := 371) d_139_371 rfl w_88 (ok_putf (pc := 373) d_139_373 w_928 (hc1 ⟨_, _, _, tyX12, cl_12, in_12, by decide, rfl, rfl, rfl, tyX12_ok, nmX12, Or.inr ⟨rfl, rfl, rfl⟩⟩) pd_1 vt_A (ok_al_n (pc := 376) d_139_376 rfl (ok_si (pc := 377) d_139_377 rfl (ok_newa (pc := 380) d_139_380 rfl w_88 (ok_putf (pc := 382) d_139_382 w_929 (hc1 ⟨_, _, _, tyX12, cl_12, in_12, by decide, rfl, rfl, rfl, tyX12_ok, nmX12, Or.inr ⟨rfl, rfl, rfl⟩⟩) pd_1 vt_A (ok_al_n (pc := 385) d_139_385 rfl (ok_si (pc := 386) d_139_386 rfl (ok_newa (pc := 389) d_139_389 rfl w_88 (ok_putf (pc := 391) d_139_391 w_930 (hc1 ⟨_, _, _, tyX12, cl_12, in_12, by decide, rfl, rfl, rfl, tyX12_ok, nmX12, Or.inr ⟨rfl, rfl, rfl⟩⟩) pd_1 vt_A (s_139_394))))))))))))))))))))))))))))))))))))))))
theorem s_139_271 {Γ : m_G} : m_ok Γ m_tab 139 M_139 271 (g_139_271) := ok_ic (pc := 271) d_139_271 rfl (ok_bi (pc := 272) d_139_272 rfl (ok_iast (pc := 274) d_139_274 (ok_dup (pc := 275) d_139_275 (ok_ic (pc := 276) d_139_276 rfl (ok_bi (pc := 277) d_139_277 rfl (ok_iast (pc := 279) d_139_279 (ok_dup (pc := 280) d_139_280 (ok_ic (pc := 281) d_139_281 rfl (ok_bi (pc := 282) d_139_282 rfl (ok_iast (pc := 284) d_139_284 (ok_aastA (pc := 285) d_139_285 rfl (ok_dup (pc := 286) d_139_286 (ok_bi (pc := 287) d_139_287 rfl (ok_ic (pc := 289) d_139_289 rfl (ok_newa (pc := 290) d_139_290 rfl w_88 (ok_dup (pc := 292) d_139_292 (ok_ic (pc := 293) d_139_293 rfl (ok_bi (pc := 294) d_139_294 rfl (ok_iast (pc := 296) d_139_296 (ok_dup (pc := 297) d_139_297 (ok_ic (pc := 298) d_139_298 rfl (ok_bi (pc := 299) d_139_299 rfl (ok_iast (pc := 301) d_139_301 (ok_aastA (pc := 302) d_139_302 rfl (ok_dup (pc := 303) d_139_303 (ok_bi (pc := 304) d_139_304 rfl (ok_ic (pc := 306) d_139_306 rfl (ok_newa (pc := 307) d_139_307 rfl w_88 (ok_dup (pc := 309) d_139_309 (ok_ic (pc := 310) d_139_310 rfl (ok_bi (pc := 311) d_139_311 rfl (ok_iast (pc := 313) d_139_313 (ok_dup (pc := 314) d_139_314 (ok_ic (pc := 315) d_139_315 rfl (ok_bi (pc := 316) d_139_316 rfl (ok_iast (pc := 318) d_139_318 (ok_dup (pc := 319) d_139_319 (ok_ic (pc := 320) d_139_320 rfl (ok_bi (pc := 321) d_139_321 rfl (s_139_323))))))))))))))))))))))))))))))))))))))))
theorem s_139_219 {Γ : m_G} : m_ok Γ m_tab 139 M_139 219 (g_139_219) := ok_aastA (pc := 219) d_139_219 rfl (ok_dup (pc := 220) d_139_220 (ok_bi (pc := 221) d_139_221 rfl (ok_ic (pc := 223) d_139_223 rfl (ok_newa (pc := 224) d_139_224 rfl w_88 (ok_dup (pc := 226) d_139_226 (ok_ic (pc := 227) d_139_227 rfl (ok_bi (pc := 228) d_139_228 rfl (ok_iast (pc := 230) d_139_230 (ok_dup (pc := 231) d_139_231 (ok_ic (pc := 232) d_139_232 rfl (ok_bi (pc := 233) d_139_233 rfl (ok_iast (pc := 235) d_139_235 (ok_dup (pc := 236) d_139_236 (ok_ic (pc := 237) d_139_237 rfl (ok_bi (pc := 238) d_139_238 rfl (ok_iast (pc := 240) d_139_240 (ok_aastA (pc := 241) d_139_241 rfl (ok_dup (pc := 242) d_139_242 (ok_bi (pc := 243) d_139_243 rfl (ok_ic (pc := 245) d_139_245 rfl (ok_newa (pc := 246) d_139_246 rfl w_88 (ok_dup (pc := 248) d_139_248 (ok_ic (pc := 249) d_139_249 rfl (ok_bi (pc := 250) d_139_250 rfl (ok_iast (pc := 252) d_139_252 (ok_dup (pc := 253) d_139_253 (ok_ic (pc := 254) d_139_254 rfl (ok_bi (pc := 255) d_139_255 rfl (ok_iast (pc := 257) d_139_257 (ok_dup (pc := 258) d_139_258 (ok_ic (pc := 259) d_139_259 rfl (ok_bi (pc := 260) d_139_260 rfl (ok_iast (pc := 262) d_139_262 (ok_aastA (pc := 263) d_139_263 rfl (ok_dup (pc := 264) d_139_264 (ok_bi (pc := 265) d_139_265 rfl (ok_ic (pc := 267) d_139_267 rfl (ok_newa (pc := 268) d_139_268 rfl w_88 (ok_dup (pc := 270) d_139_270 (s_139_271))))))))))))))))))))))))))))))))))))))))
theorem s_139_169 {Γ : m_G} : m_ok Γ m_tab 139 M_139 169 (g_139_169) := ok_ic (pc := 169) d_139_169 rfl (ok_bi (pc := 170) d_139_170 rfl (ok_iast (pc := 172) d_139_172 (ok_dup (pc := 173) d_139_173 (ok_ic (pc := 174) d_139_174 rfl (ok_bi (pc := 175) d_139_175 rfl (ok_iast (pc := 177) d_139_177 (ok_dup (pc := 178) d_139_178 (ok_ic (pc := 179) d_139_179 rfl (ok_bi (pc := 180) d_139_180 rfl (ok_iast (pc := 182) d_139_182 (ok_dup (pc := 183) d_139_183 (ok_ic (pc := 184) d_139_184 rfl (ok_bi (pc := 185) d_139_185 rfl (ok_iast (pc := 187) d_139_187 (ok_aastA (pc := 188) d_139_188 rfl (ok_dup (pc := 189) d_139_189 (ok_ic (pc := 190) d_139_190 rfl (ok_ic (pc := 191) d_139_191 rfl (ok_newa (pc := 192) d_139_192 rfl w_88 (ok_dup (pc := 194) d_139_194 (ok_ic (pc := 195) d_139_195 rfl (ok_bi (pc := 196) d_139_196 rfl (ok_iast (pc := 198) d_139_198 (ok_dup (pc := 199) d_139_199 (ok_ic (pc := 200) d_139_200 rfl (ok_bi (pc := 201) d_139_201 rfl (ok_iast (pc := 203) d_139_203 (ok_dup (pc := 204) d_139_204 (ok_ic (pc := 205) d_139_205 rfl (ok_bi (pc := 206) d_139_206 rfl (ok_iast (pc := 208) d_139_208 (ok_dup (pc := 209) d_139_209 (ok_ic (pc := 210) d_139_210 rfl (ok_bi (pc := 211) d_139_211 rfl (ok_iast (pc := 213) d_139_213 (ok_dup (pc := 214) d_139_214 (ok_ic (pc := 215) d_139_215 rfl (ok_bi (pc := 216) d_139_216 rfl (ok_iast (pc := 218) d_139_218 (s_139_219))))))))))))))))))))))))))))))))))))))))
theorem s_139_119 {Γ : m_G} : m_ok Γ m_tab 139 M_139 119 (g_139_119) := ok_iast (pc := 119) d_139_119 (ok_dup (pc := 120) d_139_120 (ok_ic (pc := 121) d_139_121 rfl (ok_bi (pc := 122) d_139_122 rfl (ok_iast (pc := 124) d_139_124 (ok_aastA (pc := 125) d_139_125 rfl (ok_dup (pc := 126) d_139_126 (ok_ic (pc := 127) d_139_127 rfl (ok_bi (pc := 128) d_139_128 rfl (ok_newa (pc := 130) d_139_130 rfl w_88 (ok_dup (pc := 132) d_139_132 (ok_ic (pc := 133) d_139_133 rfl (ok_bi (pc := 134) d_139_134 rfl (ok_iast (pc := 136) d_139_136 (ok_dup (pc := 137) d_139_137 (ok_ic (pc := 138) d_139_138 rfl (ok_bi (pc := 139) d_139_139 rfl (ok_iast (pc := 141) d_139_141 (ok_dup (pc := 142) d_139_142 (ok_ic (pc := 143) d_139_143 rfl (ok_bi (pc := 144) d_139_144 rfl (ok_iast (pc := 146) d_139_146 (ok_dup (pc := 147) d_139_147 (ok_ic (pc := 148) d_139_148 rfl (ok_bi (pc := 149) d_139_149 rfl (ok_iast (pc := 151) d_139_151 (ok_dup (pc := 152) d_139_152 (ok_ic (pc := 153) d_139_153 rfl (ok_bi (pc := 154) d_139_154 rfl (ok_iast (pc := 156) d_139_156 (ok_dup (pc := 157) d_139_157 (ok_ic (pc := 158) d_139_158 rfl (ok_bi (pc := 159) d_139_159 rfl (ok_iast (pc := 161) d_139_161 (ok_aastA (pc := 162) d_139_162 rfl (ok_dup (pc := 163) d_139_163 (ok_ic (pc := 164) d_139_164 rfl (ok_ic (pc := 165) d_139_165 rfl (ok_newa (pc := 166) d_139_166 rfl w_88 (ok_dup (pc := 168) d_139_168 (s_139_169))))))))))))))))))))))))))))))))))))))))
theorem s_139_69 {Γ : m_G} : m_ok Γ m_tab 139 M_139 69 (g_139_69) := ok_ic (pc := 69) d_139_69 rfl (ok_bi (pc := 70) d_139_70 rfl (ok_iast (pc := 72) d_139_72 (ok_dup (pc := 73) d_139_73 (ok_ic (pc := 74) d_139_74 rfl (ok_bi (pc := 75) d_139_75 rfl (ok_iast (pc := 77) d_139_77 (ok_dup (pc := 78) d_139_78 (ok_ic (pc := 79) d_139_79 rfl (ok_bi (pc := 80) d_139_80 rfl (ok_iast (pc := 82) d_139_82 (ok_aastA (pc := 83) d_139_83 rfl (ok_dup (pc := 84) d_139_84 (ok_ic (pc := 85) d_139_85 rfl (ok_ic (pc := 86) d_139_86 rfl (ok_newa (pc := 87) d_139_87 rfl w_88 (ok_dup (pc := 89) d_139_89 (ok_ic (pc := 90) d_139_90 rfl (ok_bi (pc := 91) d_139_91 rfl (ok_iast (pc := 93) d_139_93 (ok_dup (pc := 94) d_139_94 (ok_ic (pc := 95) d_139_95 rfl (ok_bi (pc := 96) d_139_96 rfl (ok_iast (pc := 98) d_139_98 (ok_aastA (pc := 99) d_139_99 rfl (ok_dup (pc := 100) d_139_100 (ok_ic (pc := 101) d_139_101 rfl (ok_ic (pc := 102) d_139_102 rfl (ok_newa (pc := 103) d_139_103 rfl w_88 (ok_dup (pc := 105) d_139_105 (ok_ic (pc := 106) d_139_106 rfl (ok_bi (pc := 107) d_139_107 rfl (ok_iast (pc := 109) d_139_109 (ok_dup (pc := 110) d_139_110 (ok_ic (pc := 111) d_139_111 rfl (ok_bi (pc := 112) d_139_112 rfl (ok_iast (pc := 114) d_139_114 (ok_dup (pc := 115) d_139_115 (ok_ic (pc := 116) d_139_116 rfl (ok_bi (pc := 117) d_139_117 rfl (s_139_119))))))))))))))))))))))))))))))))))))))))
theorem s_139_0 {Γ : m_G} : m_ok Γ m_tab 139 M_139 0 (g_139_0) := ok_al_n (pc := 0) d_139_0 rfl (ok_oi (pc := 1) d_139_1 w_898 w_27 w_28 (ok_al_n (pc := 4) d_139_4 rfl (ok_bi (pc := 5) d_139_5 rfl (ok_newa (pc := 7) d_139_7 rfl w_88 (ok_putf (pc := 9) d_139_9 w_913 (hc1 ⟨_, _, _, tyX12, cl_12, in_12, by decide, rfl, rfl, rfl, tyX12_ok, nmX12, Or.inr ⟨rfl, rfl, rfl⟩⟩) pd_1 vt_A (ok_al_n (pc := 12) d_139_12 rfl (ok_bi (pc := 13) d_139_13 rfl (ok_newa (pc := 15) d_139_15 rfl w_88 (ok_putf (pc := 17) d_139_17 w_914 (hc1 ⟨_, _, _, tyX12, cl_12, in_12, by decide, rfl, rfl, rfl, tyX12_ok, nmX12, Or.inr ⟨rfl, rfl, rfl⟩⟩) pd_1 vt_A (ok_al_n (pc := 20) d_139_20 rfl (ok_bi (pc := 21) d_139_21 rfl (ok_newa (pc := 23) d_139_23 rfl w_88 (ok_putf (pc := 25) d_139_25 w_915 (hc1 ⟨_, _, _, tyX12, cl_12, in_12, by decide, rfl, rfl, rfl, tyX12_ok, nmX12, Or.inr ⟨rfl, rfl, rfl⟩⟩) pd_1 vt_A (ok_al_n (pc := 28) d_139_28 rfl (ok_ic (pc := 29) d_139_29 rfl (ok_newa (pc := 30) d_139_30 rfl w_88 (ok_putf (pc := 32) d_139_32 w_916 (hc1 ⟨_, _, _, tyX12, cl_12, in_12, by decide, rfl, rfl, rfl, tyX12_ok, nmX12, Or.inr ⟨rfl, rfl, rfl⟩⟩) pd_1 vt_A (ok_al_n (pc := 35) d_139_35 rfl (ok_ic (pc := 36) d_139_36 rfl (ok_newa (pc := 37) d_139_37 rfl w_88 (ok_putf (pc := 39) d_139_39 w_917 (hc1 ⟨_, _, _, tyX12, cl_12, in_12, by decide, rfl, rfl, rfl, tyX12_ok, nmX12, Or.inr ⟨rfl, rfl, rfl⟩⟩) pd_1 vt_A (ok_al_n (pc := 42) d_139_42 rfl (ok_ic (pc := 43) d_139_43 rfl (ok_putf (pc := 44) d_139_44 w_918 (hc1 ⟨_, _, _, tyX12, cl_12, in_12, by decide, rfl, rfl, rfl, tyX12_ok, nmX12, Or.inl rfl⟩) pd_0 vt_I (ok_al_n (pc := 47) d_139_47 rfl (ok_ic (pc := 48) d_139_48 rfl (ok_putf (pc := 49) d_139_49 w_919 (hc1 ⟨_, _, _, tyX12, cl_12, in_12, by decide, rfl, rfl, rfl, tyX12_ok, nmX12, Or.inl rfl⟩) pd_0 vt_I (ok_al_n (pc := 52) d_139_52 rfl (ok_bi (pc := 53) d_139_53 rfl (ok_anewA (pc := 55) d_139_55 w_899 rfl (ok_dup (pc := 58) d_139_58 (ok_ic (pc := 59) d_139_59 rfl (ok_ic (pc := 60) d_139_60 rfl (ok_newa (pc := 61) d_139_61 rfl w_88 (ok_dup (pc := 63) d_139_63 (ok_ic (pc := 64) d_139_64 rfl (ok_bi (pc := 65) d_139_65 rfl (ok_iast (pc := 67) d_139_67 (ok_dup (pc := 68) d_139_68 (s_139_69))))))))))))))))))))))))))))))))))))))))
theorem tst_139 {Γ : m_G} (q : Nat) : m_ts Γ (t_139 q) q := ts_n (ts_l (k := 139) (pc := 0) tb_139 rfl (by decide) s_139_0) (ts_n (ts_l (k := 139) (pc := 501) tb_139 rfl (by decide) s_139_501) (ts_l (k := 139) (pc := 519) tb_139 rfl (by decide) s_139_519))
theorem d_140_0 : decode prog_14_method_2_code 0 = .ok (.iload_n 0, 1) := by decide +kernel
theorem d_140_1 : decode prog_14_method_2_code 1 = .ok (.iload_n 1, 1) := by decide +kernel
theorem d_140_2 : decode prog_14_method_2_code 2 = .ok (.if_icmp .lt 12, 3) := by decide +kernel
theorem d_140_5 : decode prog_14_method_2_code 5 = .ok (.iload_n 0, 1) := by decide +kernel
theorem d_140_6 : decode prog_14_method_2_code 6 = .ok (.iload_n 2, 1) := by decide +kernel
theorem d_140_7 : decode prog_14_method_2_code 7 = .ok (.if_icmp .gt 7, 3) := by decide +kernel
theorem d_140_10 : decode prog_14_method_2_code 10 = .ok (.iconst 1, 1) := by decide +kernel
theorem d_140_11 : decode prog_14_method_2_code 11 = .ok (.goto 4, 3) := by decide +kernel
theorem d_140_14 : decode prog_14_method_2_code 14 = .ok (.iconst 0, 1) := by decide +kernel
theorem d_140_15 : decode prog_14_method_2_code 15 = .ok (.ireturn, 1) := by decide +kernel
theorem s_140_15 {Γ : m_G} : m_ok Γ m_tab 140 M_140 15 (g_140_15) := ok_rz (pc := 15) d_140_15 rfl
theorem s_140_14 {Γ : m_G} : m_ok Γ m_tab 140 M_140 14 (g_140_14) := ok_ic (pc := 14) d_140_14 rfl (s_140_15)
theorem s_140_0 {Γ : m_G} : m_ok Γ m_tab 140 M_140 0 (g_140_0) := ok_il_n (pc := 0) d_140_0 rfl (ok_il_n (pc := 1) d_140_1 rfl (ok_cilt (pc := 2) (t := 14) d_140_2 rfl (by decide) rfl (ok_il_n (pc := 5) d_140_5 rfl (ok_il_n (pc := 6) d_140_6 rfl (ok_cigt (pc := 7) (t := 14) d_140_7 rfl (by decide) rfl (ok_ic (pc := 10) d_140_10 rfl (ok_go (pc := 11) (t := 15) d_140_11 rfl (by decide) rfl)))))))
theorem tst_140 {Γ : m_G} (q : Nat) : m_ts Γ (t_140 q) q := ts_n (ts_l (k := 140) (pc := 0) tb_140 rfl (by decide) s_140_0) (ts_n (ts_l (k := 140) (pc := 14) tb_140 rfl (by decide) s_140_14) (ts_l (k := 140) (pc := 15) tb_140 rfl (by decide) s_140_15))
theorem d_141_0 : decode prog_14_method_3_code 0 = .ok (.aload_n 0, 1) := by decide +kernel
theorem d_141_1 : decode prog_14_method_3_code 1 = .ok (.iload_n 1, 1) := by decide +kernel
theorem d_141_2 : decode prog_14_method_3_code 2 = .ok (.putfield 25, 3) := by decide +kernel
theorem d_141_5 : decode prog_14_method_3_code 5 = .ok (.aload_n 0, 1) := by decide +kernel
theorem d_141_6 : decode prog_14_method_3_code 6 = .ok (.iload_n 2, 1) := by decide +kernel
theorem d_141_7 : decode prog_14_method_3_code 7 = .ok (.putfield 29, 3) := by decide +kernel
theorem d_141_10 : decode prog_14_method_3_code 10 = .ok (.iconst 0, 1) := by decide +kernel
theorem d_141_11 : decode prog_14_method_3_code 11 = .ok (.istore_n 3, 1) := by decide +kernel
theorem d_141_12 : decode prog_14_method_3_code 12 = .ok (.iload_n 3, 1) := by decide +kernel
theorem d_141_13 : decode prog_14_method_3_code 13 = .ok (.bipush 6, 2) := by decide +kernel
theorem d_141_15 : decode prog_14_method_3_code 15 = .ok (.if_icmp .ge 76, 3) := by decide +kernel
theorem d_141_18 : decode prog_14_method_3_code 18 = .ok (.aload_n 0, 1) := by decide +kernel
theorem d_141_19 : decode prog_14_method_3_code 19 = .ok (.getfield 7, 3) := by decide +kernel
theorem d_141_22 : decode prog_14_method_3_code 22 = .ok (.iload_n 3, 1) := by decide +kernel
theorem d_141_23 : decode prog_14_method_3_code 23 = .ok (.iconst 0, 1) := by decide +kernel
theorem d_141_24 : decode prog_14_method_3_code 24 = .ok (.iastore, 1) := by decide +kernel
theorem d_141_25 : decode prog_14_method_3_code 25 = .ok (.iload_n 3, 1) := by decide +kernel
theorem d_141_26 : decode prog_14_method_3_code 26 = .ok (.ifCond .le 22, 3) := by decide +kernel
theorem d_141_29 : decode prog_14_method_3_code 29 = .ok (.iload_n 3, 1) := by decide +kernel
theorem d_141_30 : decode prog_14_method_3_code 30 = .ok (.iload_n 1, 1) := by decide +kernel
theorem d_141_31 : decode prog_14_method_3_code 31 = .ok (.if_icmp .ge 17, 3) := by decide +kernel
theorem d_141_34 : decode prog_14_method_3_code 34 = .ok (.aload_n 0, 1) := by decide +kernel
theorem d_141_35 : decode prog_14_method_3_code 35 = .ok (.getfield 7, 3) := by decide +kernel
theorem d_141_38 : decode prog_14_method_3_code 38 = .ok (.iload_n 3, 1) := by decide +kernel
theorem d_141_39 : decode prog_14_method_3_code 39 = .ok (.dup2, 1) := by decide +kernel
theorem d_141_40 : decode prog_14_method_3_code 40 = .ok (.iaload, 1) := by decide +kernel
theorem d_141_41 : decode prog_14_method_3_code 41 = .ok (.iconst 1, 1) := by decide +kernel
theorem d_141_42 : decode prog_14_method_3_code 42 = .ok (.iload_n 3, 1) := by decide +kernel
theorem d_141_43 : decode prog_14_method_3_code 43 = .ok (.iconst 1, 1) := by decide +kernel
theorem d_141_44 : decode prog_14_method_3_code 44 = .ok (.isub, 1) := by decide +kernel
theorem d_141_45 : decode prog_14_method_3_code 45 = .ok (.ishl, 1) := by decide +kernel
theorem d_141_46 : decode prog_14_method_3_code 46 = .ok (.ior, 1) := by decide +kernel
theorem d_141_47 : decode prog_14_method_3_code 47 = .ok (.iastore, 1) := by decide +kernel
theorem d_141_48 : decode prog_14_method_3_code 48 = .ok (.iload_n 3, 1) := by decide +kernel
theorem d_141_49 : decode prog_14_method_3_code 49 = .ok (.iconst 1, 1) := by decide +kernel
theorem d_141_50 : decode prog_14_method_3_code 50 = .ok (.iadd, 1) := by decide +kernel
theorem d_141_51 : decode prog_14_method_3_code 51 = .ok (.iload_n 1, 1) := by decide +kernel
theorem d_141_52 : decode prog_14_method_3_code 52 = .ok (.if_icmp .ge 17, 3) := by decide +kernel
theorem d_141_55 : decode prog_14_method_3_code 55 = .ok (.aload_n 0, 1) := by decide +kernel
theorem d_141_56 : decode prog_14_method_3_code 56 = .ok (.getfield 7, 3) := by decide +kernel
theorem d_141_59 : decode prog_14_method_3_code 59 = .ok (.iload_n 3, 1) := by decide +kernel
theorem d_141_60 : decode prog_14_method_3_code 60 = .ok (.dup2, 1) := by decide +kernel
theorem d_141_61 : decode prog_14_method_3_code 61 = .ok (.iaload, 1) := by decide +kernel
theorem d_141_62 : decode prog_14_method_3_code 62 = .ok (.iconst 1, 1) := by decide +kernel
theorem d_141_63 : decode prog_14_method_3_code 63 = .ok (.iload_n 3, 1) := by decide +kernel
theorem d_141_64 : decode prog_14_method_3_code 64 = .ok (.iconst 1, 1) := by decide +kernel
theorem d_141_65 : decode prog_14_method_3_code 65 = .ok (.iadd, 1) := by decide +kernel
theorem d_141_66 : decode prog_14_method_3_code 66 = .ok (.ishl, 1) := by decide +kernel
theorem d_141_67 : decode prog_14_method_3_code 67 = .ok (.ior, 1) := by decide +kernel
theorem d_141_68 : decode prog_14_method_3_code 68 = .ok (.iastore, 1) := by decide +kernel
theorem d_141_69 : decode prog_14_method_3_code 69 = .ok (.aload_n 0, 1) := by decide +kernel
theorem d_141_70 : decode prog_14_method_3_code 70 = .ok (.getfield 13, 3) := by decide +kernel
theorem d_141_73 : decode prog_14_method_3_code 73 = .ok (.iload_n 3, 1) := by decide +kernel
theorem d_141_74 : decode prog_14_method_3_code 74 = .ok (.iload_n 3, 1) := by decide +kernel
theorem d_141_75 : decode prog_14_method_3_code 75 = .ok (.iconst 2, 1) := by decide +kernel
theorem d_141_76 : decode prog_14_method_3_code 76 = .ok (.irem, 1) := by decide +kernel
theorem d_141_77 : decode prog_14_method_3_code 77 = .ok (.iastore, 1) := by decide +kernel
theorem d_141_78 : decode prog_14_method_3_code 78 = .ok (.aload_n 0, 1) := by decide +kernel
theorem d_141_79 : decode prog_14_method_3_code 79 = .ok (.getfield 16, 3) := by decide +kernel
theorem d_141_82 : decode prog_14_method_3_code 82 = .ok (.iload_n 3, 1) := by decide +kernel
theorem d_141_83 : decode prog_14_method_3_code 83 = .ok (.iconst (-1), 1) := by decide +kernel
theorem d_141_84 : decode prog_14_method_3_code 84 = .ok (.iastore, 1) := by decide +kernel
theorem d_141_85 : decode prog_14_method_3_code 85 = .ok (.iinc 3 1, 3) := by decide +kernel
theorem d_141_88 : decode prog_14_method_3_code 88 = .ok (.goto (-76), 3) := by decide +kernel
theorem d_141_91 : decode prog_14_method_3_code 91 = .ok (.aload_n 0, 1) := by decide +kernel
theorem d_141_92 : decode prog_14_method_3_code 92 = .ok (.iconst 0, 1) := by decide +kernel
theorem d_141_93 : decode prog_14_method_3_code 93 = .ok (.putfield 98, 3) := by decide +kernel
theorem d_141_96 : decode prog_14_method_3_code 96 = .ok (.aload_n 0, 1) := by decide +kernel
theorem d_141_97 : decode prog_14_method_3_code 97 = .ok (.iconst 0, 1) := by decide +kernel
theorem d_141_98 : decode prog_14_method_3_code 98 = .ok (.putfield 101, 3) := by decide +kernel
theorem d_141_101 : decode prog_14_method_3_code 101 = .ok (.aload_n 0, 1) := by decide +kernel
theorem d_141_102 : decode prog_14_method_3_code 102 = .ok (.iconst 0, 1) := by decide +kernel
theorem d_141_103 : decode prog_14_method_3_code 103 = .ok (.putfield 104, 3) := by decide +kernel
theorem d_141_106 : decode prog_14_method_3_code 106 = .ok (.return_, 1) := by decide +kernel
theorem s_141_91 {Γ : m_G} : m_ok Γ m_tab 141 M_141 91 (g_141_91) := ok_al_n (pc := 91) d_141_91 rfl (ok_ic (pc := 92) d_141_92 rfl (ok_putf (pc := 93) d_141_93 w_920 (hc1 ⟨_, _, _, tyX12, cl_12, in_12, by decide, rfl, rfl, rfl, tyX12_ok, nmX12, Or.inl rfl⟩) pd_0 vt_I (ok_al_n (pc := 96) d_141_96 rfl (ok_ic (pc := 97) d_141_97 rfl (ok_putf (pc := 98) d_141_98 w_921 (hc1 ⟨_, _, _, tyX12, cl_12, in_12, by decide, rfl, rfl, rfl, tyX12_ok, nmX12, Or.inl rfl⟩) pd_0 vt_I (ok_al_n (pc := 101) d_141_101 rfl (ok_ic (pc := 102) d_141_102 rfl (ok_putf (pc := 103) d_141_103 w_924 (hc1 ⟨_, _, _, tyX12, cl_12, in_12, by decide, rfl, rfl, rfl, tyX12_ok, nmX12, Or.inl rfl⟩) pd_4 vt_Z (ok_rv (pc := 106) d_141_106 rfl)))))))))
theorem s_141_69 {Γ : m_G} : m_ok Γ m_tab 141 M_141 69 (g_141_69) := ok_al_n (pc := 69) d_141_69 rfl (ok_getf (pc := 70) d_141_70 w_914 (hc1 fo_72) (ok_il_n (pc := 73) d_141_73 rfl (ok_il_n (pc := 74) d_141_74 rfl (ok_ic (pc := 75) d_141_75 rfl (ok_rem (pc := 76) d_141_76 (ok_iast (pc := 77) d_141_77 (ok_al_n (pc := 78) d_141_78 rfl (ok_getf (pc := 79) d_141_79 w_915 (hc1 fo_71) (ok_il_n (pc := 82) d_141_82 rfl (ok_ic (pc := 83) d_141_83 rfl (ok_iast (pc := 84) d_141_84 (ok_inc (pc := 85) d_141_85 rfl (by decide) (ok_go (pc := 88) (t := 12) d_141_88 rfl (by decide) rfl)))))))))))))
theorem s_141_48 {Γ : m_G} : m_ok Γ m_tab 141 M_141 48 (g_141_48) := ok_il_n (pc := 48) d_141_48 rfl (ok_ic (pc := 49) d_141_49 rfl (ok_add (pc := 50) d_141_50 (ok_il_n (pc := 51) d_141_51 rfl (ok_cige (pc := 52) (t := 69) d_141_52 rfl (by decide) rfl (ok_al_n (pc := 55) d_141_55 rfl (ok_getf (pc := 56) d_141_56 w_913 (hc1 fo_73) (ok_il_n (pc := 59) d_141_59 rfl (ok_dup2 (pc := 60) d_141_60 (ok_iald (pc := 61) d_141_61 (ok_ic (pc := 62) d_141_62 rfl (ok_il_n (pc := 63) d_141_63 rfl (ok_ic (pc := 64) d_141_64 rfl (ok_add (pc := 65) d_141_65 (ok_shl (pc := 66) d_141_66 (ok_or (pc := 67) d_141_67 (ok_iast (pc := 68) d_141_68 (s_141_69)))))))))))))))))
theorem s_141_12 {Γ : m_G} : m_ok Γ m_tab 141 M_141 12 (g_141_12) := ok_il_n (pc := 12) d_141_12 rfl (ok_bi (pc := 13) d_141_13 rfl (ok_cige (pc := 15) (t := 91) d_141_15 rfl (by decide) rfl (ok_al_n (pc := 18) d_141_18 rfl (ok_getf (pc := 19) d_141_19 w_913 (hc1 fo_73) (ok_il_n (pc := 22) d_141_22 rfl (ok_ic (pc := 23) d_141_23 rfl (ok_iast (pc := 24) d_141_24 (ok_il_n (pc := 25) d_141_25 rfl (ok_czle (pc := 26) (t := 48) d_141_26 rfl (by decide) rfl (ok_il_n (pc := 29) d_141_29 rfl (ok_il_n (pc := 30) d_141_30 rfl (ok_cige (pc := 31) (t := 48) d_141_31 rfl (by decide) rfl (ok_al_n (pc := 34) d_141_34 rfl (ok_getf (pc := 35) d_141_35 w_913 (hc1 fo_73) (ok_il_n (pc := 38) d_141_38 rfl (ok_dup2 (pc := 39) d_141_39 (ok_iald (pc := 40) d_141_40 (ok_ic (pc := 41) d_141_41 rfl (ok_il_n (pc := 42) d_141_42 rfl (ok_ic (pc := 43) d_141_43 rfl (ok_sub (pc := 44) d_141_44 (ok_shl (pc := 45) d_141_45 (ok_or (pc := 46) d_141_46 (ok_iast (pc := 47) d_141_47 (s_141_48)))))))))))))))))))))))))
theorem s_141_0 {Γ : m_G} : m_ok Γ m_tab 141 M_141 0 (g_141_0) := ok_al_n (pc := 0) d_141_0 rfl (ok_il_n (pc := 1) d_141_1 rfl (ok_putf (pc := 2) d_141_2 w_918 (hc1 ⟨_, _, _, tyX12, cl_12, in_12, by decide, rfl, rfl, rfl, tyX12_ok, nmX12, Or.inl rfl⟩) pd_0 vt_I (ok_al_n (pc := 5) d_141_5 rfl (ok_il_n (pc := 6) d_141_6 rfl (ok_putf (pc := 7) d_141_7 w_919 (hc1 ⟨_, _, _, tyX12, cl_12, in_12, by decide, rfl, rfl, rfl, tyX12_ok, nmX12, Or.inl rfl⟩) pd_0 vt_I (ok_ic (pc := 10) d_141_10 rfl (ok_is_n (pc := 11) d_141_11 rfl (by decide) (s_141_12))))))))
theorem tst_141 {Γ : m_G} (q : Nat) : m_ts Γ (t_141 q) q := ts_n (ts_n (ts_l (k := 141) (pc := 0) tb_141 rfl (by decide) s_141_0) (ts_l (k := 141) (pc := 12) tb_141 rfl (by decide) s_141_12)) (ts_n (ts_l (k := 141) (pc := 48) tb_141 rfl (by decide) s_141_48) (ts_n (ts_l (k := 141) (pc := 69) tb_141 rfl (by decide) s_141_69) (ts_l (k := 141) (pc := 91) tb_141 rfl (by decide) s_141_91)))
theorem d_142_0 : decode prog_14_method_4_code 0 = .ok (.iload_n 1, 1) := by decide +kernel
theorem d_142_1 : decode prog_14_method_4_code 1 = .ok (.ifCond .lt 15, 3) := by decide +kernel
theorem d_142_4 : decode prog_14_method_4_code 4 = .ok (.iload_n 1, 1) := by decide +kernel
theorem d_142_5 : decode prog_14_method_4_code 5 = .ok (.aload_n 0, 1) := by decide +kernel
theorem d_142_6 : decode prog_14_method_4_code 6 = .ok (.getfield 25, 3) := by decide +kernel
theorem d_142_9 : decode prog_14_method_4_code 9 = .ok (.if_icmp .ge 7, 3) := by decide +kernel
theorem d_142_12 : decode prog_14_method_4_code 12 = .ok (.iconst 1, 1) := by decide +kernel
theorem d_142_13 : decode prog_14_method_4_code 13 = .ok (.goto 4, 3) := by decide +kernel
theorem d_142_16 : decode prog_14_method_4_code 16 = .ok (.iconst 0, 1) := by decide +kernel
theorem d_142_17 : decode prog_14_method_4_code 17 = .ok (.ireturn, 1) := by decide +kernel
theorem s_142_17 {Γ : m_G} : m_ok Γ m_tab 142 M_142 17 (g_142_17) := ok_rz (pc := 17) d_142_17 rfl
theorem s_142_16 {Γ : m_G} : m_ok Γ m_tab 142 M_142 16 (g_142_16) := ok_ic (pc := 16) d_142_16 rfl (s_142_17)
theorem s_142_0 {Γ : m_G} : m_ok Γ m_tab 142 M_142 0 (g_142_0) := ok_il_n (pc := 0) d_142_0 rfl (ok_czlt (pc := 1) (t := 16) d_142_1 rfl (by decide) rfl (ok_il_n (pc := 4) d_142_4 rfl (ok_al_n (pc := 5) d_142_5 rfl (ok_getf (pc := 6) d_142_6 w_918 (hc1 fo_74) (ok_cige (pc := 9) (t := 16) d_142_9 rfl (by decide) rfl (ok_ic (pc := 12) d_142_12 rfl (ok_go (pc := 13) (t := 17) d_142_13 rfl (by decide) rfl)))))))
theorem tst_142 {Γ : m_G} (q : Nat) : m_ts Γ (t_142 q) q := ts_n (ts_l (k := 142) (pc := 0) tb_142 rfl (by decide) s_142_0) (ts_n (ts_l (k := 142) (pc := 16) tb_142 rfl (by decide) s_142_16) (ts_l (k := 142) (pc := 17) tb_142 rfl (by decide) s_142_17))
theorem d_143_0 : decode prog_14_method_5_code 0 = .ok (.iload_n 1, 1) := by decide +kernel
theorem d_143_1 : decode prog_14_method_5_code 1 = .ok (.ifCond .lt 15, 3) := by decide +kernel
theorem d_143_4 : decode prog_14_method_5_code 4 = .ok (.iload_n 1, 1) := by decide +kernel
theorem d_143_5 : decode prog_14_method_5_code 5 = .ok (.aload_n 0, 1) := by decide +kernel
theorem d_143_6 : decode prog_14_method_5_code 6 = .ok (.getfield 29, 3) := by decide +kernel
theorem d_143_9 : decode prog_14_method_5_code 9 = .ok (.if_icmp .ge 7, 3) := by decide +kernel
theorem d_143_12 : decode prog_14_method_5_code 12 = .ok (.iconst 1, 1) := by decide +kernel
theorem d_143_13 : decode prog_14_method_5_code 13 = .ok (.goto 4, 3) := by decide +kernel
theorem d_143_16 : decode prog_14_method_5_code 16 = .ok (.iconst 0, 1) := by decide +kernel
theorem d_143_17 : decode prog_14_method_5_code 17 = .ok (.ireturn, 1) := by decide +kernel
theorem s_143_17 {Γ : m_G} : m_ok Γ m_tab 143 M_143 17 (g_143_17) := ok_rz (pc := 17) d_143_17 rfl
theorem s_143_16 {Γ : m_G} : m_ok Γ m_tab 143 M_143 16 (g_143_16) := ok_ic (pc := 16) d_143_16 rfl (s_143_17)
theorem s_143_0 {Γ : m_G} : m_ok Γ m_tab 143 M_143 0 (g_143_0) := ok_il_n (pc := 0) d_143_0 rfl (ok_czlt (pc := 1) (t := 16) d_143_1 rfl (by decide) rfl (ok_il_n (pc := 4) d_143_4 rfl (ok_al_n (pc := 5) d_143_5 rfl (ok_getf (pc := 6) d_143_6 w_919 (hc1 fo_75) (ok_cige (pc := 9) (t := 16) d_143_9 rfl (by decide) rfl (ok_ic (pc := 12) d_143_12 rfl (ok_go (pc := 13) (t := 17) d_143_13 rfl (by decide) rfl)))))))
theorem tst_143 {Γ : m_G} (q : Nat) : m_ts Γ (t_143 q) q := ts_n (ts_l (k := 143) (pc := 0) tb_143 rfl (by decide) s_143_0) (ts_n (ts_l (k := 143) (pc := 16) tb_143 rfl (by decide) s_143_16) (ts_l (k := 143) (pc := 17) tb_143 rfl (by decide) s_143_17))
theorem d_144_0 : decode prog_14_method_6_code 0 = .ok (.iconst 1, 1) := by decide +kernel
theorem d_144_1 : decode prog_14_method_6_code 1 = .ok (.istore_n 2, 1) := by decide +kernel
theorem d_144_2 : decode prog_14_method_6_code 2 = .ok (.iconst 0, 1) := by decide +kernel
theorem d_144_3 : decode prog_14_method_6_code 3 = .ok (.istore_n 3, 1) := by decide +kernel
theorem d_144_4 : decode prog_14_method_6_code 4 = .ok (.iload_n 3, 1) := by decide +kernel
theorem d_144_5 : decode prog_14_method_6_code 5 = .ok (.iload_n 0, 1) := by decide +kernel
theorem d_144_6 : decode prog_14_method_6_code 6 = .ok (.if_icmp .ge 13, 3) := by decide +kernel
theorem d_144_9 : decode prog_14_method_6_code 9 = .ok (.iload_n 2, 1) := by decide +kernel
theorem d_144_10 : decode prog_14_method_6_code 10 = .ok (.iload_n 1, 1) := by decide +kernel
theorem d_144_11 : decode prog_14_method_6_code 11 = .ok (.imul, 1) := by decide +kernel
theorem d_144_12 : decode prog_14_method_6_code 12 = .ok (.istore_n 2, 1) := by decide +kernel
theorem d_144_13 : decode prog_14_method_6_code 13 = .ok (.iinc 3 1, 3) := by decide +kernel
theorem d_144_16 : decode prog_14_method_6_code 16 = .ok (.goto (-12), 3) := by decide +kernel
theorem d_144_19 : decode prog_14_method_6_code 19 = .ok (.iload_n 2, 1) := by decide +kernel
theorem d_144_20 : decode prog_14_method_6_code 20 = .ok (.ireturn, 1) := by decide +kernel
theorem s_144_19 {Γ : m_G} : m_ok Γ m_tab 144 M_144 19 (g_144_19) := ok_il_n (pc := 19) d_144_19 rfl (ok_ri (pc := 20) d_144_20 rfl)
theorem s_144_4 {Γ : m_G} : m_ok Γ m_tab 144 M_144 4 (g_144_4) := ok_il_n (pc := 4) d_144_4 rfl (ok_il_n (pc := 5) d_144_5 rfl (ok_cige (pc := 6) (t := 19) d_144_6 rfl (by decide) rfl (ok_il_n (pc := 9) d_144_9 rfl (ok_il_n (pc := 10) d_144_10 rfl (ok_mul (pc := 11) d_144_11 (ok_is_n (pc := 12) d_144_12 rfl (by decide) (ok_inc (pc := 13) d_144_13 rfl (by decide) (ok_go (pc := 16) (t := 4) d_144_16 rfl (by decide) rfl))))))))
theorem s_144_0 {Γ : m_G} : m_ok Γ m_tab 144 M_144 0 (g_144_0) := ok_ic (pc := 0) d_144_0 rfl (ok_is_n (pc := 1) d_144_1 rfl (by decide) (ok_ic (pc := 2) d_144_2 rfl (ok_is_n (pc := 3) d_144_3 rfl (by decide) (s_144_4))))
theorem tst_144 {Γ : m_G} (q : Nat) : m_ts Γ (t_144 q) q := ts_n (ts_l (k := 144) (pc := 0) tb_144 rfl (by decide) s_144_0) (ts_n (ts_l (k := 144) (pc := 4) tb_144 rfl (by decide) s_144_4) (ts_l (k := 144) (pc := 19) tb_144 rfl (by decide) s_144_19))
theorem d_145_0 : decode prog_14_method_7_code 0 = .ok (.iconst 0, 1) := by decide +kernel
theorem d_145_1 : decode prog_14_method_7_code 1 = .ok (.istore_n 1, 1) := by decide +kernel
theorem d_145_2 : decode prog_14_method_7_code 2 = .ok (.aload_n 0, 1) := by decide +kernel
theorem d_145_3 : decode prog_14_method_7_code 3 = .ok (.getfield 25, 3) := by decide +kernel
theorem d_145_6 : decode prog_14_method_7_code 6 = .ok (.iconst 1, 1) := by decide +kernel
theorem d_145_7 : decode prog_14_method_7_code 7 = .ok (.isub, 1) := by decide +kernel
theorem d_145_8 : decode prog_14_method_7_code 8 = .ok (.istore_n 2, 1) := by decide +kernel
theorem d_145_9 : decode prog_14_method_7_code 9 = .ok (.iload_n 2, 1) := by decide +kernel
theorem d_145_10 : decode prog_14_method_7_code 10 = .ok (.ifCond .lt 23, 3) := by decide +kernel
theorem d_145_13 : decode prog_14_method_7_code 13 = .ok (.iload_n 1, 1) := by decide +kernel
theorem d_145_14 : decode prog_14_method_7_code 14 = .ok (.aload_n 0, 1) := by decide +kernel
theorem d_145_15 : decode prog_14_method_7_code 15 = .ok (.getfield 29, 3) := by decide +kernel
theorem d_145_18 : decode prog_14_method_7_code 18 = .ok (.imul, 1) := by decide +kernel
theorem d_145_19 : decode prog_14_method_7_code 19 = .ok (.aload_n 0, 1) := by decide +kernel
theorem d_145_20 : decode prog_14_method_7_code 20 = .ok (.getfield 13, 3) := by decide +kernel
theorem d_145_23 : decode prog_14_method_7_code 23 = .ok (.iload_n 2, 1) := by decide +kernel
theorem d_145_24 : decode prog_14_method_7_code 24 = .ok (.iaload, 1) := by decide +kernel
theorem d_145_25 : decode prog_14_method_7_code 25 = .ok (.iadd, 1) := by decide +kernel
theorem d_145_26 : decode prog_14_method_7_code 26 = .ok (.istore_n 1, 1) := by decide +kernel
theorem d_145_27 : decode prog_14_method_7_code 27 = .ok (.iinc 2 (-1), 3) := by decide +kernel
theorem d_145_30 : decode prog_14_method_7_code 30 = .ok (.goto (-21), 3) := by decide +kernel
theorem d_145_33 : decode prog_14_method_7_code 33 = .ok (.iload_n 1, 1) := by decide +kernel
theorem d_145_34 : decode prog_14_method_7_code 34 = .ok (.ireturn, 1) := by decide +kernel
theorem s_145_33 {Γ : m_G} : m_ok Γ m_tab 145 M_145 33 (g_145_33) := ok_il_n (pc := 33) d_145_33 rfl (ok_ri (pc := 34) d_145_34 rfl)
theorem s_145_9 {Γ : m_G} : m_ok Γ m_tab 145 M_145 9 (g_145_9) := ok_il_n (pc := 9) d_145_9 rfl (ok_czlt (pc := 10) (t := 33) d_145_10 rfl (by decide) rfl (ok_il_n (pc := 13) d_145_13 rfl (ok_al_n (pc := 14) d_145_14 rfl (ok_getf (pc := 15) d_145_15 w_919 (hc1 fo_75) (ok_mul (pc := 18) d_145_18 (ok_al_n (pc := 19) d_145_19 rfl (ok_getf (pc := 20) d_145_20 w_914 (hc1 fo_72) (ok_il_n (pc := 23) d_145_23 rfl (ok_iald (pc := 24) d_145_24 (ok_add (pc := 25) d_145_25 (ok_is_n (pc := 26) d_145_26 rfl (by decide) (ok_inc (pc := 27) d_145_27 rfl (by decide) (ok_go (pc := 30) (t := 9) d_145_30 rfl (by decide) rfl)))))))))))))
theorem s_145_0 {Γ : m_G} : m_ok Γ m_tab 145 M_145 0 (g_145_0) := ok_ic (pc := 0) d_145_0 rfl (ok_is_n (pc := 1) d_145_1 rfl (by decide) (ok_al_n (pc := 2) d_145_2 rfl (ok_getf (pc := 3) d_145_3 w_918 (hc1 fo_74) (ok_ic (pc := 6) d_145_6 rfl (ok_sub (pc := 7) d_145_7 (ok_is_n (pc := 8) d_145_8 rfl (by decide) (s_145_9)))))))
theorem tst_145 {Γ : m_G} (q : Nat) : m_ts Γ (t_145 q) q := ts_n (ts_l (k := 145) (pc := 0) tb_145 rfl (by decide) s_145_0) (ts_n (ts_l (k := 145) (pc := 9) tb_145 rfl (by decide) s_145_9) (ts_l (k := 145) (pc := 33) tb_145 rfl (by decide) s_145_33))
theorem d_146_0 : decode prog_14_method_8_code 0 = .ok (.iload_n 1, 1) := by decide +kernel
theorem d_146_1 : decode prog_14_method_8_code 1 = .ok (.ifCond .lt 22, 3) := by decide +kernel
theorem d_146_4 : decode prog_14_method_8_code 4 = .ok (.iload_n 1, 1) := by decide +kernel
theorem d_146_5 : decode prog_14_method_8_code 5 = .ok (.aload_n 0, 1) := by decide +kernel
theorem d_146_6 : decode prog_14_method_8_code 6 = .ok (.getfield 25, 3) := by decide +kernel
theorem d_146_9 : decode prog_14_method_8_code 9 = .ok (.aload_n 0, 1) := by decide +kernel
theorem d_146_10 : decode prog_14_method_8_code 10 = .ok (.getfield 29, 3) := by decide +kernel
theorem d_146_13 : decode prog_14_method_8_code 13 = .ok (.invokestatic 108, 3) := by decide +kernel
theorem d_146_16 : decode prog_14_method_8_code 16 = .ok (.if_icmp .ge 7, 3) := by decide +kernel
theorem d_146_19 : decode prog_14_method_8_code 19 = .ok (.iconst 1, 1) := by decide +kernel
theorem d_146_20 : decode prog_14_method_8_code 20 = .ok (.goto 4, 3) := by decide +kernel
theorem d_146_23 : decode prog_14_method_8_code 23 = .ok (.iconst 0, 1) := by decide +kernel
theorem d_146_24 : decode prog_14_method_8_code 24 = .ok (.ireturn, 1) := by decide +kernel
theorem s_146_24 {Γ : m_G} : m_ok Γ m_tab 146 M_146 24 (g_146_24) := ok_rz (pc := 24) d_146_24 rfl
theorem s_146_23 {Γ : m_G} : m_ok Γ m_tab 146 M_146 23 (g_146_23) := ok_ic (pc := 23) d_146_23 rfl (s_146_24)
theorem s_146_0 {Γ : m_G} : m_ok Γ m_tab 146 M_146 0 (g_146_0) := ok_il_n (pc := 0) d_146_0 rfl (ok_czlt (pc := 1) (t := 23) d_146_1 rfl (by decide) rfl (ok_il_n (pc := 4) d_146_4 rfl (ok_al_n (pc := 5) d_146_5 rfl (ok_getf (pc := 6) d_146_6 w_918 (hc1 fo_74) (ok_al_n (pc := 9) d_146_9 rfl (ok_getf (pc := 10) d_146_10 w_919 (hc1 fo_75) (ok_cat (pc := 13) (k2 := 144) rfl tb_144 (by decide) (by decide) rfl (go_S d_146_13 w_1047 w_1048 w_11 w_1049 nn_144 (by decide)) (ok_cige (pc := 16) (t := 23) d_146_16 rfl (by decide) rfl (ok_ic (pc := 19) d_146_19 rfl (ok_go (pc := 20) (t := 24) d_146_20 rfl (by decide) rfl))))))))))
theorem tst_146 {Γ : m_G} (q : Nat) : m_ts Γ (t_146 q) q := ts_n (ts_l (k := 146) (pc := 0) tb_146 rfl (by decide) s_146_0) (ts_n (ts_l (k := 146) (pc := 23) tb_146 rfl (by decide) s_146_23) (ts_l (k := 146) (pc := 24) tb_146 rfl (by decide) s_146_24))
theorem d_147_0 : decode prog_14_method_9_code 0 = .ok (.iload_n 1, 1) := by decide +kernel
theorem d_147_1 : decode prog_14_method_9_code 1 = .ok (.iconst 1, 1) := by decide +kernel
theorem d_147_2 : decode prog_14_method_9_code 2 = .ok (.bipush 6, 2) := by decide +kernel
theorem d_147_4 : decode prog_14_method_9_code 4 = .ok (.invokestatic 112, 3) := by decide +kernel
theorem d_147_7 : decode prog_14_method_9_code 7 = .ok (.ifCond .eq 23, 3) := by decide +kernel
theorem d_147_10 : decode prog_14_method_9_code 10 = .ok (.iload_n 2, 1) := by decide +kernel
theorem d_147_11 : decode prog_14_method_9_code 11 = .ok (.iconst 2, 1) := by decide +kernel
theorem d_147_12 : decode prog_14_method_9_code 12 = .ok (.iconst 5, 1) := by decide +kernel
theorem d_147_13 : decode prog_14_method_9_code 13 = .ok (.invokestatic 112, 3) := by decide +kernel
theorem d_147_16 : decode prog_14_method_9_code 16 = .ok (.ifCond .eq 14, 3) := by decide +kernel
theorem d_147_19 : decode prog_14_method_9_code 19 = .ok (.iload_n 1, 1) := by decide +kernel
theorem d_147_20 : decode prog_14_method_9_code 20 = .ok (.iload_n 2, 1) := by decide +kernel
theorem d_147_21 : decode prog_14_method_9_code 21 = .ok (.invokestatic 108, 3) := by decide +kernel
theorem d_147_24 : decode prog_14_method_9_code 24 = .ok (.sipush 4096, 3) := by decide +kernel
theorem d_147_27 : decode prog_14_method_9_code 27 = .ok (.if_icmp .le 6, 3) := by decide +kernel
theorem d_147_30 : decode prog_14_method_9_code 30 = .ok (.bipush (-2), 2) := by decide +kernel
theorem d_147_32 : decode prog_14_method_9_code 32 = .ok (.ireturn, 1) := by decide +kernel
theorem d_147_33 : decode prog_14_method_9_code 33 = .ok (.aload_n 0, 1) := by decide +kernel
theorem d_147_34 : decode prog_14_method_9_code 34 = .ok (.getfield 25, 3) := by decide +kernel
theorem d_147_37 : decode prog_14_method_9_code 37 = .ok (.istore_n 3, 1) := by decide +kernel
theorem d_147_38 : decode prog_14_method_9_code 38 = .ok (.aload_n 0, 1) := by decide +kernel
theorem d_147_39 : decode prog_14_method_9_code 39 = .ok (.iload_n 1, 1) := by decide +kernel
theorem d_147_40 : decode prog_14_method_9_code 40 = .ok (.iload_n 2, 1) := by decide +kernel
theorem d_147_41 : decode prog_14_method_9_code 41 = .ok (.invokevirtual 91, 3) := by decide +kernel
theorem d_147_44 : decode prog_14_method_9_code 44 = .ok (.iload_n 3, 1) := by decide +kernel
theorem d_147_45 : decode prog_14_method_9_code 45 = .ok (.ireturn, 1) := by decide +kernel
theorem s_147_33 {Γ : m_G} : m_ok Γ m_tab 147 M_147 33 (g_147_33) := ok_al_n (pc := 33) d_147_33 rfl (ok_getf (pc := 34) d_147_34 w_918 (hc1 fo_74) (ok_is_n (pc := 37) d_147_37 rfl (by decide) (ok_al_n (pc := 38) d_147_38 rfl (ok_il_n (pc := 39) d_147_39 rfl (ok_il_n (pc := 40) d_147_40 rfl (ok_cvi (pc := 41) (k2 := 141) rfl rfl tb_141 (by decide) (by decide) rfl (go_V d_147_41 w_901 w_903 ws_38 w_11 w_904 nn_141 (by decide) cl_12 rfl) (ok_il_n (pc := 44) d_147_44 rfl (ok_ri (pc := 45) d_147_45 rfl))))))))
theorem s_147_30 {Γ : m_G} : m_ok Γ m_tab 147 M_147 30 (g_147_30) := ok_bi (pc := 30) d_147_30 rfl (ok_ri (pc := 32) d_147_32 rfl)
theorem s_147_0 {Γ : m_G} : m_ok Γ m_tab 147 M_147 0 (g_147_0) := ok_il_n (pc := 0) d_147_0 rfl (ok_ic (pc := 1) d_147_1 rfl (ok_bi (pc := 2) d_147_2 rfl (ok_cat (pc := 4) (k2 := 140) rfl tb_140 (by decide) (by decide) rfl (go_S d_147_4 w_1044 w_1045 w_11 w_1046 nn_140 (by decide)) (ok_czeq (pc := 7) (t := 30) d_147_7 rfl (by decide) rfl (ok_il_n (pc := 10) d_147_10 rfl (ok_ic (pc := 11) d_147_11 rfl (ok_ic (pc := 12) d_147_12 rfl (ok_cat (pc := 13) (k2 := 140) rfl tb_140 (by decide) (by decide) rfl (go_S d_147_13 w_1044 w_1045 w_11 w_1046 nn_140 (by decide)) (ok_czeq (pc := 16) (t := 30) d_147_16 rfl (by decide) rfl (ok_il_n (pc := 19) d_147_19 rfl (ok_il_n (pc := 20) d_147_20 rfl (ok_cat (pc := 21) (k2 := 144) rfl tb_144 (by decide) (by decide) rfl (go_S d_147_21 w_1047 w_1048 w_11 w_1049 nn_144 (by decide)) (ok_si (pc := 24) d_147_24 rfl (ok_cile (pc := 27) (t := 33) d_147_27 rfl (by decide) rfl (s_147_30)))))))))))))))
theorem tst_147 {Γ : m_G} (q : Nat) : m_ts Γ (t_147 q) q := ts_n (ts_l (k := 147) (pc := 0) tb_147 rfl (by decide) s_147_0) (ts_n (ts_l (k := 147) (pc := 30) tb_147 rfl (by decide) s_147_30) (ts_l (k := 147) (pc := 33) tb_147 rfl (by decide) s_147_33))
theorem d_148_0 : decode prog_14_method_10_code 0 = .ok (.aload_n 0, 1) := by decide +kernel
theorem d_148_1 : decode prog_14_method_10_code 1 = .ok (.iload_n 1, 1) := by decide +kernel
theorem d_148_2 : decode prog_14_method_10_code 2 = .ok (.invokevirtual 116, 3) := by decide +kernel
theorem d_148_5 : decode prog_14_method_10_code 5 = .ok (.ifCond .eq 20, 3) := by decide +kernel
theorem d_148_8 : decode prog_14_method_10_code 8 = .ok (.aload_n 0, 1) := by decide +kernel
theorem d_148_9 : decode prog_14_method_10_code 9 = .ok (.iload_n 2, 1) := by decide +kernel
theorem d_148_10 : decode prog_14_method_10_code 10 = .ok (.invokevirtual 116, 3) := by decide +kernel
theorem d_148_13 : decode prog_14_method_10_code 13 = .ok (.ifCond .eq 12, 3) := by decide +kernel
theorem d_148_16 : decode prog_14_method_10_code 16 = .ok (.iload_n 1, 1) := by decide +kernel
theorem d_148_17 : decode prog_14_method_10_code 17 = .ok (.iload_n 2, 1) := by decide +kernel
theorem d_148_18 : decode prog_14_method_10_code 18 = .ok (.if_icmp .eq 7, 3) := by decide +kernel
theorem d_148_21 : decode prog_14_method_10_code 21 = .ok (.iconst 1, 1) := by decide +kernel
theorem d_148_22 : decode prog_14_method_10_code 22 = .ok (.goto 4, 3) := by decide +kernel
theorem d_148_25 : decode prog_14_method_10_code 25 = .ok (.iconst 0, 1) := by decide +kernel
theorem d_148_26 : decode prog_14_method_10_code 26 = .ok (.ireturn, 1) := by decide +kernel
theorem s_148_26 {Γ : m_G} : m_ok Γ m_tab 148 M_148 26 (g_148_26) := ok_rz (pc := 26) d_148_26 rfl
theorem s_148_25 {Γ : m_G} : m_ok Γ m_tab 148 M_148 25 (g_148_25) := ok_ic (pc := 25) d_148_25 rfl (s_148_26)
theorem s_148_0 {Γ : m_G} : m_ok Γ m_tab 148 M_148 0 (g_148_0) := ok_al_n (pc := 0) d_148_0 rfl (ok_il_n (pc := 1) d_148_1 rfl (ok_cai (pc := 2) (k2 := 142) rfl rfl tb_142 (by decide) (by decide) rfl (go_V d_148_2 w_1058 w_1060 ws_42 w_11 w_1061 nn_142 (by decide) cl_12 rfl) (ok_czeq (pc := 5) (t := 25) d_148_5 rfl (by decide) rfl (ok_al_n (pc := 8) d_148_8 rfl (ok_il_n (pc := 9) d_148_9 rfl (ok_cai (pc := 10) (k2 := 142) rfl rfl tb_142 (by decide) (by decide) rfl (go_V d_148_10 w_1058 w_1060 ws_42 w_11 w_1061 nn_142 (by decide) cl_12 rfl) (ok_czeq (pc := 13) (t := 25) d_148_13 rfl (by decide) rfl (ok_il_n (pc := 16) d_148_16 rfl (ok_il_n (pc := 17) d_148_17 rfl (ok_cieq (pc := 18) (t := 25) d_148_18 rfl (by decide) rfl (ok_ic (pc := 21) d_148_21 rfl (ok_go (pc := 22) (t := 26) d_148_22 rfl (by decide) rfl))))))))))))
theorem tst_148 {Γ : m_G} (q : Nat) : m_ts Γ (t_148 q) q := ts_n (ts_l (k := 148) (pc := 0) tb_148 rfl (by decide) s_148_0) (ts_n (ts_l (k := 148) (pc := 25) tb_148 rfl (by decide) s_148_25) (ts_l (k := 148) (pc := 26) tb_148 rfl (by decide) s_148_26))
theorem d_149_0 : decode prog_14_method_11_code 0 = .ok (.aload_n 0, 1) := by decide +kernel
theorem d_149_1 : decode prog_14_method_11_code 1 = .ok (.iload_n 1, 1) := by decide +kernel
theorem d_149_2 : decode prog_14_method_11_code 2 = .ok (.iload_n 2, 1) := by decide +kernel
theorem d_149_3 : decode prog_14_method_11_code 3 = .ok (.invokevirtual 120, 3) := by decide +kernel
theorem d_149_6 : decode prog_14_method_11_code 6 = .ok (.ifCond .eq 12, 3) := by decide +kernel
theorem d_149_9 : decode prog_14_method_11_code 9 = .ok (.iload_n 3, 1) := by decide +kernel
theorem d_149_10 : decode prog_14_method_11_code 10 = .ok (.iconst 0, 1) := by decide +kernel
theorem d_149_11 : decode prog_14_method_11_code 11 = .ok (.iconst 1, 1) := by decide +kernel
theorem d_149_12 : decode prog_14_method_11_code 12 = .ok (.invokestatic 112, 3) := by decide +kernel
theorem d_149_15 : decode prog_14_method_11_code 15 = .ok (.ifCond .ne 6, 3) := by decide +kernel
theorem d_149_18 : decode prog_14_method_11_code 18 = .ok (.bipush (-2), 2) := by decide +kernel
theorem d_149_20 : decode prog_14_method_11_code 20 = .ok (.ireturn, 1) := by decide +kernel
theorem d_149_21 : decode prog_14_method_11_code 21 = .ok (.aload_n 0, 1) := by decide +kernel
theorem d_149_22 : decode prog_14_method_11_code 22 = .ok (.getfield 7, 3) := by decide +kernel
theorem d_149_25 : decode prog_14_method_11_code 25 = .ok (.iload_n 1, 1) := by decide +kernel
theorem d_149_26 : decode prog_14_method_11_code 26 = .ok (.iaload, 1) := by decide +kernel
theorem d_149_27 : decode prog_14_method_11_code 27 = .ok (.iload_n 2, 1) := by decide +kernel
theorem d_149_28 : decode prog_14_method_11_code 28 = .ok (.ishr, 1) := by decide +kernel
theorem d_149_29 : decode prog_14_method_11_code 29 = .ok (.iconst 1, 1) := by decide +kernel
theorem d_149_30 : decode prog_14_method_11_code 30 = .ok (.iand, 1) := by decide +kernel
theorem d_149_31 : decode prog_14_method_11_code 31 = .ok (.istore 4, 2) := by decide +kernel
theorem d_149_33 : decode prog_14_method_11_code 33 = .ok (.iload 4, 2) := by decide +kernel
theorem d_149_35 : decode prog_14_method_11_code 35 = .ok (.iload_n 3, 1) := by decide +kernel
theorem d_149_36 : decode prog_14_method_11_code 36 = .ok (.if_icmp .eq 27, 3) := by decide +kernel
theorem d_149_39 : decode prog_14_method_11_code 39 = .ok (.aload_n 0, 1) := by decide +kernel
theorem d_149_40 : decode prog_14_method_11_code 40 = .ok (.getfield 7, 3) := by decide +kernel
theorem d_149_43 : decode prog_14_method_11_code 43 = .ok (.iload_n 1, 1) := by decide +kernel
theorem d_149_44 : decode prog_14_method_11_code 44 = .ok (.dup2, 1) := by decide +kernel
theorem d_149_45 : decode prog_14_method_11_code 45 = .ok (.iaload, 1) := by decide +kernel
theorem d_149_46 : decode prog_14_method_11_code 46 = .ok (.iconst 1, 1) := by decide +kernel
theorem d_149_47 : decode prog_14_method_11_code 47 = .ok (.iload_n 2, 1) := by decide +kernel
theorem d_149_48 : decode prog_14_method_11_code 48 = .ok (.ishl, 1) := by decide +kernel
theorem d_149_49 : decode prog_14_method_11_code 49 = .ok (.ixor, 1) := by decide +kernel
theorem d_149_50 : decode prog_14_method_11_code 50 = .ok (.iastore, 1) := by decide +kernel
theorem d_149_51 : decode prog_14_method_11_code 51 = .ok (.aload_n 0, 1) := by decide +kernel
theorem d_149_52 : decode prog_14_method_11_code 52 = .ok (.getfield 7, 3) := by decide +kernel
theorem d_149_55 : decode prog_14_method_11_code 55 = .ok (.iload_n 2, 1) := by decide +kernel
theorem d_149_56 : decode prog_14_method_11_code 56 = .ok (.dup2, 1) := by decide +kernel
theorem d_149_57 : decode prog_14_method_11_code 57 = .ok (.iaload, 1) := by decide +kernel
theorem d_149_58 : decode prog_14_method_11_code 58 = .ok (.iconst 1, 1) := by decide +kernel
theorem d_149_59 : decode prog_14_method_11_code 59 = .ok (.iload_n 1, 1) := by decide +kernel
theorem d_149_60 : decode prog_14_method_11_code 60 = .ok (.ishl, 1) := by decide +kernel
theorem d_149_61 : decode prog_14_method_11_code 61 = .ok (.ixor, 1) := by decide +kernel
theorem d_149_62 : decode prog_14_method_11_code 62 = .ok (.iastore, 1) := by decide +kernel
theorem d_149_63 : decode prog_14_method_11_code 63 = .ok (.iload 4, 2) := by decide +kernel
theorem d_149_65 : decode prog_14_method_11_code 65 = .ok (.ireturn, 1) := by decide +kernel
theorem s_149_63 {Γ : m_G} : m_ok Γ m_tab 149 M_149 63 (g_149_63) := ok_il (pc := 63) d_149_63 (ok_ri (pc := 65) d_149_65 rfl)
theorem s_149_21 {Γ : m_G} : m_ok Γ m_tab 149 M_149 21 (g_149_21) := ok_al_n (pc := 21) d_149_21 rfl (ok_getf (pc := 22) d_149_22 w_913 (hc1 fo_73) (ok_il_n (pc := 25) d_149_25 rfl (ok_iald (pc := 26) d_149_26 (ok_il_n (pc := 27) d_149_27 rfl (ok_shr (pc := 28) d_149_28 (ok_ic (pc := 29) d_149_29 rfl (ok_and (pc := 30) d_149_30 (ok_is (pc := 31) d_149_31 (by decide) (ok_il (pc := 33) d_149_33 (ok_il_n (pc := 35) d_149_35 rfl (ok_cieq (pc := 36) (t := 63) d_149_36 rfl (by decide) rfl (ok_al_n (pc := 39) d_149_39 rfl (ok_getf (pc := 40) d_149_40 w_913 (hc1 fo_73) (ok_il_n (pc := 43) d_149_43 rfl (ok_dup2 (pc := 44) d_149_44 (ok_iald (pc := 45) d_149_45 (ok_ic (pc := 46) d_149_46 rfl (ok_il_n (pc := 47) d_149_47 rfl (ok_shl (pc := 48) d_149_48 (ok_xor (pc := 49) d_149_49 (ok_iast (pc := 50) d_149_50 (ok_al_n (pc := 51) d_149_51 rfl (ok_getf (pc := 52) d_149_52 w_913 (hc1 fo_73) (ok_il_n (pc := 55) d_149_55 rfl (ok_dup2 (pc := 56) d_149_56 (ok_iald (pc := 57) d_149_57 (ok_ic (pc := 58) d_149_58 rfl (ok_il_n (pc := 59) d_149_59 rfl (ok_shl (pc := 60) d_149_60 (ok_xor (pc := 61) d_149_61 (ok_iast (pc := 62) d_149_62 (s_149_63))))))))))))))))))))))))))))))))
theorem s_149_18 {Γ : m_G} : m_ok Γ m_tab 149 M_149 18 (g_149_18) := ok_bi (pc := 18) d_149_18 rfl (ok_ri (pc := 20) d_149_20 rfl)
theorem s_149_0 {Γ : m_G} : m_ok Γ m_tab 149 M_149 0 (g_149_0) := ok_al_n (pc := 0) d_149_0 rfl (ok_il_n (pc := 1) d_149_1 rfl (ok_il_n (pc := 2) d_149_2 rfl (ok_cai (pc := 3) (k2 := 148) rfl rfl tb_148 (by decide) (by decide) rfl (go_V d_149_3 w_1054 w_1056 ws_41 w_11 w_1057 nn_148 (by decide) cl_12 rfl) (ok_czeq (pc := 6) (t := 18) d_149_6 rfl (by decide) rfl (ok_il_n (pc := 9) d_149_9 rfl (ok_ic (pc := 10) d_149_10 rfl (ok_ic (pc := 11) d_149_11 rfl (ok_cat (pc := 12) (k2 := 140) rfl tb_140 (by decide) (by decide) rfl (go_S d_149_12 w_1044 w_1045 w_11 w_1046 nn_140 (by decide)) (ok_czne (pc := 15) (t := 21) d_149_15 rfl (by decide) rfl (s_149_18))))))))))
theorem tst_149 {Γ : m_G} (q : Nat) : m_ts Γ (t_149 q) q := ts_n (ts_n (ts_l (k := 149) (pc := 0) tb_149 rfl (by decide) s_149_0) (ts_l (k := 149) (pc := 18) tb_149 rfl (by decide) s_149_18)) (ts_n (ts_l (k := 149) (pc := 21) tb_149 rfl (by decide) s_149_21) (ts_l (k := 149) (pc := 63) tb_149 rfl (by decide) s_149_63))
theorem d_150_0 : decode prog_14_method_12_code 0 = .ok (.iload_n 1, 1) := by decide +kernel
theorem d_150_1 : decode prog_14_method_12_code 1 = .ok (.iconst 3, 1) := by decide +kernel
theorem d_150_2 : decode prog_14_method_12_code 2 = .ok (.if_icmp .ne 31, 3) := by decide +kernel
theorem d_150_5 : decode prog_14_method_12_code 5 = .ok (.iload_n 3, 1) := by decide +kernel
theorem d_150_6 : decode prog_14_method_12_code 6 = .ok (.iconst 0, 1) := by decide +kernel
theorem d_150_7 : decode prog_14_method_12_code 7 = .ok (.sipush 999, 3) := by decide +kernel
theorem d_150_10 : decode prog_14_method_12_code 10 = .ok (.invokestatic 112, 3) := by decide +kernel
theorem d_150_13 : decode prog_14_method_12_code 13 = .ok (.ifCond .ne 6, 3) := by decide +kernel
theorem d_150_16 : decode prog_14_method_12_code 16 = .ok (.bipush (-2), 2) := by decide +kernel
theorem d_150_18 : decode prog_14_method_12_code 18 = .ok (.ireturn, 1) := by decide +kernel
theorem d_150_19 : decode prog_14_method_12_code 19 = .ok (.aload_n 0, 1) := by decide +kernel
theorem d_150_20 : decode prog_14_method_12_code 20 = .ok (.getfield 98, 3) := by decide +kernel
theorem d_150_23 : decode prog_14_method_12_code 23 = .ok (.istore 4, 2) := by decide +kernel
theorem d_150_25 : decode prog_14_method_12_code 25 = .ok (.aload_n 0, 1) := by decide +kernel
theorem d_150_26 : decode prog_14_method_12_code 26 = .ok (.iload_n 3, 1) := by decide +kernel
theorem d_150_27 : decode prog_14_method_12_code 27 = .ok (.putfield 98, 3) := by decide +kernel
theorem d_150_30 : decode prog_14_method_12_code 30 = .ok (.iload 4, 2) := by decide +kernel
theorem d_150_32 : decode prog_14_method_12_code 32 = .ok (.ireturn, 1) := by decide +kernel
theorem d_150_33 : decode prog_14_method_12_code 33 = .ok (.iload_n 1, 1) := by decide +kernel
theorem d_150_34 : decode prog_14_method_12_code 34 = .ok (.iconst 0, 1) := by decide +kernel
theorem d_150_35 : decode prog_14_method_12_code 35 = .ok (.iconst 2, 1) := by decide +kernel
theorem d_150_36 : decode prog_14_method_12_code 36 = .ok (.invokestatic 112, 3) := by decide +kernel
theorem d_150_39 : decode prog_14_method_12_code 39 = .ok (.ifCond .eq 11, 3) := by decide +kernel
theorem d_150_42 : decode prog_14_method_12_code 42 = .ok (.aload_n 0, 1) := by decide +kernel
theorem d_150_43 : decode prog_14_method_12_code 43 = .ok (.iload_n 2, 1) := by decide +kernel
theorem d_150_44 : decode prog_14_method_12_code 44 = .ok (.invokevirtual 116, 3) := by decide +kernel
theorem d_150_47 : decode prog_14_method_12_code 47 = .ok (.ifCond .ne 6, 3) := by decide +kernel
theorem d_150_50 : decode prog_14_method_12_code 50 = .ok (.bipush (-2), 2) := by decide +kernel
theorem d_150_52 : decode prog_14_method_12_code 52 = .ok (.ireturn, 1) := by decide +kernel
theorem d_150_53 : decode prog_14_method_12_code 53 = .ok (.iload_n 1, 1) := by decide +kernel
theorem d_150_54 : decode prog_14_method_12_code 54 = .ok (.ifCond .ne 11, 3) := by decide +kernel
theorem d_150_57 : decode prog_14_method_12_code 57 = .ok (.aload_n 0, 1) := by decide +kernel
theorem d_150_58 : decode prog_14_method_12_code 58 = .ok (.iload_n 3, 1) := by decide +kernel
theorem d_150_59 : decode prog_14_method_12_code 59 = .ok (.invokevirtual 124, 3) := by decide +kernel
theorem d_150_62 : decode prog_14_method_12_code 62 = .ok (.ifCond .eq 35, 3) := by decide +kernel
theorem d_150_65 : decode prog_14_method_12_code 65 = .ok (.iload_n 1, 1) := by decide +kernel
theorem d_150_66 : decode prog_14_method_12_code 66 = .ok (.iconst 1, 1) := by decide +kernel
theorem d_150_67 : decode prog_14_method_12_code 67 = .ok (.if_icmp .ne 16, 3) := by decide +kernel
theorem d_150_70 : decode prog_14_method_12_code 70 = .ok (.iload_n 3, 1) := by decide +kernel
theorem d_150_71 : decode prog_14_method_12_code 71 = .ok (.iconst (-1), 1) := by decide +kernel
theorem d_150_72 : decode prog_14_method_12_code 72 = .ok (.if_icmp .eq 11, 3) := by decide +kernel
theorem d_150_75 : decode prog_14_method_12_code 75 = .ok (.aload_n 0, 1) := by decide +kernel
theorem d_150_76 : decode prog_14_method_12_code 76 = .ok (.iload_n 3, 1) := by decide +kernel
theorem d_150_77 : decode prog_14_method_12_code 77 = .ok (.invokevirtual 124, 3) := by decide +kernel
theorem d_150_80 : decode prog_14_method_12_code 80 = .ok (.ifCond .eq 17, 3) := by decide +kernel
theorem d_150_83 : decode prog_14_method_12_code 83 = .ok (.iload_n 1, 1) := by decide +kernel
theorem d_150_84 : decode prog_14_method_12_code 84 = .ok (.iconst 2, 1) := by decide +kernel
theorem d_150_85 : decode prog_14_method_12_code 85 = .ok (.if_icmp .ne 15, 3) := by decide +kernel
theorem d_150_88 : decode prog_14_method_12_code 88 = .ok (.iload_n 3, 1) := by decide +kernel
theorem d_150_89 : decode prog_14_method_12_code 89 = .ok (.iconst 0, 1) := by decide +kernel
theorem d_150_90 : decode prog_14_method_12_code 90 = .ok (.iconst 1, 1) := by decide +kernel
theorem d_150_91 : decode prog_14_method_12_code 91 = .ok (.invokestatic 112, 3) := by decide +kernel
theorem d_150_94 : decode prog_14_method_12_code 94 = .ok (.ifCond .ne 6, 3) := by decide +kernel
theorem d_150_97 : decode prog_14_method_12_code 97 = .ok (.bipush (-2), 2) := by decide +kernel
theorem d_150_99 : decode prog_14_method_12_code 99 = .ok (.ireturn, 1) := by decide +kernel
theorem d_150_100 : decode prog_14_method_12_code 100 = .ok (.iload_n 1, 1) := by decide +kernel
theorem d_150_101 : decode prog_14_method_12_code 101 = .ok (.ifCond .ne 12, 3) := by decide +kernel
theorem d_150_104 : decode prog_14_method_12_code 104 = .ok (.aload_n 0, 1) := by decide +kernel
theorem d_150_105 : decode prog_14_method_12_code 105 = .ok (.getfield 13, 3) := by decide +kernel
theorem d_150_108 : decode prog_14_method_12_code 108 = .ok (.iload_n 2, 1) := by decide +kernel
theorem d_150_109 : decode prog_14_method_12_code 109 = .ok (.iaload, 1) := by decide +kernel
theorem d_150_110 : decode prog_14_method_12_code 110 = .ok (.goto 25, 3) := by decide +kernel
theorem d_150_113 : decode prog_14_method_12_code 113 = .ok (.iload_n 1, 1) := by decide +kernel
theorem d_150_114 : decode prog_14_method_12_code 114 = .ok (.iconst 1, 1) := by decide +kernel
theorem d_150_115 : decode prog_14_method_12_code 115 = .ok (.if_icmp .ne 12, 3) := by decide +kernel
theorem d_150_118 : decode prog_14_method_12_code 118 = .ok (.aload_n 0, 1) := by decide +kernel
theorem d_150_119 : decode prog_14_method_12_code 119 = .ok (.getfield 16, 3) := by decide +kernel
theorem d_150_122 : decode prog_14_method_12_code 122 = .ok (.iload_n 2, 1) := by decide +kernel
theorem d_150_123 : decode prog_14_method_12_code 123 = .ok (.iaload, 1) := by decide +kernel
theorem d_150_124 : decode prog_14_method_12_code 124 = .ok (.goto 11, 3) := by decide +kernel
theorem d_150_127 : decode prog_14_method_12_code 127 = .ok (.aload_n 0, 1) := by decide +kernel
theorem d_150_128 : decode prog_14_method_12_code 128 = .ok (.getfield 101, 3) := by decide +kernel
theorem d_150_131 : decode prog_14_method_12_code 131 = .ok (.iload_n 2, 1) := by decide +kernel
theorem d_150_132 : decode prog_14_method_12_code 132 = .ok (.ishr, 1) := by decide +kernel
theorem d_150_133 : decode prog_14_method_12_code 133 = .ok (.iconst 1, 1) := by decide +kernel
theorem d_150_134 : decode prog_14_method_12_code 134 = .ok (.iand, 1) := by decide +kernel
theorem d_150_135 : decode prog_14_method_12_code 135 = .ok (.istore 4, 2) := by decide +kernel
theorem d_150_137 : decode prog_14_method_12_code 137 = .ok (.iload_n 1, 1) := by decide +kernel
theorem d_150_138 : decode prog_14_method_12_code 138 = .ok (.ifCond .ne 10, 3) := by decide +kernel
theorem d_150_141 : decode prog_14_method_12_code 141 = .ok (.aload_n 0, 1) := by decide +kernel
theorem d_150_142 : decode prog_14_method_12_code 142 = .ok (.getfield 13, 3) := by decide +kernel
theorem d_150_145 : decode prog_14_method_12_code 145 = .ok (.iload_n 2, 1) := by decide +kernel
theorem d_150_146 : decode prog_14_method_12_code 146 = .ok (.iload_n 3, 1) := by decide +kernel
theorem d_150_147 : decode prog_14_method_12_code 147 = .ok (.iastore, 1) := by decide +kernel
theorem d_150_148 : decode prog_14_method_12_code 148 = .ok (.iload_n 1, 1) := by decide +kernel
theorem d_150_149 : decode prog_14_method_12_code 149 = .ok (.iconst 1, 1) := by decide +kernel
theorem d_150_150 : decode prog_14_method_12_code 150 = .ok (.if_icmp .ne 10, 3) := by decide +kernel
theorem d_150_153 : decode prog_14_method_12_code 153 = .ok (.aload_n 0, 1) := by decide +kernel
theorem d_150_154 : decode prog_14_method_12_code 154 = .ok (.getfield 16, 3) := by decide +kernel
theorem d_150_157 : decode prog_14_method_12_code 157 = .ok (.iload_n 2, 1) := by decide +kernel
theorem d_150_158 : decode prog_14_method_12_code 158 = .ok (.iload_n 3, 1) := by decide +kernel
theorem d_150_159 : decode prog_14_method_12_code 159 = .ok (.iastore, 1) := by decide +kernel
theorem d_150_160 : decode prog_14_method_12_code 160 = .ok (.iload_n 1, 1) := by decide +kernel
theorem d_150_161 : decode prog_14_method_12_code 161 = .ok (.iconst 2, 1) := by decide +kernel
theorem d_150_162 : decode prog_14_method_12_code 162 = .ok (.if_icmp .ne 21, 3) := by decide +kernel
theorem d_150_165 : decode prog_14_method_12_code 165 = .ok (.iload 4, 2) := by decide +kernel
theorem d_150_167 : decode prog_14_method_12_code 167 = .ok (.iload_n 3, 1) := by decide +kernel
theorem d_150_168 : decode prog_14_method_12_code 168 = .ok (.if_icmp .eq 15, 3) := by decide +kernel
theorem d_150_171 : decode prog_14_method_12_code 171 = .ok (.aload_n 0, 1) := by decide +kernel
theorem d_150_172 : decode prog_14_method_12_code 172 = .ok (.dup, 1) := by decide +kernel
theorem d_150_173 : decode prog_14_method_12_code 173 = .ok (.getfield 101, 3) := by decide +kernel
theorem d_150_176 : decode prog_14_method_12_code 176 = .ok (.iconst 1, 1) := by decide +kernel
theorem d_150_177 : decode prog_14_method_12_code 177 = .ok (.iload_n 2, 1) := by decide +kernel
theorem d_150_178 : decode prog_14_method_12_code 178 = .ok (.ishl, 1) := by decide +kernel
theorem d_150_179 : decode prog_14_method_12_code 179 = .ok (.ixor, 1) := by decide +kernel
theorem d_150_180 : decode prog_14_method_12_code 180 = .ok (.putfield 101, 3) := by decide +kernel
theorem d_150_183 : decode prog_14_method_12_code 183 = .ok (.iload 4, 2) := by decide +kernel
theorem d_150_185 : decode prog_14_method_12_code 185 = .ok (.ireturn, 1) := by decide +kernel
theorem s_150_183 {Γ : m_G} : m_ok Γ m_tab 150 M_150 183 (g_150_183) := ok_il (pc := 183) d_150_183 (ok_ri (pc := 185) d_150_185 rfl)
theorem s_150_160 {Γ : m_G} : m_ok Γ m_tab 150 M_150 160 (g_150_160) := ok_il_n (pc := 160) d_150_160 rfl (ok_ic (pc := 161) d_150_161 rfl (ok_cine (pc := 162) (t := 183) d_150_162 rfl (by decide) rfl (ok_il (pc := 165) d_150_165 (ok_il_n (pc := 167) d_150_167 rfl (ok_cieq (pc := 168) (t := 183) d_150_168 rfl (by decide) rfl (ok_al_n (pc := 171) d_150_171 rfl (ok_dup (pc := 172) d_150_172 (ok_getf (pc := 173) d_150_173 w_921 (hc1 fo_76) (ok_ic (pc := 176) d_150_176 rfl (ok_il_n (pc := 177) d_150_177 rfl (ok_shl (pc := 178) d_150_178 (ok_xor (pc := 179) d_150_179 (ok_putf (pc := 180) d_150_180 w_921 (hc1 ⟨_, _, _, tyX12, cl_12, in_12, by decide, rfl, rfl, rfl, tyX12_ok, nmX12, Or.inl rfl⟩) pd_0 vt_I (s_150_183))))))))))))))
theorem s_150_148 {Γ : m_G} : m_ok Γ m_tab 150 M_150 148 (g_150_148) := ok_il_n (pc := 148) d_150_148 rfl (ok_ic (pc := 149) d_150_149 rfl (ok_cine (pc := 150) (t := 160) d_150_150 rfl (by decide) rfl (ok_al_n (pc := 153) d_150_153 rfl (ok_getf (pc := 154) d_150_154 w_915 (hc1 fo_71) (ok_il_n (pc := 157) d_150_157 rfl (ok_il_n (pc := 158) d_150_158 rfl (ok_iast (pc := 159) d_150_159 (s_150_160))))))))
theorem s_150_135 {Γ : m_G} : m_ok Γ m_tab 150 M_150 135 (g_150_135) := ok_is (pc := 135) d_150_135 (by decide) (ok_il_n (pc := 137) d_150_137 rfl (ok_czne (pc := 138) (t := 148) d_150_138 rfl (by decide) rfl (ok_al_n (pc := 141) d_150_141 rfl (ok_getf (pc := 142) d_150_142 w_914 (hc1 fo_72) (ok_il_n (pc := 145) d_150_145 rfl (ok_il_n (pc := 146) d_150_146 rfl (ok_iast (pc := 147) d_150_147 (s_150_148))))))))
theorem s_150_127 {Γ : m_G} : m_ok Γ m_tab 150 M_150 127 (g_150_127) := ok_al_n (pc := 127) d_150_127 rfl (ok_getf (pc := 128) d_150_128 w_921 (hc1 fo_76) (ok_il_n (pc := 131) d_150_131 rfl (ok_shr (pc := 132) d_150_132 (ok_ic (pc := 133) d_150_133 rfl (ok_and (pc := 134) d_150_134 (s_150_135))))))
theorem s_150_113 {Γ : m_G} : m_ok Γ m_tab 150 M_150 113 (g_150_113) := ok_il_n (pc := 113) d_150_113 rfl (ok_ic (pc := 114) d_150_114 rfl (ok_cine (pc := 115) (t := 127) d_150_115 rfl (by decide) rfl (ok_al_n (pc := 118) d_150_118 rfl (ok_getf (pc := 119) d_150_119 w_915 (hc1 fo_71) (ok_il_n (pc := 122) d_150_122 rfl (ok_iald (pc := 123) d_150_123 (ok_go (pc := 124) (t := 135) d_150_124 rfl (by decide) rfl)))))))
theorem s_150_100 {Γ : m_G} : m_ok Γ m_tab 150 M_150 100 (g_150_100) := ok_il_n (pc := 100) d_150_100 rfl (ok_czne (pc := 101) (t := 113) d_150_101 rfl (by decide) rfl (ok_al_n (pc := 104) d_150_104 rfl (ok_getf (pc := 105) d_150_105 w_914 (hc1 fo_72) (ok_il_n (pc := 108) d_150_108 rfl (ok_iald (pc := 109) d_150_109 (ok_go (pc := 110) (t := 135) d_150_110 rfl (by decide) rfl))))))
theorem s_150_97 {Γ : m_G} : m_ok Γ m_tab 150 M_150 97 (g_150_97) := ok_bi (pc := 97) d_150_97 rfl (ok_ri (pc := 99) d_150_99 rfl)
theorem s_150_83 {Γ : m_G} : m_ok Γ m_tab 150 M_150 83 (g_150_83) := ok_il_n (pc := 83) d_150_83 rfl (ok_ic (pc := 84) d_150_84 rfl (ok_cine (pc := 85) (t := 100) d_150_85 rfl (by decide) rfl (ok_il_n (pc := 88) d_150_88 rfl (ok_ic (pc := 89) d_150_89 rfl (ok_ic (pc := 90) d_150_90 rfl (ok_cat (pc := 91) (k2 := 140) rfl tb_140 (by decide) (by decide) rfl (go_S d_150_91 w_1044 w_1045 w_11 w_1046 nn_140 (by decide)) (ok_czne (pc := 94) (t := 100) d_150_94 rfl (by decide) rfl (s_150_97))))))))
theorem s_150_65 {Γ : m_G} : m_ok Γ m_tab 150 M_150 65 (g_150_65) := ok_il_n (pc := 65) d_150_65 rfl (ok_ic (pc := 66) d_150_66 rfl (ok_cine (pc := 67) (t := 83) d_150_67 rfl (by decide) rfl (ok_il_n (pc := 70) d_150_70 rfl (ok_ic (pc := 71) d_150_71 rfl (ok_cieq (pc := 72) (t := 83) d_150_72 rfl (by decide) rfl (ok_al_n (pc := 75) d_150_75 rfl (ok_il_n (pc := 76) d_150_76 rfl (ok_cai (pc := 77) (k2 := 143) rfl rfl tb_143 (by decide) (by decide) rfl (go_V d_150_77 w_1066 w_1068 ws_43 w_11 w_1069 nn_143 (by decide) cl_12 rfl) (ok_czeq (pc := 80) (t := 97) d_150_80 rfl (by decide) rfl (s_150_83))))))))))
theorem s_150_53 {Γ : m_G} : m_ok Γ m_tab 150 M_150 53 (g_150_53) := ok_il_n (pc := 53) d_150_53 rfl (ok_czne (pc := 54) (t := 65) d_150_54 rfl (by decide) rfl (ok_al_n (pc := 57) d_150_57 rfl (ok_il_n (pc := 58) d_150_58 rfl (ok_cai (pc := 59) (k2 := 143) rfl rfl tb_143 (by decide) (by decide) rfl (go_V d_150_59 w_1066 w_1068 ws_43 w_11 w_1069 nn_143 (by decide) cl_12 rfl) (ok_czeq (pc := 62) (t := 97) d_150_62 rfl (by decide) rfl (s_150_65))))))
theorem s_150_50 {Γ : m_G} : m_ok Γ m_tab 150 M_150 50 (g_150_50) := ok_bi (pc := 50) d_150_50 rfl (ok_ri (pc := 52) d_150_52 rfl)
theorem s_150_33 {Γ : m_G} : m_ok Γ m_tab 150 M_150 33 (g_150_33) := ok_il_n (pc := 33) d_150_33 rfl (ok_ic (pc := 34) d_150_34 rfl (ok_ic (pc := 35) d_150_35 rfl (ok_cat (pc := 36) (k2 := 140) rfl tb_140 (by decide) (by decide) rfl (go_S d_150_36 w_1044 w_1045 w_11 w_1046 nn_140 (by decide)) (ok_czeq (pc := 39) (t := 50) d_150_39 rfl (by decide) rfl (ok_al_n (pc := 42) d_150_42 rfl (ok_il_n (pc := 43) d_150_43 rfl (ok_cai (pc := 44) (k2 := 142) rfl rfl tb_142 (by decide) (by decide) rfl (go_V d_150_44 w_1058 w_1060 ws_42 w_11 w_1061 nn_142 (by decide) cl_12 rfl) (ok_czne (pc := 47) (t := 53) d_150_47 rfl (by decide) rfl (s_150_50)))))))))
theorem s_150_19 {Γ : m_G} : m_ok Γ m_tab 150 M_150 19 (g_150_19) := ok_al_n (pc := 19) d_150_19 rfl (ok_getf (pc := 20) d_150_20 w_920 (hc1 fo_77) (ok_is (pc := 23) d_150_23 (by decide) (ok_al_n (pc := 25) d_150_25 rfl (ok_il_n (pc := 26) d_150_26 rfl (ok_putf (pc := 27) d_150_27 w_920 (hc1 ⟨_, _, _, tyX12, cl_12, in_12, by decide, rfl, rfl, rfl, tyX12_ok, nmX12, Or.inl rfl⟩) pd_0 vt_I (ok_il (pc := 30) d_150_30 (ok_ri (pc := 32) d_150_32 rfl)))))))
theorem s_150_0 {Γ : m_G} : m_ok Γ m_tab 150 M_150 0 (g_150_0) := ok_il_n (pc := 0) d_150_0 rfl (ok_ic (pc := 1) d_150_1 rfl (ok_cine (pc := 2) (t := 33) d_150_2 rfl (by decide) rfl (ok_il_n (pc := 5) d_150_5 rfl (ok_ic (pc := 6) d_150_6 rfl (ok_si (pc := 7) d_150_7 rfl (ok_cat (pc := 10) (k2 := 140) rfl tb_140 (by decide) (by decide) rfl (go_S d_150_10 w_1044 w_1045 w_11 w_1046 nn_140 (by decide)) (ok_czne (pc := 13) (t := 19) d_150_13 rfl (by decide) rfl (ok_bi (pc := 16) d_150_16 rfl (ok_ri (pc := 18) d_150_18 rfl)))))))))
theorem tst_150 {Γ : m_G} (q : Nat) : m_ts Γ (t_150 q) q := ts_n (ts_n (ts_n (ts_l (k := 150) (pc := 0) tb_150 rfl (by decide) s_150_0) (ts_n (ts_l (k := 150) (pc := 19) tb_150 rfl (by decide) s_150_19) (ts_l (k := 150) (pc := 33) tb_150 rfl (by decide) s_150_33))) (ts_n (ts_n (ts_l (k := 150) (pc := 50) tb_150 rfl (by decide) s_150_50) (ts_l (k := 150) (pc := 53) tb_150 rfl (by decide) s_150_53)) (ts_n (ts_l (k := 150) (pc := 65) tb_150 rfl (by decide) s_150_65) (ts_l (k := 150) (pc := 83) tb_150 rfl (by decide) s_150_83)))) (ts_n (ts_n (ts_n (ts_l (k := 150) (pc := 97) tb_150 rfl (by decide) s_150_97) (ts_l (k := 150) (pc := 100) tb_150 rfl (by decide) s_150_100)) (ts_n (ts_l (k := 150) (pc := 113) tb_150 rfl (by decide) s_150_113) (ts_l (k := 150) (pc := 127) tb_150 rfl (by decide) s_150_127))) (ts_n (ts_n (ts_l (k := 150) (pc := 135) tb_150 rfl (by decide) s_150_135) (ts_l (k := 150) (pc := 148) tb_150 rfl (by decide) s_150_148)) (ts_n (ts_l (k := 150) (pc := 160) tb_150 rfl (by decide) s_150_160) (ts_l (k := 150) (pc := 183) tb_150 rfl (by decide) s_150_183))))
theorem d_151_0 : decode prog_14_method_13_code 0 = .ok (.aload_n 0, 1) := by decide +kernel
theorem d_151_1 : decode prog_14_method_13_code 1 = .ok (.iload_n 1, 1) := by decide +kernel
theorem d_151_2 : decode prog_14_method_13_code 2 = .ok (.invokevirtual 116, 3) := by decide +kernel
theorem d_151_5 : decode prog_14_method_13_code 5 = .ok (.ifCond .ne 6, 3) := by decide +kernel
theorem d_151_8 : decode prog_14_method_13_code 8 = .ok (.bipush (-2), 2) := by decide +kernel
theorem d_151_10 : decode prog_14_method_13_code 10 = .ok (.ireturn, 1) := by decide +kernel
theorem d_151_11 : decode prog_14_method_13_code 11 = .ok (.iload_n 2, 1) := by decide +kernel
theorem d_151_12 : decode prog_14_method_13_code 12 = .ok (.tableswitch 62 0 3 #[32, 39, 46, 55], 32) := by decide +kernel
theorem d_151_44 : decode prog_14_method_13_code 44 = .ok (.aload_n 0, 1) := by decide +kernel
theorem d_151_45 : decode prog_14_method_13_code 45 = .ok (.getfield 13, 3) := by decide +kernel
theorem d_151_48 : decode prog_14_method_13_code 48 = .ok (.iload_n 1, 1) := by decide +kernel
theorem d_151_49 : decode prog_14_method_13_code 49 = .ok (.iaload, 1) := by decide +kernel
theorem d_151_50 : decode prog_14_method_13_code 50 = .ok (.ireturn, 1) := by decide +kernel
theorem d_151_51 : decode prog_14_method_13_code 51 = .ok (.aload_n 0, 1) := by decide +kernel
theorem d_151_52 : decode prog_14_method_13_code 52 = .ok (.getfield 16, 3) := by decide +kernel
theorem d_151_55 : decode prog_14_method_13_code 55 = .ok (.iload_n 1, 1) := by decide +kernel
theorem d_151_56 : decode prog_14_method_13_code 56 = .ok (.iaload, 1) := by decide +kernel
theorem d_151_57 : decode prog_14_method_13_code 57 = .ok (.ireturn, 1) := by decide +kernel
theorem d_151_58 : decode prog_14_method_13_code 58 = .ok (.aload_n 0, 1) := by decide +kernel
theorem d_151_59 : decode prog_14_method_13_code 59 = .ok (.getfield 101, 3) := by decide +kernel
theorem d_151_62 : decode prog_14_method_13_code 62 = .ok (.iload_n 1, 1) := by decide +kernel
theorem d_151_63 : decode prog_14_method_13_code 63 = .ok (.ishr, 1) := by decide +kernel
theorem d_151_64 : decode prog_14_method_13_code 64 = .ok (.iconst 1, 1) := by decide +kernel
theorem d_151_65 : decode prog_14_method_13_code 65 = .ok (.iand, 1) := by decide +kernel
theorem d_151_66 : decode prog_14_method_13_code 66 = .ok (.ireturn, 1) := by decide +kernel
theorem d_151_67 : decode prog_14_method_13_code 67 = .ok (.aload_n 0, 1) := by decide +kernel
theorem d_151_68 : decode prog_14_method_13_code 68 = .ok (.getfield 7, 3) := by decide +kernel
theorem d_151_71 : decode prog_14_method_13_code 71 = .ok (.iload_n 1, 1) := by decide +kernel
theorem d_151_72 : decode prog_14_method_13_code 72 = .ok (.iaload, 1) := by decide +kernel
theorem d_151_73 : decode prog_14_method_13_code 73 = .ok (.ireturn, 1) := by decide +kernel
theorem d_151_74 : decode prog_14_method_13_code 74 = .ok (.bipush (-2), 2) := by decide +kernel
theorem d_151_76 : decode prog_14_method_13_code 76 = .ok (.ireturn, 1) := by decide +kernel
theorem s_151_74 {Γ : m_G} : m_ok Γ m_tab 151 M_151 74 (g_151_74) := ok_bi (pc := 74) d_151_74 rfl (ok_ri (pc := 76) d_151_76 rfl)
theorem s_151_67 {Γ : m_G} : m_ok Γ m_tab 151 M_151 67 (g_151_67) := ok_al_n (pc := 67) d_151_67 rfl (ok_getf (pc := 68) d_151_68 w_913 (hc1 fo_73) (ok_il_n (pc := 71) d_151_71 rfl (ok_iald (pc := 72) d_151_72 (ok_ri (pc := 73) d_151_73 rfl))))
theorem s_151_58 {Γ : m_G} : m_ok Γ m_tab 151 M_151 58 (g_151_58) := ok_al_n (pc := 58) d_151_58 rfl (ok_getf (pc := 59) d_151_59 w_921 (hc1 fo_76) (ok_il_n (pc := 62) d_151_62 rfl (ok_shr (pc := 63) d_151_63 (ok_ic (pc := 64) d_151_64 rfl (ok_and (pc := 65) d_151_65 (ok_ri (pc := 66) d_151_66 rfl))))))
theorem s_151_51 {Γ : m_G} : m_ok Γ m_tab 151 M_151 51 (g_151_51) := ok_al_n (pc := 51) d_151_51 rfl (ok_getf (pc := 52) d_151_52 w_915 (hc1 fo_71) (ok_il_n (pc := 55) d_151_55 rfl (ok_iald (pc := 56) d_151_56 (ok_ri (pc := 57) d_151_57 rfl))))
theorem s_151_44 {Γ : m_G} : m_ok Γ m_tab 151 M_151 44 (g_151_44) := ok_al_n (pc := 44) d_151_44 rfl (ok_getf (pc := 45) d_151_45 w_914 (hc1 fo_72) (ok_il_n (pc := 48) d_151_48 rfl (ok_iald (pc := 49) d_151_49 (ok_ri (pc := 50) d_151_50 rfl))))
theorem s_151_11 {Γ : m_G} : m_ok Γ m_tab 151 M_151 11 (g_151_11) := ok_il_n (pc := 11) d_151_11 rfl (ok_tsw (pc := 12) d_151_12 rfl rfl (by decide +kernel) (by decide +kernel) (by decide) (by decide) (by decide +kernel) (by decide))
theorem s_151_0 {Γ : m_G} : m_ok Γ m_tab 151 M_151 0 (g_151_0) := ok_al_n (pc := 0) d_151_0 rfl (ok_il_n (pc := 1) d_151_1 rfl (ok_cai (pc := 2) (k2 := 142) rfl rfl tb_142 (by decide) (by decide) rfl (go_V d_151_2 w_1058 w_1060 ws_42 w_11 w_1061 nn_142 (by decide) cl_12 rfl) (ok_czne (pc := 5) (t := 11) d_151_5 rfl (by decide) rfl (ok_bi (pc := 8) d_151_8 rfl (ok_ri (pc := 10) d_151_10 rfl)))))
theorem tst_151 {Γ : m_G} (q : Nat) : m_ts Γ (t_151 q) q := ts_n (ts_n (ts_l (k := 151) (pc := 0) tb_151 rfl (by decide) s_151_0) (ts_n (ts_l (k := 151) (pc := 11) tb_151 rfl (by decide) s_151_11) (ts_l (k := 151) (pc := 44) tb_151 rfl (by decide) s_151_44))) (ts_n (ts_n (ts_l (k := 151) (pc := 51) tb_151 rfl (by decide) s_151_51) (ts_l (k := 151) (pc := 58) tb_151 rfl (by decide) s_151_58)) (ts_n (ts_l (k := 151) (pc := 67) tb_151 rfl (by decide) s_151_67) (ts_l (k := 151) (pc := 74) tb_151 rfl (by decide) s_151_74)))
theorem d_152_0 : decode prog_14_method_14_code 0 = .ok (.iload_n 1, 1) := by decide +kernel
theorem d_152_1 : decode prog_14_method_14_code 1 = .ok (.iconst 0, 1) := by decide +kernel
theorem d_152_2 : decode prog_14_method_14_code 2 = .ok (.iconst 5, 1) := by decide +kernel
theorem d_152_3 : decode prog_14_method_14_code 3 = .ok (.invokestatic 112, 3) := by decide +kernel
theorem d_152_6 : decode prog_14_method_14_code 6 = .ok (.ifCond .eq 13, 3) := by decide +kernel
theorem d_152_9 : decode prog_14_method_14_code 9 = .ok (.iload_n 2, 1) := by decide +kernel
theorem d_152_10 : decode prog_14_method_14_code 10 = .ok (.iconst 0, 1) := by decide +kernel
theorem d_152_11 : decode prog_14_method_14_code 11 = .ok (.bipush 9, 2) := by decide +kernel
theorem d_152_13 : decode prog_14_method_14_code 13 = .ok (.invokestatic 112, 3) := by decide +kernel
theorem d_152_16 : decode prog_14_method_14_code 16 = .ok (.ifCond .ne 6, 3) := by decide +kernel
theorem d_152_19 : decode prog_14_method_14_code 19 = .ok (.bipush (-2), 2) := by decide +kernel
theorem d_152_21 : decode prog_14_method_14_code 21 = .ok (.ireturn, 1) := by decide +kernel
theorem d_152_22 : decode prog_14_method_14_code 22 = .ok (.aload_n 0, 1) := by decide +kernel
theorem d_152_23 : decode prog_14_method_14_code 23 = .ok (.getfield 127, 3) := by decide +kernel
theorem d_152_26 : decode prog_14_method_14_code 26 = .ok (.iconst 5, 1) := by decide +kernel
theorem d_152_27 : decode prog_14_method_14_code 27 = .ok (.if_icmp .ne 6, 3) := by decide +kernel
theorem d_152_30 : decode prog_14_method_14_code 30 = .ok (.bipush (-4), 2) := by decide +kernel
theorem d_152_32 : decode prog_14_method_14_code 32 = .ok (.ireturn, 1) := by decide +kernel
theorem d_152_33 : decode prog_14_method_14_code 33 = .ok (.aload_n 0, 1) := by decide +kernel
theorem d_152_34 : decode prog_14_method_14_code 34 = .ok (.getfield 19, 3) := by decide +kernel
theorem d_152_37 : decode prog_14_method_14_code 37 = .ok (.aload_n 0, 1) := by decide +kernel
theorem d_152_38 : decode prog_14_method_14_code 38 = .ok (.getfield 127, 3) := by decide +kernel
theorem d_152_41 : decode prog_14_method_14_code 41 = .ok (.iload_n 1, 1) := by decide +kernel
theorem d_152_42 : decode prog_14_method_14_code 42 = .ok (.iastore, 1) := by decide +kernel
theorem d_152_43 : decode prog_14_method_14_code 43 = .ok (.aload_n 0, 1) := by decide +kernel
theorem d_152_44 : decode prog_14_method_14_code 44 = .ok (.getfield 22, 3) := by decide +kernel
theorem d_152_47 : decode prog_14_method_14_code 47 = .ok (.aload_n 0, 1) := by decide +kernel
theorem d_152_48 : decode prog_14_method_14_code 48 = .ok (.getfield 127, 3) := by decide +kernel
theorem d_152_51 : decode prog_14_method_14_code 51 = .ok (.iload_n 2, 1) := by decide +kernel
theorem d_152_52 : decode prog_14_method_14_code 52 = .ok (.iastore, 1) := by decide +kernel
theorem d_152_53 : decode prog_14_method_14_code 53 = .ok (.aload_n 0, 1) := by decide +kernel
theorem d_152_54 : decode prog_14_method_14_code 54 = .ok (.dup, 1) := by decide +kernel
theorem d_152_55 : decode prog_14_method_14_code 55 = .ok (.getfield 127, 3) := by decide +kernel
theorem d_152_58 : decode prog_14_method_14_code 58 = .ok (.iconst 1, 1) := by decide +kernel
theorem d_152_59 : decode prog_14_method_14_code 59 = .ok (.iadd, 1) := by decide +kernel
theorem d_152_60 : decode prog_14_method_14_code 60 = .ok (.putfield 127, 3) := by decide +kernel
theorem d_152_63 : decode prog_14_method_14_code 63 = .ok (.aload_n 0, 1) := by decide +kernel
theorem d_152_64 : decode prog_14_method_14_code 64 = .ok (.getfield 127, 3) := by decide +kernel
theorem d_152_67 : decode prog_14_method_14_code 67 = .ok (.iconst 1, 1) := by decide +kernel
theorem d_152_68 : decode prog_14_method_14_code 68 = .ok (.isub, 1) := by decide +kernel
theorem d_152_69 : decode prog_14_method_14_code 69 = .ok (.ireturn, 1) := by decide +kernel
theorem s_152_33 {Γ : m_G} : m_ok Γ m_tab 152 M_152 33 (g_152_33) := ok_al_n (pc := 33) d_152_33 rfl (ok_getf (pc := 34) d_152_34 w_916 (hc1 fo_80) (ok_al_n (pc := 37) d_152_37 rfl (ok_getf (pc := 38) d_152_38 w_922 (hc1 fo_78) (ok_il_n (pc := 41) d_152_41 rfl (ok_iast (pc := 42) d_152_42 (ok_al_n (pc := 43) d_152_43 rfl (ok_getf (pc := 44) d_152_44 w_917 (hc1 fo_79) (ok_al_n (pc := 47) d_152_47 rfl (ok_getf (pc := 48) d_152_48 w_922 (hc1 fo_78) (ok_il_n (pc := 51) d_152_51 rfl (ok_iast (pc := 52) d_152_52 (ok_al_n (pc := 53) d_152_53 rfl (ok_dup (pc := 54) d_152_54 (ok_getf (pc := 55) d_152_55 w_922 (hc1 fo_78) (ok_ic (pc := 58) d_152_58 rfl (ok_add (pc := 59) d_152_59 (ok_putf (pc := 60) d_152_60 w_922 (hc1 ⟨_, _, _, tyX12, cl_12, in_12, by decide, rfl, rfl, rfl, tyX12_ok, nmX12, Or.inl rfl⟩) pd_0 vt_I (ok_al_n (pc := 63) d_152_63 rfl (ok_getf (pc := 64) d_152_64 w_922 (hc1 fo_78) (ok_ic (pc := 67) d_152_67 rfl (ok_sub (pc := 68) d_152_68 (ok_ri (pc := 69) d_152_69 rfl))))))))))))))))))))))
theorem s_152_22 {Γ : m_G} : m_ok Γ m_tab 152 M_152 22 (g_152_22) := ok_al_n (pc := 22) d_152_22 rfl (ok_getf (pc := 23) d_152_23 w_922 (hc1 fo_78) (ok_ic (pc := 26) d_152_26 rfl (ok_cine (pc := 27) (t := 33) d_152_27 rfl (by decide) rfl (ok_bi (pc := 30) d_152_30 rfl (ok_ri (pc := 32) d_152_32 rfl)))))
theorem s_152_19 {Γ : m_G} : m_ok Γ m_tab 152 M_152 19 (g_152_19) := ok_bi (pc := 19) d_152_19 rfl (ok_ri (pc := 21) d_152_21 rfl)
theorem s_152_0 {Γ : m_G} : m_ok Γ m_tab 152 M_152 0 (g_152_0) := ok_il_n (pc := 0) d_152_0 rfl (ok_ic (pc := 1) d_152_1 rfl (ok_ic (pc := 2) d_152_2 rfl (ok_cat (pc := 3) (k2 := 140) rfl tb_140 (by decide) (by decide) rfl (go_S d_152_3 w_1044 w_1045 w_11 w_1046 nn_140 (by decide)) (ok_czeq (pc := 6) (t := 19) d_152_6 rfl (by decide) rfl (ok_il_n (pc := 9) d_152_9 rfl (ok_ic (pc := 10) d_152_10 rfl (ok_bi (pc := 11) d_152_11 rfl (ok_cat (pc := 13) (k2 := 140) rfl tb_140 (by decide) (by decide) rfl (go_S d_152_13 w_1044 w_1045 w_11 w_1046 nn_140 (by decide)) (ok_czne (pc := 16) (t := 22) d_152_16 rfl (by decide) rfl (s_152_19))))))))))
theorem tst_152 {Γ : m_G} (q : Nat) : m_ts Γ (t_152 q) q := ts_n (ts_n (ts_l (k := 152) (pc := 0) tb_152 rfl (by decide) s_152_0) (ts_l (k := 152) (pc := 19) tb_152 rfl (by decide) s_152_19)) (ts_n (ts_l (k := 152) (pc := 22) tb_152 rfl (by decide) s_152_22) (ts_l (k := 152) (pc := 33) tb_152 rfl (by decide) s_152_33))
theorem d_153_0 : decode prog_14_method_15_code 0 = .ok (.aload_n 0, 1) := by decide +kernel
theorem d_153_1 : decode prog_14_method_15_code 1 = .ok (.getfield 22, 3) := by decide +kernel
theorem d_153_4 : decode prog_14_method_15_code 4 = .ok (.iload_n 1, 1) := by decide +kernel
theorem d_153_5 : decode prog_14_method_15_code 5 = .ok (.iaload, 1) := by decide +kernel
theorem d_153_6 : decode prog_14_method_15_code 6 = .ok (.istore 5, 2) := by decide +kernel
theorem d_153_8 : decode prog_14_method_15_code 8 = .ok (.iconst 1, 1) := by decide +kernel
theorem d_153_9 : decode prog_14_method_15_code 9 = .ok (.iload 5, 2) := by decide +kernel
theorem d_153_11 : decode prog_14_method_15_code 11 = .ok (.iadd, 1) := by decide +kernel
theorem d_153_12 : decode prog_14_method_15_code 12 = .ok (.istore 6, 2) := by decide +kernel
theorem d_153_14 : decode prog_14_method_15_code 14 = .ok (.aload_n 0, 1) := by decide +kernel
theorem d_153_15 : decode prog_14_method_15_code 15 = .ok (.getfield 19, 3) := by decide +kernel
theorem d_153_18 : decode prog_14_method_15_code 18 = .ok (.iload_n 1, 1) := by decide +kernel
theorem d_153_19 : decode prog_14_method_15_code 19 = .ok (.iaload, 1) := by decide +kernel
theorem d_153_20 : decode prog_14_method_15_code 20 = .ok (.tableswitch 95 1 5 #[36, 47, 56, 73, 84], 36) := by decide +kernel
theorem d_153_56 : decode prog_14_method_15_code 56 = .ok (.iload 6, 2) := by decide +kernel
theorem d_153_58 : decode prog_14_method_15_code 58 = .ok (.iload_n 2, 1) := by decide +kernel
theorem d_153_59 : decode prog_14_method_15_code 59 = .ok (.iconst 1, 1) := by decide +kernel
theorem d_153_60 : decode prog_14_method_15_code 60 = .ok (.iadd, 1) := by decide +kernel
theorem d_153_61 : decode prog_14_method_15_code 61 = .ok (.imul, 1) := by decide +kernel
theorem d_153_62 : decode prog_14_method_15_code 62 = .ok (.istore 6, 2) := by decide +kernel
theorem d_153_64 : decode prog_14_method_15_code 64 = .ok (.goto 51, 3) := by decide +kernel
theorem d_153_67 : decode prog_14_method_15_code 67 = .ok (.iload 6, 2) := by decide +kernel
theorem d_153_69 : decode prog_14_method_15_code 69 = .ok (.iconst 3, 1) := by decide +kernel
theorem d_153_70 : decode prog_14_method_15_code 70 = .ok (.iadd, 1) := by decide +kernel
theorem d_153_71 : decode prog_14_method_15_code 71 = .ok (.istore 6, 2) := by decide +kernel
theorem d_153_73 : decode prog_14_method_15_code 73 = .ok (.goto 42, 3) := by decide +kernel
theorem d_153_76 : decode prog_14_method_15_code 76 = .ok (.iload 6, 2) := by decide +kernel
theorem d_153_78 : decode prog_14_method_15_code 78 = .ok (.iload_n 2, 1) := by decide +kernel
theorem d_153_79 : decode prog_14_method_15_code 79 = .ok (.iconst 1, 1) := by decide +kernel
theorem d_153_80 : decode prog_14_method_15_code 80 = .ok (.iadd, 1) := by decide +kernel
theorem d_153_81 : decode prog_14_method_15_code 81 = .ok (.imul, 1) := by decide +kernel
theorem d_153_82 : decode prog_14_method_15_code 82 = .ok (.iload 4, 2) := by decide +kernel
theorem d_153_84 : decode prog_14_method_15_code 84 = .ok (.iload 5, 2) := by decide +kernel
theorem d_153_86 : decode prog_14_method_15_code 86 = .ok (.imul, 1) := by decide +kernel
theorem d_153_87 : decode prog_14_method_15_code 87 = .ok (.isub, 1) := by decide +kernel
theorem d_153_88 : decode prog_14_method_15_code 88 = .ok (.istore 6, 2) := by decide +kernel
theorem d_153_90 : decode prog_14_method_15_code 90 = .ok (.goto 25, 3) := by decide +kernel
theorem d_153_93 : decode prog_14_method_15_code 93 = .ok (.iload 6, 2) := by decide +kernel
theorem d_153_95 : decode prog_14_method_15_code 95 = .ok (.iconst 3, 1) := by decide +kernel
theorem d_153_96 : decode prog_14_method_15_code 96 = .ok (.iadd, 1) := by decide +kernel
theorem d_153_97 : decode prog_14_method_15_code 97 = .ok (.iconst 2, 1) := by decide +kernel
theorem d_153_98 : decode prog_14_method_15_code 98 = .ok (.idiv, 1) := by decide +kernel
theorem d_153_99 : decode prog_14_method_15_code 99 = .ok (.istore 6, 2) := by decide +kernel
theorem d_153_101 : decode prog_14_method_15_code 101 = .ok (.goto 14, 3) := by decide +kernel
theorem d_153_104 : decode prog_14_method_15_code 104 = .ok (.iload 6, 2) := by decide +kernel
theorem d_153_106 : decode prog_14_method_15_code 106 = .ok (.iconst 3, 1) := by decide +kernel
theorem d_153_107 : decode prog_14_method_15_code 107 = .ok (.iadd, 1) := by decide +kernel
theorem d_153_108 : decode prog_14_method_15_code 108 = .ok (.iload_n 3, 1) := by decide +kernel
theorem d_153_109 : decode prog_14_method_15_code 109 = .ok (.iadd, 1) := by decide +kernel
theorem d_153_110 : decode prog_14_method_15_code 110 = .ok (.istore 6, 2) := by decide +kernel
theorem d_153_112 : decode prog_14_method_15_code 112 = .ok (.goto 3, 3) := by decide +kernel
theorem d_153_115 : decode prog_14_method_15_code 115 = .ok (.iload 6, 2) := by decide +kernel
theorem d_153_117 : decode prog_14_method_15_code 117 = .ok (.ifCond .ge 7, 3) := by decide +kernel
theorem d_153_120 : decode prog_14_method_15_code 120 = .ok (.iconst 0, 1) := by decide +kernel
theorem d_153_121 : decode prog_14_method_15_code 121 = .ok (.goto 5, 3) := by decide +kernel
theorem d_153_124 : decode prog_14_method_15_code 124 = .ok (.iload 6, 2) := by decide +kernel
theorem d_153_126 : decode prog_14_method_15_code 126 = .ok (.ireturn, 1) := by decide +kernel
theorem s_153_126 {Γ : m_G} : m_ok Γ m_tab 153 M_153 126 (g_153_126) := ok_ri (pc := 126) d_153_126 rfl
theorem s_153_124 {Γ : m_G} : m_ok Γ m_tab 153 M_153 124 (g_153_124) := ok_il (pc := 124) d_153_124 (s_153_126)
theorem s_153_115 {Γ : m_G} : m_ok Γ m_tab 153 M_153 115 (g_153_115) := ok_il (pc := 115) d_153_115 (ok_czge (pc := 117) (t := 124) d_153_117 rfl (by decide) rfl (ok_ic (pc := 120) d_153_120 rfl (ok_go (pc := 121) (t := 126) d_153_121 rfl (by decide) rfl)))
theorem s_153_104 {Γ : m_G} : m_ok Γ m_tab 153 M_153 104 (g_153_104) := ok_il (pc := 104) d_153_104 (ok_ic (pc := 106) d_153_106 rfl (ok_add (pc := 107) d_153_107 (ok_il_n (pc := 108) d_153_108 rfl (ok_add (pc := 109) d_153_109 (ok_is (pc := 110) d_153_110 (by decide) (ok_go (pc := 112) (t := 115) d_153_112 rfl (by decide) rfl))))))
theorem s_153_93 {Γ : m_G} : m_ok Γ m_tab 153 M_153 93 (g_153_93) := ok_il (pc := 93) d_153_93 (ok_ic (pc := 95) d_153_95 rfl (ok_add (pc := 96) d_153_96 (ok_ic (pc := 97) d_153_97 rfl (ok_div (pc := 98) d_153_98 (ok_is (pc := 99) d_153_99 (by decide) (ok_go (pc := 101) (t := 115) d_153_101 rfl (by decide) rfl))))))
theorem s_153_76 {Γ : m_G} : m_ok Γ m_tab 153 M_153 76 (g_153_76) := ok_il (pc := 76) d_153_76 (ok_il_n (pc := 78) d_153_78 rfl (ok_ic (pc := 79) d_153_79 rfl (ok_add (pc := 80) d_153_80 (ok_mul (pc := 81) d_153_81 (ok_il (pc := 82) d_153_82 (ok_il (pc := 84) d_153_84 (ok_mul (pc := 86) d_153_86 (ok_sub (pc := 87) d_153_87 (ok_is (pc := 88) d_153_88 (by decide) (ok_go (pc := 90) (t := 115) d_153_90 rfl (by decide) rfl))))))))))
theorem s_153_67 {Γ : m_G} : m_ok Γ m_tab 153 M_153 67 (g_153_67) := ok_il (pc := 67) d_153_67 (ok_ic (pc := 69) d_153_69 rfl (ok_add (pc := 70) d_153_70 (ok_is (pc := 71) d_153_71 (by decide) (ok_go (pc := 73) (t := 115) d_153_73 rfl (by decide) rfl))))
theorem s_153_56 {Γ : m_G} : m_ok Γ m_tab 153 M_153 56 (g_153_56) := ok_il (pc := 56) d_153_56 (ok_il_n (pc := 58) d_153_58 rfl (ok_ic (pc := 59) d_153_59 rfl (ok_add (pc := 60) d_153_60 (ok_mul (pc := 61) d_153_61 (ok_is (pc := 62) d_153_62 (by decide) (ok_go (pc := 64) (t := 115) d_153_64 rfl (by decide) rfl))))))
theorem s_153_0 {Γ : m_G} : m_ok Γ m_tab 153 M_153 0 (g_153_0) := ok_al_n (pc := 0) d_153_0 rfl (ok_getf (pc := 1) d_153_1 w_917 (hc1 fo_79) (ok_il_n (pc := 4) d_153_4 rfl (ok_iald (pc := 5) d_153_5 (ok_is (pc := 6) d_153_6 (by decide) (ok_ic (pc := 8) d_153_8 rfl (ok_il (pc := 9) d_153_9 (ok_add (pc := 11) d_153_11 (ok_is (pc := 12) d_153_12 (by decide) (ok_al_n (pc := 14) d_153_14 rfl (ok_getf (pc := 15) d_153_15 w_916 (hc1 fo_80) (ok_il_n (pc := 18) d_153_18 rfl (ok_iald (pc := 19) d_153_19 (ok_tsw (pc := 20) d_153_20 rfl rfl (by decide +kernel) (by decide +kernel) (by decide) (by decide) (by decide +kernel) (by decide))))))))))))))
theorem tst_153 {Γ : m_G} (q : Nat) : m_ts Γ (t_153 q) q := ts_n (ts_n (ts_n (ts_l (k := 153) (pc := 0) tb_153 rfl (by decide) s_153_0) (ts_l (k := 153) (pc := 56) tb_153 rfl (by decide) s_153_56)) (ts_n (ts_l (k := 153) (pc := 67) tb_153 rfl (by decide) s_153_67) (ts_l (k := 153) (pc := 76) tb_153 rfl (by decide) s_153_76))) (ts_n (ts_n (ts_l (k := 153) (pc := 93) tb_153 rfl (by decide) s_153_93) (ts_l (k := 153) (pc := 104) tb_153 rfl (by decide) s_153_104)) (ts_n (ts_l (k := 153) (pc := 115) tb_153 rfl (by decide) s_153_115) (ts_n (ts_l (k := 153) (pc := 124) tb_153 rfl (by decide) s_153_124) (ts_l (k := 153) (pc := 126) tb_153 rfl (by decide) s_153_126))))
theorem d_154_0 : decode prog_14_method_16_code 0 = .ok (.aload_n 0, 1) := by decide +kernel
theorem d_154_1 : decode prog_14_method_16_code 1 = .ok (.getfield 22, 3) := by decide +kernel
theorem d_154_4 : decode prog_14_method_16_code 4 = .ok (.iload_n 1, 1) := by decide +kernel
theorem d_154_5 : decode prog_14_method_16_code 5 = .ok (.iaload, 1) := by decide +kernel
theorem d_154_6 : decode prog_14_method_16_code 6 = .ok (.istore 5, 2) := by decide +kernel
theorem d_154_8 : decode prog_14_method_16_code 8 = .ok (.aload_n 0, 1) := by decide +kernel
theorem d_154_9 : decode prog_14_method_16_code 9 = .ok (.getfield 19, 3) := by decide +kernel
theorem d_154_12 : decode prog_14_method_16_code 12 = .ok (.iload_n 1, 1) := by decide +kernel
theorem d_154_13 : decode prog_14_method_16_code 13 = .ok (.iaload, 1) := by decide +kernel
theorem d_154_14 : decode prog_14_method_16_code 14 = .ok (.tableswitch 83 2 5 #[30, 45, 30, 60], 30) := by decide +kernel
theorem d_154_44 : decode prog_14_method_16_code 44 = .ok (.iload_n 2, 1) := by decide +kernel
theorem d_154_45 : decode prog_14_method_16_code 45 = .ok (.iload 5, 2) := by decide +kernel
theorem d_154_47 : decode prog_14_method_16_code 47 = .ok (.bipush 6, 2) := by decide +kernel
theorem d_154_49 : decode prog_14_method_16_code 49 = .ok (.irem, 1) := by decide +kernel
theorem d_154_50 : decode prog_14_method_16_code 50 = .ok (.if_icmp .eq 7, 3) := by decide +kernel
theorem d_154_53 : decode prog_14_method_16_code 53 = .ok (.iconst 1, 1) := by decide +kernel
theorem d_154_54 : decode prog_14_method_16_code 54 = .ok (.goto 4, 3) := by decide +kernel
theorem d_154_57 : decode prog_14_method_16_code 57 = .ok (.iconst 0, 1) := by decide +kernel
theorem d_154_58 : decode prog_14_method_16_code 58 = .ok (.ireturn, 1) := by decide +kernel
theorem d_154_59 : decode prog_14_method_16_code 59 = .ok (.iload 4, 2) := by decide +kernel
theorem d_154_61 : decode prog_14_method_16_code 61 = .ok (.iload 5, 2) := by decide +kernel
theorem d_154_63 : decode prog_14_method_16_code 63 = .ok (.iconst 5, 1) := by decide +kernel
theorem d_154_64 : decode prog_14_method_16_code 64 = .ok (.irem, 1) := by decide +kernel
theorem d_154_65 : decode prog_14_method_16_code 65 = .ok (.if_icmp .eq 7, 3) := by decide +kernel
theorem d_154_68 : decode prog_14_method_16_code 68 = .ok (.iconst 1, 1) := by decide +kernel
theorem d_154_69 : decode prog_14_method_16_code 69 = .ok (.goto 4, 3) := by decide +kernel
theorem d_154_72 : decode prog_14_method_16_code 72 = .ok (.iconst 0, 1) := by decide +kernel
theorem d_154_73 : decode prog_14_method_16_code 73 = .ok (.ireturn, 1) := by decide +kernel
theorem d_154_74 : decode prog_14_method_16_code 74 = .ok (.iload_n 2, 1) := by decide +kernel
theorem d_154_75 : decode prog_14_method_16_code 75 = .ok (.iload 5, 2) := by decide +kernel
theorem d_154_77 : decode prog_14_method_16_code 77 = .ok (.bipush 6, 2) := by decide +kernel
theorem d_154_79 : decode prog_14_method_16_code 79 = .ok (.irem, 1) := by decide +kernel
theorem d_154_80 : decode prog_14_method_16_code 80 = .ok (.if_icmp .eq 15, 3) := by decide +kernel
theorem d_154_83 : decode prog_14_method_16_code 83 = .ok (.iload 4, 2) := by decide +kernel
theorem d_154_85 : decode prog_14_method_16_code 85 = .ok (.iload_n 3, 1) := by decide +kernel
theorem d_154_86 : decode prog_14_method_16_code 86 = .ok (.iconst 1, 1) := by decide +kernel
theorem d_154_87 : decode prog_14_method_16_code 87 = .ok (.isub, 1) := by decide +kernel
theorem d_154_88 : decode prog_14_method_16_code 88 = .ok (.if_icmp .eq 7, 3) := by decide +kernel
theorem d_154_91 : decode prog_14_method_16_code 91 = .ok (.iconst 1, 1) := by decide +kernel
theorem d_154_92 : decode prog_14_method_16_code 92 = .ok (.goto 4, 3) := by decide +kernel
theorem d_154_95 : decode prog_14_method_16_code 95 = .ok (.iconst 0, 1) := by decide +kernel
theorem d_154_96 : decode prog_14_method_16_code 96 = .ok (.ireturn, 1) := by decide +kernel
theorem d_154_97 : decode prog_14_method_16_code 97 = .ok (.iconst 1, 1) := by decide +kernel
theorem d_154_98 : decode prog_14_method_16_code 98 = .ok (.ireturn, 1) := by decide +kernel
theorem s_154_97 {Γ : m_G} : m_ok Γ m_tab 154 M_154 97 (g_154_97) := ok_ic (pc := 97) d_154_97 rfl (ok_rz (pc := 98) d_154_98 rfl)
theorem s_154_96 {Γ : m_G} : m_ok Γ m_tab 154 M_154 96 (g_154_96) := ok_rz (pc := 96) d_154_96 rfl
theorem s_154_95 {Γ : m_G} : m_ok Γ m_tab 154 M_154 95 (g_154_95) := ok_ic (pc := 95) d_154_95 rfl (s_154_96)
theorem s_154_74 {Γ : m_G} : m_ok Γ m_tab 154 M_154 74 (g_154_74) := ok_il_n (pc := 74) d_154_74 rfl (ok_il (pc := 75) d_154_75 (ok_bi (pc := 77) d_154_77 rfl (ok_rem (pc := 79) d_154_79 (ok_cieq (pc := 80) (t := 95) d_154_80 rfl (by decide) rfl (ok_il (pc := 83) d_154_83 (ok_il_n (pc := 85) d_154_85 rfl (ok_ic (pc := 86) d_154_86 rfl (ok_sub (pc := 87) d_154_87 (ok_cieq (pc := 88) (t := 95) d_154_88 rfl (by decide) rfl (ok_ic (pc := 91) d_154_91 rfl (ok_go (pc := 92) (t := 96) d_154_92 rfl (by decide) rfl)))))))))))
theorem s_154_73 {Γ : m_G} : m_ok Γ m_tab 154 M_154 73 (g_154_73) := ok_rz (pc := 73) d_154_73 rfl
theorem s_154_72 {Γ : m_G} : m_ok Γ m_tab 154 M_154 72 (g_154_72) := ok_ic (pc := 72) d_154_72 rfl (s_154_73)
theorem s_154_59 {Γ : m_G} : m_ok Γ m_tab 154 M_154 59 (g_154_59) := ok_il (pc := 59) d_154_59 (ok_il (pc := 61) d_154_61 (ok_ic (pc := 63) d_154_63 rfl (ok_rem (pc := 64) d_154_64 (ok_cieq (pc := 65) (t := 72) d_154_65 rfl (by decide) rfl (ok_ic (pc := 68) d_154_68 rfl (ok_go (pc := 69) (t := 73) d_154_69 rfl (by decide) rfl))))))
theorem s_154_58 {Γ : m_G} : m_ok Γ m_tab 154 M_154 58 (g_154_58) := ok_rz (pc := 58) d_154_58 rfl
theorem s_154_57 {Γ : m_G} : m_ok Γ m_tab 154 M_154 57 (g_154_57) := ok_ic (pc := 57) d_154_57 rfl (s_154_58)
theorem s_154_44 {Γ : m_G} : m_ok Γ m_tab 154 M_154 44 (g_154_44) := ok_il_n (pc := 44) d_154_44 rfl (ok_il (pc := 45) d_154_45 (ok_bi (pc := 47) d_154_47 rfl (ok_rem (pc := 49) d_154_49 (ok_cieq (pc := 50) (t := 57) d_154_50 rfl (by decide) rfl (ok_ic (pc := 53) d_154_53 rfl (ok_go (pc := 54) (t := 58) d_154_54 rfl (by decide) rfl))))))
theorem s_154_0 {Γ : m_G} : m_ok Γ m_tab 154 M_154 0 (g_154_0) := ok_al_n (pc := 0) d_154_0 rfl (ok_getf (pc := 1) d_154_1 w_917 (hc1 fo_79) (ok_il_n (pc := 4) d_154_4 rfl (ok_iald (pc := 5) d_154_5 (ok_is (pc := 6) d_154_6 (by decide) (ok_al_n (pc := 8) d_154_8 rfl (ok_getf (pc := 9) d_154_9 w_916 (hc1 fo_80) (ok_il_n (pc := 12) d_154_12 rfl (ok_iald (pc := 13) d_154_13 (ok_tsw (pc := 14) d_154_14 rfl rfl (by decide +kernel) (by decide +kernel) (by decide) (by decide) (by decide +kernel) (by decide))))))))))
theorem tst_154 {Γ : m_G} (q : Nat) : m_ts Γ (t_154 q) q := ts_n (ts_n (ts_n (ts_l (k := 154) (pc := 0) tb_154 rfl (by decide) s_154_0) (ts_l (k := 154) (pc := 44) tb_154 rfl (by decide) s_154_44)) (ts_n (ts_l (k := 154) (pc := 57) tb_154 rfl (by decide) s_154_57) (ts_n (ts_l (k := 154) (pc := 58) tb_154 rfl (by decide) s_154_58) (ts_l (k := 154) (pc := 59) tb_154 rfl (by decide) s_154_59)))) (ts_n (ts_n (ts_l (k := 154) (pc := 72) tb_154 rfl (by decide) s_154_72) (ts_n (ts_l (k := 154) (pc := 73) tb_154 rfl (by decide) s_154_73) (ts_l (k := 154) (pc := 74) tb_154 rfl (by decide) s_154_74))) (ts_n (ts_l (k := 154) (pc := 95) tb_154 rfl (by decide) s_154_95) (ts_n (ts_l (k := 154) (pc := 96) tb_154 rfl (by decide) s_154_96) (ts_l (k := 154) (pc := 97) tb_154 rfl (by decide) s_154_97))))
theorem d_155_0 : decode prog_14_method_17_code 0 = .ok (.iload_n 2, 1) := by decide +kernel
theorem d_155_1 : decode prog_14_method_17_code 1 = .ok (.bipush 100, 2) := by decide +kernel
theorem d_155_3 : decode prog_14_method_17_code 3 = .ok (.idiv, 1) := by decide +kernel
theorem d_155_4 : decode prog_14_method_17_code 4 = .ok (.istore 4, 2) := by decide +kernel
theorem d_155_6 : decode prog_14_method_17_code 6 = .ok (.iload_n 2, 1) := by decide +kernel
theorem d_155_7 : decode prog_14_method_17_code 7 = .ok (.bipush 10, 2) := by decide +kernel
theorem d_155_9 : decode prog_14_method_17_code 9 = .ok (.idiv, 1) := by decide +kernel
theorem d_155_10 : decode prog_14_method_17_code 10 = .ok (.bipush 10, 2) := by decide +kernel
theorem d_155_12 : decode prog_14_method_17_code 12 = .ok (.irem, 1) := by decide +kernel
theorem d_155_13 : decode prog_14_method_17_code 13 = .ok (.istore 5, 2) := by decide +kernel
theorem d_155_15 : decode prog_14_method_17_code 15 = .ok (.iload_n 2, 1) := by decide +kernel
theorem d_155_16 : decode prog_14_method_17_code 16 = .ok (.bipush 10, 2) := by decide +kernel
theorem d_155_18 : decode prog_14_method_17_code 18 = .ok (.irem, 1) := by decide +kernel
theorem d_155_19 : decode prog_14_method_17_code 19 = .ok (.istore 6, 2) := by decide +kernel
theorem d_155_21 : decode prog_14_method_17_code 21 = .ok (.iload_n 1, 1) := by decide +kernel
theorem d_155_22 : decode prog_14_method_17_code 22 = .ok (.iconst 0, 1) := by decide +kernel
theorem d_155_23 : decode prog_14_method_17_code 23 = .ok (.aload_n 0, 1) := by decide +kernel
theorem d_155_24 : decode prog_14_method_17_code 24 = .ok (.getfield 127, 3) := by decide +kernel
theorem d_155_27 : decode prog_14_method_17_code 27 = .ok (.iconst 1, 1) := by decide +kernel
theorem d_155_28 : decode prog_14_method_17_code 28 = .ok (.isub, 1) := by decide +kernel
theorem d_155_29 : decode prog_14_method_17_code 29 = .ok (.invokestatic 112, 3) := by decide +kernel
theorem d_155_32 : decode prog_14_method_17_code 32 = .ok (.ifCond .eq 50, 3) := by decide +kernel
theorem d_155_35 : decode prog_14_method_17_code 35 = .ok (.iload_n 2, 1) := by decide +kernel
theorem d_155_36 : decode prog_14_method_17_code 36 = .ok (.ifCond .lt 46, 3) := by decide +kernel
theorem d_155_39 : decode prog_14_method_17_code 39 = .ok (.aload_n 0, 1) := by decide +kernel
theorem d_155_40 : decode prog_14_method_17_code 40 = .ok (.iload 4, 2) := by decide +kernel
theorem d_155_42 : decode prog_14_method_17_code 42 = .ok (.invokevirtual 116, 3) := by decide +kernel
theorem d_155_45 : decode prog_14_method_17_code 45 = .ok (.ifCond .eq 37, 3) := by decide +kernel
theorem d_155_48 : decode prog_14_method_17_code 48 = .ok (.aload_n 0, 1) := by decide +kernel
theorem d_155_49 : decode prog_14_method_17_code 49 = .ok (.iload 5, 2) := by decide +kernel
theorem d_155_51 : decode prog_14_method_17_code 51 = .ok (.invokevirtual 124, 3) := by decide +kernel
theorem d_155_54 : decode prog_14_method_17_code 54 = .ok (.ifCond .eq 28, 3) := by decide +kernel
theorem d_155_57 : decode prog_14_method_17_code 57 = .ok (.aload_n 0, 1) := by decide +kernel
theorem d_155_58 : decode prog_14_method_17_code 58 = .ok (.iload 6, 2) := by decide +kernel
theorem d_155_60 : decode prog_14_method_17_code 60 = .ok (.invokevirtual 124, 3) := by decide +kernel
theorem d_155_63 : decode prog_14_method_17_code 63 = .ok (.ifCond .eq 19, 3) := by decide +kernel
theorem d_155_66 : decode prog_14_method_17_code 66 = .ok (.iload 5, 2) := by decide +kernel
theorem d_155_68 : decode prog_14_method_17_code 68 = .ok (.iload 6, 2) := by decide +kernel
theorem d_155_70 : decode prog_14_method_17_code 70 = .ok (.if_icmp .eq 12, 3) := by decide +kernel
theorem d_155_73 : decode prog_14_method_17_code 73 = .ok (.iload_n 3, 1) := by decide +kernel
theorem d_155_74 : decode prog_14_method_17_code 74 = .ok (.iconst 0, 1) := by decide +kernel
theorem d_155_75 : decode prog_14_method_17_code 75 = .ok (.iconst 1, 1) := by decide +kernel
theorem d_155_76 : decode prog_14_method_17_code 76 = .ok (.invokestatic 112, 3) := by decide +kernel
theorem d_155_79 : decode prog_14_method_17_code 79 = .ok (.ifCond .ne 6, 3) := by decide +kernel
theorem d_155_82 : decode prog_14_method_17_code 82 = .ok (.bipush (-2), 2) := by decide +kernel
theorem d_155_84 : decode prog_14_method_17_code 84 = .ok (.ireturn, 1) := by decide +kernel
theorem d_155_85 : decode prog_14_method_17_code 85 = .ok (.iload_n 3, 1) := by decide +kernel
theorem d_155_86 : decode prog_14_method_17_code 86 = .ok (.ifCond .ne 17, 3) := by decide +kernel
theorem d_155_89 : decode prog_14_method_17_code 89 = .ok (.aload_n 0, 1) := by decide +kernel
theorem d_155_90 : decode prog_14_method_17_code 90 = .ok (.iload_n 1, 1) := by decide +kernel
theorem d_155_91 : decode prog_14_method_17_code 91 = .ok (.iload 4, 2) := by decide +kernel
theorem d_155_93 : decode prog_14_method_17_code 93 = .ok (.iload 5, 2) := by decide +kernel
theorem d_155_95 : decode prog_14_method_17_code 95 = .ok (.iload 6, 2) := by decide +kernel
theorem d_155_97 : decode prog_14_method_17_code 97 = .ok (.invokevirtual 130, 3) := by decide +kernel
theorem d_155_100 : decode prog_14_method_17_code 100 = .ok (.goto 22, 3) := by decide +kernel
theorem d_155_103 : decode prog_14_method_17_code 103 = .ok (.aload_n 0, 1) := by decide +kernel
theorem d_155_104 : decode prog_14_method_17_code 104 = .ok (.iload_n 1, 1) := by decide +kernel
theorem d_155_105 : decode prog_14_method_17_code 105 = .ok (.iload 4, 2) := by decide +kernel
theorem d_155_107 : decode prog_14_method_17_code 107 = .ok (.iload 5, 2) := by decide +kernel
theorem d_155_109 : decode prog_14_method_17_code 109 = .ok (.iload 6, 2) := by decide +kernel
theorem d_155_111 : decode prog_14_method_17_code 111 = .ok (.invokevirtual 134, 3) := by decide +kernel
theorem d_155_114 : decode prog_14_method_17_code 114 = .ok (.ifCond .eq 7, 3) := by decide +kernel
theorem d_155_117 : decode prog_14_method_17_code 117 = .ok (.iconst 1, 1) := by decide +kernel
theorem d_155_118 : decode prog_14_method_17_code 118 = .ok (.goto 4, 3) := by decide +kernel
theorem d_155_121 : decode prog_14_method_17_code 121 = .ok (.iconst 0, 1) := by decide +kernel
theorem d_155_122 : decode prog_14_method_17_code 122 = .ok (.ireturn, 1) := by decide +kernel
theorem s_155_122 {Γ : m_G} : m_ok Γ m_tab 155 M_155 122 (g_155_122) := ok_ri (pc := 122) d_155_122 rfl
theorem s_155_121 {Γ : m_G} : m_ok Γ m_tab 155 M_155 121 (g_155_121) := ok_ic (pc := 121) d_155_121 rfl (s_155_122)
theorem s_155_103 {Γ : m_G} : m_ok Γ m_tab 155 M_155 103 (g_155_103) := ok_al_n (pc := 103) d_155_103 rfl (ok_il_n (pc := 104) d_155_104 rfl (ok_il (pc := 105) d_155_105 (ok_il (pc := 107) d_155_107 (ok_il (pc := 109) d_155_109 (ok_cai (pc := 111) (k2 := 154) rfl rfl tb_154 (by decide) (by decide) rfl (go_V d_155_111 w_1086 w_1088 ws_45 w_11 w_1089 nn_154 (by decide) cl_12 rfl) (ok_czeq (pc := 114) (t := 121) d_155_114 rfl (by decide) rfl (ok_ic (pc := 117) d_155_117 rfl (ok_go (pc := 118) (t := 122) d_155_118 rfl (by decide) rfl))))))))
theorem s_155_85 {Γ : m_G} : m_ok Γ m_tab 155 M_155 85 (g_155_85) := ok_il_n (pc := 85) d_155_85 rfl (ok_czne (pc := 86) (t := 103) d_155_86 rfl (by decide) rfl (ok_al_n (pc := 89) d_155_89 rfl (ok_il_n (pc := 90) d_155_90 rfl (ok_il (pc := 91) d_155_91 (ok_il (pc := 93) d_155_93 (ok_il (pc := 95) d_155_95 (ok_cai (pc := 97) (k2 := 153) rfl rfl tb_153 (by decide) (by decide) rfl (go_V d_155_97 w_1082 w_1084 ws_44 w_11 w_1085 nn_153 (by decide) cl_12 rfl) (ok_go (pc := 100) (t := 122) d_155_100 rfl (by decide) rfl))))))))
theorem s_155_82 {Γ : m_G} : m_ok Γ m_tab 155 M_155 82 (g_155_82) := ok_bi (pc := 82) d_155_82 rfl (ok_ri (pc := 84) d_155_84 rfl)
theorem s_155_74 {Γ : m_G} : m_ok Γ m_tab 155 M_155 74 (g_155_74) := ok_ic (pc := 74) d_155_74 rfl (ok_ic (pc := 75) d_155_75 rfl (ok_cat (pc := 76) (k2 := 140) rfl tb_140 (by decide) (by decide) rfl (go_S d_155_76 w_1044 w_1045 w_11 w_1046 nn_140 (by decide)) (ok_czne (pc := 79) (t := 85) d_155_79 rfl (by decide) rfl (s_155_82))))
theorem s_155_0 {Γ : m_G} : m_ok Γ m_tab 155 M_155 0 (g_155_0) := ok_il_n (pc := 0) d_155_0 rfl (ok_bi (pc := 1) d_155_1 rfl (ok_div (pc := 3) d_155_3 (ok_is (pc := 4) d_155_4 (by decide) (ok_il_n (pc := 6) d_155_6 rfl (ok_bi (pc := 7) d_155_7 rfl (ok_div (pc := 9) d_155_9 (ok_bi (pc := 10) d_155_10 rfl (ok_rem (pc := 12) d_155_12 (ok_is (pc := 13) d_155_13 (by decide) (ok_il_n (pc := 15) d_155_15 rfl (ok_bi (pc := 16) d_155_16 rfl (ok_rem (pc := 18) d_155_18 (ok_is (pc := 19) d_155_19 (by decide) (ok_il_n (pc := 21) d_155_21 rfl (ok_ic (pc := 22) d_155_22 rfl (ok_al_n (pc := 23) d_155_23 rfl (ok_getf (pc := 24) d_155_24 w_922 (hc1 fo_78) (ok_ic (pc := 27) d_155_27 rfl (ok_sub (pc := 28) d_155_28 (ok_cat (pc := 29) (k2 := 140) rfl tb_140 (by decide) (by decide) rfl (go_S d_155_29 w_1044 w_1045 w_11 w_1046 nn_140 (by decide)) (ok_czeq (pc := 32) (t := 82) d_155_32 rfl (by decide) rfl (ok_il_n (pc := 35) d_155_35 rfl (ok_czlt (pc := 36) (t := 82) d_155_36 rfl (by decide) rfl (ok_al_n (pc := 39) d_155_39 rfl (ok_il (pc := 40) d_155_40 (ok_cai (pc := 42) (k2 := 142) rfl rfl tb_142 (by decide) (by decide) rfl (go_V d_155_42 w_1058 w_1060 ws_42 w_11 w_1061 nn_142 (by decide) cl_12 rfl) (ok_czeq (pc := 45) (t := 82) d_155_45 rfl (by decide) rfl (ok_al_n (pc := 48) d_155_48 rfl (ok_il (pc := 49) d_155_49 (ok_cai (pc := 51) (k2 := 143) rfl rfl tb_143 (by decide) (by decide) rfl (go_V d_155_51 w_1066 w_1068 ws_43 w_11 w_1069 nn_143 (by decide) cl_12 rfl) (ok_czeq (pc := 54) (t := 82) d_155_54 rfl (by decide) rfl (ok_al_n (pc := 57) d_155_57 rfl (ok_il (pc := 58) d_155_58 (ok_cai (pc := 60) (k2 := 143) rfl rfl tb_143 (by decide) (by decide) rfl (go_V d_155_60 w_1066 w_1068 ws_43 w_11 w_1069 nn_143 (by decide) cl_12 rfl) (ok_czeq (pc := 63) (t := 82) d_155_63 rfl (by decide) rfl (ok_il (pc := 66) d_155_66 (ok_il (pc := 68) d_155_68 (ok_cieq (pc := 70) (t := 82) d_155_70 rfl (by decide) rfl (ok_il_n (pc := 73) d_155_73 rfl (s_155_74))))))))))))))))))))))))))))))))))))))))
theorem tst_155 {Γ : m_G} (q : Nat) : m_ts Γ (t_155 q) q := ts_n (ts_n (ts_l (k := 155) (pc := 0) tb_155 rfl (by decide) s_155_0) (ts_n (ts_l (k := 155) (pc := 82) tb_155 rfl (by decide) s_155_82) (ts_l (k := 155) (pc := 85) tb_155 rfl (by decide) s_155_85))) (ts_n (ts_l (k := 155) (pc := 103) tb_155 rfl (by decide) s_155_103) (ts_n (ts_l (k := 155) (pc := 121) tb_155 rfl (by decide) s_155_121) (ts_l (k := 155) (pc := 122) tb_155 rfl (by decide) s_155_122)))
theorem d_156_0 : decode prog_14_method_18_code 0 = .ok (.iload_n 0, 1) := by decide +kernel
theorem d_156_1 : decode prog_14_method_18_code 1 = .ok (.iload_n 1, 1) := by decide +kernel
theorem d_156_2 : decode prog_14_method_18_code 2 = .ok (.if_icmp .eq 27, 3) := by decide +kernel
theorem d_156_5 : decode prog_14_method_18_code 5 = .ok (.iload_n 1, 1) := by decide +kernel
theorem d_156_6 : decode prog_14_method_18_code 6 = .ok (.ifCond .eq 23, 3) := by decide +kernel
theorem d_156_9 : decode prog_14_method_18_code 9 = .ok (.iload_n 1, 1) := by decide +kernel
theorem d_156_10 : decode prog_14_method_18_code 10 = .ok (.iconst 1, 1) := by decide +kernel
theorem d_156_11 : decode prog_14_method_18_code 11 = .ok (.if_icmp .ne 8, 3) := by decide +kernel
theorem d_156_14 : decode prog_14_method_18_code 14 = .ok (.iload_n 0, 1) := by decide +kernel
theorem d_156_15 : decode prog_14_method_18_code 15 = .ok (.iconst 3, 1) := by decide +kernel
theorem d_156_16 : decode prog_14_method_18_code 16 = .ok (.if_icmp .eq 13, 3) := by decide +kernel
theorem d_156_19 : decode prog_14_method_18_code 19 = .ok (.iload_n 1, 1) := by decide +kernel
theorem d_156_20 : decode prog_14_method_18_code 20 = .ok (.iconst 2, 1) := by decide +kernel
theorem d_156_21 : decode prog_14_method_18_code 21 = .ok (.if_icmp .ne 12, 3) := by decide +kernel
theorem d_156_24 : decode prog_14_method_18_code 24 = .ok (.iload_n 0, 1) := by decide +kernel
theorem d_156_25 : decode prog_14_method_18_code 25 = .ok (.iconst 3, 1) := by decide +kernel
theorem d_156_26 : decode prog_14_method_18_code 26 = .ok (.if_icmp .le 7, 3) := by decide +kernel
theorem d_156_29 : decode prog_14_method_18_code 29 = .ok (.iconst 1, 1) := by decide +kernel
theorem d_156_30 : decode prog_14_method_18_code 30 = .ok (.goto 4, 3) := by decide +kernel
theorem d_156_33 : decode prog_14_method_18_code 33 = .ok (.iconst 0, 1) := by decide +kernel
theorem d_156_34 : decode prog_14_method_18_code 34 = .ok (.ireturn, 1) := by decide +kernel
theorem s_156_34 {Γ : m_G} : m_ok Γ m_tab 156 M_156 34 (g_156_34) := ok_rz (pc := 34) d_156_34 rfl
theorem s_156_33 {Γ : m_G} : m_ok Γ m_tab 156 M_156 33 (g_156_33) := ok_ic (pc := 33) d_156_33 rfl (s_156_34)
theorem s_156_29 {Γ : m_G} : m_ok Γ m_tab 156 M_156 29 (g_156_29) := ok_ic (pc := 29) d_156_29 rfl (ok_go (pc := 30) (t := 34) d_156_30 rfl (by decide) rfl)
theorem s_156_19 {Γ : m_G} : m_ok Γ m_tab 156 M_156 19 (g_156_19) := ok_il_n (pc := 19) d_156_19 rfl (ok_ic (pc := 20) d_156_20 rfl (ok_cine (pc := 21) (t := 33) d_156_21 rfl (by decide) rfl (ok_il_n (pc := 24) d_156_24 rfl (ok_ic (pc := 25) d_156_25 rfl (ok_cile (pc := 26) (t := 33) d_156_26 rfl (by decide) rfl (s_156_29))))))
theorem s_156_0 {Γ : m_G} : m_ok Γ m_tab 156 M_156 0 (g_156_0) := ok_il_n (pc := 0) d_156_0 rfl (ok_il_n (pc := 1) d_156_1 rfl (ok_cieq (pc := 2) (t := 29) d_156_2 rfl (by decide) rfl (ok_il_n (pc := 5) d_156_5 rfl (ok_czeq (pc := 6) (t := 29) d_156_6 rfl (by decide) rfl (ok_il_n (pc := 9) d_156_9 rfl (ok_ic (pc := 10) d_156_10 rfl (ok_cine (pc := 11) (t := 19) d_156_11 rfl (by decide) rfl (ok_il_n (pc := 14) d_156_14 rfl (ok_ic (pc := 15) d_156_15 rfl (ok_cieq (pc := 16) (t := 29) d_156_16 rfl (by decide) rfl (s_156_19)))))))))))
theorem tst_156 {Γ : m_G} (q : Nat) : m_ts Γ (t_156 q) q := ts_n (ts_n (ts_l (k := 156) (pc := 0) tb_156 rfl (by decide) s_156_0) (ts_l (k := 156) (pc := 19) tb_156 rfl (by decide) s_156_19)) (ts_n (ts_l (k := 156) (pc := 29) tb_156 rfl (by decide) s_156_29) (ts_n (ts_l (k := 156) (pc := 33) tb_156 rfl (by decide) s_156_33) (ts_l (k := 156) (pc := 34) tb_156 rfl (by decide) s_156_34)))
theorem d_157_0 : decode prog_14_method_19_code 0 = .ok (.iload_n 2, 1) := by decide +kernel
theorem d_157_1 : decode prog_14_method_19_code 1 = .ok (.iconst 0, 1) := by decide +kernel
theorem d_157_2 : decode prog_14_method_19_code 2 = .ok (.iconst 5, 1) := by decide +kernel
theorem d_157_3 : decode prog_14_method_19_code 3 = .ok (.invokestatic 112, 3) := by decide +kernel
theorem d_157_6 : decode prog_14_method_19_code 6 = .ok (.ifCond .ne 6, 3) := by decide +kernel
theorem d_157_9 : decode prog_14_method_19_code 9 = .ok (.bipush (-2), 2) := by decide +kernel
theorem d_157_11 : decode prog_14_method_19_code 11 = .ok (.ireturn, 1) := by decide +kernel
theorem d_157_12 : decode prog_14_method_19_code 12 = .ok (.iload_n 1, 1) := by decide +kernel
theorem d_157_13 : decode prog_14_method_19_code 13 = .ok (.iconst 0, 1) := by decide +kernel
theorem d_157_14 : decode prog_14_method_19_code 14 = .ok (.aload_n 0, 1) := by decide +kernel
theorem d_157_15 : decode prog_14_method_19_code 15 = .ok (.getfield 127, 3) := by decide +kernel
theorem d_157_18 : decode prog_14_method_19_code 18 = .ok (.iconst 1, 1) := by decide +kernel
theorem d_157_19 : decode prog_14_method_19_code 19 = .ok (.isub, 1) := by decide +kernel
theorem d_157_20 : decode prog_14_method_19_code 20 = .ok (.invokestatic 112, 3) := by decide +kernel
theorem d_157_23 : decode prog_14_method_19_code 23 = .ok (.ifCond .ne 6, 3) := by decide +kernel
theorem d_157_26 : decode prog_14_method_19_code 26 = .ok (.bipush (-11), 2) := by decide +kernel
theorem d_157_28 : decode prog_14_method_19_code 28 = .ok (.ireturn, 1) := by decide +kernel
theorem d_157_29 : decode prog_14_method_19_code 29 = .ok (.aload_n 0, 1) := by decide +kernel
theorem d_157_30 : decode prog_14_method_19_code 30 = .ok (.getfield 19, 3) := by decide +kernel
theorem d_157_33 : decode prog_14_method_19_code 33 = .ok (.iload_n 1, 1) := by decide +kernel
theorem d_157_34 : decode prog_14_method_19_code 34 = .ok (.iaload, 1) := by decide +kernel
theorem d_157_35 : decode prog_14_method_19_code 35 = .ok (.iload_n 2, 1) := by decide +kernel
theorem d_157_36 : decode prog_14_method_19_code 36 = .ok (.invokestatic 138, 3) := by decide +kernel
theorem d_157_39 : decode prog_14_method_19_code 39 = .ok (.ifCond .eq 12, 3) := by decide +kernel
theorem d_157_42 : decode prog_14_method_19_code 42 = .ok (.aload_n 0, 1) := by decide +kernel
theorem d_157_43 : decode prog_14_method_19_code 43 = .ok (.getfield 22, 3) := by decide +kernel
theorem d_157_46 : decode prog_14_method_19_code 46 = .ok (.iload_n 1, 1) := by decide +kernel
theorem d_157_47 : decode prog_14_method_19_code 47 = .ok (.iaload, 1) := by decide +kernel
theorem d_157_48 : decode prog_14_method_19_code 48 = .ok (.goto 5, 3) := by decide +kernel
theorem d_157_51 : decode prog_14_method_19_code 51 = .ok (.bipush (-13), 2) := by decide +kernel
theorem d_157_53 : decode prog_14_method_19_code 53 = .ok (.ireturn, 1) := by decide +kernel
theorem s_157_53 {Γ : m_G} : m_ok Γ m_tab 157 M_157 53 (g_157_53) := ok_ri (pc := 53) d_157_53 rfl
theorem s_157_51 {Γ : m_G} : m_ok Γ m_tab 157 M_157 51 (g_157_51) := ok_bi (pc := 51) d_157_51 rfl (s_157_53)
theorem s_157_29 {Γ : m_G} : m_ok Γ m_tab 157 M_157 29 (g_157_29) := ok_al_n (pc := 29) d_157_29 rfl (ok_getf (pc := 30) d_157_30 w_916 (hc1 fo_80) (ok_il_n (pc := 33) d_157_33 rfl (ok_iald (pc := 34) d_157_34 (ok_il_n (pc := 35) d_157_35 rfl (ok_cat (pc := 36) (k2 := 156) rfl tb_156 (by decide) (by decide) rfl (go_S d_157_36 w_1094 w_1095 w_11 w_1096 nn_156 (by decide)) (ok_czeq (pc := 39) (t := 51) d_157_39 rfl (by decide) rfl (ok_al_n (pc := 42) d_157_42 rfl (ok_getf (pc := 43) d_157_43 w_917 (hc1 fo_79) (ok_il_n (pc := 46) d_157_46 rfl (ok_iald (pc := 47) d_157_47 (ok_go (pc := 48) (t := 53) d_157_48 rfl (by decide) rfl)))))))))))
theorem s_157_12 {Γ : m_G} : m_ok Γ m_tab 157 M_157 12 (g_157_12) := ok_il_n (pc := 12) d_157_12 rfl (ok_ic (pc := 13) d_157_13 rfl (ok_al_n (pc := 14) d_157_14 rfl (ok_getf (pc := 15) d_157_15 w_922 (hc1 fo_78) (ok_ic (pc := 18) d_157_18 rfl (ok_sub (pc := 19) d_157_19 (ok_cat (pc := 20) (k2 := 140) rfl tb_140 (by decide) (by decide) rfl (go_S d_157_20 w_1044 w_1045 w_11 w_1046 nn_140 (by decide)) (ok_czne (pc := 23) (t := 29) d_157_23 rfl (by decide) rfl (ok_bi (pc := 26) d_157_26 rfl (ok_ri (pc := 28) d_157_28 rfl)))))))))
theorem s_157_0 {Γ : m_G} : m_ok Γ m_tab 157 M_157 0 (g_157_0) := ok_il_n (pc := 0) d_157_0 rfl (ok_ic (pc := 1) d_157_1 rfl (ok_ic (pc := 2) d_157_2 rfl (ok_cat (pc := 3) (k2 := 140) rfl tb_140 (by decide) (by decide) rfl (go_S d_157_3 w_1044 w_1045 w_11 w_1046 nn_140 (by decide)) (ok_czne (pc := 6) (t := 12) d_157_6 rfl (by decide) rfl (ok_bi (pc := 9) d_157_9 rfl (ok_ri (pc := 11) d_157_11 rfl))))))
theorem tst_157 {Γ : m_G} (q : Nat) : m_ts Γ (t_157 q) q := ts_n (ts_n (ts_l (k := 157) (pc := 0) tb_157 rfl (by decide) s_157_0) (ts_l (k := 157) (pc := 12) tb_157 rfl (by decide) s_157_12)) (ts_n (ts_l (k := 157) (pc := 29) tb_157 rfl (by decide) s_157_29) (ts_n (ts_l (k := 157) (pc := 51) tb_157 rfl (by decide) s_157_51) (ts_l (k := 157) (pc := 53) tb_157 rfl (by decide) s_157_53)))
theorem d_158_0 : decode prog_14_method_20_code 0 = .ok (.aload_n 0, 1) := by decide +kernel
theorem d_158_1 : decode prog_14_method_20_code 1 = .ok (.getfield 40, 3) := by decide +kernel
theorem d_158_4 : decode prog_14_method_20_code 4 = .ok (.sipush 170, 3) := by decide +kernel
theorem d_158_7 : decode prog_14_method_20_code 7 = .ok (.aload_n 0, 1) := by decide +kernel
theorem d_158_8 : decode prog_14_method_20_code 8 = .ok (.getfield 141, 3) := by decide +kernel
theorem d_158_11 : decode prog_14_method_20_code 11 = .ok (.imul, 1) := by decide +kernel
theorem d_158_12 : decode prog_14_method_20_code 12 = .ok (.aload_n 0, 1) := by decide +kernel
theorem d_158_13 : decode prog_14_method_20_code 13 = .ok (.getfield 43, 3) := by decide +kernel
theorem d_158_16 : decode prog_14_method_20_code 16 = .ok (.aload_n 0, 1) := by decide +kernel
theorem d_158_17 : decode prog_14_method_20_code 17 = .ok (.getfield 141, 3) := by decide +kernel
theorem d_158_20 : decode prog_14_method_20_code 20 = .ok (.iaload, 1) := by decide +kernel
theorem d_158_21 : decode prog_14_method_20_code 21 = .ok (.iadd, 1) := by decide +kernel
theorem d_158_22 : decode prog_14_method_20_code 22 = .ok (.iload_n 1, 1) := by decide +kernel
theorem d_158_23 : decode prog_14_method_20_code 23 = .ok (.iastore, 1) := by decide +kernel
theorem d_158_24 : decode prog_14_method_20_code 24 = .ok (.aload_n 0, 1) := by decide +kernel
theorem d_158_25 : decode prog_14_method_20_code 25 = .ok (.getfield 43, 3) := by decide +kernel
theorem d_158_28 : decode prog_14_method_20_code 28 = .ok (.aload_n 0, 1) := by decide +kernel
theorem d_158_29 : decode prog_14_method_20_code 29 = .ok (.getfield 141, 3) := by decide +kernel
theorem d_158_32 : decode prog_14_method_20_code 32 = .ok (.dup2, 1) := by decide +kernel
theorem d_158_33 : decode prog_14_method_20_code 33 = .ok (.iaload, 1) := by decide +kernel
theorem d_158_34 : decode prog_14_method_20_code 34 = .ok (.iconst 1, 1) := by decide +kernel
theorem d_158_35 : decode prog_14_method_20_code 35 = .ok (.iadd, 1) := by decide +kernel
theorem d_158_36 : decode prog_14_method_20_code 36 = .ok (.iastore, 1) := by decide +kernel
theorem d_158_37 : decode prog_14_method_20_code 37 = .ok (.return_, 1) := by decide +kernel
theorem s_158_0 {Γ : m_G} : m_ok Γ m_tab 158 M_158 0 (g_158_0) := ok_al_n (pc := 0) d_158_0 rfl (ok_getf (pc := 1) d_158_1 w_927 (hc1 fo_83) (ok_si (pc := 4) d_158_4 rfl (ok_al_n (pc := 7) d_158_7 rfl (ok_getf (pc := 8) d_158_8 w_939 (hc1 fo_81) (ok_mul (pc := 11) d_158_11 (ok_al_n (pc := 12) d_158_12 rfl (ok_getf (pc := 13) d_158_13 w_928 (hc1 fo_82) (ok_al_n (pc := 16) d_158_16 rfl (ok_getf (pc := 17) d_158_17 w_939 (hc1 fo_81) (ok_iald (pc := 20) d_158_20 (ok_add (pc := 21) d_158_21 (ok_il_n (pc := 22) d_158_22 rfl (ok_iast (pc := 23) d_158_23 (ok_al_n (pc := 24) d_158_24 rfl (ok_getf (pc := 25) d_158_25 w_928 (hc1 fo_82) (ok_al_n (pc := 28) d_158_28 rfl (ok_getf (pc := 29) d_158_29 w_939 (hc1 fo_81) (ok_dup2 (pc := 32) d_158_32 (ok_iald (pc := 33) d_158_33 (ok_ic (pc := 34) d_158_34 rfl (ok_add (pc := 35) d_158_35 (ok_iast (pc := 36) d_158_36 (ok_rv (pc := 37) d_158_37 rfl)))))))))))))))))))))))
theorem tst_158 {Γ : m_G} (q : Nat) : m_ts Γ (t_158 q) q := ts_l (k := 158) (pc := 0) tb_158 rfl (by decide) s_158_0
theorem d_159_0 : decode prog_14_method_21_code 0 = .ok (.aload_n 0, 1) := by decide +kernel
theorem d_159_1 : decode prog_14_method_21_code 1 = .ok (.iconst 0, 1) := by decide +kernel
theorem d_159_2 : decode prog_14_method_21_code 2 = .ok (.putfield 141, 3) := by decide +kernel
theorem d_159_5 : decode prog_14_method_21_code 5 = .ok (.aload_n 0, 1) := by decide +kernel
theorem d_159_6 : decode prog_14_method_21_code 6 = .ok (.iconst 1, 1) := by decide +kernel
theorem d_159_7 : decode prog_14_method_21_code 7 = .ok (.invokevirtual 144, 3) := by decide +kernel
theorem d_159_10 : decode prog_14_method_21_code 10 = .ok (.aload_n 0, 1) := by decide +kernel
theorem d_159_11 : decode prog_14_method_21_code 11 = .ok (.sipush 20004, 3) := by decide +kernel
theorem d_159_14 : decode prog_14_method_21_code 14 = .ok (.invokevirtual 144, 3) := by decide +kernel
theorem d_159_17 : decode prog_14_method_21_code 17 = .ok (.aload_n 0, 1) := by decide +kernel
theorem d_159_18 : decode prog_14_method_21_code 18 = .ok (.sipush 30002, 3) := by decide +kernel
theorem d_159_21 : decode prog_14_method_21_code 21 = .ok (.invokevirtual 144, 3) := by decide +kernel
theorem d_159_24 : decode prog_14_method_21_code 24 = .ok (.aload_n 0, 1) := by decide +kernel
theorem d_159_25 : decode prog_14_method_21_code 25 = .ok (.iconst 1, 1) := by decide +kernel
theorem d_159_26 : decode prog_14_method_21_code 26 = .ok (.putfield 141, 3) := by decide +kernel
theorem d_159_29 : decode prog_14_method_21_code 29 = .ok (.aload_n 0, 1) := by decide +kernel
theorem d_159_30 : decode prog_14_method_21_code 30 = .ok (.iconst 0, 1) := by decide +kernel
theorem d_159_31 : decode prog_14_method_21_code 31 = .ok (.invokevirtual 144, 3) := by decide +kernel
theorem d_159_34 : decode prog_14_method_21_code 34 = .ok (.aload_n 0, 1) := by decide +kernel
theorem d_159_35 : decode prog_14_method_21_code 35 = .ok (.iconst 2, 1) := by decide +kernel
theorem d_159_36 : decode prog_14_method_21_code 36 = .ok (.putfield 141, 3) := by decide +kernel
theorem d_159_39 : decode prog_14_method_21_code 39 = .ok (.aload_n 0, 1) := by decide +kernel
theorem d_159_40 : decode prog_14_method_21_code 40 = .ok (.iconst 1, 1) := by decide +kernel
theorem d_159_41 : decode prog_14_method_21_code 41 = .ok (.invokevirtual 144, 3) := by decide +kernel
theorem d_159_44 : decode prog_14_method_21_code 44 = .ok (.aload_n 0, 1) := by decide +kernel
theorem d_159_45 : decode prog_14_method_21_code 45 = .ok (.sipush 20002, 3) := by decide +kernel
theorem d_159_48 : decode prog_14_method_21_code 48 = .ok (.invokevirtual 144, 3) := by decide +kernel
theorem d_159_51 : decode prog_14_method_21_code 51 = .ok (.aload_n 0, 1) := by decide +kernel
theorem d_159_52 : decode prog_14_method_21_code 52 = .ok (.sipush 30001, 3) := by decide +kernel
theorem d_159_55 : decode prog_14_method_21_code 55 = .ok (.invokevirtual 144, 3) := by decide +kernel
theorem d_159_58 : decode prog_14_method_21_code 58 = .ok (.return_, 1) := by decide +kernel
theorem s_159_0 {Γ : m_G} : m_ok Γ m_tab 159 M_159 0 (g_159_0) := ok_al_n (pc := 0) d_159_0 rfl (ok_ic (pc := 1) d_159_1 rfl (ok_putf (pc := 2) d_159_2 w_939 (hc1 ⟨_, _, _, tyX12, cl_12, in_12, by decide, rfl, rfl, rfl, tyX12_ok, nmX12, Or.inl rfl⟩) pd_0 vt_I (ok_al_n (pc := 5) d_159_5 rfl (ok_ic (pc := 6) d_159_6 rfl (ok_cvi (pc := 7) (k2 := 158) rfl rfl tb_158 (by decide) (by decide) rfl (go_V d_159_7 w_909 w_911 ws_40 w_11 w_912 nn_158 (by decide) cl_12 rfl) (ok_al_n (pc := 10) d_159_10 rfl (ok_si (pc := 11) d_159_11 rfl (ok_cvi (pc := 14) (k2 := 158) rfl rfl tb_158 (by decide) (by decide) rfl (go_V d_159_14 w_909 w_911 ws_40 w_11 w_912 nn_158 (by decide) cl_12 rfl) (ok_al_n (pc := 17) d_159_17 rfl (ok_si (pc := 18) d_159_18 rfl (ok_cvi (pc := 21) (k2 := 158) rfl rfl tb_158 (by decide) (by decide) rfl (go_V d_159_21 w_909 w_911 ws_40 w_11 w_912 nn_158 (by decide) cl_12 rfl) (ok_al_n (pc := 24) d_159_24 rfl (ok_ic (pc := 25) d_159_25 rfl (ok_putf (pc := 26) d_159_26 w_939 (hc1 ⟨_, _, _, tyX12, cl_12, in_12, by decide, rfl, rfl, rfl, tyX12_ok, nmX12, Or.inl rfl⟩) pd_0 vt_I (ok_al_n (pc := 29) d_159_29 rfl (ok_ic (pc := 30) d_159_30 rfl (ok_cvi (pc := 31) (k2 := 158) rfl rfl tb_158 (by decide) (by decide) rfl (go_V d_159_31 w_909 w_911 ws_40 w_11 w_912 nn_158 (by decide) cl_12 rfl) (ok_al_n (pc := 34) d_159_34 rfl (ok_ic (pc := 35) d_159_35 rfl (ok_putf (pc := 36) d_159_36 w_939 (hc1 ⟨_, _, _, tyX12, cl_12, in_12, by decide, rfl, rfl, rfl, tyX12_ok, nmX12, Or.inl rfl⟩) pd_0 vt_I (ok_al_n (pc := 39) d_159_39 rfl (ok_ic (pc := 40) d_159_40 rfl (ok_cvi (pc := 41) (k2 := 158) rfl rfl tb_158 (by decide) (by decide) rfl (go_V d_159_41 w_909 w_911 ws_40 w_11 w_912 nn_158 (by decide) cl_12 rfl) (ok_al_n (pc := 44) d_159_44 rfl (ok_si (pc := 45) d_159_45 rfl (ok_cvi (pc := 48) (k2 := 158) rfl rfl tb_158 (by decide) (by decide) rfl (go_V d_159_48 w_909 w_911 ws_40 w_11 w_912 nn_158 (by decide) cl_12 rfl) (ok_al_n (pc := 51) d_159_51 rfl (ok_si (pc := 52) d_159_52 rfl (ok_cvi (pc := 55) (k2 := 158) rfl rfl tb_158 (by decide) (by decide) rfl (go_V d_159_55 w_909 w_911 ws_40 w_11 w_912 nn_158 (by decide) cl_12 rfl) (ok_rv (pc := 58) d_159_58 rfl))))))))))))))))))))))))))))))
theorem tst_159 {Γ : m_G} (q : Nat) : m_ts Γ (t_159 q) q := ts_l (k := 159) (pc := 0) tb_159 rfl (by decide) s_159_0
theorem d_160_0 : decode prog_14_method_22_code 0 = .ok (.iload_n 1, 1) := by decide +kernel
theorem d_160_1 : decode prog_14_method_22_code 1 = .ok (.iconst 0, 1) := by decide +kernel
theorem d_160_2 : decode prog_14_method_22_code 2 = .ok (.sipush 255, 3) := by decide +kernel
theorem d_160_5 : decode prog_14_method_22_code 5 = .ok (.invokestatic 112, 3) := by decide +kernel
theorem d_160_8 : decode prog_14_method_22_code 8 = .ok (.ifCond .ne 6, 3) := by decide +kernel
theorem d_160_11 : decode prog_14_method_22_code 11 = .ok (.bipush (-2), 2) := by decide +kernel
theorem d_160_13 : decode prog_14_method_22_code 13 = .ok (.ireturn, 1) := by decide +kernel
theorem d_160_14 : decode prog_14_method_22_code 14 = .ok (.aload_n 0, 1) := by decide +kernel
theorem d_160_15 : decode prog_14_method_22_code 15 = .ok (.getfield 148, 3) := by decide +kernel
theorem d_160_18 : decode prog_14_method_22_code 18 = .ok (.sipush 160, 3) := by decide +kernel
theorem d_160_21 : decode prog_14_method_22_code 21 = .ok (.if_icmp .ne 6, 3) := by decide +kernel
theorem d_160_24 : decode prog_14_method_22_code 24 = .ok (.bipush (-4), 2) := by decide +kernel
theorem d_160_26 : decode prog_14_method_22_code 26 = .ok (.ireturn, 1) := by decide +kernel
theorem d_160_27 : decode prog_14_method_22_code 27 = .ok (.aload_n 0, 1) := by decide +kernel
theorem d_160_28 : decode prog_14_method_22_code 28 = .ok (.getfield 37, 3) := by decide +kernel
theorem d_160_31 : decode prog_14_method_22_code 31 = .ok (.aload_n 0, 1) := by decide +kernel
theorem d_160_32 : decode prog_14_method_22_code 32 = .ok (.getfield 148, 3) := by decide +kernel
theorem d_160_35 : decode prog_14_method_22_code 35 = .ok (.iload_n 1, 1) := by decide +kernel
theorem d_160_36 : decode prog_14_method_22_code 36 = .ok (.iastore, 1) := by decide +kernel
theorem d_160_37 : decode prog_14_method_22_code 37 = .ok (.aload_n 0, 1) := by decide +kernel
theorem d_160_38 : decode prog_14_method_22_code 38 = .ok (.dup, 1) := by decide +kernel
theorem d_160_39 : decode prog_14_method_22_code 39 = .ok (.getfield 148, 3) := by decide +kernel
theorem d_160_42 : decode prog_14_method_22_code 42 = .ok (.iconst 1, 1) := by decide +kernel
theorem d_160_43 : decode prog_14_method_22_code 43 = .ok (.iadd, 1) := by decide +kernel
theorem d_160_44 : decode prog_14_method_22_code 44 = .ok (.putfield 148, 3) := by decide +kernel
theorem d_160_47 : decode prog_14_method_22_code 47 = .ok (.aload_n 0, 1) := by decide +kernel
theorem d_160_48 : decode prog_14_method_22_code 48 = .ok (.getfield 148, 3) := by decide +kernel
theorem d_160_51 : decode prog_14_method_22_code 51 = .ok (.ireturn, 1) := by decide +kernel
theorem s_160_27 {Γ : m_G} : m_ok Γ m_tab 160 M_160 27 (g_160_27) := ok_al_n (pc := 27) d_160_27 rfl (ok_getf (pc := 28) d_160_28 w_926 (hc1 fo_85) (ok_al_n (pc := 31) d_160_31 rfl (ok_getf (pc := 32) d_160_32 w_931 (hc1 fo_84) (ok_il_n (pc := 35) d_160_35 rfl (ok_iast (pc := 36) d_160_36 (ok_al_n (pc := 37) d_160_37 rfl (ok_dup (pc := 38) d_160_38 (ok_getf (pc := 39) d_160_39 w_931 (hc1 fo_84) (ok_ic (pc := 42) d_160_42 rfl (ok_add (pc := 43) d_160_43 (ok_putf (pc := 44) d_160_44 w_931 (hc1 ⟨_, _, _, tyX12, cl_12, in_12, by decide, rfl, rfl, rfl, tyX12_ok, nmX12, Or.inl rfl⟩) pd_0 vt_I (ok_al_n (pc := 47) d_160_47 rfl (ok_getf (pc := 48) d_160_48 w_931 (hc1 fo_84) (ok_ri (pc := 51) d_160_51 rfl))))))))))))))
theorem s_160_14 {Γ : m_G} : m_ok Γ m_tab 160 M_160 14 (g_160_14) := ok_al_n (pc := 14) d_160_14 rfl (ok_getf (pc := 15) d_160_15 w_931 (hc1 fo_84) (ok_si (pc := 18) d_160_18 rfl (ok_cine (pc := 21) (t := 27) d_160_21 rfl (by decide) rfl (ok_bi (pc := 24) d_160_24 rfl (ok_ri (pc := 26) d_160_26 rfl)))))
theorem s_160_0 {Γ : m_G} : m_ok Γ m_tab 160 M_160 0 (g_160_0) := ok_il_n (pc := 0) d_160_0 rfl (ok_ic (pc := 1) d_160_1 rfl (ok_si (pc := 2) d_160_2 rfl (ok_cat (pc := 5) (k2 := 140) rfl tb_140 (by decide) (by decide) rfl (go_S d_160_5 w_1044 w_1045 w_11 w_1046 nn_140 (by decide)) (ok_czne (pc := 8) (t := 14) d_160_8 rfl (by decide) rfl (ok_bi (pc := 11) d_160_11 rfl (ok_ri (pc := 13) d_160_13 rfl))))))
theorem tst_160 {Γ : m_G} (q : Nat) : m_ts Γ (t_160 q) q := ts_n (ts_l (k := 160) (pc := 0) tb_160 rfl (by decide) s_160_0) (ts_n (ts_l (k := 160) (pc := 14) tb_160 rfl (by decide) s_160_14) (ts_l (k := 160) (pc := 27) tb_160 rfl (by decide) s_160_27))
theorem d_161_0 : decode prog_14_method_23_code 0 = .ok (.aload_n 0, 1) := by decide +kernel
theorem d_161_1 : decode prog_14_method_23_code 1 = .ok (.getfield 151, 3) := by decide +kernel
theorem d_161_4 : decode prog_14_method_23_code 4 = .ok (.aload_n 0, 1) := by decide +kernel
theorem d_161_5 : decode prog_14_method_23_code 5 = .ok (.getfield 148, 3) := by decide +kernel
theorem d_161_8 : decode prog_14_method_23_code 8 = .ok (.if_icmp .ge 24, 3) := by decide +kernel
theorem d_161_11 : decode prog_14_method_23_code 11 = .ok (.aload_n 0, 1) := by decide +kernel
theorem d_161_12 : decode prog_14_method_23_code 12 = .ok (.getfield 37, 3) := by decide +kernel
theorem d_161_15 : decode prog_14_method_23_code 15 = .ok (.aload_n 0, 1) := by decide +kernel
theorem d_161_16 : decode prog_14_method_23_code 16 = .ok (.getfield 151, 3) := by decide +kernel
theorem d_161_19 : decode prog_14_method_23_code 19 = .ok (.iaload, 1) := by decide +kernel
theorem d_161_20 : decode prog_14_method_23_code 20 = .ok (.iload_n 1, 1) := by decide +kernel
theorem d_161_21 : decode prog_14_method_23_code 21 = .ok (.iload_n 2, 1) := by decide +kernel
theorem d_161_22 : decode prog_14_method_23_code 22 = .ok (.invokestatic 112, 3) := by decide +kernel
theorem d_161_25 : decode prog_14_method_23_code 25 = .ok (.ifCond .eq 7, 3) := by decide +kernel
theorem d_161_28 : decode prog_14_method_23_code 28 = .ok (.iconst 1, 1) := by decide +kernel
theorem d_161_29 : decode prog_14_method_23_code 29 = .ok (.goto 4, 3) := by decide +kernel
theorem d_161_32 : decode prog_14_method_23_code 32 = .ok (.iconst 0, 1) := by decide +kernel
theorem d_161_33 : decode prog_14_method_23_code 33 = .ok (.ireturn, 1) := by decide +kernel
theorem s_161_33 {Γ : m_G} : m_ok Γ m_tab 161 M_161 33 (g_161_33) := ok_rz (pc := 33) d_161_33 rfl
theorem s_161_32 {Γ : m_G} : m_ok Γ m_tab 161 M_161 32 (g_161_32) := ok_ic (pc := 32) d_161_32 rfl (s_161_33)
theorem s_161_0 {Γ : m_G} : m_ok Γ m_tab 161 M_161 0 (g_161_0) := ok_al_n (pc := 0) d_161_0 rfl (ok_getf (pc := 1) d_161_1 w_933 (hc1 fo_86) (ok_al_n (pc := 4) d_161_4 rfl (ok_getf (pc := 5) d_161_5 w_931 (hc1 fo_84) (ok_cige (pc := 8) (t := 32) d_161_8 rfl (by decide) rfl (ok_al_n (pc := 11) d_161_11 rfl (ok_getf (pc := 12) d_161_12 w_926 (hc1 fo_85) (ok_al_n (pc := 15) d_161_15 rfl (ok_getf (pc := 16) d_161_16 w_933 (hc1 fo_86) (ok_iald (pc := 19) d_161_19 (ok_il_n (pc := 20) d_161_20 rfl (ok_il_n (pc := 21) d_161_21 rfl (ok_cat (pc := 22) (k2 := 140) rfl tb_140 (by decide) (by decide) rfl (go_S d_161_22 w_1044 w_1045 w_11 w_1046 nn_140 (by decide)) (ok_czeq (pc := 25) (t := 32) d_161_25 rfl (by decide) rfl (ok_ic (pc := 28) d_161_28 rfl (ok_go (pc := 29) (t := 33) d_161_29 rfl (by decide) rfl)))))))))))))))
theorem tst_161 {Γ : m_G} (q : Nat) : m_ts Γ (t_161 q) q := ts_n (ts_l (k := 161) (pc := 0) tb_161 rfl (by decide) s_161_0) (ts_n (ts_l (k := 161) (pc := 32) tb_161 rfl (by decide) s_161_32) (ts_l (k := 161) (pc := 33) tb_161 rfl (by decide) s_161_33))
theorem d_162_0 : decode prog_14_method_24_code 0 = .ok (.iload_n 0, 1) := by decide +kernel
theorem d_162_1 : decode prog_14_method_24_code 1 = .ok (.bipush 40, 2) := by decide +kernel
theorem d_162_3 : decode prog_14_method_24_code 3 = .ok (.if_icmp .eq 45, 3) := by decide +kernel
theorem d_162_6 : decode prog_14_method_24_code 6 = .ok (.iload_n 0, 1) := by decide +kernel
theorem d_162_7 : decode prog_14_method_24_code 7 = .ok (.bipush 41, 2) := by decide +kernel
theorem d_162_9 : decode prog_14_method_24_code 9 = .ok (.if_icmp .eq 39, 3) := by decide +kernel
theorem d_162_12 : decode prog_14_method_24_code 12 = .ok (.iload_n 0, 1) := by decide +kernel
theorem d_162_13 : decode prog_14_method_24_code 13 = .ok (.bipush 59, 2) := by decide +kernel
theorem d_162_15 : decode prog_14_method_24_code 15 = .ok (.if_icmp .eq 33, 3) := by decide +kernel
theorem d_162_18 : decode prog_14_method_24_code 18 = .ok (.iload_n 0, 1) := by decide +kernel
theorem d_162_19 : decode prog_14_method_24_code 19 = .ok (.bipush 43, 2) := by decide +kernel
theorem d_162_21 : decode prog_14_method_24_code 21 = .ok (.if_icmp .eq 27, 3) := by decide +kernel
theorem d_162_24 : decode prog_14_method_24_code 24 = .ok (.iload_n 0, 1) := by decide +kernel
theorem d_162_25 : decode prog_14_method_24_code 25 = .ok (.bipush 45, 2) := by decide +kernel
theorem d_162_27 : decode prog_14_method_24_code 27 = .ok (.if_icmp .eq 21, 3) := by decide +kernel
theorem d_162_30 : decode prog_14_method_24_code 30 = .ok (.iload_n 0, 1) := by decide +kernel
theorem d_162_31 : decode prog_14_method_24_code 31 = .ok (.bipush 42, 2) := by decide +kernel
theorem d_162_33 : decode prog_14_method_24_code 33 = .ok (.if_icmp .eq 15, 3) := by decide +kernel
theorem d_162_36 : decode prog_14_method_24_code 36 = .ok (.iload_n 0, 1) := by decide +kernel
theorem d_162_37 : decode prog_14_method_24_code 37 = .ok (.bipush 60, 2) := by decide +kernel
theorem d_162_39 : decode prog_14_method_24_code 39 = .ok (.if_icmp .eq 9, 3) := by decide +kernel
theorem d_162_42 : decode prog_14_method_24_code 42 = .ok (.iload_n 0, 1) := by decide +kernel
theorem d_162_43 : decode prog_14_method_24_code 43 = .ok (.bipush 61, 2) := by decide +kernel
theorem d_162_45 : decode prog_14_method_24_code 45 = .ok (.if_icmp .ne 7, 3) := by decide +kernel
theorem d_162_48 : decode prog_14_method_24_code 48 = .ok (.iconst 1, 1) := by decide +kernel
theorem d_162_49 : decode prog_14_method_24_code 49 = .ok (.goto 4, 3) := by decide +kernel
theorem d_162_52 : decode prog_14_method_24_code 52 = .ok (.iconst 0, 1) := by decide +kernel
theorem d_162_53 : decode prog_14_method_24_code 53 = .ok (.ireturn, 1) := by decide +kernel
theorem s_162_53 {Γ : m_G} : m_ok Γ m_tab 162 M_162 53 (g_162_53) := ok_rz (pc := 53) d_162_53 rfl
theorem s_162_52 {Γ : m_G} : m_ok Γ m_tab 162 M_162 52 (g_162_52) := ok_ic (pc := 52) d_162_52 rfl (s_162_53)
theorem s_162_48 {Γ : m_G} : m_ok Γ m_tab 162 M_162 48 (g_162_48) := ok_ic (pc := 48) d_162_48 rfl (ok_go (pc := 49) (t := 53) d_162_49 rfl (by decide) rfl)
theorem s_162_0 {Γ : m_G} : m_ok Γ m_tab 162 M_162 0 (g_162_0) := ok_il_n (pc := 0) d_162_0 rfl (ok_bi (pc := 1) d_162_1 rfl (ok_cieq (pc := 3) (t := 48) d_162_3 rfl (by decide) rfl (ok_il_n (pc := 6) d_162_6 rfl (ok_bi (pc := 7) d_162_7 rfl (ok_cieq (pc := 9) (t := 48) d_162_9 rfl (by decide) rfl (ok_il_n (pc := 12) d_162_12 rfl (ok_bi (pc := 13) d_162_13 rfl (ok_cieq (pc := 15) (t := 48) d_162_15 rfl (by decide) rfl (ok_il_n (pc := 18) d_162_18 rfl (ok_bi (pc := 19) d_162_19 rfl (ok_cieq (pc := 21) (t := 48) d_162_21 rfl (by decide) rfl (ok_il_n (pc := 24) d_162_24 rfl (ok_bi (pc := 25) d_162_25 rfl (ok_cieq (pc := 27) (t := 48) d_162_27 rfl (by decide) rfl (ok_il_n (pc := 30) d_162_30 rfl (ok_bi (pc := 31) d_162_31 rfl (ok_cieq (pc := 33) (t := 48) d_162_33 rfl (by decide) rfl (ok_il_n (pc := 36) d_162_36 rfl (ok_bi (pc := 37) d_162_37 rfl (ok_cieq (pc := 39) (t := 48) d_162_39 rfl (by decide) rfl (ok_il_n (pc := 42) d_162_42 rfl (ok_bi (pc := 43) d_162_43 rfl (ok_cine (pc := 45) (t := 52) d_162_45 rfl (by decide) rfl (s_162_48))))))))))))))))))))))))
theorem tst_162 {Γ : m_G} (q : Nat) : m_ts Γ (t_162 q) q := ts_n (ts_n (ts_l (k := 162) (pc := 0) tb_162 rfl (by decide) s_162_0) (ts_l (k := 162) (pc := 48) tb_162 rfl (by decide) s_162_48)) (ts_n (ts_l (k := 162) (pc := 52) tb_162 rfl (by decide) s_162_52) (ts_l (k := 162) (pc := 53) tb_162 rfl (by decide) s_162_53))
theorem d_163_0 : decode prog_14_method_25_code 0 = .ok (.aload_n 0, 1) := by decide +kernel
theorem d_163_1 : decode prog_14_method_25_code 1 = .ok (.getfield 151, 3) := by decide +kernel
theorem d_163_4 : decode prog_14_method_25_code 4 = .ok (.aload_n 0, 1) := by decide +kernel
theorem d_163_5 : decode prog_14_method_25_code 5 = .ok (.getfield 154, 3) := by decide +kernel
theorem d_163_8 : decode prog_14_method_25_code 8 = .ok (.isub, 1) := by decide +kernel
theorem d_163_9 : decode prog_14_method_25_code 9 = .ok (.aload_n 1, 1) := by decide +kernel
theorem d_163_10 : decode prog_14_method_25_code 10 = .ok (.arraylength, 1) := by decide +kernel
theorem d_163_11 : decode prog_14_method_25_code 11 = .ok (.if_icmp .eq 5, 3) := by decide +kernel
theorem d_163_14 : decode prog_14_method_25_code 14 = .ok (.iconst 0, 1) := by decide +kernel
theorem d_163_15 : decode prog_14_method_25_code 15 = .ok (.ireturn, 1) := by decide +kernel
theorem d_163_16 : decode prog_14_method_25_code 16 = .ok (.iconst 0, 1) := by decide +kernel
theorem d_163_17 : decode prog_14_method_25_code 17 = .ok (.istore_n 2, 1) := by decide +kernel
theorem d_163_18 : decode prog_14_method_25_code 18 = .ok (.iload_n 2, 1) := by decide +kernel
theorem d_163_19 : decode prog_14_method_25_code 19 = .ok (.aload_n 1, 1) := by decide +kernel
theorem d_163_20 : decode prog_14_method_25_code 20 = .ok (.arraylength, 1) := by decide +kernel
theorem d_163_21 : decode prog_14_method_25_code 21 = .ok (.if_icmp .ge 28, 3) := by decide +kernel
theorem d_163_24 : decode prog_14_method_25_code 24 = .ok (.aload_n 0, 1) := by decide +kernel
theorem d_163_25 : decode prog_14_method_25_code 25 = .ok (.getfield 37, 3) := by decide +kernel
theorem d_163_28 : decode prog_14_method_25_code 28 = .ok (.aload_n 0, 1) := by decide +kernel
theorem d_163_29 : decode prog_14_method_25_code 29 = .ok (.getfield 154, 3) := by decide +kernel
theorem d_163_32 : decode prog_14_method_25_code 32 = .ok (.iload_n 2, 1) := by decide +kernel
theorem d_163_33 : decode prog_14_method_25_code 33 = .ok (.iadd, 1) := by decide +kernel
theorem d_163_34 : decode prog_14_method_25_code 34 = .ok (.iaload, 1) := by decide +kernel
theorem d_163_35 : decode prog_14_method_25_code 35 = .ok (.aload_n 1, 1) := by decide +kernel
theorem d_163_36 : decode prog_14_method_25_code 36 = .ok (.iload_n 2, 1) := by decide +kernel
theorem d_163_37 : decode prog_14_method_25_code 37 = .ok (.iaload, 1) := by decide +kernel
theorem d_163_38 : decode prog_14_method_25_code 38 = .ok (.if_icmp .eq 5, 3) := by decide +kernel
theorem d_163_41 : decode prog_14_method_25_code 41 = .ok (.iconst 0, 1) := by decide +kernel
theorem d_163_42 : decode prog_14_method_25_code 42 = .ok (.ireturn, 1) := by decide +kernel
theorem d_163_43 : decode prog_14_method_25_code 43 = .ok (.iinc 2 1, 3) := by decide +kernel
theorem d_163_46 : decode prog_14_method_25_code 46 = .ok (.goto (-28), 3) := by decide +kernel
theorem d_163_49 : decode prog_14_method_25_code 49 = .ok (.iconst 1, 1) := by decide +kernel
theorem d_163_50 : decode prog_14_method_25_code 50 = .ok (.ireturn, 1) := by decide +kernel
theorem s_163_49 {Γ : m_G} : m_ok Γ m_tab 163 M_163 49 (g_163_49) := ok_ic (pc := 49) d_163_49 rfl (ok_rz (pc := 50) d_163_50 rfl)
theorem s_163_43 {Γ : m_G} : m_ok Γ m_tab 163 M_163 43 (g_163_43) := ok_inc (pc := 43) d_163_43 rfl (by decide) (ok_go (pc := 46) (t := 18) d_163_46 rfl (by decide) rfl)
theorem s_163_18 {Γ : m_G} : m_ok Γ m_tab 163 M_163 18 (g_163_18) := ok_il_n (pc := 18) d_163_18 rfl (ok_al_n (pc := 19) d_163_19 rfl (ok_len (pc := 20) d_163_20 (ok_cige (pc := 21) (t := 49) d_163_21 rfl (by decide) rfl (ok_al_n (pc := 24) d_163_24 rfl (ok_getf (pc := 25) d_163_25 w_926 (hc1 fo_85) (ok_al_n (pc := 28) d_163_28 rfl (ok_getf (pc := 29) d_163_29 w_935 (hc1 fo_87) (ok_il_n (pc := 32) d_163_32 rfl (ok_add (pc := 33) d_163_33 (ok_iald (pc := 34) d_163_34 (ok_al_n (pc := 35) d_163_35 rfl (ok_il_n (pc := 36) d_163_36 rfl (ok_iald (pc := 37) d_163_37 (ok_cieq (pc := 38) (t := 43) d_163_38 rfl (by decide) rfl (ok_ic (pc := 41) d_163_41 rfl (ok_rz (pc := 42) d_163_42 rfl))))))))))))))))
theorem s_163_16 {Γ : m_G} : m_ok Γ m_tab 163 M_163 16 (g_163_16) := ok_ic (pc := 16) d_163_16 rfl (ok_is_n (pc := 17) d_163_17 rfl (by decide) (s_163_18))
theorem s_163_0 {Γ : m_G} : m_ok Γ m_tab 163 M_163 0 (g_163_0) := ok_al_n (pc := 0) d_163_0 rfl (ok_getf (pc := 1) d_163_1 w_933 (hc1 fo_86) (ok_al_n (pc := 4) d_163_4 rfl (ok_getf (pc := 5) d_163_5 w_935 (hc1 fo_87) (ok_sub (pc := 8) d_163_8 (ok_al_n (pc := 9) d_163_9 rfl (ok_len (pc := 10) d_163_10 (ok_cieq (pc := 11) (t := 16) d_163_11 rfl (by decide) rfl (ok_ic (pc := 14) d_163_14 rfl (ok_rz (pc := 15) d_163_15 rfl)))))))))
theorem tst_163 {Γ : m_G} (q : Nat) : m_ts Γ (t_163 q) q := ts_n (ts_n (ts_l (k := 163) (pc := 0) tb_163 rfl (by decide) s_163_0) (ts_l (k := 163) (pc := 16) tb_163 rfl (by decide) s_163_16)) (ts_n (ts_l (k := 163) (pc := 18) tb_163 rfl (by decide) s_163_18) (ts_n (ts_l (k := 163) (pc := 43) tb_163 rfl (by decide) s_163_43) (ts_l (k := 163) (pc := 49) tb_163 rfl (by decide) s_163_49)))
theorem d_164_0 : decode prog_14_method_26_code 0 = .ok (.aload_n 0, 1) := by decide +kernel
theorem d_164_1 : decode prog_14_method_26_code 1 = .ok (.bipush 32, 2) := by decide +kernel
theorem d_164_3 : decode prog_14_method_26_code 3 = .ok (.bipush 32, 2) := by decide +kernel
theorem d_164_5 : decode prog_14_method_26_code 5 = .ok (.invokevirtual 157, 3) := by decide +kernel
theorem d_164_8 : decode prog_14_method_26_code 8 = .ok (.ifCond .ne 14, 3) := by decide +kernel
theorem d_164_11 : decode prog_14_method_26_code 11 = .ok (.aload_n 0, 1) := by decide +kernel
theorem d_164_12 : decode prog_14_method_26_code 12 = .ok (.bipush 10, 2) := by decide +kernel
theorem d_164_14 : decode prog_14_method_26_code 14 = .ok (.bipush 10, 2) := by decide +kernel
theorem d_164_16 : decode prog_14_method_26_code 16 = .ok (.invokevirtual 157, 3) := by decide +kernel
theorem d_164_19 : decode prog_14_method_26_code 19 = .ok (.ifCond .eq 16, 3) := by decide +kernel
theorem d_164_22 : decode prog_14_method_26_code 22 = .ok (.aload_n 0, 1) := by decide +kernel
theorem d_164_23 : decode prog_14_method_26_code 23 = .ok (.dup, 1) := by decide +kernel
theorem d_164_24 : decode prog_14_method_26_code 24 = .ok (.getfield 151, 3) := by decide +kernel
theorem d_164_27 : decode prog_14_method_26_code 27 = .ok (.iconst 1, 1) := by decide +kernel
theorem d_164_28 : decode prog_14_method_26_code 28 = .ok (.iadd, 1) := by decide +kernel
theorem d_164_29 : decode prog_14_method_26_code 29 = .ok (.putfield 151, 3) := by decide +kernel
theorem d_164_32 : decode prog_14_method_26_code 32 = .ok (.goto (-32), 3) := by decide +kernel
theorem d_164_35 : decode prog_14_method_26_code 35 = .ok (.aload_n 0, 1) := by decide +kernel
theorem d_164_36 : decode prog_14_method_26_code 36 = .ok (.aload_n 0, 1) := by decide +kernel
theorem d_164_37 : decode prog_14_method_26_code 37 = .ok (.getfield 151, 3) := by decide +kernel
theorem d_164_40 : decode prog_14_method_26_code 40 = .ok (.putfield 154, 3) := by decide +kernel
theorem d_164_43 : decode prog_14_method_26_code 43 = .ok (.aload_n 0, 1) := by decide +kernel
theorem d_164_44 : decode prog_14_method_26_code 44 = .ok (.bipush 104, 2) := by decide +kernel
theorem d_164_46 : decode prog_14_method_26_code 46 = .ok (.putfield 160, 3) := by decide +kernel
theorem d_164_49 : decode prog_14_method_26_code 49 = .ok (.aload_n 0, 1) := by decide +kernel
theorem d_164_50 : decode prog_14_method_26_code 50 = .ok (.iconst 0, 1) := by decide +kernel
theorem d_164_51 : decode prog_14_method_26_code 51 = .ok (.putfield 163, 3) := by decide +kernel
theorem d_164_54 : decode prog_14_method_26_code 54 = .ok (.aload_n 0, 1) := by decide +kernel
theorem d_164_55 : decode prog_14_method_26_code 55 = .ok (.getfield 151, 3) := by decide +kernel
theorem d_164_58 : decode prog_14_method_26_code 58 = .ok (.aload_n 0, 1) := by decide +kernel
theorem d_164_59 : decode prog_14_method_26_code 59 = .ok (.getfield 148, 3) := by decide +kernel
theorem d_164_62 : decode prog_14_method_26_code 62 = .ok (.if_icmp .ne 12, 3) := by decide +kernel
theorem d_164_65 : decode prog_14_method_26_code 65 = .ok (.aload_n 0, 1) := by decide +kernel
theorem d_164_66 : decode prog_14_method_26_code 66 = .ok (.bipush 103, 2) := by decide +kernel
theorem d_164_68 : decode prog_14_method_26_code 68 = .ok (.putfield 160, 3) := by decide +kernel
theorem d_164_71 : decode prog_14_method_26_code 71 = .ok (.goto 232, 3) := by decide +kernel
theorem d_164_74 : decode prog_14_method_26_code 74 = .ok (.aload_n 0, 1) := by decide +kernel
theorem d_164_75 : decode prog_14_method_26_code 75 = .ok (.bipush 48, 2) := by decide +kernel
theorem d_164_77 : decode prog_14_method_26_code 77 = .ok (.bipush 57, 2) := by decide +kernel
theorem d_164_79 : decode prog_14_method_26_code 79 = .ok (.invokevirtual 157, 3) := by decide +kernel
theorem d_164_82 : decode prog_14_method_26_code 82 = .ok (.ifCond .eq 95, 3) := by decide +kernel
theorem d_164_85 : decode prog_14_method_26_code 85 = .ok (.aload_n 0, 1) := by decide +kernel
theorem d_164_86 : decode prog_14_method_26_code 86 = .ok (.bipush 48, 2) := by decide +kernel
theorem d_164_88 : decode prog_14_method_26_code 88 = .ok (.bipush 57, 2) := by decide +kernel
theorem d_164_90 : decode prog_14_method_26_code 90 = .ok (.invokevirtual 157, 3) := by decide +kernel
theorem d_164_93 : decode prog_14_method_26_code 93 = .ok (.ifCond .eq 57, 3) := by decide +kernel
theorem d_164_96 : decode prog_14_method_26_code 96 = .ok (.aload_n 0, 1) := by decide +kernel
theorem d_164_97 : decode prog_14_method_26_code 97 = .ok (.aload_n 0, 1) := by decide +kernel
theorem d_164_98 : decode prog_14_method_26_code 98 = .ok (.getfield 151, 3) := by decide +kernel
theorem d_164_101 : decode prog_14_method_26_code 101 = .ok (.aload_n 0, 1) := by decide +kernel
theorem d_164_102 : decode prog_14_method_26_code 102 = .ok (.getfield 154, 3) := by decide +kernel
theorem d_164_105 : decode prog_14_method_26_code 105 = .ok (.isub, 1) := by decide +kernel
theorem d_164_106 : decode prog_14_method_26_code 106 = .ok (.iconst 4, 1) := by decide +kernel
theorem d_164_107 : decode prog_14_method_26_code 107 = .ok (.if_icmp .ge 26, 3) := by decide +kernel
theorem d_164_110 : decode prog_14_method_26_code 110 = .ok (.bipush 10, 2) := by decide +kernel
theorem d_164_112 : decode prog_14_method_26_code 112 = .ok (.aload_n 0, 1) := by decide +kernel
theorem d_164_113 : decode prog_14_method_26_code 113 = .ok (.getfield 163, 3) := by decide +kernel
theorem d_164_116 : decode prog_14_method_26_code 116 = .ok (.imul, 1) := by decide +kernel
theorem d_164_117 : decode prog_14_method_26_code 117 = .ok (.aload_n 0, 1) := by decide +kernel
theorem d_164_118 : decode prog_14_method_26_code 118 = .ok (.getfield 37, 3) := by decide +kernel
theorem d_164_121 : decode prog_14_method_26_code 121 = .ok (.aload_n 0, 1) := by decide +kernel
theorem d_164_122 : decode prog_14_method_26_code 122 = .ok (.getfield 151, 3) := by decide +kernel
theorem d_164_125 : decode prog_14_method_26_code 125 = .ok (.iaload, 1) := by decide +kernel
theorem d_164_126 : decode prog_14_method_26_code 126 = .ok (.iadd, 1) := by decide +kernel
theorem d_164_127 : decode prog_14_method_26_code 127 = .ok (.bipush 48, 2) := by decide +kernel
theorem d_164_129 : decode prog_14_method_26_code 129 = .ok (.isub, 1) := by decide +kernel
theorem d_164_130 : decode prog_14_method_26_code 130 = .ok (.goto 4, 3) := by decide +kernel
theorem d_164_133 : decode prog_14_method_26_code 133 = .ok (.iconst 0, 1) := by decide +kernel
theorem d_164_134 : decode prog_14_method_26_code 134 = .ok (.putfield 163, 3) := by decide +kernel
theorem d_164_137 : decode prog_14_method_26_code 137 = .ok (.aload_n 0, 1) := by decide +kernel
theorem d_164_138 : decode prog_14_method_26_code 138 = .ok (.dup, 1) := by decide +kernel
theorem d_164_139 : decode prog_14_method_26_code 139 = .ok (.getfield 151, 3) := by decide +kernel
theorem d_164_142 : decode prog_14_method_26_code 142 = .ok (.iconst 1, 1) := by decide +kernel
theorem d_164_143 : decode prog_14_method_26_code 143 = .ok (.iadd, 1) := by decide +kernel
theorem d_164_144 : decode prog_14_method_26_code 144 = .ok (.putfield 151, 3) := by decide +kernel
theorem d_164_147 : decode prog_14_method_26_code 147 = .ok (.goto (-62), 3) := by decide +kernel
theorem d_164_150 : decode prog_14_method_26_code 150 = .ok (.aload_n 0, 1) := by decide +kernel
theorem d_164_151 : decode prog_14_method_26_code 151 = .ok (.aload_n 0, 1) := by decide +kernel
theorem d_164_152 : decode prog_14_method_26_code 152 = .ok (.getfield 151, 3) := by decide +kernel
theorem d_164_155 : decode prog_14_method_26_code 155 = .ok (.aload_n 0, 1) := by decide +kernel
theorem d_164_156 : decode prog_14_method_26_code 156 = .ok (.getfield 154, 3) := by decide +kernel
theorem d_164_159 : decode prog_14_method_26_code 159 = .ok (.isub, 1) := by decide +kernel
theorem d_164_160 : decode prog_14_method_26_code 160 = .ok (.iconst 4, 1) := by decide +kernel
theorem d_164_161 : decode prog_14_method_26_code 161 = .ok (.if_icmp .le 8, 3) := by decide +kernel
theorem d_164_164 : decode prog_14_method_26_code 164 = .ok (.bipush 104, 2) := by decide +kernel
theorem d_164_166 : decode prog_14_method_26_code 166 = .ok (.goto 5, 3) := by decide +kernel
theorem d_164_169 : decode prog_14_method_26_code 169 = .ok (.bipush 100, 2) := by decide +kernel
theorem d_164_171 : decode prog_14_method_26_code 171 = .ok (.putfield 160, 3) := by decide +kernel
theorem d_164_174 : decode prog_14_method_26_code 174 = .ok (.goto 129, 3) := by decide +kernel
theorem d_164_177 : decode prog_14_method_26_code 177 = .ok (.aload_n 0, 1) := by decide +kernel
theorem d_164_178 : decode prog_14_method_26_code 178 = .ok (.bipush 97, 2) := by decide +kernel
theorem d_164_180 : decode prog_14_method_26_code 180 = .ok (.bipush 122, 2) := by decide +kernel
theorem d_164_182 : decode prog_14_method_26_code 182 = .ok (.invokevirtual 157, 3) := by decide +kernel
theorem d_164_185 : decode prog_14_method_26_code 185 = .ok (.ifCond .eq 74, 3) := by decide +kernel
theorem d_164_188 : decode prog_14_method_26_code 188 = .ok (.aload_n 0, 1) := by decide +kernel
theorem d_164_189 : decode prog_14_method_26_code 189 = .ok (.bipush 97, 2) := by decide +kernel
theorem d_164_191 : decode prog_14_method_26_code 191 = .ok (.bipush 122, 2) := by decide +kernel
theorem d_164_193 : decode prog_14_method_26_code 193 = .ok (.invokevirtual 157, 3) := by decide +kernel
theorem d_164_196 : decode prog_14_method_26_code 196 = .ok (.ifCond .eq 16, 3) := by decide +kernel
theorem d_164_199 : decode prog_14_method_26_code 199 = .ok (.aload_n 0, 1) := by decide +kernel
theorem d_164_200 : decode prog_14_method_26_code 200 = .ok (.dup, 1) := by decide +kernel
theorem d_164_201 : decode prog_14_method_26_code 201 = .ok (.getfield 151, 3) := by decide +kernel
theorem d_164_204 : decode prog_14_method_26_code 204 = .ok (.iconst 1, 1) := by decide +kernel
theorem d_164_205 : decode prog_14_method_26_code 205 = .ok (.iadd, 1) := by decide +kernel
theorem d_164_206 : decode prog_14_method_26_code 206 = .ok (.putfield 151, 3) := by decide +kernel
theorem d_164_209 : decode prog_14_method_26_code 209 = .ok (.goto (-21), 3) := by decide +kernel
theorem d_164_212 : decode prog_14_method_26_code 212 = .ok (.iconst 0, 1) := by decide +kernel
theorem d_164_213 : decode prog_14_method_26_code 213 = .ok (.istore_n 1, 1) := by decide +kernel
theorem d_164_214 : decode prog_14_method_26_code 214 = .ok (.iload_n 1, 1) := by decide +kernel
theorem d_164_215 : decode prog_14_method_26_code 215 = .ok (.aload_n 0, 1) := by decide +kernel
theorem d_164_216 : decode prog_14_method_26_code 216 = .ok (.getfield 33, 3) := by decide +kernel
theorem d_164_219 : decode prog_14_method_26_code 219 = .ok (.arraylength, 1) := by decide +kernel
theorem d_164_220 : decode prog_14_method_26_code 220 = .ok (.if_icmp .ge 36, 3) := by decide +kernel
theorem d_164_223 : decode prog_14_method_26_code 223 = .ok (.aload_n 0, 1) := by decide +kernel
theorem d_164_224 : decode prog_14_method_26_code 224 = .ok (.aload_n 0, 1) := by decide +kernel
theorem d_164_225 : decode prog_14_method_26_code 225 = .ok (.getfield 33, 3) := by decide +kernel
theorem d_164_228 : decode prog_14_method_26_code 228 = .ok (.iload_n 1, 1) := by decide +kernel
theorem d_164_229 : decode prog_14_method_26_code 229 = .ok (.aaload, 1) := by decide +kernel
theorem d_164_230 : decode prog_14_method_26_code 230 = .ok (.invokevirtual 166, 3) := by decide +kernel
theorem d_164_233 : decode prog_14_method_26_code 233 = .ok (.ifCond .ne 6, 3) := by decide +kernel
theorem d_164_236 : decode prog_14_method_26_code 236 = .ok (.goto 14, 3) := by decide +kernel
theorem d_164_239 : decode prog_14_method_26_code 239 = .ok (.aload_n 0, 1) := by decide +kernel
theorem d_164_240 : decode prog_14_method_26_code 240 = .ok (.bipush 101, 2) := by decide +kernel
theorem d_164_242 : decode prog_14_method_26_code 242 = .ok (.putfield 160, 3) := by decide +kernel
theorem d_164_245 : decode prog_14_method_26_code 245 = .ok (.aload_n 0, 1) := by decide +kernel
theorem d_164_246 : decode prog_14_method_26_code 246 = .ok (.iload_n 1, 1) := by decide +kernel
theorem d_164_247 : decode prog_14_method_26_code 247 = .ok (.putfield 163, 3) := by decide +kernel
theorem d_164_250 : decode prog_14_method_26_code 250 = .ok (.iinc 1 1, 3) := by decide +kernel
theorem d_164_253 : decode prog_14_method_26_code 253 = .ok (.goto (-39), 3) := by decide +kernel
theorem d_164_256 : decode prog_14_method_26_code 256 = .ok (.goto 47, 3) := by decide +kernel
theorem d_164_259 : decode prog_14_method_26_code 259 = .ok (.aload_n 0, 1) := by decide +kernel
theorem d_164_260 : decode prog_14_method_26_code 260 = .ok (.getfield 37, 3) := by decide +kernel
theorem d_164_263 : decode prog_14_method_26_code 263 = .ok (.aload_n 0, 1) := by decide +kernel
theorem d_164_264 : decode prog_14_method_26_code 264 = .ok (.getfield 151, 3) := by decide +kernel
theorem d_164_267 : decode prog_14_method_26_code 267 = .ok (.iaload, 1) := by decide +kernel
theorem d_164_268 : decode prog_14_method_26_code 268 = .ok (.invokestatic 170, 3) := by decide +kernel
theorem d_164_271 : decode prog_14_method_26_code 271 = .ok (.ifCond .eq 32, 3) := by decide +kernel
theorem d_164_274 : decode prog_14_method_26_code 274 = .ok (.aload_n 0, 1) := by decide +kernel
theorem d_164_275 : decode prog_14_method_26_code 275 = .ok (.bipush 102, 2) := by decide +kernel
theorem d_164_277 : decode prog_14_method_26_code 277 = .ok (.putfield 160, 3) := by decide +kernel
theorem d_164_280 : decode prog_14_method_26_code 280 = .ok (.aload_n 0, 1) := by decide +kernel
theorem d_164_281 : decode prog_14_method_26_code 281 = .ok (.aload_n 0, 1) := by decide +kernel
theorem d_164_282 : decode prog_14_method_26_code 282 = .ok (.getfield 37, 3) := by decide +kernel
theorem d_164_285 : decode prog_14_method_26_code 285 = .ok (.aload_n 0, 1) := by decide +kernel
theorem d_164_286 : decode prog_14_method_26_code 286 = .ok (.getfield 151, 3) := by decide +kernel
theorem d_164_289 : decode prog_14_method_26_code 289 = .ok (.iaload, 1) := by decide +kernel
theorem d_164_290 : decode prog_14_method_26_code 290 = .ok (.putfield 163, 3) := by decide +kernel
theorem d_164_293 : decode prog_14_method_26_code 293 = .ok (.aload_n 0, 1) := by decide +kernel
theorem d_164_294 : decode prog_14_method_26_code 294 = .ok (.dup, 1) := by decide +kernel
theorem d_164_295 : decode prog_14_method_26_code 295 = .ok (.getfield 151, 3) := by decide +kernel
theorem d_164_298 : decode prog_14_method_26_code 298 = .ok (.iconst 1, 1) := by decide +kernel
theorem d_164_299 : decode prog_14_method_26_code 299 = .ok (.iadd, 1) := by decide +kernel
theorem d_164_300 : decode prog_14_method_26_code 300 = .ok (.putfield 151, 3) := by decide +kernel
theorem d_164_303 : decode prog_14_method_26_code 303 = .ok (.return_, 1) := by decide +kernel
theorem s_164_303 {Γ : m_G} : m_ok Γ m_tab 164 M_164 303 (g_164_303) := ok_rv (pc := 303) d_164_303 rfl
theorem s_164_259 {Γ : m_G} : m_ok Γ m_tab 164 M_164 259 (g_164_259) := ok_al_n (pc := 259) d_164_259 rfl (ok_getf (pc := 260) d_164_260 w_926 (hc1 fo_85) (ok_al_n (pc := 263) d_164_263 rfl (ok_getf (pc := 264) d_164_264 w_933 (hc1 fo_86) (ok_iald (pc := 267) d_164_267 (ok_cat (pc := 268) (k2 := 162) rfl tb_162 (by decide) (by decide) rfl (go_S d_164_268 w_1117 w_1118 w_11 w_1119 nn_162 (by decide)) (ok_czeq (pc := 271) (t := 303) d_164_271 rfl (by decide) rfl (ok_al_n (pc := 274) d_164_274 rfl (ok_bi (pc := 275) d_164_275 rfl (ok_putf (pc := 277) d_164_277 w_934 (hc1 ⟨_, _, _, tyX12, cl_12, in_12, by decide, rfl, rfl, rfl, tyX12_ok, nmX12, Or.inl rfl⟩) pd_0 vt_I (ok_al_n (pc := 280) d_164_280 rfl (ok_al_n (pc := 281) d_164_281 rfl (ok_getf (pc := 282) d_164_282 w_926 (hc1 fo_85) (ok_al_n (pc := 285) d_164_285 rfl (ok_getf (pc := 286) d_164_286 w_933 (hc1 fo_86) (ok_iald (pc := 289) d_164_289 (ok_putf (pc := 290) d_164_290 w_936 (hc1 ⟨_, _, _, tyX12, cl_12, in_12, by decide, rfl, rfl, rfl, tyX12_ok, nmX12, Or.inl rfl⟩) pd_0 vt_I (ok_al_n (pc := 293) d_164_293 rfl (ok_dup (pc := 294) d_164_294 (ok_getf (pc := 295) d_164_295 w_933 (hc1 fo_86) (ok_ic (pc := 298) d_164_298 rfl (ok_add (pc := 299) d_164_299 (ok_putf (pc := 300) d_164_300 w_933 (hc1 ⟨_, _, _, tyX12, cl_12, in_12, by decide, rfl, rfl, rfl, tyX12_ok, nmX12, Or.inl rfl⟩) pd_0 vt_I (s_164_303)))))))))))))))))))))))
theorem s_164_256 {Γ : m_G} : m_ok Γ m_tab 164 M_164 256 (g_164_256) := ok_go (pc := 256) (t := 303) d_164_256 rfl (by decide) rfl
theorem s_164_250 {Γ : m_G} : m_ok Γ m_tab 164 M_164 250 (g_164_250) := ok_inc (pc := 250) d_164_250 rfl (by decide) (ok_go (pc := 253) (t := 214) d_164_253 rfl (by decide) rfl)
theorem s_164_239 {Γ : m_G} : m_ok Γ m_tab 164 M_164 239 (g_164_239) := ok_al_n (pc := 239) d_164_239 rfl (ok_bi (pc := 240) d_164_240 rfl (ok_putf (pc := 242) d_164_242 w_934 (hc1 ⟨_, _, _, tyX12, cl_12, in_12, by decide, rfl, rfl, rfl, tyX12_ok, nmX12, Or.inl rfl⟩) pd_0 vt_I (ok_al_n (pc := 245) d_164_245 rfl (ok_il_n (pc := 246) d_164_246 rfl (ok_putf (pc := 247) d_164_247 w_936 (hc1 ⟨_, _, _, tyX12, cl_12, in_12, by decide, rfl, rfl, rfl, tyX12_ok, nmX12, Or.inl rfl⟩) pd_0 vt_I (s_164_250))))))
theorem s_164_214 {Γ : m_G} : m_ok Γ m_tab 164 M_164 214 (g_164_214) := ok_il_n (pc := 214) d_164_214 rfl (ok_al_n (pc := 215) d_164_215 rfl (ok_getf (pc := 216) d_164_216 w_925 (hc1 fo_88) (ok_len (pc := 219) d_164_219 (ok_cige (pc := 220) (t := 256) d_164_220 rfl (by decide) rfl (ok_al_n (pc := 223) d_164_223 rfl (ok_al_n (pc := 224) d_164_224 rfl (ok_getf (pc := 225) d_164_225 w_925 (hc1 fo_88) (ok_il_n (pc := 228) d_164_228 rfl (ok_aald (pc := 229) d_164_229 (ok_cai (pc := 230) (k2 := 163) rfl rfl tb_163 (by decide) (by decide) rfl (go_V d_164_230 w_1113 w_1115 ws_48 w_11 w_1116 nn_163 (by decide) cl_12 rfl) (ok_czne (pc := 233) (t := 239) d_164_233 rfl (by decide) rfl (ok_go (pc := 236) (t := 250) d_164_236 rfl (by decide) rfl))))))))))))
theorem s_164_212 {Γ : m_G} : m_ok Γ m_tab 164 M_164 212 (g_164_212) := ok_ic (pc := 212) d_164_212 rfl (ok_is_n (pc := 213) d_164_213 rfl (by decide) (s_164_214))
theorem s_164_188 {Γ : m_G} : m_ok Γ m_tab 164 M_164 188 (g_164_188) := ok_al_n (pc := 188) d_164_188 rfl (ok_bi (pc := 189) d_164_189 rfl (ok_bi (pc := 191) d_164_191 rfl (ok_cai (pc := 193) (k2 := 161) rfl rfl tb_161 (by decide) (by decide) rfl (go_V d_164_193 w_1109 w_1111 ws_47 w_11 w_1112 nn_161 (by decide) cl_12 rfl) (ok_czeq (pc := 196) (t := 212) d_164_196 rfl (by decide) rfl (ok_al_n (pc := 199) d_164_199 rfl (ok_dup (pc := 200) d_164_200 (ok_getf (pc := 201) d_164_201 w_933 (hc1 fo_86) (ok_ic (pc := 204) d_164_204 rfl (ok_add (pc := 205) d_164_205 (ok_putf (pc := 206) d_164_206 w_933 (hc1 ⟨_, _, _, tyX12, cl_12, in_12, by decide, rfl, rfl, rfl, tyX12_ok, nmX12, Or.inl rfl⟩) pd_0 vt_I (ok_go (pc := 209) (t := 188) d_164_209 rfl (by decide) rfl)))))))))))
theorem s_164_177 {Γ : m_G} : m_ok Γ m_tab 164 M_164 177 (g_164_177) := ok_al_n (pc := 177) d_164_177 rfl (ok_bi (pc := 178) d_164_178 rfl (ok_bi (pc := 180) d_164_180 rfl (ok_cai (pc := 182) (k2 := 161) rfl rfl tb_161 (by decide) (by decide) rfl (go_V d_164_182 w_1109 w_1111 ws_47 w_11 w_1112 nn_161 (by decide) cl_12 rfl) (ok_czeq (pc := 185) (t := 259) d_164_185 rfl (by decide) rfl (s_164_188)))))
theorem s_164_171 {Γ : m_G} : m_ok Γ m_tab 164 M_164 171 (g_164_171) := ok_putf (pc := 171) d_164_171 w_934 (hc1 ⟨_, _, _, tyX12, cl_12, in_12, by decide, rfl, rfl, rfl, tyX12_ok, nmX12, Or.inl rfl⟩) pd_0 vt_I (ok_go (pc := 174) (t := 303) d_164_174 rfl (by decide) rfl)
theorem s_164_169 {Γ : m_G} : m_ok Γ m_tab 164 M_164 169 (g_164_169) := ok_bi (pc := 169) d_164_169 rfl (s_164_171)
theorem s_164_150 {Γ : m_G} : m_ok Γ m_tab 164 M_164 150 (g_164_150) := ok_al_n (pc := 150) d_164_150 rfl (ok_al_n (pc := 151) d_164_151 rfl (ok_getf (pc := 152) d_164_152 w_933 (hc1 fo_86) (ok_al_n (pc := 155) d_164_155 rfl (ok_getf (pc := 156) d_164_156 w_935 (hc1 fo_87) (ok_sub (pc := 159) d_164_159 (ok_ic (pc := 160) d_164_160 rfl (ok_cile (pc := 161) (t := 169) d_164_161 rfl (by decide) rfl (ok_bi (pc := 164) d_164_164 rfl (ok_go (pc := 166) (t := 171) d_164_166 rfl (by decide) rfl)))))))))
theorem s_164_134 {Γ : m_G} : m_ok Γ m_tab 164 M_164 134 (g_164_134) := ok_putf (pc := 134) d_164_134 w_936 (hc1 ⟨_, _, _, tyX12, cl_12, in_12, by decide, rfl, rfl, rfl, tyX12_ok, nmX12, Or.inl rfl⟩) pd_0 vt_I (ok_al_n (pc := 137) d_164_137 rfl (ok_dup (pc := 138) d_164_138 (ok_getf (pc := 139) d_164_139 w_933 (hc1 fo_86) (ok_ic (pc := 142) d_164_142 rfl (ok_add (pc := 143) d_164_143 (ok_putf (pc := 144) d_164_144 w_933 (hc1 ⟨_, _, _, tyX12, cl_12, in_12, by decide, rfl, rfl, rfl, tyX12_ok, nmX12, Or.inl rfl⟩) pd_0 vt_I (ok_go (pc := 147) (t := 85) d_164_147 rfl (by decide) rfl)))))))
theorem s_164_133 {Γ : m_G} : m_ok Γ m_tab 164 M_164 133 (g_164_133) := ok_ic (pc := 133) d_164_133 rfl (s_164_134)
theorem s_164_85 {Γ : m_G} : m_ok Γ m_tab 164 M_164 85 (g_164_85) := ok_al_n (pc := 85) d_164_85 rfl (ok_bi (pc := 86) d_164_86 rfl (ok_bi (pc := 88) d_164_88 rfl (ok_cai (pc := 90) (k2 := 161) rfl rfl tb_161 (by decide) (by decide) rfl (go_V d_164_90 w_1109 w_1111 ws_47 w_11 w_1112 nn_161 (by decide) cl_12 rfl) (ok_czeq (pc := 93) (t := 150) d_164_93 rfl (by decide) rfl (ok_al_n (pc := 96) d_164_96 rfl (ok_al_n (pc := 97) d_164_97 rfl (ok_getf (pc := 98) d_164_98 w_933 (hc1 fo_86) (ok_al_n (pc := 101) d_164_101 rfl (ok_getf (pc := 102) d_164_102 w_935 (hc1 fo_87) (ok_sub (pc := 105) d_164_105 (ok_ic (pc := 106) d_164_106 rfl (ok_cige (pc := 107) (t := 133) d_164_107 rfl (by decide) rfl (ok_bi (pc := 110) d_164_110 rfl (ok_al_n (pc := 112) d_164_112 rfl (ok_getf (pc := 113) d_164_113 w_936 (hc1 fo_89) (ok_mul (pc := 116) d_164_116 (ok_al_n (pc := 117) d_164_117 rfl (ok_getf (pc := 118) d_164_118 w_926 (hc1 fo_85) (ok_al_n (pc := 121) d_164_121 rfl (ok_getf (pc := 122) d_164_122 w_933 (hc1 fo_86) (ok_iald (pc := 125) d_164_125 (ok_add (pc := 126) d_164_126 (ok_bi (pc := 127) d_164_127 rfl (ok_sub (pc := 129) d_164_129 (ok_go (pc := 130) (t := 134) d_164_130 rfl (by decide) rfl)))))))))))))))))))))))))
theorem s_164_74 {Γ : m_G} : m_ok Γ m_tab 164 M_164 74 (g_164_74) := ok_al_n (pc := 74) d_164_74 rfl (ok_bi (pc := 75) d_164_75 rfl (ok_bi (pc := 77) d_164_77 rfl (ok_cai (pc := 79) (k2 := 161) rfl rfl tb_161 (by decide) (by decide) rfl (go_V d_164_79 w_1109 w_1111 ws_47 w_11 w_1112 nn_161 (by decide) cl_12 rfl) (ok_czeq (pc := 82) (t := 177) d_164_82 rfl (by decide) rfl (s_164_85)))))
theorem s_164_35 {Γ : m_G} : m_ok Γ m_tab 164 M_164 35 (g_164_35) := ok_al_n (pc := 35) d_164_35 rfl (ok_al_n (pc := 36) d_164_36 rfl (ok_getf (pc := 37) d_164_37 w_933 (hc1 fo_86) (ok_putf (pc := 40) d_164_40 w_935 (hc1 ⟨_, _, _, tyX12, cl_12, in_12, by decide, rfl, rfl, rfl, tyX12_ok, nmX12, Or.inl rfl⟩) pd_0 vt_I (ok_al_n (pc := 43) d_164_43 rfl (ok_bi (pc := 44) d_164_44 rfl (ok_putf (pc := 46) d_164_46 w_934 (hc1 ⟨_, _, _, tyX12, cl_12, in_12, by decide, rfl, rfl, rfl, tyX12_ok, nmX12, Or.inl rfl⟩) pd_0 vt_I (ok_al_n (pc := 49) d_164_49 rfl (ok_ic (pc := 50) d_164_50 rfl (ok_putf (pc := 51) d_164_51 w_936 (hc1 ⟨_, _, _, tyX12, cl_12, in_12, by decide, rfl, rfl, rfl, tyX12_ok, nmX12, Or.inl rfl⟩) pd_0 vt_I (ok_al_n (pc := 54) d_164_54 rfl (ok_getf (pc := 55) d_164_55 w_933 (hc1 fo_86) (ok_al_n (pc := 58) d_164_58 rfl (ok_getf (pc := 59) d_164_59 w_931 (hc1 fo_84) (ok_cine (pc := 62) (t := 74) d_164_62 rfl (by decide) rfl (ok_al_n (pc := 65) d_164_65 rfl (ok_bi (pc := 66) d_164_66 rfl (ok_putf (pc := 68) d_164_68 w_934 (hc1 ⟨_, _, _, tyX12, cl_12, in_12, by decide, rfl, rfl, rfl, tyX12_ok, nmX12, Or.inl rfl⟩) pd_0 vt_I (ok_go (pc := 71) (t := 303) d_164_71 rfl (by decide) rfl))))))))))))))))))
theorem s_164_22 {Γ : m_G} : m_ok Γ m_tab 164 M_164 22 (g_164_22) := ok_al_n (pc := 22) d_164_22 rfl (ok_dup (pc := 23) d_164_23 (ok_getf (pc := 24) d_164_24 w_933 (hc1 fo_86) (ok_ic (pc := 27) d_164_27 rfl (ok_add (pc := 28) d_164_28 (ok_putf (pc := 29) d_164_29 w_933 (hc1 ⟨_, _, _, tyX12, cl_12, in_12, by decide, rfl, rfl, rfl, tyX12_ok, nmX12, Or.inl rfl⟩) pd_0 vt_I (ok_go (pc := 32) (t := 0) d_164_32 rfl (by decide) rfl))))))
theorem s_164_0 {Γ : m_G} : m_ok Γ m_tab 164 M_164 0 (g_164_0) := ok_al_n (pc := 0) d_164_0 rfl (ok_bi (pc := 1) d_164_1 rfl (ok_bi (pc := 3) d_164_3 rfl (ok_cai (pc := 5) (k2 := 161) rfl rfl tb_161 (by decide) (by decide) rfl (go_V d_164_5 w_1109 w_1111 ws_47 w_11 w_1112 nn_161 (by decide) cl_12 rfl) (ok_czne (pc := 8) (t := 22) d_164_8 rfl (by decide) rfl (ok_al_n (pc := 11) d_164_11 rfl (ok_bi (pc := 12) d_164_12 rfl (ok_bi (pc := 14) d_164_14 rfl (ok_cai (pc := 16) (k2 := 161) rfl rfl tb_161 (by decide) (by decide) rfl (go_V d_164_16 w_1109 w_1111 ws_47 w_11 w_1112 nn_161 (by decide) cl_12 rfl) (ok_czeq (pc := 19) (t := 35) d_164_19 rfl (by decide) rfl (s_164_22))))))))))
theorem tst_164l {Γ : m_G} (q : Nat) : m_ts Γ (t_164l q) q := ts_n (ts_n (ts_n (ts_l (k := 164) (pc := 0) tb_164 rfl (by decide) s_164_0) (ts_l (k := 164) (pc := 22) tb_164 rfl (by decide) s_164_22)) (ts_n (ts_l (k := 164) (pc := 35) tb_164 rfl (by decide) s_164_35) (ts_l (k := 164) (pc := 74) tb_164 rfl (by decide) s_164_74))) (ts_n (ts_n (ts_l (k := 164) (pc := 85) tb_164 rfl (by decide) s_164_85) (ts_l (k := 164) (pc := 133) tb_164 rfl (by decide) s_164_133)) (ts_n (ts_l (k := 164) (pc := 134) tb_164 rfl (by decide) s_164_134) (ts_n (ts_l (k := 164) (pc := 150) tb_164 rfl (by decide) s_164_150) (ts_l (k := 164) (pc := 169) tb_164 rfl (by decide) s_164_169))))
theorem tst_164r {Γ : m_G} (q : Nat) : m_ts Γ (t_164r q) q := ts_n (ts_n (ts_n (ts_l (k := 164) (pc := 171) tb_164 rfl (by decide) s_164_171) (ts_l (k := 164) (pc := 177) tb_164 rfl (by decide) s_164_177)) (ts_n (ts_l (k := 164) (pc := 188) tb_164 rfl (by decide) s_164_188) (ts_n (ts_l (k := 164) (pc := 212) tb_164 rfl (by decide) s_164_212) (ts_l (k := 164) (pc := 214) tb_164 rfl (by decide) s_164_214)))) (ts_n (ts_n (ts_l (k := 164) (pc := 239) tb_164 rfl (by decide) s_164_239) (ts_l (k := 164) (pc := 250) tb_164 rfl (by decide) s_164_250)) (ts_n (ts_l (k := 164) (pc := 256) tb_164 rfl (by decide) s_164_256) (ts_n (ts_l (k := 164) (pc := 259) tb_164 rfl (by decide) s_164_259) (ts_l (k := 164) (pc := 303) tb_164 rfl (by decide) s_164_303))))
theorem tst_164 {Γ : m_G} (q : Nat) : m_ts Γ (t_164 q) q := ts_n (tst_164l q) (tst_164r q)
theorem d_165_0 : decode prog_14_method_27_code 0 = .ok (.aload_n 0, 1) := by decide +kernel
theorem d_165_1 : decode prog_14_method_27_code 1 = .ok (.getfield 173, 3) := by decide +kernel
theorem d_165_4 : decode prog_14_method_27_code 4 = .ok (.ifCond .ne 7, 3) := by decide +kernel
theorem d_165_7 : decode prog_14_method_27_code 7 = .ok (.iconst 0, 1) := by decide +kernel
theorem d_165_8 : decode prog_14_method_27_code 8 = .ok (.goto 14, 3) := by decide +kernel
theorem d_165_11 : decode prog_14_method_27_code 11 = .ok (.aload_n 0, 1) := by decide +kernel
theorem d_165_12 : decode prog_14_method_27_code 12 = .ok (.getfield 46, 3) := by decide +kernel
theorem d_165_15 : decode prog_14_method_27_code 15 = .ok (.aload_n 0, 1) := by decide +kernel
theorem d_165_16 : decode prog_14_method_27_code 16 = .ok (.getfield 173, 3) := by decide +kernel
theorem d_165_19 : decode prog_14_method_27_code 19 = .ok (.iconst 1, 1) := by decide +kernel
theorem d_165_20 : decode prog_14_method_27_code 20 = .ok (.isub, 1) := by decide +kernel
theorem d_165_21 : decode prog_14_method_27_code 21 = .ok (.iaload, 1) := by decide +kernel
theorem d_165_22 : decode prog_14_method_27_code 22 = .ok (.ireturn, 1) := by decide +kernel
theorem s_165_22 {Γ : m_G} : m_ok Γ m_tab 165 M_165 22 (g_165_22) := ok_ri (pc := 22) d_165_22 rfl
theorem s_165_11 {Γ : m_G} : m_ok Γ m_tab 165 M_165 11 (g_165_11) := ok_al_n (pc := 11) d_165_11 rfl (ok_getf (pc := 12) d_165_12 w_929 (hc1 fo_91) (ok_al_n (pc := 15) d_165_15 rfl (ok_getf (pc := 16) d_165_16 w_938 (hc1 fo_90) (ok_ic (pc := 19) d_165_19 rfl (ok_sub (pc := 20) d_165_20 (ok_iald (pc := 21) d_165_21 (s_165_22)))))))
theorem s_165_0 {Γ : m_G} : m_ok Γ m_tab 165 M_165 0 (g_165_0) := ok_al_n (pc := 0) d_165_0 rfl (ok_getf (pc := 1) d_165_1 w_938 (hc1 fo_90) (ok_czne (pc := 4) (t := 11) d_165_4 rfl (by decide) rfl (ok_ic (pc := 7) d_165_7 rfl (ok_go (pc := 8) (t := 22) d_165_8 rfl (by decide) rfl))))
theorem tst_165 {Γ : m_G} (q : Nat) : m_ts Γ (t_165 q) q := ts_n (ts_l (k := 165) (pc := 0) tb_165 rfl (by decide) s_165_0) (ts_n (ts_l (k := 165) (pc := 11) tb_165 rfl (by decide) s_165_11) (ts_l (k := 165) (pc := 22) tb_165 rfl (by decide) s_165_22))
theorem d_166_0 : decode prog_14_method_28_code 0 = .ok (.aload_n 0, 1) := by decide +kernel
theorem d_166_1 : decode prog_14_method_28_code 1 = .ok (.getfield 46, 3) := by decide +kernel
theorem d_166_4 : decode prog_14_method_28_code 4 = .ok (.aload_n 0, 1) := by decide +kernel
theorem d_166_5 : decode prog_14_method_28_code 5 = .ok (.getfield 173, 3) := by decide +kernel
theorem d_166_8 : decode prog_14_method_28_code 8 = .ok (.iload_n 1, 1) := by decide +kernel
theorem d_166_9 : decode prog_14_method_28_code 9 = .ok (.iastore, 1) := by decide +kernel
theorem d_166_10 : decode prog_14_method_28_code 10 = .ok (.aload_n 0, 1) := by decide +kernel
theorem d_166_11 : decode prog_14_method_28_code 11 = .ok (.dup, 1) := by decide +kernel
theorem d_166_12 : decode prog_14_method_28_code 12 = .ok (.getfield 173, 3) := by decide +kernel
theorem d_166_15 : decode prog_14_method_28_code 15 = .ok (.iconst 1, 1) := by decide +kernel
theorem d_166_16 : decode prog_14_method_28_code 16 = .ok (.iadd, 1) := by decide +kernel
theorem d_166_17 : decode prog_14_method_28_code 17 = .ok (.putfield 173, 3) := by decide +kernel
theorem d_166_20 : decode prog_14_method_28_code 20 = .ok (.return_, 1) := by decide +kernel
theorem s_166_0 {Γ : m_G} : m_ok Γ m_tab 166 M_166 0 (g_166_0) := ok_al_n (pc := 0) d_166_0 rfl (ok_getf (pc := 1) d_166_1 w_929 (hc1 fo_91) (ok_al_n (pc := 4) d_166_4 rfl (ok_getf (pc := 5) d_166_5 w_938 (hc1 fo_90) (ok_il_n (pc := 8) d_166_8 rfl (ok_iast (pc := 9) d_166_9 (ok_al_n (pc := 10) d_166_10 rfl (ok_dup (pc := 11) d_166_11 (ok_getf (pc := 12) d_166_12 w_938 (hc1 fo_90) (ok_ic (pc := 15) d_166_15 rfl (ok_add (pc := 16) d_166_16 (ok_putf (pc := 17) d_166_17 w_938 (hc1 ⟨_, _, _, tyX12, cl_12, in_12, by decide, rfl, rfl, rfl, tyX12_ok, nmX12, Or.inl rfl⟩) pd_0 vt_I (ok_rv (pc := 20) d_166_20 rfl))))))))))))
theorem tst_166 {Γ : m_G} (q : Nat) : m_ts Γ (t_166 q) q := ts_l (k := 166) (pc := 0) tb_166 rfl (by decide) s_166_0
theorem d_167_0 : decode prog_14_method_29_code 0 = .ok (.aload_n 0, 1) := by decide +kernel
theorem d_167_1 : decode prog_14_method_29_code 1 = .ok (.dup, 1) := by decide +kernel
theorem d_167_2 : decode prog_14_method_29_code 2 = .ok (.getfield 173, 3) := by decide +kernel
theorem d_167_5 : decode prog_14_method_29_code 5 = .ok (.iconst 1, 1) := by decide +kernel
theorem d_167_6 : decode prog_14_method_29_code 6 = .ok (.isub, 1) := by decide +kernel
theorem d_167_7 : decode prog_14_method_29_code 7 = .ok (.putfield 173, 3) := by decide +kernel
theorem d_167_10 : decode prog_14_method_29_code 10 = .ok (.aload_n 0, 1) := by decide +kernel
theorem d_167_11 : decode prog_14_method_29_code 11 = .ok (.getfield 46, 3) := by decide +kernel
theorem d_167_14 : decode prog_14_method_29_code 14 = .ok (.aload_n 0, 1) := by decide +kernel
theorem d_167_15 : decode prog_14_method_29_code 15 = .ok (.getfield 173, 3) := by decide +kernel
theorem d_167_18 : decode prog_14_method_29_code 18 = .ok (.iaload, 1) := by decide +kernel
theorem d_167_19 : decode prog_14_method_29_code 19 = .ok (.istore_n 1, 1) := by decide +kernel
theorem d_167_20 : decode prog_14_method_29_code 20 = .ok (.iload_n 1, 1) := by decide +kernel
theorem d_167_21 : decode prog_14_method_29_code 21 = .ok (.bipush 8, 2) := by decide +kernel
theorem d_167_23 : decode prog_14_method_29_code 23 = .ok (.if_icmp .eq 9, 3) := by decide +kernel
theorem d_167_26 : decode prog_14_method_29_code 26 = .ok (.iload_n 1, 1) := by decide +kernel
theorem d_167_27 : decode prog_14_method_29_code 27 = .ok (.bipush 9, 2) := by decide +kernel
theorem d_167_29 : decode prog_14_method_29_code 29 = .ok (.if_icmp .ne 13, 3) := by decide +kernel
theorem d_167_32 : decode prog_14_method_29_code 32 = .ok (.aload_n 0, 1) := by decide +kernel
theorem d_167_33 : decode prog_14_method_29_code 33 = .ok (.dup, 1) := by decide +kernel
theorem d_167_34 : decode prog_14_method_29_code 34 = .ok (.getfield 176, 3) := by decide +kernel
theorem d_167_37 : decode prog_14_method_29_code 37 = .ok (.iconst 1, 1) := by decide +kernel
theorem d_167_38 : decode prog_14_method_29_code 38 = .ok (.isub, 1) := by decide +kernel
theorem d_167_39 : decode prog_14_method_29_code 39 = .ok (.putfield 176, 3) := by decide +kernel
theorem d_167_42 : decode prog_14_method_29_code 42 = .ok (.aload_n 0, 1) := by decide +kernel
theorem d_167_43 : decode prog_14_method_29_code 43 = .ok (.sipush 30000, 3) := by decide +kernel
theorem d_167_46 : decode prog_14_method_29_code 46 = .ok (.iload_n 1, 1) := by decide +kernel
theorem d_167_47 : decode prog_14_method_29_code 47 = .ok (.iadd, 1) := by decide +kernel
theorem d_167_48 : decode prog_14_method_29_code 48 = .ok (.invokevirtual 144, 3) := by decide +kernel
theorem d_167_51 : decode prog_14_method_29_code 51 = .ok (.return_, 1) := by decide +kernel
theorem s_167_42 {Γ : m_G} : m_ok Γ m_tab 167 M_167 42 (g_167_42) := ok_al_n (pc := 42) d_167_42 rfl (ok_si (pc := 43) d_167_43 rfl (ok_il_n (pc := 46) d_167_46 rfl (ok_add (pc := 47) d_167_47 (ok_cvi (pc := 48) (k2 := 158) rfl rfl tb_158 (by decide) (by decide) rfl (go_V d_167_48 w_909 w_911 ws_40 w_11 w_912 nn_158 (by decide) cl_12 rfl) (ok_rv (pc := 51) d_167_51 rfl)))))
theorem s_167_32 {Γ : m_G} : m_ok Γ m_tab 167 M_167 32 (g_167_32) := ok_al_n (pc := 32) d_167_32 rfl (ok_dup (pc := 33) d_167_33 (ok_getf (pc := 34) d_167_34 w_937 (hc1 fo_92) (ok_ic (pc := 37) d_167_37 rfl (ok_sub (pc := 38) d_167_38 (ok_putf (pc := 39) d_167_39 w_937 (hc1 ⟨_, _, _, tyX12, cl_12, in_12, by decide, rfl, rfl, rfl, tyX12_ok, nmX12, Or.inl rfl⟩) pd_0 vt_I (s_167_42))))))
theorem s_167_0 {Γ : m_G} : m_ok Γ m_tab 167 M_167 0 (g_167_0) := ok_al_n (pc := 0) d_167_0 rfl (ok_dup (pc := 1) d_167_1 (ok_getf (pc := 2) d_167_2 w_938 (hc1 fo_90) (ok_ic (pc := 5) d_167_5 rfl (ok_sub (pc := 6) d_167_6 (ok_putf (pc := 7) d_167_7 w_938 (hc1 ⟨_, _, _, tyX12, cl_12, in_12, by decide, rfl, rfl, rfl, tyX12_ok, nmX12, Or.inl rfl⟩) pd_0 vt_I (ok_al_n (pc := 10) d_167_10 rfl (ok_getf (pc := 11) d_167_11 w_929 (hc1 fo_91) (ok_al_n (pc := 14) d_167_14 rfl (ok_getf (pc := 15) d_167_15 w_938 (hc1 fo_90) (ok_iald (pc := 18) d_167_18 (ok_is_n (pc := 19) d_167_19 rfl (by decide) (ok_il_n (pc := 20) d_167_20 rfl (ok_bi (pc := 21) d_167_21 rfl (ok_cieq (pc := 23) (t := 32) d_167_23 rfl (by decide) rfl (ok_il_n (pc := 26) d_167_26 rfl (ok_bi (pc := 27) d_167_27 rfl (ok_cine (pc := 29) (t := 42) d_167_29 rfl (by decide) rfl (s_167_32))))))))))))))))))
theorem tst_167 {Γ : m_G} (q : Nat) : m_ts Γ (t_167 q) q := ts_n (ts_l (k := 167) (pc := 0) tb_167 rfl (by decide) s_167_0) (ts_n (ts_l (k := 167) (pc := 32) tb_167 rfl (by decide) s_167_32) (ts_l (k := 167) (pc := 42) tb_167 rfl (by decide) s_167_42))
theorem d_168_0 : decode prog_14_method_30_code 0 = .ok (.aload_n 0, 1) := by decide +kernel
theorem d_168_1 : decode prog_14_method_30_code 1 = .ok (.getfield 173, 3) := by decide +kernel
theorem d_168_4 : decode prog_14_method_30_code 4 = .ok (.ifCond .le 21, 3) := by decide +kernel
theorem d_168_7 : decode prog_14_method_30_code 7 = .ok (.aload_n 0, 1) := by decide +kernel
theorem d_168_8 : decode prog_14_method_30_code 8 = .ok (.invokevirtual 179, 3) := by decide +kernel
theorem d_168_11 : decode prog_14_method_30_code 11 = .ok (.invokestatic 183, 3) := by decide +kernel
theorem d_168_14 : decode prog_14_method_30_code 14 = .ok (.iload_n 1, 1) := by decide +kernel
theorem d_168_15 : decode prog_14_method_30_code 15 = .ok (.if_icmp .lt 10, 3) := by decide +kernel
theorem d_168_18 : decode prog_14_method_30_code 18 = .ok (.aload_n 0, 1) := by decide +kernel
theorem d_168_19 : decode prog_14_method_30_code 19 = .ok (.invokevirtual 187, 3) := by decide +kernel
theorem d_168_22 : decode prog_14_method_30_code 22 = .ok (.goto (-22), 3) := by decide +kernel
theorem d_168_25 : decode prog_14_method_30_code 25 = .ok (.return_, 1) := by decide +kernel
theorem s_168_25 {Γ : m_G} : m_ok Γ m_tab 168 M_168 25 (g_168_25) := ok_rv (pc := 25) d_168_25 rfl
theorem s_168_0 {Γ : m_G} : m_ok Γ m_tab 168 M_168 0 (g_168_0) := ok_al_n (pc := 0) d_168_0 rfl (ok_getf (pc := 1) d_168_1 w_938 (hc1 fo_90) (ok_czle (pc := 4) (t := 25) d_168_4 rfl (by decide) rfl (ok_al_n (pc := 7) d_168_7 rfl (ok_cai (pc := 8) (k2 := 165) rfl rfl tb_165 (by decide) (by decide) rfl (go_V d_168_8 w_1132 w_1134 ws_52 w_11 w_1135 nn_165 (by decide) cl_12 rfl) (ok_cat (pc := 11) (k2 := 169) rfl tb_169 (by decide) (by decide) rfl (go_S d_168_11 w_1148 w_1149 w_11 w_1150 nn_169 (by decide)) (ok_il_n (pc := 14) d_168_14 rfl (ok_cilt (pc := 15) (t := 25) d_168_15 rfl (by decide) rfl (ok_al_n (pc := 18) d_168_18 rfl (ok_cvi (pc := 19) (k2 := 167) rfl rfl tb_167 (by decide) (by decide) rfl (go_V d_168_19 w_1151 w_1153 ws_56 w_11 w_1154 nn_167 (by decide) cl_12 rfl) (ok_go (pc := 22) (t := 0) d_168_22 rfl (by decide) rfl))))))))))
theorem tst_168 {Γ : m_G} (q : Nat) : m_ts Γ (t_168 q) q := ts_n (ts_l (k := 168) (pc := 0) tb_168 rfl (by decide) s_168_0) (ts_l (k := 168) (pc := 25) tb_168 rfl (by decide) s_168_25)
theorem d_169_0 : decode prog_14_method_31_code 0 = .ok (.iload_n 0, 1) := by decide +kernel
theorem d_169_1 : decode prog_14_method_31_code 1 = .ok (.tableswitch 67 1 9 #[59, 59, 61, 57, 57, 53, 51, 55, 64], 51) := by decide +kernel
theorem d_169_52 : decode prog_14_method_31_code 52 = .ok (.iconst 1, 1) := by decide +kernel
theorem d_169_53 : decode prog_14_method_31_code 53 = .ok (.ireturn, 1) := by decide +kernel
theorem d_169_54 : decode prog_14_method_31_code 54 = .ok (.iconst 2, 1) := by decide +kernel
theorem d_169_55 : decode prog_14_method_31_code 55 = .ok (.ireturn, 1) := by decide +kernel
theorem d_169_56 : decode prog_14_method_31_code 56 = .ok (.iconst 3, 1) := by decide +kernel
theorem d_169_57 : decode prog_14_method_31_code 57 = .ok (.ireturn, 1) := by decide +kernel
theorem d_169_58 : decode prog_14_method_31_code 58 = .ok (.iconst 4, 1) := by decide +kernel
theorem d_169_59 : decode prog_14_method_31_code 59 = .ok (.ireturn, 1) := by decide +kernel
theorem d_169_60 : decode prog_14_method_31_code 60 = .ok (.iconst 5, 1) := by decide +kernel
theorem d_169_61 : decode prog_14_method_31_code 61 = .ok (.ireturn, 1) := by decide +kernel
theorem d_169_62 : decode prog_14_method_31_code 62 = .ok (.bipush 6, 2) := by decide +kernel
theorem d_169_64 : decode prog_14_method_31_code 64 = .ok (.ireturn, 1) := by decide +kernel
theorem d_169_65 : decode prog_14_method_31_code 65 = .ok (.bipush 7, 2) := by decide +kernel
theorem d_169_67 : decode prog_14_method_31_code 67 = .ok (.ireturn, 1) := by decide +kernel
theorem d_169_68 : decode prog_14_method_31_code 68 = .ok (.iconst 0, 1) := by decide +kernel
theorem d_169_69 : decode prog_14_method_31_code 69 = .ok (.ireturn, 1) := by decide +kernel
theorem s_169_68 {Γ : m_G} : m_ok Γ m_tab 169 M_169 68 (g_169_68) := ok_ic (pc := 68) d_169_68 rfl (ok_ri (pc := 69) d_169_69 rfl)
theorem s_169_65 {Γ : m_G} : m_ok Γ m_tab 169 M_169 65 (g_169_65) := ok_bi (pc := 65) d_169_65 rfl (ok_ri (pc := 67) d_169_67 rfl)
theorem s_169_62 {Γ : m_G} : m_ok Γ m_tab 169 M_169 62 (g_169_62) := ok_bi (pc := 62) d_169_62 rfl (ok_ri (pc := 64) d_169_64 rfl)
theorem s_169_60 {Γ : m_G} : m_ok Γ m_tab 169 M_169 60 (g_169_60) := ok_ic (pc := 60) d_169_60 rfl (ok_ri (pc := 61) d_169_61 rfl)
theorem s_169_58 {Γ : m_G} : m_ok Γ m_tab 169 M_169 58 (g_169_58) := ok_ic (pc := 58) d_169_58 rfl (ok_ri (pc := 59) d_169_59 rfl)
theorem s_169_56 {Γ : m_G} : m_ok Γ m_tab 169 M_169 56 (g_169_56) := ok_ic (pc := 56) d_169_56 rfl (ok_ri (pc := 57) d_169_57 rfl)
theorem s_169_54 {Γ : m_G} : m_ok Γ m_tab 169 M_169 54 (g_169_54) := ok_ic (pc := 54) d_169_54 rfl (ok_ri (pc := 55) d_169_55 rfl)
theorem s_169_52 {Γ : m_G} : m_ok Γ m_tab 169 M_169 52 (g_169_52) := ok_ic (pc := 52) d_169_52 rfl (ok_ri (pc := 53) d_169_53 rfl)
theorem s_169_0 {Γ : m_G} : m_ok Γ m_tab 169 M_169 0 (g_169_0) := ok_il_n (pc := 0) d_169_0 rfl (ok_tsw (pc := 1) d_169_1 rfl rfl (by decide +kernel) (by decide +kernel) (by decide) (by decide) (by decide +kernel) (by decide))
theorem tst_169 {Γ : m_G} (q : Nat) : m_ts Γ (t_169 q) q := ts_n (ts_n (ts_n (ts_l (k := 169) (pc := 0) tb_169 rfl (by decide) s_169_0) (ts_l (k := 169) (pc := 52) tb_169 rfl (by decide) s_169_52)) (ts_n (ts_l (k := 169) (pc := 54) tb_169 rfl (by decide) s_169_54) (ts_l (k := 169) (pc := 56) tb_169 rfl (by decide) s_169_56))) (ts_n (ts_n (ts_l (k := 169) (pc := 58) tb_169 rfl (by decide) s_169_58) (ts_l (k := 169) (pc := 60) tb_169 rfl (by decide) s_169_60)) (ts_n (ts_l (k := 169) (pc := 62) tb_169 rfl (by decide) s_169_62) (ts_n (ts_l (k := 169) (pc := 65) tb_169 rfl (by decide) s_169_65) (ts_l (k := 169) (pc := 68) tb_169 rfl (by decide) s_169_68))))
theorem d_170_0 : decode prog_14_method_32_code 0 = .ok (.aload_n 0, 1) := by decide +kernel
theorem d_170_1 : decode prog_14_method_32_code 1 = .ok (.invokevirtual 179, 3) := by decide +kernel
theorem d_170_4 : decode prog_14_method_32_code 4 = .ok (.istore_n 1, 1) := by decide +kernel
theorem d_170_5 : decode prog_14_method_32_code 5 = .ok (.aload_n 0, 1) := by decide +kernel
theorem d_170_6 : decode prog_14_method_32_code 6 = .ok (.getfield 173, 3) := by decide +kernel
theorem d_170_9 : decode prog_14_method_32_code 9 = .ok (.ifCond .eq 27, 3) := by decide +kernel
theorem d_170_12 : decode prog_14_method_32_code 12 = .ok (.iload_n 1, 1) := by decide +kernel
theorem d_170_13 : decode prog_14_method_32_code 13 = .ok (.bipush 10, 2) := by decide +kernel
theorem d_170_15 : decode prog_14_method_32_code 15 = .ok (.if_icmp .eq 21, 3) := by decide +kernel
theorem d_170_18 : decode prog_14_method_32_code 18 = .ok (.iload_n 1, 1) := by decide +kernel
theorem d_170_19 : decode prog_14_method_32_code 19 = .ok (.bipush 7, 2) := by decide +kernel
theorem d_170_21 : decode prog_14_method_32_code 21 = .ok (.if_icmp .eq 15, 3) := by decide +kernel
theorem d_170_24 : decode prog_14_method_32_code 24 = .ok (.iload_n 1, 1) := by decide +kernel
theorem d_170_25 : decode prog_14_method_32_code 25 = .ok (.bipush 6, 2) := by decide +kernel
theorem d_170_27 : decode prog_14_method_32_code 27 = .ok (.if_icmp .eq 9, 3) := by decide +kernel
theorem d_170_30 : decode prog_14_method_32_code 30 = .ok (.iload_n 1, 1) := by decide +kernel
theorem d_170_31 : decode prog_14_method_32_code 31 = .ok (.bipush 8, 2) := by decide +kernel
theorem d_170_33 : decode prog_14_method_32_code 33 = .ok (.if_icmp .ne 7, 3) := by decide +kernel
theorem d_170_36 : decode prog_14_method_32_code 36 = .ok (.iconst 1, 1) := by decide +kernel
theorem d_170_37 : decode prog_14_method_32_code 37 = .ok (.goto 4, 3) := by decide +kernel
theorem d_170_40 : decode prog_14_method_32_code 40 = .ok (.iconst 0, 1) := by decide +kernel
theorem d_170_41 : decode prog_14_method_32_code 41 = .ok (.ireturn, 1) := by decide +kernel
theorem s_170_41 {Γ : m_G} : m_ok Γ m_tab 170 M_170 41 (g_170_41) := ok_rz (pc := 41) d_170_41 rfl
theorem s_170_40 {Γ : m_G} : m_ok Γ m_tab 170 M_170 40 (g_170_40) := ok_ic (pc := 40) d_170_40 rfl (s_170_41)
theorem s_170_36 {Γ : m_G} : m_ok Γ m_tab 170 M_170 36 (g_170_36) := ok_ic (pc := 36) d_170_36 rfl (ok_go (pc := 37) (t := 41) d_170_37 rfl (by decide) rfl)
theorem s_170_0 {Γ : m_G} : m_ok Γ m_tab 170 M_170 0 (g_170_0) := ok_al_n (pc := 0) d_170_0 rfl (ok_cai (pc := 1) (k2 := 165) rfl rfl tb_165 (by decide) (by decide) rfl (go_V d_170_1 w_1132 w_1134 ws_52 w_11 w_1135 nn_165 (by decide) cl_12 rfl) (ok_is_n (pc := 4) d_170_4 rfl (by decide) (ok_al_n (pc := 5) d_170_5 rfl (ok_getf (pc := 6) d_170_6 w_938 (hc1 fo_90) (ok_czeq (pc := 9) (t := 36) d_170_9 rfl (by decide) rfl (ok_il_n (pc := 12) d_170_12 rfl (ok_bi (pc := 13) d_170_13 rfl (ok_cieq (pc := 15) (t := 36) d_170_15 rfl (by decide) rfl (ok_il_n (pc := 18) d_170_18 rfl (ok_bi (pc := 19) d_170_19 rfl (ok_cieq (pc := 21) (t := 36) d_170_21 rfl (by decide) rfl (ok_il_n (pc := 24) d_170_24 rfl (ok_bi (pc := 25) d_170_25 rfl (ok_cieq (pc := 27) (t := 36) d_170_27 rfl (by decide) rfl (ok_il_n (pc := 30) d_170_30 rfl (ok_bi (pc := 31) d_170_31 rfl (ok_cine (pc := 33) (t := 40) d_170_33 rfl (by decide) rfl (s_170_36))))))))))))))))))
theorem tst_170 {Γ : m_G} (q : Nat) : m_ts Γ (t_170 q) q := ts_n (ts_n (ts_l (k := 170) (pc := 0) tb_170 rfl (by decide) s_170_0) (ts_l (k := 170) (pc := 36) tb_170 rfl (by decide) s_170_36)) (ts_n (ts_l (k := 170) (pc := 40) tb_170 rfl (by decide) s_170_40) (ts_l (k := 170) (pc := 41) tb_170 rfl (by decide) s_170_41))
theorem d_171_0 : decode prog_14_method_33_code 0 = .ok (.aload_n 0, 1) := by decide +kernel
theorem d_171_1 : decode prog_14_method_33_code 1 = .ok (.getfield 160, 3) := by decide +kernel
theorem d_171_4 : decode prog_14_method_33_code 4 = .ok (.bipush 100, 2) := by decide +kernel
theorem d_171_6 : decode prog_14_method_33_code 6 = .ok (.if_icmp .eq 21, 3) := by decide +kernel
theorem d_171_9 : decode prog_14_method_33_code 9 = .ok (.aload_n 0, 1) := by decide +kernel
theorem d_171_10 : decode prog_14_method_33_code 10 = .ok (.getfield 160, 3) := by decide +kernel
theorem d_171_13 : decode prog_14_method_33_code 13 = .ok (.bipush 101, 2) := by decide +kernel
theorem d_171_15 : decode prog_14_method_33_code 15 = .ok (.if_icmp .ne 42, 3) := by decide +kernel
theorem d_171_18 : decode prog_14_method_33_code 18 = .ok (.aload_n 0, 1) := by decide +kernel
theorem d_171_19 : decode prog_14_method_33_code 19 = .ok (.getfield 163, 3) := by decide +kernel
theorem d_171_22 : decode prog_14_method_33_code 22 = .ok (.bipush 6, 2) := by decide +kernel
theorem d_171_24 : decode prog_14_method_33_code 24 = .ok (.if_icmp .ge 33, 3) := by decide +kernel
theorem d_171_27 : decode prog_14_method_33_code 27 = .ok (.aload_n 0, 1) := by decide +kernel
theorem d_171_28 : decode prog_14_method_33_code 28 = .ok (.aload_n 0, 1) := by decide +kernel
theorem d_171_29 : decode prog_14_method_33_code 29 = .ok (.getfield 160, 3) := by decide +kernel
theorem d_171_32 : decode prog_14_method_33_code 32 = .ok (.bipush 100, 2) := by decide +kernel
theorem d_171_34 : decode prog_14_method_33_code 34 = .ok (.if_icmp .ne 10, 3) := by decide +kernel
theorem d_171_37 : decode prog_14_method_33_code 37 = .ok (.aload_n 0, 1) := by decide +kernel
theorem d_171_38 : decode prog_14_method_33_code 38 = .ok (.getfield 163, 3) := by decide +kernel
theorem d_171_41 : decode prog_14_method_33_code 41 = .ok (.goto 11, 3) := by decide +kernel
theorem d_171_44 : decode prog_14_method_33_code 44 = .ok (.sipush 20000, 3) := by decide +kernel
theorem d_171_47 : decode prog_14_method_33_code 47 = .ok (.aload_n 0, 1) := by decide +kernel
theorem d_171_48 : decode prog_14_method_33_code 48 = .ok (.getfield 163, 3) := by decide +kernel
theorem d_171_51 : decode prog_14_method_33_code 51 = .ok (.iadd, 1) := by decide +kernel
theorem d_171_52 : decode prog_14_method_33_code 52 = .ok (.invokevirtual 144, 3) := by decide +kernel
theorem d_171_55 : decode prog_14_method_33_code 55 = .ok (.iconst 1, 1) := by decide +kernel
theorem d_171_56 : decode prog_14_method_33_code 56 = .ok (.ireturn, 1) := by decide +kernel
theorem d_171_57 : decode prog_14_method_33_code 57 = .ok (.aload_n 0, 1) := by decide +kernel
theorem d_171_58 : decode prog_14_method_33_code 58 = .ok (.getfield 160, 3) := by decide +kernel
theorem d_171_61 : decode prog_14_method_33_code 61 = .ok (.bipush 101, 2) := by decide +kernel
theorem d_171_63 : decode prog_14_method_33_code 63 = .ok (.if_icmp .ne 24, 3) := by decide +kernel
theorem d_171_66 : decode prog_14_method_33_code 66 = .ok (.aload_n 0, 1) := by decide +kernel
theorem d_171_67 : decode prog_14_method_33_code 67 = .ok (.getfield 163, 3) := by decide +kernel
theorem d_171_70 : decode prog_14_method_33_code 70 = .ok (.bipush 11, 2) := by decide +kernel
theorem d_171_72 : decode prog_14_method_33_code 72 = .ok (.if_icmp .ne 15, 3) := by decide +kernel
theorem d_171_75 : decode prog_14_method_33_code 75 = .ok (.aload_n 0, 1) := by decide +kernel
theorem d_171_76 : decode prog_14_method_33_code 76 = .ok (.invokevirtual 190, 3) := by decide +kernel
theorem d_171_79 : decode prog_14_method_33_code 79 = .ok (.ifCond .eq 8, 3) := by decide +kernel
theorem d_171_82 : decode prog_14_method_33_code 82 = .ok (.bipush 8, 2) := by decide +kernel
theorem d_171_84 : decode prog_14_method_33_code 84 = .ok (.goto 50, 3) := by decide +kernel
theorem d_171_87 : decode prog_14_method_33_code 87 = .ok (.aload_n 0, 1) := by decide +kernel
theorem d_171_88 : decode prog_14_method_33_code 88 = .ok (.getfield 160, 3) := by decide +kernel
theorem d_171_91 : decode prog_14_method_33_code 91 = .ok (.bipush 102, 2) := by decide +kernel
theorem d_171_93 : decode prog_14_method_33_code 93 = .ok (.if_icmp .ne 17, 3) := by decide +kernel
theorem d_171_96 : decode prog_14_method_33_code 96 = .ok (.aload_n 0, 1) := by decide +kernel
theorem d_171_97 : decode prog_14_method_33_code 97 = .ok (.getfield 163, 3) := by decide +kernel
theorem d_171_100 : decode prog_14_method_33_code 100 = .ok (.bipush 45, 2) := by decide +kernel
theorem d_171_102 : decode prog_14_method_33_code 102 = .ok (.if_icmp .ne 8, 3) := by decide +kernel
theorem d_171_105 : decode prog_14_method_33_code 105 = .ok (.bipush 9, 2) := by decide +kernel
theorem d_171_107 : decode prog_14_method_33_code 107 = .ok (.goto 27, 3) := by decide +kernel
theorem d_171_110 : decode prog_14_method_33_code 110 = .ok (.aload_n 0, 1) := by decide +kernel
theorem d_171_111 : decode prog_14_method_33_code 111 = .ok (.getfield 160, 3) := by decide +kernel
theorem d_171_114 : decode prog_14_method_33_code 114 = .ok (.bipush 102, 2) := by decide +kernel
theorem d_171_116 : decode prog_14_method_33_code 116 = .ok (.if_icmp .ne 17, 3) := by decide +kernel
theorem d_171_119 : decode prog_14_method_33_code 119 = .ok (.aload_n 0, 1) := by decide +kernel
theorem d_171_120 : decode prog_14_method_33_code 120 = .ok (.getfield 163, 3) := by decide +kernel
theorem d_171_123 : decode prog_14_method_33_code 123 = .ok (.bipush 40, 2) := by decide +kernel
theorem d_171_125 : decode prog_14_method_33_code 125 = .ok (.if_icmp .ne 8, 3) := by decide +kernel
theorem d_171_128 : decode prog_14_method_33_code 128 = .ok (.bipush 10, 2) := by decide +kernel
theorem d_171_130 : decode prog_14_method_33_code 130 = .ok (.goto 4, 3) := by decide +kernel
theorem d_171_133 : decode prog_14_method_33_code 133 = .ok (.iconst 0, 1) := by decide +kernel
theorem d_171_134 : decode prog_14_method_33_code 134 = .ok (.istore_n 1, 1) := by decide +kernel
theorem d_171_135 : decode prog_14_method_33_code 135 = .ok (.iload_n 1, 1) := by decide +kernel
theorem d_171_136 : decode prog_14_method_33_code 136 = .ok (.ifCond .eq 11, 3) := by decide +kernel
theorem d_171_139 : decode prog_14_method_33_code 139 = .ok (.aload_n 0, 1) := by decide +kernel
theorem d_171_140 : decode prog_14_method_33_code 140 = .ok (.getfield 176, 3) := by decide +kernel
theorem d_171_143 : decode prog_14_method_33_code 143 = .ok (.iconst 5, 1) := by decide +kernel
theorem d_171_144 : decode prog_14_method_33_code 144 = .ok (.if_icmp .ne 5, 3) := by decide +kernel
theorem d_171_147 : decode prog_14_method_33_code 147 = .ok (.iconst (-1), 1) := by decide +kernel
theorem d_171_148 : decode prog_14_method_33_code 148 = .ok (.ireturn, 1) := by decide +kernel
theorem d_171_149 : decode prog_14_method_33_code 149 = .ok (.aload_n 0, 1) := by decide +kernel
theorem d_171_150 : decode prog_14_method_33_code 150 = .ok (.dup, 1) := by decide +kernel
theorem d_171_151 : decode prog_14_method_33_code 151 = .ok (.getfield 176, 3) := by decide +kernel
theorem d_171_154 : decode prog_14_method_33_code 154 = .ok (.iconst 1, 1) := by decide +kernel
theorem d_171_155 : decode prog_14_method_33_code 155 = .ok (.iadd, 1) := by decide +kernel
theorem d_171_156 : decode prog_14_method_33_code 156 = .ok (.putfield 176, 3) := by decide +kernel
theorem d_171_159 : decode prog_14_method_33_code 159 = .ok (.aload_n 0, 1) := by decide +kernel
theorem d_171_160 : decode prog_14_method_33_code 160 = .ok (.iload_n 1, 1) := by decide +kernel
theorem d_171_161 : decode prog_14_method_33_code 161 = .ok (.invokevirtual 194, 3) := by decide +kernel
theorem d_171_164 : decode prog_14_method_33_code 164 = .ok (.iconst 0, 1) := by decide +kernel
theorem d_171_165 : decode prog_14_method_33_code 165 = .ok (.ireturn, 1) := by decide +kernel
theorem s_171_149 {Γ : m_G} : m_ok Γ m_tab 171 M_171 149 (g_171_149) := ok_al_n (pc := 149) d_171_149 rfl (ok_dup (pc := 150) d_171_150 (ok_getf (pc := 151) d_171_151 w_937 (hc1 fo_92) (ok_ic (pc := 154) d_171_154 rfl (ok_add (pc := 155) d_171_155 (ok_putf (pc := 156) d_171_156 w_937 (hc1 ⟨_, _, _, tyX12, cl_12, in_12, by decide, rfl, rfl, rfl, tyX12_ok, nmX12, Or.inl rfl⟩) pd_0 vt_I (ok_al_n (pc := 159) d_171_159 rfl (ok_il_n (pc := 160) d_171_160 rfl (ok_cvi (pc := 161) (k2 := 166) rfl rfl tb_166 (by decide) (by decide) rfl (go_V d_171_161 w_1136 w_1138 ws_53 w_11 w_1139 nn_166 (by decide) cl_12 rfl) (ok_ic (pc := 164) d_171_164 rfl (ok_ri (pc := 165) d_171_165 rfl))))))))))
theorem s_171_147 {Γ : m_G} : m_ok Γ m_tab 171 M_171 147 (g_171_147) := ok_ic (pc := 147) d_171_147 rfl (ok_ri (pc := 148) d_171_148 rfl)
theorem s_171_134 {Γ : m_G} : m_ok Γ m_tab 171 M_171 134 (g_171_134) := ok_is_n (pc := 134) d_171_134 rfl (by decide) (ok_il_n (pc := 135) d_171_135 rfl (ok_czeq (pc := 136) (t := 147) d_171_136 rfl (by decide) rfl (ok_al_n (pc := 139) d_171_139 rfl (ok_getf (pc := 140) d_171_140 w_937 (hc1 fo_92) (ok_ic (pc := 143) d_171_143 rfl (ok_cine (pc := 144) (t := 149) d_171_144 rfl (by decide) rfl (s_171_147)))))))
theorem s_171_133 {Γ : m_G} : m_ok Γ m_tab 171 M_171 133 (g_171_133) := ok_ic (pc := 133) d_171_133 rfl (s_171_134)
theorem s_171_110 {Γ : m_G} : m_ok Γ m_tab 171 M_171 110 (g_171_110) := ok_al_n (pc := 110) d_171_110 rfl (ok_getf (pc := 111) d_171_111 w_934 (hc1 fo_93) (ok_bi (pc := 114) d_171_114 rfl (ok_cine (pc := 116) (t := 133) d_171_116 rfl (by decide) rfl (ok_al_n (pc := 119) d_171_119 rfl (ok_getf (pc := 120) d_171_120 w_936 (hc1 fo_89) (ok_bi (pc := 123) d_171_123 rfl (ok_cine (pc := 125) (t := 133) d_171_125 rfl (by decide) rfl (ok_bi (pc := 128) d_171_128 rfl (ok_go (pc := 130) (t := 134) d_171_130 rfl (by decide) rfl)))))))))
theorem s_171_87 {Γ : m_G} : m_ok Γ m_tab 171 M_171 87 (g_171_87) := ok_al_n (pc := 87) d_171_87 rfl (ok_getf (pc := 88) d_171_88 w_934 (hc1 fo_93) (ok_bi (pc := 91) d_171_91 rfl (ok_cine (pc := 93) (t := 110) d_171_93 rfl (by decide) rfl (ok_al_n (pc := 96) d_171_96 rfl (ok_getf (pc := 97) d_171_97 w_936 (hc1 fo_89) (ok_bi (pc := 100) d_171_100 rfl (ok_cine (pc := 102) (t := 110) d_171_102 rfl (by decide) rfl (ok_bi (pc := 105) d_171_105 rfl (ok_go (pc := 107) (t := 134) d_171_107 rfl (by decide) rfl)))))))))
theorem s_171_57 {Γ : m_G} : m_ok Γ m_tab 171 M_171 57 (g_171_57) := ok_al_n (pc := 57) d_171_57 rfl (ok_getf (pc := 58) d_171_58 w_934 (hc1 fo_93) (ok_bi (pc := 61) d_171_61 rfl (ok_cine (pc := 63) (t := 87) d_171_63 rfl (by decide) rfl (ok_al_n (pc := 66) d_171_66 rfl (ok_getf (pc := 67) d_171_67 w_936 (hc1 fo_89) (ok_bi (pc := 70) d_171_70 rfl (ok_cine (pc := 72) (t := 87) d_171_72 rfl (by decide) rfl (ok_al_n (pc := 75) d_171_75 rfl (ok_cai (pc := 76) (k2 := 170) rfl rfl tb_170 (by decide) (by decide) rfl (go_V d_171_76 w_1128 w_1130 ws_51 w_11 w_1131 nn_170 (by decide) cl_12 rfl) (ok_czeq (pc := 79) (t := 87) d_171_79 rfl (by decide) rfl (ok_bi (pc := 82) d_171_82 rfl (ok_go (pc := 84) (t := 134) d_171_84 rfl (by decide) rfl))))))))))))
theorem s_171_52 {Γ : m_G} : m_ok Γ m_tab 171 M_171 52 (g_171_52) := ok_cvi (pc := 52) (k2 := 158) rfl rfl tb_158 (by decide) (by decide) rfl (go_V d_171_52 w_909 w_911 ws_40 w_11 w_912 nn_158 (by decide) cl_12 rfl) (ok_ic (pc := 55) d_171_55 rfl (ok_ri (pc := 56) d_171_56 rfl))
theorem s_171_44 {Γ : m_G} : m_ok Γ m_tab 171 M_171 44 (g_171_44) := ok_si (pc := 44) d_171_44 rfl (ok_al_n (pc := 47) d_171_47 rfl (ok_getf (pc := 48) d_171_48 w_936 (hc1 fo_89) (ok_add (pc := 51) d_171_51 (s_171_52))))
theorem s_171_27 {Γ : m_G} : m_ok Γ m_tab 171 M_171 27 (g_171_27) := ok_al_n (pc := 27) d_171_27 rfl (ok_al_n (pc := 28) d_171_28 rfl (ok_getf (pc := 29) d_171_29 w_934 (hc1 fo_93) (ok_bi (pc := 32) d_171_32 rfl (ok_cine (pc := 34) (t := 44) d_171_34 rfl (by decide) rfl (ok_al_n (pc := 37) d_171_37 rfl (ok_getf (pc := 38) d_171_38 w_936 (hc1 fo_89) (ok_go (pc := 41) (t := 52) d_171_41 rfl (by decide) rfl)))))))
theorem s_171_0 {Γ : m_G} : m_ok Γ m_tab 171 M_171 0 (g_171_0) := ok_al_n (pc := 0) d_171_0 rfl (ok_getf (pc := 1) d_171_1 w_934 (hc1 fo_93) (ok_bi (pc := 4) d_171_4 rfl (ok_cieq (pc := 6) (t := 27) d_171_6 rfl (by decide) rfl (ok_al_n (pc := 9) d_171_9 rfl (ok_getf (pc := 10) d_171_10 w_934 (hc1 fo_93) (ok_bi (pc := 13) d_171_13 rfl (ok_cine (pc := 15) (t := 57) d_171_15 rfl (by decide) rfl (ok_al_n (pc := 18) d_171_18 rfl (ok_getf (pc := 19) d_171_19 w_936 (hc1 fo_89) (ok_bi (pc := 22) d_171_22 rfl (ok_cige (pc := 24) (t := 57) d_171_24 rfl (by decide) rfl (s_171_27))))))))))))
theorem tst_171 {Γ : m_G} (q : Nat) : m_ts Γ (t_171 q) q := ts_n (ts_n (ts_n (ts_l (k := 171) (pc := 0) tb_171 rfl (by decide) s_171_0) (ts_l (k := 171) (pc := 27) tb_171 rfl (by decide) s_171_27)) (ts_n (ts_l (k := 171) (pc := 44) tb_171 rfl (by decide) s_171_44) (ts_n (ts_l (k := 171) (pc := 52) tb_171 rfl (by decide) s_171_52) (ts_l (k := 171) (pc := 57) tb_171 rfl (by decide) s_171_57)))) (ts_n (ts_n (ts_l (k := 171) (pc := 87) tb_171 rfl (by decide) s_171_87) (ts_n (ts_l (k := 171) (pc := 110) tb_171 rfl (by decide) s_171_110) (ts_l (k := 171) (pc := 133) tb_171 rfl (by decide) s_171_133))) (ts_n (ts_l (k := 171) (pc := 134) tb_171 rfl (by decide) s_171_134) (ts_n (ts_l (k := 171) (pc := 147) tb_171 rfl (by decide) s_171_147) (ts_l (k := 171) (pc := 149) tb_171 rfl (by decide) s_171_149))))
theorem d_172_0 : decode prog_14_method_34_code 0 = .ok (.iload_n 0, 1) := by decide +kernel
theorem d_172_1 : decode prog_14_method_34_code 1 = .ok (.bipush 43, 2) := by decide +kernel
theorem d_172_3 : decode prog_14_method_34_code 3 = .ok (.if_icmp .ne 7, 3) := by decide +kernel
theorem d_172_6 : decode prog_14_method_34_code 6 = .ok (.iconst 1, 1) := by decide +kernel
theorem d_172_7 : decode prog_14_method_34_code 7 = .ok (.goto 44, 3) := by decide +kernel
theorem d_172_10 : decode prog_14_method_34_code 10 = .ok (.iload_n 0, 1) := by decide +kernel
theorem d_172_11 : decode prog_14_method_34_code 11 = .ok (.bipush 45, 2) := by decide +kernel
theorem d_172_13 : decode prog_14_method_34_code 13 = .ok (.if_icmp .ne 7, 3) := by decide +kernel
theorem d_172_16 : decode prog_14_method_34_code 16 = .ok (.iconst 2, 1) := by decide +kernel
theorem d_172_17 : decode prog_14_method_34_code 17 = .ok (.goto 34, 3) := by decide +kernel
theorem d_172_20 : decode prog_14_method_34_code 20 = .ok (.iload_n 0, 1) := by decide +kernel
theorem d_172_21 : decode prog_14_method_34_code 21 = .ok (.bipush 42, 2) := by decide +kernel
theorem d_172_23 : decode prog_14_method_34_code 23 = .ok (.if_icmp .ne 7, 3) := by decide +kernel
theorem d_172_26 : decode prog_14_method_34_code 26 = .ok (.iconst 3, 1) := by decide +kernel
theorem d_172_27 : decode prog_14_method_34_code 27 = .ok (.goto 24, 3) := by decide +kernel
theorem d_172_30 : decode prog_14_method_34_code 30 = .ok (.iload_n 0, 1) := by decide +kernel
theorem d_172_31 : decode prog_14_method_34_code 31 = .ok (.bipush 60, 2) := by decide +kernel
theorem d_172_33 : decode prog_14_method_34_code 33 = .ok (.if_icmp .ne 7, 3) := by decide +kernel
theorem d_172_36 : decode prog_14_method_34_code 36 = .ok (.iconst 4, 1) := by decide +kernel
theorem d_172_37 : decode prog_14_method_34_code 37 = .ok (.goto 14, 3) := by decide +kernel
theorem d_172_40 : decode prog_14_method_34_code 40 = .ok (.iload_n 0, 1) := by decide +kernel
theorem d_172_41 : decode prog_14_method_34_code 41 = .ok (.bipush 61, 2) := by decide +kernel
theorem d_172_43 : decode prog_14_method_34_code 43 = .ok (.if_icmp .ne 7, 3) := by decide +kernel
theorem d_172_46 : decode prog_14_method_34_code 46 = .ok (.iconst 5, 1) := by decide +kernel
theorem d_172_47 : decode prog_14_method_34_code 47 = .ok (.goto 4, 3) := by decide +kernel
theorem d_172_50 : decode prog_14_method_34_code 50 = .ok (.iconst 0, 1) := by decide +kernel
theorem d_172_51 : decode prog_14_method_34_code 51 = .ok (.ireturn, 1) := by decide +kernel
theorem s_172_51 {Γ : m_G} : m_ok Γ m_tab 172 M_172 51 (g_172_51) := ok_ri (pc := 51) d_172_51 rfl
theorem s_172_50 {Γ : m_G} : m_ok Γ m_tab 172 M_172 50 (g_172_50) := ok_ic (pc := 50) d_172_50 rfl (s_172_51)
theorem s_172_40 {Γ : m_G} : m_ok Γ m_tab 172 M_172 40 (g_172_40) := ok_il_n (pc := 40) d_172_40 rfl (ok_bi (pc := 41) d_172_41 rfl (ok_cine (pc := 43) (t := 50) d_172_43 rfl (by decide) rfl (ok_ic (pc := 46) d_172_46 rfl (ok_go (pc := 47) (t := 51) d_172_47 rfl (by decide) rfl))))
theorem s_172_30 {Γ : m_G} : m_ok Γ m_tab 172 M_172 30 (g_172_30) := ok_il_n (pc := 30) d_172_30 rfl (ok_bi (pc := 31) d_172_31 rfl (ok_cine (pc := 33) (t := 40) d_172_33 rfl (by decide) rfl (ok_ic (pc := 36) d_172_36 rfl (ok_go (pc := 37) (t := 51) d_172_37 rfl (by decide) rfl))))
theorem s_172_20 {Γ : m_G} : m_ok Γ m_tab 172 M_172 20 (g_172_20) := ok_il_n (pc := 20) d_172_20 rfl (ok_bi (pc := 21) d_172_21 rfl (ok_cine (pc := 23) (t := 30) d_172_23 rfl (by decide) rfl (ok_ic (pc := 26) d_172_26 rfl (ok_go (pc := 27) (t := 51) d_172_27 rfl (by decide) rfl))))
theorem s_172_10 {Γ : m_G} : m_ok Γ m_tab 172 M_172 10 (g_172_10) := ok_il_n (pc := 10) d_172_10 rfl (ok_bi (pc := 11) d_172_11 rfl (ok_cine (pc := 13) (t := 20) d_172_13 rfl (by decide) rfl (ok_ic (pc := 16) d_172_16 rfl (ok_go (pc := 17) (t := 51) d_172_17 rfl (by decide) rfl))))
theorem s_172_0 {Γ : m_G} : m_ok Γ m_tab 172 M_172 0 (g_172_0) := ok_il_n (pc := 0) d_172_0 rfl (ok_bi (pc := 1) d_172_1 rfl (ok_cine (pc := 3) (t := 10) d_172_3 rfl (by decide) rfl (ok_ic (pc := 6) d_172_6 rfl (ok_go (pc := 7) (t := 51) d_172_7 rfl (by decide) rfl))))
theorem tst_172 {Γ : m_G} (q : Nat) : m_ts Γ (t_172 q) q := ts_n (ts_n (ts_l (k := 172) (pc := 0) tb_172 rfl (by decide) s_172_0) (ts_n (ts_l (k := 172) (pc := 10) tb_172 rfl (by decide) s_172_10) (ts_l (k := 172) (pc := 20) tb_172 rfl (by decide) s_172_20))) (ts_n (ts_n (ts_l (k := 172) (pc := 30) tb_172 rfl (by decide) s_172_30) (ts_l (k := 172) (pc := 40) tb_172 rfl (by decide) s_172_40)) (ts_n (ts_l (k := 172) (pc := 50) tb_172 rfl (by decide) s_172_50) (ts_l (k := 172) (pc := 51) tb_172 rfl (by decide) s_172_51)))
