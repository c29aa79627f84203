-- X12_readChannel
theorem fl_X12_419 : Cond.fieldLink RX12 419 "PartitionWorksModel" "outputs" "I" ∈ q_G := q_tb (i := 1753) (by decide +kernel) (by decide +kernel)
theorem ml_X12_412 : Cond.methodLink RX12 412 yX12_end ∈ q_G := q_tb (i := 2208) (by decide +kernel) (by decide +kernel)
theorem mt_X12_end : q_Mt yX12_end cX12_end 7 (some .int) 3 := ⟨q_tb (i := 2211) (by decide +kernel) (by decide +kernel), q_tb (i := 11) (by decide +kernel) (by decide +kernel), by decide +kernel, by decide +kernel, by decide +kernel⟩
theorem mi_X12_end : Cond.instanceMethod yX12_end ∈ q_G ∧ Cond.selects yX12_end.cls yX12_end yX12_end ∈ q_G := ⟨q_tb (i := 2210) (by decide +kernel) (by decide +kernel), q_tp (i := 113) (q := (yX12_end, 114)) (by decide +kernel) (by decide +kernel)⟩
theorem fl_X12_416 : Cond.fieldLink RX12 416 "PartitionWorksModel" "inputs" "I" ∈ q_G := q_tb (i := 1752) (by decide +kernel) (by decide +kernel)
theorem fl_X12_409 : Cond.fieldLink RX12 409 "PartitionWorksModel" "channels" "I" ∈ q_G := q_tb (i := 1750) (by decide +kernel) (by decide +kernel)
theorem dX12_readChannel_0 : decode cX12_readChannel 0 = .ok (.aload_n 0, 1) := by decide +kernel
theorem dX12_readChannel_1 : decode cX12_readChannel 1 = .ok (.getfield 409, 3) := by decide +kernel
theorem dX12_readChannel_4 : decode cX12_readChannel 4 = .ok (.bipush 24, 2) := by decide +kernel
theorem dX12_readChannel_6 : decode cX12_readChannel 6 = .ok (.if_icmp .ne 14, 3) := by decide +kernel
theorem dX12_readChannel_9 : decode cX12_readChannel 9 = .ok (.aload_n 0, 1) := by decide +kernel
theorem dX12_readChannel_10 : decode cX12_readChannel 10 = .ok (.iconst 4, 1) := by decide +kernel
theorem dX12_readChannel_11 : decode cX12_readChannel 11 = .ok (.aload_n 0, 1) := by decide +kernel
theorem dX12_readChannel_12 : decode cX12_readChannel 12 = .ok (.getfield 287, 3) := by decide +kernel
theorem dX12_readChannel_15 : decode cX12_readChannel 15 = .ok (.invokevirtual 331, 3) := by decide +kernel
theorem dX12_readChannel_18 : decode cX12_readChannel 18 = .ok (.pop, 1) := by decide +kernel
theorem dX12_readChannel_19 : decode cX12_readChannel 19 = .ok (.return_, 1) := by decide +kernel
theorem dX12_readChannel_20 : decode cX12_readChannel 20 = .ok (.aload_n 0, 1) := by decide +kernel
theorem dX12_readChannel_21 : decode cX12_readChannel 21 = .ok (.invokevirtual 341, 3) := by decide +kernel
theorem dX12_readChannel_24 : decode cX12_readChannel 24 = .ok (.aload_n 0, 1) := by decide +kernel
theorem dX12_readChannel_25 : decode cX12_readChannel 25 = .ok (.getfield 409, 3) := by decide +kernel
theorem dX12_readChannel_28 : decode cX12_readChannel 28 = .ok (.istore_n 1, 1) := by decide +kernel
theorem dX12_readChannel_29 : decode cX12_readChannel 29 = .ok (.aload_n 0, 1) := by decide +kernel
theorem dX12_readChannel_30 : decode cX12_readChannel 30 = .ok (.dup, 1) := by decide +kernel
theorem dX12_readChannel_31 : decode cX12_readChannel 31 = .ok (.getfield 409, 3) := by decide +kernel
theorem dX12_readChannel_34 : decode cX12_readChannel 34 = .ok (.iconst 1, 1) := by decide +kernel
theorem dX12_readChannel_35 : decode cX12_readChannel 35 = .ok (.iadd, 1) := by decide +kernel
theorem dX12_readChannel_36 : decode cX12_readChannel 36 = .ok (.putfield 409, 3) := by decide +kernel
theorem dX12_readChannel_39 : decode cX12_readChannel 39 = .ok (.aload_n 0, 1) := by decide +kernel
theorem dX12_readChannel_40 : decode cX12_readChannel 40 = .ok (.getfield 115, 3) := by decide +kernel
theorem dX12_readChannel_43 : decode cX12_readChannel 43 = .ok (.iload_n 1, 1) := by decide +kernel
theorem dX12_readChannel_44 : decode cX12_readChannel 44 = .ok (.aload_n 0, 1) := by decide +kernel
theorem dX12_readChannel_45 : decode cX12_readChannel 45 = .ok (.bipush 25, 2) := by decide +kernel
theorem dX12_readChannel_47 : decode cX12_readChannel 47 = .ok (.bipush 26, 2) := by decide +kernel
theorem dX12_readChannel_49 : decode cX12_readChannel 49 = .ok (.invokevirtual 395, 3) := by decide +kernel
theorem dX12_readChannel_52 : decode cX12_readChannel 52 = .ok (.bastore, 1) := by decide +kernel
theorem dX12_readChannel_53 : decode cX12_readChannel 53 = .ok (.aload_n 0, 1) := by decide +kernel
theorem dX12_readChannel_54 : decode cX12_readChannel 54 = .ok (.getfield 118, 3) := by decide +kernel
theorem dX12_readChannel_57 : decode cX12_readChannel 57 = .ok (.iload_n 1, 1) := by decide +kernel
theorem dX12_readChannel_58 : decode cX12_readChannel 58 = .ok (.aload_n 0, 1) := by decide +kernel
theorem dX12_readChannel_59 : decode cX12_readChannel 59 = .ok (.getfield 115, 3) := by decide +kernel
theorem dX12_readChannel_62 : decode cX12_readChannel 62 = .ok (.iload_n 1, 1) := by decide +kernel
theorem dX12_readChannel_63 : decode cX12_readChannel 63 = .ok (.baload, 1) := by decide +kernel
theorem dX12_readChannel_64 : decode cX12_readChannel 64 = .ok (.ifCond .eq 14, 3) := by decide +kernel
theorem dX12_readChannel_67 : decode cX12_readChannel 67 = .ok (.aload_n 0, 1) := by decide +kernel
theorem dX12_readChannel_68 : decode cX12_readChannel 68 = .ok (.iconst 1, 1) := by decide +kernel
theorem dX12_readChannel_69 : decode cX12_readChannel 69 = .ok (.bipush 32, 2) := by decide +kernel
theorem dX12_readChannel_71 : decode cX12_readChannel 71 = .ok (.iconst 1, 1) := by decide +kernel
theorem dX12_readChannel_72 : decode cX12_readChannel 72 = .ok (.invokevirtual 371, 3) := by decide +kernel
theorem dX12_readChannel_75 : decode cX12_readChannel 75 = .ok (.goto 12, 3) := by decide +kernel
theorem dX12_readChannel_78 : decode cX12_readChannel 78 = .ok (.aload_n 0, 1) := by decide +kernel
theorem dX12_readChannel_79 : decode cX12_readChannel 79 = .ok (.iconst 0, 1) := by decide +kernel
theorem dX12_readChannel_80 : decode cX12_readChannel 80 = .ok (.ldc_w 401, 3) := by decide +kernel
theorem dX12_readChannel_83 : decode cX12_readChannel 83 = .ok (.iconst 1, 1) := by decide +kernel
theorem dX12_readChannel_84 : decode cX12_readChannel 84 = .ok (.invokevirtual 371, 3) := by decide +kernel
theorem dX12_readChannel_87 : decode cX12_readChannel 87 = .ok (.iastore, 1) := by decide +kernel
theorem dX12_readChannel_88 : decode cX12_readChannel 88 = .ok (.aload_n 0, 1) := by decide +kernel
theorem dX12_readChannel_89 : decode cX12_readChannel 89 = .ok (.getfield 121, 3) := by decide +kernel
theorem dX12_readChannel_92 : decode cX12_readChannel 92 = .ok (.iload_n 1, 1) := by decide +kernel
theorem dX12_readChannel_93 : decode cX12_readChannel 93 = .ok (.aload_n 0, 1) := by decide +kernel
theorem dX12_readChannel_94 : decode cX12_readChannel 94 = .ok (.getfield 115, 3) := by decide +kernel
theorem dX12_readChannel_97 : decode cX12_readChannel 97 = .ok (.iload_n 1, 1) := by decide +kernel
theorem dX12_readChannel_98 : decode cX12_readChannel 98 = .ok (.baload, 1) := by decide +kernel
theorem dX12_readChannel_99 : decode cX12_readChannel 99 = .ok (.ifCond .eq 14, 3) := by decide +kernel
theorem dX12_readChannel_102 : decode cX12_readChannel 102 = .ok (.aload_n 0, 1) := by decide +kernel
theorem dX12_readChannel_103 : decode cX12_readChannel 103 = .ok (.invokevirtual 391, 3) := by decide +kernel
theorem dX12_readChannel_106 : decode cX12_readChannel 106 = .ok (.ifCond .eq 7, 3) := by decide +kernel
theorem dX12_readChannel_109 : decode cX12_readChannel 109 = .ok (.iconst 1, 1) := by decide +kernel
theorem dX12_readChannel_110 : decode cX12_readChannel 110 = .ok (.goto 4, 3) := by decide +kernel
theorem dX12_readChannel_113 : decode cX12_readChannel 113 = .ok (.iconst 0, 1) := by decide +kernel
theorem dX12_readChannel_114 : decode cX12_readChannel 114 = .ok (.bastore, 1) := by decide +kernel
theorem dX12_readChannel_115 : decode cX12_readChannel 115 = .ok (.aload_n 0, 1) := by decide +kernel
theorem dX12_readChannel_116 : decode cX12_readChannel 116 = .ok (.getfield 127, 3) := by decide +kernel
theorem dX12_readChannel_119 : decode cX12_readChannel 119 = .ok (.iload_n 1, 1) := by decide +kernel
theorem dX12_readChannel_120 : decode cX12_readChannel 120 = .ok (.iconst 0, 1) := by decide +kernel
theorem dX12_readChannel_121 : decode cX12_readChannel 121 = .ok (.iastore, 1) := by decide +kernel
theorem dX12_readChannel_122 : decode cX12_readChannel 122 = .ok (.aload_n 0, 1) := by decide +kernel
theorem dX12_readChannel_123 : decode cX12_readChannel 123 = .ok (.bipush 123, 2) := by decide +kernel
theorem dX12_readChannel_125 : decode cX12_readChannel 125 = .ok (.invokevirtual 365, 3) := by decide +kernel
theorem dX12_readChannel_128 : decode cX12_readChannel 128 = .ok (.pop, 1) := by decide +kernel
theorem dX12_readChannel_129 : decode cX12_readChannel 129 = .ok (.aload_n 0, 1) := by decide +kernel
theorem dX12_readChannel_130 : decode cX12_readChannel 130 = .ok (.getfield 124, 3) := by decide +kernel
theorem dX12_readChannel_133 : decode cX12_readChannel 133 = .ok (.iload_n 1, 1) := by decide +kernel
theorem dX12_readChannel_134 : decode cX12_readChannel 134 = .ok (.aload_n 0, 1) := by decide +kernel
theorem dX12_readChannel_135 : decode cX12_readChannel 135 = .ok (.iload_n 1, 1) := by decide +kernel
theorem dX12_readChannel_136 : decode cX12_readChannel 136 = .ok (.bipush 27, 2) := by decide +kernel
theorem dX12_readChannel_138 : decode cX12_readChannel 138 = .ok (.iconst 1, 1) := by decide +kernel
theorem dX12_readChannel_139 : decode cX12_readChannel 139 = .ok (.invokevirtual 412, 3) := by decide +kernel
theorem dX12_readChannel_142 : decode cX12_readChannel 142 = .ok (.iastore, 1) := by decide +kernel
theorem dX12_readChannel_143 : decode cX12_readChannel 143 = .ok (.aload_n 0, 1) := by decide +kernel
theorem dX12_readChannel_144 : decode cX12_readChannel 144 = .ok (.getfield 328, 3) := by decide +kernel
theorem dX12_readChannel_147 : decode cX12_readChannel 147 = .ok (.ifCond .ne 34, 3) := by decide +kernel
theorem dX12_readChannel_150 : decode cX12_readChannel 150 = .ok (.aload_n 0, 1) := by decide +kernel
theorem dX12_readChannel_151 : decode cX12_readChannel 151 = .ok (.getfield 124, 3) := by decide +kernel
theorem dX12_readChannel_154 : decode cX12_readChannel 154 = .ok (.iload_n 1, 1) := by decide +kernel
theorem dX12_readChannel_155 : decode cX12_readChannel 155 = .ok (.iaload, 1) := by decide +kernel
theorem dX12_readChannel_156 : decode cX12_readChannel 156 = .ok (.bipush (-2), 2) := by decide +kernel
theorem dX12_readChannel_158 : decode cX12_readChannel 158 = .ok (.if_icmp .ne 23, 3) := by decide +kernel
theorem dX12_readChannel_161 : decode cX12_readChannel 161 = .ok (.aload_n 0, 1) := by decide +kernel
theorem dX12_readChannel_162 : decode cX12_readChannel 162 = .ok (.getfield 133, 3) := by decide +kernel
theorem dX12_readChannel_165 : decode cX12_readChannel 165 = .ok (.aload_n 0, 1) := by decide +kernel
theorem dX12_readChannel_166 : decode cX12_readChannel 166 = .ok (.getfield 416, 3) := by decide +kernel
theorem dX12_readChannel_169 : decode cX12_readChannel 169 = .ok (.iload_n 1, 1) := by decide +kernel
theorem dX12_readChannel_170 : decode cX12_readChannel 170 = .ok (.iastore, 1) := by decide +kernel
theorem dX12_readChannel_171 : decode cX12_readChannel 171 = .ok (.aload_n 0, 1) := by decide +kernel
theorem dX12_readChannel_172 : decode cX12_readChannel 172 = .ok (.dup, 1) := by decide +kernel
theorem dX12_readChannel_173 : decode cX12_readChannel 173 = .ok (.getfield 416, 3) := by decide +kernel
theorem dX12_readChannel_176 : decode cX12_readChannel 176 = .ok (.iconst 1, 1) := by decide +kernel
theorem dX12_readChannel_177 : decode cX12_readChannel 177 = .ok (.iadd, 1) := by decide +kernel
theorem dX12_readChannel_178 : decode cX12_readChannel 178 = .ok (.putfield 416, 3) := by decide +kernel
theorem dX12_readChannel_181 : decode cX12_readChannel 181 = .ok (.aload_n 0, 1) := by decide +kernel
theorem dX12_readChannel_182 : decode cX12_readChannel 182 = .ok (.bipush 62, 2) := by decide +kernel
theorem dX12_readChannel_184 : decode cX12_readChannel 184 = .ok (.invokevirtual 365, 3) := by decide +kernel
theorem dX12_readChannel_187 : decode cX12_readChannel 187 = .ok (.pop, 1) := by decide +kernel
theorem dX12_readChannel_188 : decode cX12_readChannel 188 = .ok (.iconst 0, 1) := by decide +kernel
theorem dX12_readChannel_189 : decode cX12_readChannel 189 = .ok (.istore_n 2, 1) := by decide +kernel
theorem dX12_readChannel_190 : decode cX12_readChannel 190 = .ok (.aload_n 0, 1) := by decide +kernel
theorem dX12_readChannel_191 : decode cX12_readChannel 191 = .ok (.getfield 328, 3) := by decide +kernel
theorem dX12_readChannel_194 : decode cX12_readChannel 194 = .ok (.ifCond .ne 7, 3) := by decide +kernel
theorem dX12_readChannel_197 : decode cX12_readChannel 197 = .ok (.iconst 1, 1) := by decide +kernel
theorem dX12_readChannel_198 : decode cX12_readChannel 198 = .ok (.goto 4, 3) := by decide +kernel
theorem dX12_readChannel_201 : decode cX12_readChannel 201 = .ok (.iconst 0, 1) := by decide +kernel
theorem dX12_readChannel_202 : decode cX12_readChannel 202 = .ok (.istore_n 3, 1) := by decide +kernel
theorem dX12_readChannel_203 : decode cX12_readChannel 203 = .ok (.iload_n 3, 1) := by decide +kernel
theorem dX12_readChannel_204 : decode cX12_readChannel 204 = .ok (.ifCond .eq 126, 3) := by decide +kernel
theorem dX12_readChannel_207 : decode cX12_readChannel 207 = .ok (.aload_n 0, 1) := by decide +kernel
theorem dX12_readChannel_208 : decode cX12_readChannel 208 = .ok (.getfield 130, 3) := by decide +kernel
theorem dX12_readChannel_211 : decode cX12_readChannel 211 = .ok (.iconst 4, 1) := by decide +kernel
theorem dX12_readChannel_212 : decode cX12_readChannel 212 = .ok (.iload_n 1, 1) := by decide +kernel
theorem dX12_readChannel_213 : decode cX12_readChannel 213 = .ok (.imul, 1) := by decide +kernel
theorem dX12_readChannel_214 : decode cX12_readChannel 214 = .ok (.aload_n 0, 1) := by decide +kernel
theorem dX12_readChannel_215 : decode cX12_readChannel 215 = .ok (.getfield 127, 3) := by decide +kernel
theorem dX12_readChannel_218 : decode cX12_readChannel 218 = .ok (.iload_n 1, 1) := by decide +kernel
theorem dX12_readChannel_219 : decode cX12_readChannel 219 = .ok (.iaload, 1) := by decide +kernel
theorem dX12_readChannel_220 : decode cX12_readChannel 220 = .ok (.iadd, 1) := by decide +kernel
theorem dX12_readChannel_221 : decode cX12_readChannel 221 = .ok (.aload_n 0, 1) := by decide +kernel
theorem dX12_readChannel_222 : decode cX12_readChannel 222 = .ok (.iload_n 1, 1) := by decide +kernel
theorem dX12_readChannel_223 : decode cX12_readChannel 223 = .ok (.bipush 28, 2) := by decide +kernel
theorem dX12_readChannel_225 : decode cX12_readChannel 225 = .ok (.iconst 0, 1) := by decide +kernel
theorem dX12_readChannel_226 : decode cX12_readChannel 226 = .ok (.invokevirtual 412, 3) := by decide +kernel
theorem dX12_readChannel_229 : decode cX12_readChannel 229 = .ok (.iastore, 1) := by decide +kernel
theorem dX12_readChannel_230 : decode cX12_readChannel 230 = .ok (.aload_n 0, 1) := by decide +kernel
theorem dX12_readChannel_231 : decode cX12_readChannel 231 = .ok (.getfield 328, 3) := by decide +kernel
theorem dX12_readChannel_234 : decode cX12_readChannel 234 = .ok (.ifCond .le 4, 3) := by decide +kernel
theorem dX12_readChannel_237 : decode cX12_readChannel 237 = .ok (.return_, 1) := by decide +kernel
theorem dX12_readChannel_238 : decode cX12_readChannel 238 = .ok (.iload_n 2, 1) := by decide +kernel
theorem dX12_readChannel_239 : decode cX12_readChannel 239 = .ok (.ifCond .ne 23, 3) := by decide +kernel
theorem dX12_readChannel_242 : decode cX12_readChannel 242 = .ok (.aload_n 0, 1) := by decide +kernel
theorem dX12_readChannel_243 : decode cX12_readChannel 243 = .ok (.getfield 130, 3) := by decide +kernel
theorem dX12_readChannel_246 : decode cX12_readChannel 246 = .ok (.iconst 4, 1) := by decide +kernel
theorem dX12_readChannel_247 : decode cX12_readChannel 247 = .ok (.iload_n 1, 1) := by decide +kernel
theorem dX12_readChannel_248 : decode cX12_readChannel 248 = .ok (.imul, 1) := by decide +kernel
theorem dX12_readChannel_249 : decode cX12_readChannel 249 = .ok (.aload_n 0, 1) := by decide +kernel
theorem dX12_readChannel_250 : decode cX12_readChannel 250 = .ok (.getfield 127, 3) := by decide +kernel
theorem dX12_readChannel_253 : decode cX12_readChannel 253 = .ok (.iload_n 1, 1) := by decide +kernel
theorem dX12_readChannel_254 : decode cX12_readChannel 254 = .ok (.iaload, 1) := by decide +kernel
theorem dX12_readChannel_255 : decode cX12_readChannel 255 = .ok (.iadd, 1) := by decide +kernel
theorem dX12_readChannel_256 : decode cX12_readChannel 256 = .ok (.iaload, 1) := by decide +kernel
theorem dX12_readChannel_257 : decode cX12_readChannel 257 = .ok (.bipush (-2), 2) := by decide +kernel
theorem dX12_readChannel_259 : decode cX12_readChannel 259 = .ok (.if_icmp .ne 7, 3) := by decide +kernel
theorem dX12_readChannel_262 : decode cX12_readChannel 262 = .ok (.iconst 1, 1) := by decide +kernel
theorem dX12_readChannel_263 : decode cX12_readChannel 263 = .ok (.goto 4, 3) := by decide +kernel
theorem dX12_readChannel_266 : decode cX12_readChannel 266 = .ok (.iconst 0, 1) := by decide +kernel
theorem dX12_readChannel_267 : decode cX12_readChannel 267 = .ok (.istore_n 2, 1) := by decide +kernel
theorem dX12_readChannel_268 : decode cX12_readChannel 268 = .ok (.aload_n 0, 1) := by decide +kernel
theorem dX12_readChannel_269 : decode cX12_readChannel 269 = .ok (.getfield 127, 3) := by decide +kernel
theorem dX12_readChannel_272 : decode cX12_readChannel 272 = .ok (.iload_n 1, 1) := by decide +kernel
theorem dX12_readChannel_273 : decode cX12_readChannel 273 = .ok (.dup2, 1) := by decide +kernel
theorem dX12_readChannel_274 : decode cX12_readChannel 274 = .ok (.iaload, 1) := by decide +kernel
theorem dX12_readChannel_275 : decode cX12_readChannel 275 = .ok (.iconst 1, 1) := by decide +kernel
theorem dX12_readChannel_276 : decode cX12_readChannel 276 = .ok (.iadd, 1) := by decide +kernel
theorem dX12_readChannel_277 : decode cX12_readChannel 277 = .ok (.iastore, 1) := by decide +kernel
theorem dX12_readChannel_278 : decode cX12_readChannel 278 = .ok (.aload_n 0, 1) := by decide +kernel
theorem dX12_readChannel_279 : decode cX12_readChannel 279 = .ok (.getfield 115, 3) := by decide +kernel
theorem dX12_readChannel_282 : decode cX12_readChannel 282 = .ok (.iload_n 1, 1) := by decide +kernel
theorem dX12_readChannel_283 : decode cX12_readChannel 283 = .ok (.baload, 1) := by decide +kernel
theorem dX12_readChannel_284 : decode cX12_readChannel 284 = .ok (.ifCond .ne 16, 3) := by decide +kernel
theorem dX12_readChannel_287 : decode cX12_readChannel 287 = .ok (.aload_n 0, 1) := by decide +kernel
theorem dX12_readChannel_288 : decode cX12_readChannel 288 = .ok (.bipush 44, 2) := by decide +kernel
theorem dX12_readChannel_290 : decode cX12_readChannel 290 = .ok (.invokevirtual 335, 3) := by decide +kernel
theorem dX12_readChannel_293 : decode cX12_readChannel 293 = .ok (.ifCond .eq 7, 3) := by decide +kernel
theorem dX12_readChannel_296 : decode cX12_readChannel 296 = .ok (.iconst 1, 1) := by decide +kernel
theorem dX12_readChannel_297 : decode cX12_readChannel 297 = .ok (.goto 4, 3) := by decide +kernel
theorem dX12_readChannel_300 : decode cX12_readChannel 300 = .ok (.iconst 0, 1) := by decide +kernel
theorem dX12_readChannel_301 : decode cX12_readChannel 301 = .ok (.istore_n 3, 1) := by decide +kernel
theorem dX12_readChannel_302 : decode cX12_readChannel 302 = .ok (.iload_n 3, 1) := by decide +kernel
theorem dX12_readChannel_303 : decode cX12_readChannel 303 = .ok (.ifCond .ne 6, 3) := by decide +kernel
theorem dX12_readChannel_306 : decode cX12_readChannel 306 = .ok (.goto (-103), 3) := by decide +kernel
theorem dX12_readChannel_309 : decode cX12_readChannel 309 = .ok (.aload_n 0, 1) := by decide +kernel
theorem dX12_readChannel_310 : decode cX12_readChannel 310 = .ok (.invokevirtual 341, 3) := by decide +kernel
theorem dX12_readChannel_313 : decode cX12_readChannel 313 = .ok (.aload_n 0, 1) := by decide +kernel
theorem dX12_readChannel_314 : decode cX12_readChannel 314 = .ok (.getfield 127, 3) := by decide +kernel
theorem dX12_readChannel_317 : decode cX12_readChannel 317 = .ok (.iload_n 1, 1) := by decide +kernel
theorem dX12_readChannel_318 : decode cX12_readChannel 318 = .ok (.iaload, 1) := by decide +kernel
theorem dX12_readChannel_319 : decode cX12_readChannel 319 = .ok (.iconst 4, 1) := by decide +kernel
theorem dX12_readChannel_320 : decode cX12_readChannel 320 = .ok (.if_icmp .ne (-117), 3) := by decide +kernel
theorem dX12_readChannel_323 : decode cX12_readChannel 323 = .ok (.aload_n 0, 1) := by decide +kernel
theorem dX12_readChannel_324 : decode cX12_readChannel 324 = .ok (.iconst 4, 1) := by decide +kernel
theorem dX12_readChannel_325 : decode cX12_readChannel 325 = .ok (.invokevirtual 338, 3) := by decide +kernel
theorem dX12_readChannel_328 : decode cX12_readChannel 328 = .ok (.pop, 1) := by decide +kernel
theorem dX12_readChannel_329 : decode cX12_readChannel 329 = .ok (.return_, 1) := by decide +kernel
theorem dX12_readChannel_330 : decode cX12_readChannel 330 = .ok (.aload_n 0, 1) := by decide +kernel
theorem dX12_readChannel_331 : decode cX12_readChannel 331 = .ok (.dup, 1) := by decide +kernel
theorem dX12_readChannel_332 : decode cX12_readChannel 332 = .ok (.getfield 419, 3) := by decide +kernel
theorem dX12_readChannel_335 : decode cX12_readChannel 335 = .ok (.iload_n 2, 1) := by decide +kernel
theorem dX12_readChannel_336 : decode cX12_readChannel 336 = .ok (.ifCond .eq 7, 3) := by decide +kernel
theorem dX12_readChannel_339 : decode cX12_readChannel 339 = .ok (.iconst 1, 1) := by decide +kernel
theorem dX12_readChannel_340 : decode cX12_readChannel 340 = .ok (.goto 4, 3) := by decide +kernel
theorem dX12_readChannel_343 : decode cX12_readChannel 343 = .ok (.iconst 0, 1) := by decide +kernel
theorem dX12_readChannel_344 : decode cX12_readChannel 344 = .ok (.iadd, 1) := by decide +kernel
theorem dX12_readChannel_345 : decode cX12_readChannel 345 = .ok (.putfield 419, 3) := by decide +kernel
theorem dX12_readChannel_348 : decode cX12_readChannel 348 = .ok (.aload_n 0, 1) := by decide +kernel
theorem dX12_readChannel_349 : decode cX12_readChannel 349 = .ok (.bipush 125, 2) := by decide +kernel
theorem dX12_readChannel_351 : decode cX12_readChannel 351 = .ok (.invokevirtual 365, 3) := by decide +kernel
theorem dX12_readChannel_354 : decode cX12_readChannel 354 = .ok (.pop, 1) := by decide +kernel
theorem dX12_readChannel_355 : decode cX12_readChannel 355 = .ok (.return_, 1) := by decide +kernel
def wb_X12_readChannel_301 (B203 : q_S → Nat → Int32 → Int32 → Int32 → Prop) (S : q_S) (a0 : Nat) (x1 : Int32) (x2 : Int32) (xs0 : Int32) (Q : Option Value → q_S → Prop) : Prop := ((¬ xs0 = 0 → (q_K S a0 = 13 ∧ (wm_X12_next S a0 (fun r3_ S4_ => r3_ = none ∧ (q_K S4_ a0 = 13 ∧ (∃ a6_ : Nat, (q_P S4_ 2458 a0) = some a6_ ∧ (q_K S4_ a6_ = 21 ∧ (vp_in x1 (q_N S4_ a6_) ∧ (((¬ (q_A S4_ a6_ x1.toNatClampNeg) = (4 : Int32) → (B203 S4_ a0 x1 x2 xs0)) ∧ ((q_A S4_ a6_ x1.toNatClampNeg) = (4 : Int32) → (wm_X12_failHere S4_ a0 (4 : Int32) (fun r11_ S12_ => ∃ x13_ : Int32, r11_ = some (.int x13_) ∧ (Q none S12_)))))))))))))) ∧ (xs0 = 0 → (B203 S a0 x1 x2 xs0)))
set_option maxHeartbeats 4000000 in
set_option maxRecDepth 100000 in
theorem cb_X12_readChannel_301 {p : Program} {l : Launch} {e : Env} {s : State} {m : MethodId} {args : Array Value} {below : List Frame} {meth : Method} {c : Code} {D : va_G} {cy : Nat → ClassId} {lo : Nat} {B203 : q_S → Nat → Int32 → Int32 → Int32 → Prop} {S : q_S} {a0 : Nat} {x1 : Int32} {x2 : Int32} {xs0 : Int32} {Q : Option Value → q_S → Prop} {H : Heap} {locs : List Loc} {ls : Array Slot} (X : q_X p s m args meth c RX12 cX12_readChannel 4 none D cy lo) (hB203 : ∀ (S : q_S) (a0 : Nat) (x1 : Int32) (x2 : Int32) (x3 : Int32) (H : Heap) (locs : List Loc) (ls : Array Slot), B203 S a0 x1 x2 x3 → q_Y D cy lo s S H locs → lv_has ls 4 [(0, .ref a0), (1, .int x1), (2, .int x2), (3, .int x3)] → W p l e ({ frames := 8, cells := 0, slots := 0, locals := 180 } : Room) s m args below meth c H locs 0 0 (MQ below (q_Q D cy lo Q) args s 0 0 (fun q => lo ≤ q)) (F0 m 203 ls [])) (Y : q_Y D cy lo s S H locs) (hl : lv_has ls 4 [(0, .ref a0), (1, .int x1), (2, .int x2)]) (h : wb_X12_readChannel_301 B203 S a0 x1 x2 xs0 Q) : W p l e ({ frames := 8, cells := 0, slots := 0, locals := 180 } : Room) s m args below meth c H locs 0 0 (MQ below (q_Q D cy lo Q) args s 0 0 (fun q => lo ≤ q)) (F0 m 301 ls [.int xs0]) := by
  have hx := X.1
  have hb := X.2.1
  unfold wb_X12_readChannel_301 at h
  refine lv_istore_n (i := 3) (lv' := [(3, .int xs0), (0, .ref a0), (1, .int x1), (2, .int x2)]) hx hb dX12_readChannel_301 rfl hl (by decide) (by first | rfl | simp [q_cat, q_catI, q_catJ, q_catR]) (fun ls hl => ?_)
  refine lv_iload_n hx hb dX12_readChannel_302 rfl (lv_at hl 0 rfl) ?_
  refine lv_if_ne (tgt := 309) hx hb dX12_readChannel_303 (by decide) (fun c1_ => ?_) (fun c1_ => ?_)
  · replace h := h.1 c1_
    refine lv_aload_n hx hb dX12_readChannel_309 rfl (lv_at hl 1 rfl) ?_
    obtain ⟨k2_, h⟩ := h
    refine q_callV X Y hl (cm_X12_next h) mt_X12_next mi_X12_next ml_X12_341 (ci := 12) rfl k2_ (by decide) rfl rfl (by first | exact Nat.le_of_ble_eq_true rfl | simp [q_cat, q_catI, q_catJ, q_catR]) ⟨Nat.le_of_ble_eq_true rfl, Nat.le_of_ble_eq_true rfl⟩ ⟨Nat.le_of_ble_eq_true rfl, Nat.le_of_ble_eq_true rfl⟩ dX12_readChannel_310 (fun r3_ S4_ H locs hp Y => ?_)
    obtain ⟨rfl, h⟩ := hp
    refine W.eq (g2 := F0 m 313 ls []) rfl ?_
    refine lv_aload_n hx hb dX12_readChannel_313 rfl (lv_at hl 1 rfl) ?_
    obtain ⟨k5_, h⟩ := h
    refine q_getP X Y kX12 58 rfl fl_X12_127 k5_ rfl dX12_readChannel_314 ?_
    refine lv_iload_n hx hb dX12_readChannel_317 rfl (lv_at hl 2 rfl) ?_
    obtain ⟨a6_, e7_, h⟩ := h
    refine q_nn [.int x1] e7_ ?_
    obtain ⟨k8_, h⟩ := h
    obtain ⟨i9_, h⟩ := h
    refine q_ild X Y k8_ i9_ dX12_readChannel_318 ?_
    refine lv_iconst (v := 4) hx hb dX12_readChannel_319 (by decide) ?_
    refine lv_icmp_ne (tgt := 203) hx hb dX12_readChannel_320 (by decide) (fun c10_ => ?_) (fun c10_ => ?_)
    · replace h := h.1 c10_
      exact hB203 _ _ _ _ _ _ _ _ h Y (lv_sub hl [1, 2, 3, 0] rfl)
    · replace h := h.2 c10_
      refine lv_aload_n hx hb dX12_readChannel_323 rfl (lv_at hl 1 rfl) ?_
      refine lv_iconst (v := 4) hx hb dX12_readChannel_324 (by decide) ?_
      refine q_callV X Y hl (cm_X12_failHere h) mt_X12_failHere mi_X12_failHere ml_X12_338 (ci := 12) rfl k5_ (by decide) rfl rfl (by first | exact Nat.le_of_ble_eq_true rfl | simp [q_cat, q_catI, q_catJ, q_catR]) ⟨Nat.le_of_ble_eq_true rfl, Nat.le_of_ble_eq_true rfl⟩ ⟨Nat.le_of_ble_eq_true rfl, Nat.le_of_ble_eq_true rfl⟩ dX12_readChannel_325 (fun r11_ S12_ H locs hp Y => ?_)
      obtain ⟨x13_, rfl, h⟩ := hp
      refine W.eq (g2 := F0 m 328 ls [.int x13_]) rfl ?_
      refine lv_pop hx hb dX12_readChannel_328 rfl ?_
      exact q_vret X Y (Nat.le_refl _) (Nat.le_refl _) h dX12_readChannel_329
  · replace h := h.2 c1_
    refine lv_goto (tgt := 203) hx hb dX12_readChannel_306 (by decide) ?_
    exact hB203 _ _ _ _ _ _ _ _ h Y (lv_sub hl [1, 2, 3, 0] rfl)
def wb_X12_readChannel_300 (B203 : q_S → Nat → Int32 → Int32 → Int32 → Prop) (S : q_S) (a0 : Nat) (x1 : Int32) (x2 : Int32) (Q : Option Value → q_S → Prop) : Prop := wb_X12_readChannel_301 B203 S a0 x1 x2 (0 : Int32) Q
set_option maxHeartbeats 4000000 in
set_option maxRecDepth 100000 in
theorem cb_X12_readChannel_300 {p : Program} {l : Launch} {e : Env} {s : State} {m : MethodId} {args : Array Value} {below : List Frame} {meth : Method} {c : Code} {D : va_G} {cy : Nat → ClassId} {lo : Nat} {B203 : q_S → Nat → Int32 → Int32 → Int32 → Prop} {S : q_S} {a0 : Nat} {x1 : Int32} {x2 : Int32} {Q : Option Value → q_S → Prop} {H : Heap} {locs : List Loc} {ls : Array Slot} (X : q_X p s m args meth c RX12 cX12_readChannel 4 none D cy lo) (hB203 : ∀ (S : q_S) (a0 : Nat) (x1 : Int32) (x2 : Int32) (x3 : Int32) (H : Heap) (locs : List Loc) (ls : Array Slot), B203 S a0 x1 x2 x3 → q_Y D cy lo s S H locs → lv_has ls 4 [(0, .ref a0), (1, .int x1), (2, .int x2), (3, .int x3)] → W p l e ({ frames := 8, cells := 0, slots := 0, locals := 180 } : Room) s m args below meth c H locs 0 0 (MQ below (q_Q D cy lo Q) args s 0 0 (fun q => lo ≤ q)) (F0 m 203 ls [])) (Y : q_Y D cy lo s S H locs) (hl : lv_has ls 4 [(0, .ref a0), (1, .int x1), (2, .int x2)]) (h : wb_X12_readChannel_300 B203 S a0 x1 x2 Q) : W p l e ({ frames := 8, cells := 0, slots := 0, locals := 180 } : Room) s m args below meth c H locs 0 0 (MQ below (q_Q D cy lo Q) args s 0 0 (fun q => lo ≤ q)) (F0 m 300 ls []) := by
  have hx := X.1
  have hb := X.2.1
  unfold wb_X12_readChannel_300 at h
  refine lv_iconst (v := 0) hx hb dX12_readChannel_300 (by decide) ?_
  exact cb_X12_readChannel_301 X hB203 Y (lv_sub hl [0, 1, 2] rfl) h
def wb_X12_readChannel_267 (B203 : q_S → Nat → Int32 → Int32 → Int32 → Prop) (S : q_S) (a0 : Nat) (x1 : Int32) (xs0 : Int32) (Q : Option Value → q_S → Prop) : Prop := q_K S a0 = 13 ∧ (∃ a15_ : Nat, (q_P S 2458 a0) = some a15_ ∧ (q_K S a15_ = 21 ∧ (vp_in x1 (q_N S a15_) ∧ (vp_in x1 (q_N S a15_) ∧ (∃ a20_ : Nat, (q_P (qs_A S a15_ x1.toNatClampNeg ((q_A S a15_ x1.toNatClampNeg) + (1 : Int32))) 2454 a0) = some a20_ ∧ (q_K (qs_A S a15_ x1.toNatClampNeg ((q_A S a15_ x1.toNatClampNeg) + (1 : Int32))) a20_ = 22 ∧ (vp_in x1 (q_N (qs_A S a15_ x1.toNatClampNeg ((q_A S a15_ x1.toNatClampNeg) + (1 : Int32))) a20_) ∧ (((¬ (q_A (qs_A S a15_ x1.toNatClampNeg ((q_A S a15_ x1.toNatClampNeg) + (1 : Int32))) a20_ x1.toNatClampNeg) = 0 → (wb_X12_readChannel_300 B203 (qs_A S a15_ x1.toNatClampNeg ((q_A S a15_ x1.toNatClampNeg) + (1 : Int32))) a0 x1 xs0 Q)) ∧ ((q_A (qs_A S a15_ x1.toNatClampNeg ((q_A S a15_ x1.toNatClampNeg) + (1 : Int32))) a20_ x1.toNatClampNeg) = 0 → (wm_X12_isSign (qs_A S a15_ x1.toNatClampNeg ((q_A S a15_ x1.toNatClampNeg) + (1 : Int32))) a0 (44 : Int32) (fun r25_ S26_ => ∃ x27_ : Int32, r25_ = some (.int x27_) ∧ (((x27_ = 0 → (wb_X12_readChannel_300 B203 S26_ a0 x1 xs0 Q)) ∧ (¬ x27_ = 0 → (wb_X12_readChannel_301 B203 S26_ a0 x1 xs0 (1 : Int32) Q))))))))))))))))
set_option maxHeartbeats 4000000 in
set_option maxRecDepth 100000 in
theorem cb_X12_readChannel_267 {p : Program} {l : Launch} {e : Env} {s : State} {m : MethodId} {args : Array Value} {below : List Frame} {meth : Method} {c : Code} {D : va_G} {cy : Nat → ClassId} {lo : Nat} {B203 : q_S → Nat → Int32 → Int32 → Int32 → Prop} {S : q_S} {a0 : Nat} {x1 : Int32} {xs0 : Int32} {Q : Option Value → q_S → Prop} {H : Heap} {locs : List Loc} {ls : Array Slot} (X : q_X p s m args meth c RX12 cX12_readChannel 4 none D cy lo) (hB203 : ∀ (S : q_S) (a0 : Nat) (x1 : Int32) (x2 : Int32) (x3 : Int32) (H : Heap) (locs : List Loc) (ls : Array Slot), B203 S a0 x1 x2 x3 → q_Y D cy lo s S H locs → lv_has ls 4 [(0, .ref a0), (1, .int x1), (2, .int x2), (3, .int x3)] → W p l e ({ frames := 8, cells := 0, slots := 0, locals := 180 } : Room) s m args below meth c H locs 0 0 (MQ below (q_Q D cy lo Q) args s 0 0 (fun q => lo ≤ q)) (F0 m 203 ls [])) (Y : q_Y D cy lo s S H locs) (hl : lv_has ls 4 [(0, .ref a0), (1, .int x1)]) (h : wb_X12_readChannel_267 B203 S a0 x1 xs0 Q) : W p l e ({ frames := 8, cells := 0, slots := 0, locals := 180 } : Room) s m args below meth c H locs 0 0 (MQ below (q_Q D cy lo Q) args s 0 0 (fun q => lo ≤ q)) (F0 m 267 ls [.int xs0]) := by
  have hx := X.1
  have hb := X.2.1
  unfold wb_X12_readChannel_267 at h
  refine lv_istore_n (i := 2) (lv' := [(2, .int xs0), (0, .ref a0), (1, .int x1)]) hx hb dX12_readChannel_267 rfl hl (by decide) (by first | rfl | simp [q_cat, q_catI, q_catJ, q_catR]) (fun ls hl => ?_)
  refine lv_aload_n hx hb dX12_readChannel_268 rfl (lv_at hl 1 rfl) ?_
  obtain ⟨k14_, h⟩ := h
  refine q_getP X Y kX12 58 rfl fl_X12_127 k14_ rfl dX12_readChannel_269 ?_
  refine lv_iload_n hx hb dX12_readChannel_272 rfl (lv_at hl 2 rfl) ?_
  refine lv_dup2_11 hx hb dX12_readChannel_273 rfl (q_cat _) ?_
  obtain ⟨a15_, e16_, h⟩ := h
  refine q_nn [.int x1] e16_ ?_
  obtain ⟨k17_, h⟩ := h
  obtain ⟨i18_, h⟩ := h
  refine q_ild X Y k17_ i18_ dX12_readChannel_274 ?_
  refine lv_iconst (v := 1) hx hb dX12_readChannel_275 (by decide) ?_
  refine lv_iadd hx hb dX12_readChannel_276 ?_
  refine q_nn [.int ((q_A S a15_ x1.toNatClampNeg) + (1 : Int32)), .int x1] e16_ ?_
  obtain ⟨i19_, h⟩ := h
  refine q_ist X Y k17_ i19_ dX12_readChannel_277 (fun H locs Y => ?_)
  refine lv_aload_n hx hb dX12_readChannel_278 rfl (lv_at hl 1 rfl) ?_
  refine q_getP X Y kX12 54 rfl fl_X12_115 k14_ rfl dX12_readChannel_279 ?_
  refine lv_iload_n hx hb dX12_readChannel_282 rfl (lv_at hl 2 rfl) ?_
  obtain ⟨a20_, e21_, h⟩ := h
  refine q_nn [.int x1] e21_ ?_
  obtain ⟨k22_, h⟩ := h
  obtain ⟨i23_, h⟩ := h
  refine q_zld X Y k22_ i23_ dX12_readChannel_283 ?_
  refine lv_if_ne (tgt := 300) hx hb dX12_readChannel_284 (by decide) (fun c24_ => ?_) (fun c24_ => ?_)
  · replace h := h.1 c24_
    exact cb_X12_readChannel_300 X hB203 Y (lv_sub hl [1, 2, 0] rfl) h
  · replace h := h.2 c24_
    refine lv_aload_n hx hb dX12_readChannel_287 rfl (lv_at hl 1 rfl) ?_
    refine lv_bipush (v := 44) hx hb dX12_readChannel_288 (by decide) ?_
    refine q_callV X Y hl (cm_X12_isSign h) mt_X12_isSign mi_X12_isSign ml_X12_335 (ci := 12) rfl k14_ (by decide) rfl rfl (by first | exact Nat.le_of_ble_eq_true rfl | simp [q_cat, q_catI, q_catJ, q_catR]) ⟨Nat.le_of_ble_eq_true rfl, Nat.le_of_ble_eq_true rfl⟩ ⟨Nat.le_of_ble_eq_true rfl, Nat.le_of_ble_eq_true rfl⟩ dX12_readChannel_290 (fun r25_ S26_ H locs hp Y => ?_)
    obtain ⟨x27_, rfl, h⟩ := hp
    refine W.eq (g2 := F0 m 293 ls [.int x27_]) rfl ?_
    refine lv_if_eq (tgt := 300) hx hb dX12_readChannel_293 (by decide) (fun c28_ => ?_) (fun c28_ => ?_)
    · replace h := h.1 c28_
      exact cb_X12_readChannel_300 X hB203 Y (lv_sub hl [1, 2, 0] rfl) h
    · replace h := h.2 c28_
      refine lv_iconst (v := 1) hx hb dX12_readChannel_296 (by decide) ?_
      refine lv_goto (tgt := 301) hx hb dX12_readChannel_297 (by decide) ?_
      exact cb_X12_readChannel_301 X hB203 Y (lv_sub hl [1, 2, 0] rfl) h
def wb_X12_readChannel_262 (B203 : q_S → Nat → Int32 → Int32 → Int32 → Prop) (S : q_S) (a0 : Nat) (x1 : Int32) (Q : Option Value → q_S → Prop) : Prop := wb_X12_readChannel_267 B203 S a0 x1 (1 : Int32) Q
set_option maxHeartbeats 4000000 in
set_option maxRecDepth 100000 in
theorem cb_X12_readChannel_262 {p : Program} {l : Launch} {e : Env} {s : State} {m : MethodId} {args : Array Value} {below : List Frame} {meth : Method} {c : Code} {D : va_G} {cy : Nat → ClassId} {lo : Nat} {B203 : q_S → Nat → Int32 → Int32 → Int32 → Prop} {S : q_S} {a0 : Nat} {x1 : Int32} {Q : Option Value → q_S → Prop} {H : Heap} {locs : List Loc} {ls : Array Slot} (X : q_X p s m args meth c RX12 cX12_readChannel 4 none D cy lo) (hB203 : ∀ (S : q_S) (a0 : Nat) (x1 : Int32) (x2 : Int32) (x3 : Int32) (H : Heap) (locs : List Loc) (ls : Array Slot), B203 S a0 x1 x2 x3 → q_Y D cy lo s S H locs → lv_has ls 4 [(0, .ref a0), (1, .int x1), (2, .int x2), (3, .int x3)] → W p l e ({ frames := 8, cells := 0, slots := 0, locals := 180 } : Room) s m args below meth c H locs 0 0 (MQ below (q_Q D cy lo Q) args s 0 0 (fun q => lo ≤ q)) (F0 m 203 ls [])) (Y : q_Y D cy lo s S H locs) (hl : lv_has ls 4 [(0, .ref a0), (1, .int x1)]) (h : wb_X12_readChannel_262 B203 S a0 x1 Q) : W p l e ({ frames := 8, cells := 0, slots := 0, locals := 180 } : Room) s m args below meth c H locs 0 0 (MQ below (q_Q D cy lo Q) args s 0 0 (fun q => lo ≤ q)) (F0 m 262 ls []) := by
  have hx := X.1
  have hb := X.2.1
  unfold wb_X12_readChannel_262 at h
  refine lv_iconst (v := 1) hx hb dX12_readChannel_262 (by decide) ?_
  refine lv_goto (tgt := 267) hx hb dX12_readChannel_263 (by decide) ?_
  exact cb_X12_readChannel_267 X hB203 Y (lv_sub hl [0, 1] rfl) h
def wb_X12_readChannel_344  (S : q_S) (a0 : Nat) (as0 : Nat) (xs1 : Int32) (xs2 : Int32) (Q : Option Value → q_S → Prop) : Prop := q_K S as0 = 13 ∧ (q_K (qs_I S 2419 as0 (xs1 + xs2)) a0 = 13 ∧ (wm_X12_sign (qs_I S 2419 as0 (xs1 + xs2)) a0 (125 : Int32) (fun r31_ S32_ => ∃ x33_ : Int32, r31_ = some (.int x33_) ∧ (Q none S32_))))
set_option maxHeartbeats 4000000 in
set_option maxRecDepth 100000 in
theorem cb_X12_readChannel_344 {p : Program} {l : Launch} {e : Env} {s : State} {m : MethodId} {args : Array Value} {below : List Frame} {meth : Method} {c : Code} {D : va_G} {cy : Nat → ClassId} {lo : Nat}  {S : q_S} {a0 : Nat} {as0 : Nat} {xs1 : Int32} {xs2 : Int32} {Q : Option Value → q_S → Prop} {H : Heap} {locs : List Loc} {ls : Array Slot} (X : q_X p s m args meth c RX12 cX12_readChannel 4 none D cy lo)  (Y : q_Y D cy lo s S H locs) (hl : lv_has ls 4 [(0, .ref a0)]) (h : wb_X12_readChannel_344 S a0 as0 xs1 xs2 Q) : W p l e ({ frames := 8, cells := 0, slots := 0, locals := 180 } : Room) s m args below meth c H locs 0 0 (MQ below (q_Q D cy lo Q) args s 0 0 (fun q => lo ≤ q)) (F0 m 344 ls [.int xs2, .int xs1, .ref as0]) := by
  have hx := X.1
  have hb := X.2.1
  unfold wb_X12_readChannel_344 at h
  refine lv_iadd hx hb dX12_readChannel_344 ?_
  obtain ⟨k29_, h⟩ := h
  refine q_putI X Y kX12 19 rfl fl_X12_419 k29_ .int rfl ⟨rfl, rfl⟩ rfl dX12_readChannel_345 (fun H locs Y => ?_)
  refine lv_aload_n hx hb dX12_readChannel_348 rfl (lv_at hl 0 rfl) ?_
  refine lv_bipush (v := 125) hx hb dX12_readChannel_349 (by decide) ?_
  obtain ⟨k30_, h⟩ := h
  refine q_callV X Y hl (cm_X12_sign h) mt_X12_sign mi_X12_sign ml_X12_365 (ci := 12) rfl k30_ (by decide) rfl rfl (by first | exact Nat.le_of_ble_eq_true rfl | simp [q_cat, q_catI, q_catJ, q_catR]) ⟨Nat.le_of_ble_eq_true rfl, Nat.le_of_ble_eq_true rfl⟩ ⟨Nat.le_of_ble_eq_true rfl, Nat.le_of_ble_eq_true rfl⟩ dX12_readChannel_351 (fun r31_ S32_ H locs hp Y => ?_)
  obtain ⟨x33_, rfl, h⟩ := hp
  refine W.eq (g2 := F0 m 354 ls [.int x33_]) rfl ?_
  refine lv_pop hx hb dX12_readChannel_354 rfl ?_
  exact q_vret X Y (Nat.le_refl _) (Nat.le_refl _) h dX12_readChannel_355
def wb_X12_readChannel_203 (B203 : q_S → Nat → Int32 → Int32 → Int32 → Prop) (S : q_S) (a0 : Nat) (x1 : Int32) (x2 : Int32) (x3 : Int32) (Q : Option Value → q_S → Prop) : Prop := ((x3 = 0 → (q_K S a0 = 13 ∧ (((x2 = 0 → (wb_X12_readChannel_344 S a0 a0 (q_I S 2419 a0) (0 : Int32) Q)) ∧ (¬ x2 = 0 → (wb_X12_readChannel_344 S a0 a0 (q_I S 2419 a0) (1 : Int32) Q)))))) ∧ (¬ x3 = 0 → (q_K S a0 = 13 ∧ (∃ a38_ : Nat, (q_P S 2458 a0) = some a38_ ∧ (q_K S a38_ = 21 ∧ (vp_in x1 (q_N S a38_) ∧ (wm_X12_end S a0 x1 (28 : Int32) (0 : Int32) (fun r42_ S43_ => ∃ x44_ : Int32, r42_ = some (.int x44_) ∧ (∃ a45_ : Nat, (q_P S 2459 a0) = some a45_ ∧ (q_K S43_ a45_ = 21 ∧ (vp_in (((4 : Int32) * x1) + (q_A S a38_ x1.toNatClampNeg)) (q_N S43_ a45_) ∧ (q_K (qs_A S43_ a45_ (((4 : Int32) * x1) + (q_A S a38_ x1.toNatClampNeg)).toNatClampNeg x44_) a0 = 13 ∧ ((((q_I (qs_A S43_ a45_ (((4 : Int32) * x1) + (q_A S a38_ x1.toNatClampNeg)).toNatClampNeg x44_) 2411 a0) ≤ 0 → (((¬ x2 = 0 → (wb_X12_readChannel_262 B203 (qs_A S43_ a45_ (((4 : Int32) * x1) + (q_A S a38_ x1.toNatClampNeg)).toNatClampNeg x44_) a0 x1 Q)) ∧ (x2 = 0 → (∃ a52_ : Nat, (q_P (qs_A S43_ a45_ (((4 : Int32) * x1) + (q_A S a38_ x1.toNatClampNeg)).toNatClampNeg x44_) 2458 a0) = some a52_ ∧ (q_K (qs_A S43_ a45_ (((4 : Int32) * x1) + (q_A S a38_ x1.toNatClampNeg)).toNatClampNeg x44_) a52_ = 21 ∧ (vp_in x1 (q_N (qs_A S43_ a45_ (((4 : Int32) * x1) + (q_A S a38_ x1.toNatClampNeg)).toNatClampNeg x44_) a52_) ∧ (∃ a56_ : Nat, (q_P (qs_A S43_ a45_ (((4 : Int32) * x1) + (q_A S a38_ x1.toNatClampNeg)).toNatClampNeg x44_) 2459 a0) = some a56_ ∧ (q_K (qs_A S43_ a45_ (((4 : Int32) * x1) + (q_A S a38_ x1.toNatClampNeg)).toNatClampNeg x44_) a56_ = 21 ∧ (vp_in (((4 : Int32) * x1) + (q_A (qs_A S43_ a45_ (((4 : Int32) * x1) + (q_A S a38_ x1.toNatClampNeg)).toNatClampNeg x44_) a52_ x1.toNatClampNeg)) (q_N (qs_A S43_ a45_ (((4 : Int32) * x1) + (q_A S a38_ x1.toNatClampNeg)).toNatClampNeg x44_) a56_) ∧ (((¬ (q_A (qs_A S43_ a45_ (((4 : Int32) * x1) + (q_A S a38_ x1.toNatClampNeg)).toNatClampNeg x44_) a56_ (((4 : Int32) * x1) + (q_A (qs_A S43_ a45_ (((4 : Int32) * x1) + (q_A S a38_ x1.toNatClampNeg)).toNatClampNeg x44_) a52_ x1.toNatClampNeg)).toNatClampNeg) = (-2 : Int32) → (wb_X12_readChannel_267 B203 (qs_A S43_ a45_ (((4 : Int32) * x1) + (q_A S a38_ x1.toNatClampNeg)).toNatClampNeg x44_) a0 x1 (0 : Int32) Q)) ∧ ((q_A (qs_A S43_ a45_ (((4 : Int32) * x1) + (q_A S a38_ x1.toNatClampNeg)).toNatClampNeg x44_) a56_ (((4 : Int32) * x1) + (q_A (qs_A S43_ a45_ (((4 : Int32) * x1) + (q_A S a38_ x1.toNatClampNeg)).toNatClampNeg x44_) a52_ x1.toNatClampNeg)).toNatClampNeg) = (-2 : Int32) → (wb_X12_readChannel_262 B203 (qs_A S43_ a45_ (((4 : Int32) * x1) + (q_A S a38_ x1.toNatClampNeg)).toNatClampNeg x44_) a0 x1 Q)))))))))))))) ∧ (¬ (q_I (qs_A S43_ a45_ (((4 : Int32) * x1) + (q_A S a38_ x1.toNatClampNeg)).toNatClampNeg x44_) 2411 a0) ≤ 0 → (Q none (qs_A S43_ a45_ (((4 : Int32) * x1) + (q_A S a38_ x1.toNatClampNeg)).toNatClampNeg x44_)))))))))))))))))
set_option maxHeartbeats 4000000 in
set_option maxRecDepth 100000 in
theorem cb_X12_readChannel_203 {p : Program} {l : Launch} {e : Env} {s : State} {m : MethodId} {args : Array Value} {below : List Frame} {meth : Method} {c : Code} {D : va_G} {cy : Nat → ClassId} {lo : Nat} {B203 : q_S → Nat → Int32 → Int32 → Int32 → Prop} {S : q_S} {a0 : Nat} {x1 : Int32} {x2 : Int32} {x3 : Int32} {Q : Option Value → q_S → Prop} {H : Heap} {locs : List Loc} {ls : Array Slot} (X : q_X p s m args meth c RX12 cX12_readChannel 4 none D cy lo) (hB203 : ∀ (S : q_S) (a0 : Nat) (x1 : Int32) (x2 : Int32) (x3 : Int32) (H : Heap) (locs : List Loc) (ls : Array Slot), B203 S a0 x1 x2 x3 → q_Y D cy lo s S H locs → lv_has ls 4 [(0, .ref a0), (1, .int x1), (2, .int x2), (3, .int x3)] → W p l e ({ frames := 8, cells := 0, slots := 0, locals := 180 } : Room) s m args below meth c H locs 0 0 (MQ below (q_Q D cy lo Q) args s 0 0 (fun q => lo ≤ q)) (F0 m 203 ls [])) (Y : q_Y D cy lo s S H locs) (hl : lv_has ls 4 [(0, .ref a0), (1, .int x1), (2, .int x2), (3, .int x3)]) (h : wb_X12_readChannel_203 B203 S a0 x1 x2 x3 Q) : W p l e ({ frames := 8, cells := 0, slots := 0, locals := 180 } : Room) s m args below meth c H locs 0 0 (MQ below (q_Q D cy lo Q) args s 0 0 (fun q => lo ≤ q)) (F0 m 203 ls []) := by
  have hx := X.1
  have hb := X.2.1
  unfold wb_X12_readChannel_203 at h
  refine lv_iload_n hx hb dX12_readChannel_203 rfl (lv_at hl 3 rfl) ?_
  refine lv_if_eq (tgt := 330) hx hb dX12_readChannel_204 (by decide) (fun c34_ => ?_) (fun c34_ => ?_)
  · replace h := h.1 c34_
    refine lv_aload_n hx hb dX12_readChannel_330 rfl (lv_at hl 0 rfl) ?_
    refine lv_dup hx hb dX12_readChannel_331 rfl ?_
    obtain ⟨k35_, h⟩ := h
    refine q_getI X Y kX12 19 rfl fl_X12_419 k35_ dX12_readChannel_332 ?_
    refine lv_iload_n hx hb dX12_readChannel_335 rfl (lv_at hl 2 rfl) ?_
    refine lv_if_eq (tgt := 343) hx hb dX12_readChannel_336 (by decide) (fun c36_ => ?_) (fun c36_ => ?_)
    · replace h := h.1 c36_
      refine lv_iconst (v := 0) hx hb dX12_readChannel_343 (by decide) ?_
      exact cb_X12_readChannel_344 X Y (lv_sub hl [0] rfl) h
    · replace h := h.2 c36_
      refine lv_iconst (v := 1) hx hb dX12_readChannel_339 (by decide) ?_
      refine lv_goto (tgt := 344) hx hb dX12_readChannel_340 (by decide) ?_
      exact cb_X12_readChannel_344 X Y (lv_sub hl [0] rfl) h
  · replace h := h.2 c34_
    refine lv_aload_n hx hb dX12_readChannel_207 rfl (lv_at hl 0 rfl) ?_
    obtain ⟨k37_, h⟩ := h
    refine q_getP X Y kX12 59 rfl fl_X12_130 k37_ rfl dX12_readChannel_208 ?_
    refine lv_iconst (v := 4) hx hb dX12_readChannel_211 (by decide) ?_
    refine lv_iload_n hx hb dX12_readChannel_212 rfl (lv_at hl 1 rfl) ?_
    refine lv_imul hx hb dX12_readChannel_213 ?_
    refine lv_aload_n hx hb dX12_readChannel_214 rfl (lv_at hl 0 rfl) ?_
    refine q_getP X Y kX12 58 rfl fl_X12_127 k37_ rfl dX12_readChannel_215 ?_
    refine lv_iload_n hx hb dX12_readChannel_218 rfl (lv_at hl 1 rfl) ?_
    obtain ⟨a38_, e39_, h⟩ := h
    refine q_nn [.int x1] e39_ ?_
    obtain ⟨k40_, h⟩ := h
    obtain ⟨i41_, h⟩ := h
    refine q_ild X Y k40_ i41_ dX12_readChannel_219 ?_
    refine lv_iadd hx hb dX12_readChannel_220 ?_
    refine lv_aload_n hx hb dX12_readChannel_221 rfl (lv_at hl 0 rfl) ?_
    refine lv_iload_n hx hb dX12_readChannel_222 rfl (lv_at hl 1 rfl) ?_
    refine lv_bipush (v := 28) hx hb dX12_readChannel_223 (by decide) ?_
    refine lv_iconst (v := 0) hx hb dX12_readChannel_225 (by decide) ?_
    refine q_callV X Y hl (cm_X12_end h) mt_X12_end mi_X12_end ml_X12_412 (ci := 12) rfl k37_ (by decide) rfl rfl (by first | exact Nat.le_of_ble_eq_true rfl | simp [q_cat, q_catI, q_catJ, q_catR]) ⟨Nat.le_of_ble_eq_true rfl, Nat.le_of_ble_eq_true rfl⟩ ⟨Nat.le_of_ble_eq_true rfl, Nat.le_of_ble_eq_true rfl⟩ dX12_readChannel_226 (fun r42_ S43_ H locs hp Y => ?_)
    obtain ⟨x44_, rfl, h⟩ := hp
    refine W.eq (g2 := F0 m 229 ls [.int x44_, .int (((4 : Int32) * x1) + (q_A S a38_ x1.toNatClampNeg)), va_rf (q_P S 2459 a0)]) rfl ?_
    obtain ⟨a45_, e46_, h⟩ := h
    refine q_nn [.int x44_, .int (((4 : Int32) * x1) + (q_A S a38_ x1.toNatClampNeg))] e46_ ?_
    obtain ⟨k47_, h⟩ := h
    obtain ⟨i48_, h⟩ := h
    refine q_ist X Y k47_ i48_ dX12_readChannel_229 (fun H locs Y => ?_)
    refine lv_aload_n hx hb dX12_readChannel_230 rfl (lv_at hl 0 rfl) ?_
    obtain ⟨k49_, h⟩ := h
    refine q_getI X Y kX12 11 rfl fl_X12_328 k49_ dX12_readChannel_231 ?_
    refine lv_if_le (tgt := 238) hx hb dX12_readChannel_234 (by decide) (fun c50_ => ?_) (fun c50_ => ?_)
    · replace h := h.1 c50_
      refine lv_iload_n hx hb dX12_readChannel_238 rfl (lv_at hl 2 rfl) ?_
      refine lv_if_ne (tgt := 262) hx hb dX12_readChannel_239 (by decide) (fun c51_ => ?_) (fun c51_ => ?_)
      · replace h := h.1 c51_
        exact cb_X12_readChannel_262 X hB203 Y (lv_sub hl [0, 1] rfl) h
      · replace h := h.2 c51_
        refine lv_aload_n hx hb dX12_readChannel_242 rfl (lv_at hl 0 rfl) ?_
        refine q_getP X Y kX12 59 rfl fl_X12_130 k49_ rfl dX12_readChannel_243 ?_
        refine lv_iconst (v := 4) hx hb dX12_readChannel_246 (by decide) ?_
        refine lv_iload_n hx hb dX12_readChannel_247 rfl (lv_at hl 1 rfl) ?_
        refine lv_imul hx hb dX12_readChannel_248 ?_
        refine lv_aload_n hx hb dX12_readChannel_249 rfl (lv_at hl 0 rfl) ?_
        refine q_getP X Y kX12 58 rfl fl_X12_127 k49_ rfl dX12_readChannel_250 ?_
        refine lv_iload_n hx hb dX12_readChannel_253 rfl (lv_at hl 1 rfl) ?_
        obtain ⟨a52_, e53_, h⟩ := h
        refine q_nn [.int x1] e53_ ?_
        obtain ⟨k54_, h⟩ := h
        obtain ⟨i55_, h⟩ := h
        refine q_ild X Y k54_ i55_ dX12_readChannel_254 ?_
        refine lv_iadd hx hb dX12_readChannel_255 ?_
        obtain ⟨a56_, e57_, h⟩ := h
        refine q_nn [.int (((4 : Int32) * x1) + (q_A (qs_A S43_ a45_ (((4 : Int32) * x1) + (q_A S a38_ x1.toNatClampNeg)).toNatClampNeg x44_) a52_ x1.toNatClampNeg))] e57_ ?_
        obtain ⟨k58_, h⟩ := h
        obtain ⟨i59_, h⟩ := h
        refine q_ild X Y k58_ i59_ dX12_readChannel_256 ?_
        refine lv_bipush (v := (-2)) hx hb dX12_readChannel_257 (by decide) ?_
        refine lv_icmp_ne (tgt := 266) hx hb dX12_readChannel_259 (by decide) (fun c60_ => ?_) (fun c60_ => ?_)
        · replace h := h.1 c60_
          refine lv_iconst (v := 0) hx hb dX12_readChannel_266 (by decide) ?_
          exact cb_X12_readChannel_267 X hB203 Y (lv_sub hl [0, 1] rfl) h
        · replace h := h.2 c60_
          exact cb_X12_readChannel_262 X hB203 Y (lv_sub hl [0, 1] rfl) h
    · replace h := h.2 c50_
      exact q_vret X Y (Nat.le_refl _) (Nat.le_refl _) h dX12_readChannel_237
def wl_X12_readChannel_203  : Nat → q_S → Nat → Int32 → Int32 → Int32 → (Option Value → q_S → Prop) → Prop
  | 0, _, _, _, _, _, _ => False
  | n + 1, S, a0, x1, x2, x3, Q => wb_X12_readChannel_203 (fun S a0 x1 x2 x3 => wl_X12_readChannel_203 n S a0 x1 x2 x3 Q) S a0 x1 x2 x3 Q
set_option maxHeartbeats 4000000 in
set_option maxRecDepth 100000 in
theorem cl_X12_readChannel_203 {p : Program} {l : Launch} {e : Env} {s : State} {m : MethodId} {args : Array Value} {below : List Frame} {meth : Method} {c : Code} {D : va_G} {cy : Nat → ClassId} {lo : Nat}  {Q : Option Value → q_S → Prop} (X : q_X p s m args meth c RX12 cX12_readChannel 4 none D cy lo)  : ∀ (n : Nat) (S : q_S) (a0 : Nat) (x1 : Int32) (x2 : Int32) (x3 : Int32) (H : Heap) (locs : List Loc) (ls : Array Slot), wl_X12_readChannel_203 n S a0 x1 x2 x3 Q → q_Y D cy lo s S H locs → lv_has ls 4 [(0, .ref a0), (1, .int x1), (2, .int x2), (3, .int x3)] → W p l e ({ frames := 8, cells := 0, slots := 0, locals := 180 } : Room) s m args below meth c H locs 0 0 (MQ below (q_Q D cy lo Q) args s 0 0 (fun q => lo ≤ q)) (F0 m 203 ls []) := by
  intro n
  induction n with
  | zero => intro S a0 x1 x2 x3 H locs ls h; exact absurd h id
  | succ n ih => intro S a0 x1 x2 x3 H locs ls h Y hl; exact cb_X12_readChannel_203 X ih Y hl h
def wb_X12_readChannel_202  (S : q_S) (a0 : Nat) (x1 : Int32) (x2 : Int32) (xs0 : Int32) (Q : Option Value → q_S → Prop) : Prop := ∃ n61_ : Nat, wl_X12_readChannel_203 n61_ S a0 x1 x2 xs0 Q
set_option maxHeartbeats 4000000 in
set_option maxRecDepth 100000 in
theorem cb_X12_readChannel_202 {p : Program} {l : Launch} {e : Env} {s : State} {m : MethodId} {args : Array Value} {below : List Frame} {meth : Method} {c : Code} {D : va_G} {cy : Nat → ClassId} {lo : Nat}  {S : q_S} {a0 : Nat} {x1 : Int32} {x2 : Int32} {xs0 : Int32} {Q : Option Value → q_S → Prop} {H : Heap} {locs : List Loc} {ls : Array Slot} (X : q_X p s m args meth c RX12 cX12_readChannel 4 none D cy lo)  (Y : q_Y D cy lo s S H locs) (hl : lv_has ls 4 [(0, .ref a0), (1, .int x1), (2, .int x2)]) (h : wb_X12_readChannel_202 S a0 x1 x2 xs0 Q) : W p l e ({ frames := 8, cells := 0, slots := 0, locals := 180 } : Room) s m args below meth c H locs 0 0 (MQ below (q_Q D cy lo Q) args s 0 0 (fun q => lo ≤ q)) (F0 m 202 ls [.int xs0]) := by
  have hx := X.1
  have hb := X.2.1
  unfold wb_X12_readChannel_202 at h
  refine lv_istore_n (i := 3) (lv' := [(3, .int xs0), (0, .ref a0), (1, .int x1), (2, .int x2)]) hx hb dX12_readChannel_202 rfl hl (by decide) (by first | rfl | simp [q_cat, q_catI, q_catJ, q_catR]) (fun ls hl => ?_)
  obtain ⟨n61_, h⟩ := h
  exact cl_X12_readChannel_203 X n61_ _ _ _ _ _ _ _ _ h Y (lv_sub hl [1, 2, 3, 0] rfl)
def wb_X12_readChannel_181  (S : q_S) (a0 : Nat) (x1 : Int32) (Q : Option Value → q_S → Prop) : Prop := q_K S a0 = 13 ∧ (wm_X12_sign S a0 (62 : Int32) (fun r63_ S64_ => ∃ x65_ : Int32, r63_ = some (.int x65_) ∧ (q_K S64_ a0 = 13 ∧ (((¬ (q_I S64_ 2411 a0) = 0 → (wb_X12_readChannel_202 S64_ a0 x1 (0 : Int32) (0 : Int32) Q)) ∧ ((q_I S64_ 2411 a0) = 0 → (wb_X12_readChannel_202 S64_ a0 x1 (0 : Int32) (1 : Int32) Q)))))))
set_option maxHeartbeats 4000000 in
set_option maxRecDepth 100000 in
theorem cb_X12_readChannel_181 {p : Program} {l : Launch} {e : Env} {s : State} {m : MethodId} {args : Array Value} {below : List Frame} {meth : Method} {c : Code} {D : va_G} {cy : Nat → ClassId} {lo : Nat}  {S : q_S} {a0 : Nat} {x1 : Int32} {Q : Option Value → q_S → Prop} {H : Heap} {locs : List Loc} {ls : Array Slot} (X : q_X p s m args meth c RX12 cX12_readChannel 4 none D cy lo)  (Y : q_Y D cy lo s S H locs) (hl : lv_has ls 4 [(0, .ref a0), (1, .int x1)]) (h : wb_X12_readChannel_181 S a0 x1 Q) : W p l e ({ frames := 8, cells := 0, slots := 0, locals := 180 } : Room) s m args below meth c H locs 0 0 (MQ below (q_Q D cy lo Q) args s 0 0 (fun q => lo ≤ q)) (F0 m 181 ls []) := by
  have hx := X.1
  have hb := X.2.1
  unfold wb_X12_readChannel_181 at h
  refine lv_aload_n hx hb dX12_readChannel_181 rfl (lv_at hl 0 rfl) ?_
  refine lv_bipush (v := 62) hx hb dX12_readChannel_182 (by decide) ?_
  obtain ⟨k62_, h⟩ := h
  refine q_callV X Y hl (cm_X12_sign h) mt_X12_sign mi_X12_sign ml_X12_365 (ci := 12) rfl k62_ (by decide) rfl rfl (by first | exact Nat.le_of_ble_eq_true rfl | simp [q_cat, q_catI, q_catJ, q_catR]) ⟨Nat.le_of_ble_eq_true rfl, Nat.le_of_ble_eq_true rfl⟩ ⟨Nat.le_of_ble_eq_true rfl, Nat.le_of_ble_eq_true rfl⟩ dX12_readChannel_184 (fun r63_ S64_ H locs hp Y => ?_)
  obtain ⟨x65_, rfl, h⟩ := hp
  refine W.eq (g2 := F0 m 187 ls [.int x65_]) rfl ?_
  refine lv_pop hx hb dX12_readChannel_187 rfl ?_
  refine lv_iconst (v := 0) hx hb dX12_readChannel_188 (by decide) ?_
  refine lv_istore_n (i := 2) (lv' := [(2, .int (0 : Int32)), (0, .ref a0), (1, .int x1)]) hx hb dX12_readChannel_189 rfl hl (by decide) (by first | rfl | simp [q_cat, q_catI, q_catJ, q_catR]) (fun ls hl => ?_)
  refine lv_aload_n hx hb dX12_readChannel_190 rfl (lv_at hl 1 rfl) ?_
  obtain ⟨k66_, h⟩ := h
  refine q_getI X Y kX12 11 rfl fl_X12_328 k66_ dX12_readChannel_191 ?_
  refine lv_if_ne (tgt := 201) hx hb dX12_readChannel_194 (by decide) (fun c67_ => ?_) (fun c67_ => ?_)
  · replace h := h.1 c67_
    refine lv_iconst (v := 0) hx hb dX12_readChannel_201 (by decide) ?_
    exact cb_X12_readChannel_202 X Y (lv_sub hl [1, 2, 0] rfl) h
  · replace h := h.2 c67_
    refine lv_iconst (v := 1) hx hb dX12_readChannel_197 (by decide) ?_
    refine lv_goto (tgt := 202) hx hb dX12_readChannel_198 (by decide) ?_
    exact cb_X12_readChannel_202 X Y (lv_sub hl [1, 2, 0] rfl) h
def wb_X12_readChannel_114  (S : q_S) (a0 : Nat) (x1 : Int32) (rs0 : Option Nat) (xs1 : Int32) (xs2 : Int32) (Q : Option Value → q_S → Prop) : Prop := ∃ a68_ : Nat, rs0 = some a68_ ∧ (q_K S a68_ = 22 ∧ (vp_in xs1 (q_N S a68_) ∧ (q_K (qs_A S a68_ xs1.toNatClampNeg (vp_nar .boolean xs2)) a0 = 13 ∧ (∃ a73_ : Nat, (q_P (qs_A S a68_ xs1.toNatClampNeg (vp_nar .boolean xs2)) 2458 a0) = some a73_ ∧ (q_K (qs_A S a68_ xs1.toNatClampNeg (vp_nar .boolean xs2)) a73_ = 21 ∧ (vp_in x1 (q_N (qs_A S a68_ xs1.toNatClampNeg (vp_nar .boolean xs2)) a73_) ∧ (wm_X12_sign (qs_A (qs_A S a68_ xs1.toNatClampNeg (vp_nar .boolean xs2)) a73_ x1.toNatClampNeg (0 : Int32)) a0 (123 : Int32) (fun r77_ S78_ => ∃ x79_ : Int32, r77_ = some (.int x79_) ∧ (q_K S78_ a0 = 13 ∧ (wm_X12_end S78_ a0 x1 (27 : Int32) (1 : Int32) (fun r81_ S82_ => ∃ x83_ : Int32, r81_ = some (.int x83_) ∧ (∃ a84_ : Nat, (q_P S78_ 2457 a0) = some a84_ ∧ (q_K S82_ a84_ = 21 ∧ (vp_in x1 (q_N S82_ a84_) ∧ (q_K (qs_A S82_ a84_ x1.toNatClampNeg x83_) a0 = 13 ∧ (((¬ (q_I (qs_A S82_ a84_ x1.toNatClampNeg x83_) 2411 a0) = 0 → (wb_X12_readChannel_181 (qs_A S82_ a84_ x1.toNatClampNeg x83_) a0 x1 Q)) ∧ ((q_I (qs_A S82_ a84_ x1.toNatClampNeg x83_) 2411 a0) = 0 → (∃ a90_ : Nat, (q_P (qs_A S82_ a84_ x1.toNatClampNeg x83_) 2457 a0) = some a90_ ∧ (q_K (qs_A S82_ a84_ x1.toNatClampNeg x83_) a90_ = 21 ∧ (vp_in x1 (q_N (qs_A S82_ a84_ x1.toNatClampNeg x83_) a90_) ∧ (((¬ (q_A (qs_A S82_ a84_ x1.toNatClampNeg x83_) a90_ x1.toNatClampNeg) = (-2 : Int32) → (wb_X12_readChannel_181 (qs_A S82_ a84_ x1.toNatClampNeg x83_) a0 x1 Q)) ∧ ((q_A (qs_A S82_ a84_ x1.toNatClampNeg x83_) a90_ x1.toNatClampNeg) = (-2 : Int32) → (∃ a95_ : Nat, (q_P (qs_A S82_ a84_ x1.toNatClampNeg x83_) 2460 a0) = some a95_ ∧ (q_K (qs_A S82_ a84_ x1.toNatClampNeg x83_) a95_ = 21 ∧ (vp_in (q_I (qs_A S82_ a84_ x1.toNatClampNeg x83_) 2418 a0) (q_N (qs_A S82_ a84_ x1.toNatClampNeg x83_) a95_) ∧ (∀ S99_ : q_S, S99_ = (qs_A (qs_A S82_ a84_ x1.toNatClampNeg x83_) a95_ (q_I (qs_A S82_ a84_ x1.toNatClampNeg x83_) 2418 a0).toNatClampNeg x1) → (wb_X12_readChannel_181 (qs_I S99_ 2418 a0 ((q_I S99_ 2418 a0) + (1 : Int32))) a0 x1 Q)))))))))))))))))))))))))))))
set_option maxHeartbeats 4000000 in
set_option maxRecDepth 100000 in
theorem cb_X12_readChannel_114 {p : Program} {l : Launch} {e : Env} {s : State} {m : MethodId} {args : Array Value} {below : List Frame} {meth : Method} {c : Code} {D : va_G} {cy : Nat → ClassId} {lo : Nat}  {S : q_S} {a0 : Nat} {x1 : Int32} {rs0 : Option Nat} {xs1 : Int32} {xs2 : Int32} {Q : Option Value → q_S → Prop} {H : Heap} {locs : List Loc} {ls : Array Slot} (X : q_X p s m args meth c RX12 cX12_readChannel 4 none D cy lo)  (Y : q_Y D cy lo s S H locs) (hl : lv_has ls 4 [(0, .ref a0), (1, .int x1)]) (h : wb_X12_readChannel_114 S a0 x1 rs0 xs1 xs2 Q) : W p l e ({ frames := 8, cells := 0, slots := 0, locals := 180 } : Room) s m args below meth c H locs 0 0 (MQ below (q_Q D cy lo Q) args s 0 0 (fun q => lo ≤ q)) (F0 m 114 ls [.int xs2, .int xs1, va_rf rs0]) := by
  have hx := X.1
  have hb := X.2.1
  unfold wb_X12_readChannel_114 at h
  obtain ⟨a68_, e69_, h⟩ := h
  refine q_nn [.int xs2, .int xs1] e69_ ?_
  obtain ⟨k70_, h⟩ := h
  obtain ⟨i71_, h⟩ := h
  refine q_zst X Y k70_ i71_ dX12_readChannel_114 (fun H locs Y => ?_)
  refine lv_aload_n hx hb dX12_readChannel_115 rfl (lv_at hl 0 rfl) ?_
  obtain ⟨k72_, h⟩ := h
  refine q_getP X Y kX12 58 rfl fl_X12_127 k72_ rfl dX12_readChannel_116 ?_
  refine lv_iload_n hx hb dX12_readChannel_119 rfl (lv_at hl 1 rfl) ?_
  refine lv_iconst (v := 0) hx hb dX12_readChannel_120 (by decide) ?_
  obtain ⟨a73_, e74_, h⟩ := h
  refine q_nn [.int (0 : Int32), .int x1] e74_ ?_
  obtain ⟨k75_, h⟩ := h
  obtain ⟨i76_, h⟩ := h
  refine q_ist X Y k75_ i76_ dX12_readChannel_121 (fun H locs Y => ?_)
  refine lv_aload_n hx hb dX12_readChannel_122 rfl (lv_at hl 0 rfl) ?_
  refine lv_bipush (v := 123) hx hb dX12_readChannel_123 (by decide) ?_
  refine q_callV X Y hl (cm_X12_sign h) mt_X12_sign mi_X12_sign ml_X12_365 (ci := 12) rfl k72_ (by decide) rfl rfl (by first | exact Nat.le_of_ble_eq_true rfl | simp [q_cat, q_catI, q_catJ, q_catR]) ⟨Nat.le_of_ble_eq_true rfl, Nat.le_of_ble_eq_true rfl⟩ ⟨Nat.le_of_ble_eq_true rfl, Nat.le_of_ble_eq_true rfl⟩ dX12_readChannel_125 (fun r77_ S78_ H locs hp Y => ?_)
  obtain ⟨x79_, rfl, h⟩ := hp
  refine W.eq (g2 := F0 m 128 ls [.int x79_]) rfl ?_
  refine lv_pop hx hb dX12_readChannel_128 rfl ?_
  refine lv_aload_n hx hb dX12_readChannel_129 rfl (lv_at hl 0 rfl) ?_
  obtain ⟨k80_, h⟩ := h
  refine q_getP X Y kX12 57 rfl fl_X12_124 k80_ rfl dX12_readChannel_130 ?_
  refine lv_iload_n hx hb dX12_readChannel_133 rfl (lv_at hl 1 rfl) ?_
  refine lv_aload_n hx hb dX12_readChannel_134 rfl (lv_at hl 0 rfl) ?_
  refine lv_iload_n hx hb dX12_readChannel_135 rfl (lv_at hl 1 rfl) ?_
  refine lv_bipush (v := 27) hx hb dX12_readChannel_136 (by decide) ?_
  refine lv_iconst (v := 1) hx hb dX12_readChannel_138 (by decide) ?_
  refine q_callV X Y hl (cm_X12_end h) mt_X12_end mi_X12_end ml_X12_412 (ci := 12) rfl k80_ (by decide) rfl rfl (by first | exact Nat.le_of_ble_eq_true rfl | simp [q_cat, q_catI, q_catJ, q_catR]) ⟨Nat.le_of_ble_eq_true rfl, Nat.le_of_ble_eq_true rfl⟩ ⟨Nat.le_of_ble_eq_true rfl, Nat.le_of_ble_eq_true rfl⟩ dX12_readChannel_139 (fun r81_ S82_ H locs hp Y => ?_)
  obtain ⟨x83_, rfl, h⟩ := hp
  refine W.eq (g2 := F0 m 142 ls [.int x83_, .int x1, va_rf (q_P S78_ 2457 a0)]) rfl ?_
  obtain ⟨a84_, e85_, h⟩ := h
  refine q_nn [.int x83_, .int x1] e85_ ?_
  obtain ⟨k86_, h⟩ := h
  obtain ⟨i87_, h⟩ := h
  refine q_ist X Y k86_ i87_ dX12_readChannel_142 (fun H locs Y => ?_)
  refine lv_aload_n hx hb dX12_readChannel_143 rfl (lv_at hl 0 rfl) ?_
  obtain ⟨k88_, h⟩ := h
  refine q_getI X Y kX12 11 rfl fl_X12_328 k88_ dX12_readChannel_144 ?_
  refine lv_if_ne (tgt := 181) hx hb dX12_readChannel_147 (by decide) (fun c89_ => ?_) (fun c89_ => ?_)
  · replace h := h.1 c89_
    exact cb_X12_readChannel_181 X Y (lv_sub hl [0, 1] rfl) h
  · replace h := h.2 c89_
    refine lv_aload_n hx hb dX12_readChannel_150 rfl (lv_at hl 0 rfl) ?_
    refine q_getP X Y kX12 57 rfl fl_X12_124 k88_ rfl dX12_readChannel_151 ?_
    refine lv_iload_n hx hb dX12_readChannel_154 rfl (lv_at hl 1 rfl) ?_
    obtain ⟨a90_, e91_, h⟩ := h
    refine q_nn [.int x1] e91_ ?_
    obtain ⟨k92_, h⟩ := h
    obtain ⟨i93_, h⟩ := h
    refine q_ild X Y k92_ i93_ dX12_readChannel_155 ?_
    refine lv_bipush (v := (-2)) hx hb dX12_readChannel_156 (by decide) ?_
    refine lv_icmp_ne (tgt := 181) hx hb dX12_readChannel_158 (by decide) (fun c94_ => ?_) (fun c94_ => ?_)
    · replace h := h.1 c94_
      exact cb_X12_readChannel_181 X Y (lv_sub hl [0, 1] rfl) h
    · replace h := h.2 c94_
      refine lv_aload_n hx hb dX12_readChannel_161 rfl (lv_at hl 0 rfl) ?_
      refine q_getP X Y kX12 60 rfl fl_X12_133 k88_ rfl dX12_readChannel_162 ?_
      refine lv_aload_n hx hb dX12_readChannel_165 rfl (lv_at hl 0 rfl) ?_
      refine q_getI X Y kX12 18 rfl fl_X12_416 k88_ dX12_readChannel_166 ?_
      refine lv_iload_n hx hb dX12_readChannel_169 rfl (lv_at hl 1 rfl) ?_
      obtain ⟨a95_, e96_, h⟩ := h
      refine q_nn [.int x1, .int (q_I (qs_A S82_ a84_ x1.toNatClampNeg x83_) 2418 a0)] e96_ ?_
      obtain ⟨k97_, h⟩ := h
      obtain ⟨i98_, h⟩ := h
      refine q_ist X Y k97_ i98_ dX12_readChannel_170 (fun H locs Y => ?_)
      obtain ⟨S99_, gS99_⟩ : ∃ z : q_S, z = (qs_A (qs_A S82_ a84_ x1.toNatClampNeg x83_) a95_ (q_I (qs_A S82_ a84_ x1.toNatClampNeg x83_) 2418 a0).toNatClampNeg x1) := ⟨_, rfl⟩
      replace Y : q_Y D cy lo s S99_ H locs := by rw [gS99_]; exact Y
      replace h := h S99_ gS99_
      replace k86_ : q_K S99_ a84_ = 21 := by rw [gS99_]; exact k86_
      replace k88_ : q_K S99_ a0 = 13 := by rw [gS99_]; exact k88_
      replace k92_ : q_K S99_ a90_ = 21 := by rw [gS99_]; exact k92_
      replace k97_ : q_K S99_ a95_ = 21 := by rw [gS99_]; exact k97_
      refine lv_aload_n hx hb dX12_readChannel_171 rfl (lv_at hl 0 rfl) ?_
      refine lv_dup hx hb dX12_readChannel_172 rfl ?_
      refine q_getI X Y kX12 18 rfl fl_X12_416 k88_ dX12_readChannel_173 ?_
      refine lv_iconst (v := 1) hx hb dX12_readChannel_176 (by decide) ?_
      refine lv_iadd hx hb dX12_readChannel_177 ?_
      refine q_putI X Y kX12 18 rfl fl_X12_416 k88_ .int rfl ⟨rfl, rfl⟩ rfl dX12_readChannel_178 (fun H locs Y => ?_)
      exact cb_X12_readChannel_181 X Y (lv_sub hl [0, 1] rfl) h
def wb_X12_readChannel_113  (S : q_S) (a0 : Nat) (x1 : Int32) (rs0 : Option Nat) (xs1 : Int32) (Q : Option Value → q_S → Prop) : Prop := wb_X12_readChannel_114 S a0 x1 rs0 xs1 (0 : Int32) Q
set_option maxHeartbeats 4000000 in
set_option maxRecDepth 100000 in
theorem cb_X12_readChannel_113 {p : Program} {l : Launch} {e : Env} {s : State} {m : MethodId} {args : Array Value} {below : List Frame} {meth : Method} {c : Code} {D : va_G} {cy : Nat → ClassId} {lo : Nat}  {S : q_S} {a0 : Nat} {x1 : Int32} {rs0 : Option Nat} {xs1 : Int32} {Q : Option Value → q_S → Prop} {H : Heap} {locs : List Loc} {ls : Array Slot} (X : q_X p s m args meth c RX12 cX12_readChannel 4 none D cy lo)  (Y : q_Y D cy lo s S H locs) (hl : lv_has ls 4 [(0, .ref a0), (1, .int x1)]) (h : wb_X12_readChannel_113 S a0 x1 rs0 xs1 Q) : W p l e ({ frames := 8, cells := 0, slots := 0, locals := 180 } : Room) s m args below meth c H locs 0 0 (MQ below (q_Q D cy lo Q) args s 0 0 (fun q => lo ≤ q)) (F0 m 113 ls [.int xs1, va_rf rs0]) := by
  have hx := X.1
  have hb := X.2.1
  unfold wb_X12_readChannel_113 at h
  refine lv_iconst (v := 0) hx hb dX12_readChannel_113 (by decide) ?_
  exact cb_X12_readChannel_114 X Y (lv_sub hl [0, 1] rfl) h
def wb_X12_readChannel_87  (S : q_S) (a0 : Nat) (x1 : Int32) (rs0 : Option Nat) (xs1 : Int32) (xs2 : Int32) (Q : Option Value → q_S → Prop) : Prop := ∃ a100_ : Nat, rs0 = some a100_ ∧ (q_K S a100_ = 21 ∧ (vp_in xs1 (q_N S a100_) ∧ (q_K (qs_A S a100_ xs1.toNatClampNeg xs2) a0 = 13 ∧ (∃ a105_ : Nat, (q_P (qs_A S a100_ xs1.toNatClampNeg xs2) 2454 a0) = some a105_ ∧ (q_K (qs_A S a100_ xs1.toNatClampNeg xs2) a105_ = 22 ∧ (vp_in x1 (q_N (qs_A S a100_ xs1.toNatClampNeg xs2) a105_) ∧ ((((q_A (qs_A S a100_ xs1.toNatClampNeg xs2) a105_ x1.toNatClampNeg) = 0 → (wb_X12_readChannel_113 (qs_A S a100_ xs1.toNatClampNeg xs2) a0 x1 (q_P (qs_A S a100_ xs1.toNatClampNeg xs2) 2456 a0) x1 Q)) ∧ (¬ (q_A (qs_A S a100_ xs1.toNatClampNeg xs2) a105_ x1.toNatClampNeg) = 0 → (wm_X12_isFifo (qs_A S a100_ xs1.toNatClampNeg xs2) a0 (fun r110_ S111_ => ∃ x112_ : Int32, r110_ = some (.int x112_) ∧ (((x112_ = 0 → (wb_X12_readChannel_113 S111_ a0 x1 (q_P (qs_A S a100_ xs1.toNatClampNeg xs2) 2456 a0) x1 Q)) ∧ (¬ x112_ = 0 → (wb_X12_readChannel_114 S111_ a0 x1 (q_P (qs_A S a100_ xs1.toNatClampNeg xs2) 2456 a0) x1 (1 : Int32) Q)))))))))))))))
set_option maxHeartbeats 4000000 in
set_option maxRecDepth 100000 in
theorem cb_X12_readChannel_87 {p : Program} {l : Launch} {e : Env} {s : State} {m : MethodId} {args : Array Value} {below : List Frame} {meth : Method} {c : Code} {D : va_G} {cy : Nat → ClassId} {lo : Nat}  {S : q_S} {a0 : Nat} {x1 : Int32} {rs0 : Option Nat} {xs1 : Int32} {xs2 : Int32} {Q : Option Value → q_S → Prop} {H : Heap} {locs : List Loc} {ls : Array Slot} (X : q_X p s m args meth c RX12 cX12_readChannel 4 none D cy lo)  (Y : q_Y D cy lo s S H locs) (hl : lv_has ls 4 [(0, .ref a0), (1, .int x1)]) (h : wb_X12_readChannel_87 S a0 x1 rs0 xs1 xs2 Q) : W p l e ({ frames := 8, cells := 0, slots := 0, locals := 180 } : Room) s m args below meth c H locs 0 0 (MQ below (q_Q D cy lo Q) args s 0 0 (fun q => lo ≤ q)) (F0 m 87 ls [.int xs2, .int xs1, va_rf rs0]) := by
  have hx := X.1
  have hb := X.2.1
  unfold wb_X12_readChannel_87 at h
  obtain ⟨a100_, e101_, h⟩ := h
  refine q_nn [.int xs2, .int xs1] e101_ ?_
  obtain ⟨k102_, h⟩ := h
  obtain ⟨i103_, h⟩ := h
  refine q_ist X Y k102_ i103_ dX12_readChannel_87 (fun H locs Y => ?_)
  refine lv_aload_n hx hb dX12_readChannel_88 rfl (lv_at hl 0 rfl) ?_
  obtain ⟨k104_, h⟩ := h
  refine q_getP X Y kX12 56 rfl fl_X12_121 k104_ rfl dX12_readChannel_89 ?_
  refine lv_iload_n hx hb dX12_readChannel_92 rfl (lv_at hl 1 rfl) ?_
  refine lv_aload_n hx hb dX12_readChannel_93 rfl (lv_at hl 0 rfl) ?_
  refine q_getP X Y kX12 54 rfl fl_X12_115 k104_ rfl dX12_readChannel_94 ?_
  refine lv_iload_n hx hb dX12_readChannel_97 rfl (lv_at hl 1 rfl) ?_
  obtain ⟨a105_, e106_, h⟩ := h
  refine q_nn [.int x1] e106_ ?_
  obtain ⟨k107_, h⟩ := h
  obtain ⟨i108_, h⟩ := h
  refine q_zld X Y k107_ i108_ dX12_readChannel_98 ?_
  refine lv_if_eq (tgt := 113) hx hb dX12_readChannel_99 (by decide) (fun c109_ => ?_) (fun c109_ => ?_)
  · replace h := h.1 c109_
    exact cb_X12_readChannel_113 X Y (lv_sub hl [0, 1] rfl) h
  · replace h := h.2 c109_
    refine lv_aload_n hx hb dX12_readChannel_102 rfl (lv_at hl 0 rfl) ?_
    refine q_callV X Y hl (cm_X12_isFifo h) mt_X12_isFifo mi_X12_isFifo ml_X12_391 (ci := 12) rfl k104_ (by decide) rfl rfl (by first | exact Nat.le_of_ble_eq_true rfl | simp [q_cat, q_catI, q_catJ, q_catR]) ⟨Nat.le_of_ble_eq_true rfl, Nat.le_of_ble_eq_true rfl⟩ ⟨Nat.le_of_ble_eq_true rfl, Nat.le_of_ble_eq_true rfl⟩ dX12_readChannel_103 (fun r110_ S111_ H locs hp Y => ?_)
    obtain ⟨x112_, rfl, h⟩ := hp
    refine W.eq (g2 := F0 m 106 ls [.int x112_, .int x1, va_rf (q_P (qs_A S a100_ xs1.toNatClampNeg xs2) 2456 a0)]) rfl ?_
    refine lv_if_eq (tgt := 113) hx hb dX12_readChannel_106 (by decide) (fun c113_ => ?_) (fun c113_ => ?_)
    · replace h := h.1 c113_
      exact cb_X12_readChannel_113 X Y (lv_sub hl [0, 1] rfl) h
    · replace h := h.2 c113_
      refine lv_iconst (v := 1) hx hb dX12_readChannel_109 (by decide) ?_
      refine lv_goto (tgt := 114) hx hb dX12_readChannel_110 (by decide) ?_
      exact cb_X12_readChannel_114 X Y (lv_sub hl [0, 1] rfl) h
def wm_X12_readChannel (S : q_S) (a0 : Nat) (Q : Option Value → q_S → Prop) : Prop := q_K S a0 = 13 ∧ (((¬ (q_I S 2416 a0) = (24 : Int32) → (wm_X12_next S a0 (fun r116_ S117_ => r116_ = none ∧ (q_K S117_ a0 = 13 ∧ (wm_X12_either (qs_I S117_ 2416 a0 ((q_I S117_ 2416 a0) + (1 : Int32))) a0 (25 : Int32) (26 : Int32) (fun r119_ S120_ => ∃ x121_ : Int32, r119_ = some (.int x121_) ∧ (∃ a122_ : Nat, (q_P (qs_I S117_ 2416 a0 ((q_I S117_ 2416 a0) + (1 : Int32))) 2454 a0) = some a122_ ∧ (q_K S120_ a122_ = 22 ∧ (vp_in (q_I S117_ 2416 a0) (q_N S120_ a122_) ∧ (q_K (qs_A S120_ a122_ (q_I S117_ 2416 a0).toNatClampNeg (vp_nar .boolean x121_)) a0 = 13 ∧ (∃ a127_ : Nat, (q_P (qs_A S120_ a122_ (q_I S117_ 2416 a0).toNatClampNeg (vp_nar .boolean x121_)) 2454 a0) = some a127_ ∧ (q_K (qs_A S120_ a122_ (q_I S117_ 2416 a0).toNatClampNeg (vp_nar .boolean x121_)) a127_ = 22 ∧ (vp_in (q_I S117_ 2416 a0) (q_N (qs_A S120_ a122_ (q_I S117_ 2416 a0).toNatClampNeg (vp_nar .boolean x121_)) a127_) ∧ ((((q_A (qs_A S120_ a122_ (q_I S117_ 2416 a0).toNatClampNeg (vp_nar .boolean x121_)) a127_ (q_I S117_ 2416 a0).toNatClampNeg) = 0 → (wm_X12_number (qs_A S120_ a122_ (q_I S117_ 2416 a0).toNatClampNeg (vp_nar .boolean x121_)) a0 (0 : Int32) (100000 : Int32) (1 : Int32) (fun r132_ S133_ => ∃ x134_ : Int32, r132_ = some (.int x134_) ∧ (wb_X12_readChannel_87 S133_ a0 (q_I S117_ 2416 a0) (q_P (qs_A S120_ a122_ (q_I S117_ 2416 a0).toNatClampNeg (vp_nar .boolean x121_)) 2455 a0) (q_I S117_ 2416 a0) x134_ Q)))) ∧ (¬ (q_A (qs_A S120_ a122_ (q_I S117_ 2416 a0).toNatClampNeg (vp_nar .boolean x121_)) a127_ (q_I S117_ 2416 a0).toNatClampNeg) = 0 → (wm_X12_number (qs_A S120_ a122_ (q_I S117_ 2416 a0).toNatClampNeg (vp_nar .boolean x121_)) a0 (1 : Int32) (32 : Int32) (1 : Int32) (fun r135_ S136_ => ∃ x137_ : Int32, r135_ = some (.int x137_) ∧ (wb_X12_readChannel_87 S136_ a0 (q_I S117_ 2416 a0) (q_P (qs_A S120_ a122_ (q_I S117_ 2416 a0).toNatClampNeg (vp_nar .boolean x121_)) 2455 a0) (q_I S117_ 2416 a0) x137_ Q))))))))))))))))))) ∧ ((q_I S 2416 a0) = (24 : Int32) → (wm_X12_fail S a0 (4 : Int32) (q_I S 2407 a0) (fun r138_ S139_ => ∃ x140_ : Int32, r138_ = some (.int x140_) ∧ (Q none S139_))))))
set_option maxHeartbeats 4000000 in
set_option maxRecDepth 100000 in
theorem cm_X12_readChannel {l : Launch} {D : va_G} {cy : Nat → ClassId} {lo : Nat} {S : q_S} {a0 : Nat} {Q : Option Value → q_S → Prop} (h : wm_X12_readChannel S a0 Q) : q_Met l D cy lo yX12_readChannel cX12_readChannel 4 none 8 180 0 0 [.ref a0] S Q := by
  refine q_body (by decide) (by first | exact Nat.le_of_ble_eq_true rfl | simp [lg_sl, q_cat, q_catI, q_catJ, q_catR]) ?_
  intro p e s m below meth c ls X hnm Y hl
  have hx := X.1
  have hb := X.2.1
  have hl : lv_has ls 4 [(0, .ref a0)] := by first | exact hl | simpa [lv_args, q_cat, q_catI, q_catJ, q_catR] using hl
  generalize hargs : ([.ref a0] : List Value).toArray = args at X ⊢
  unfold wm_X12_readChannel at h
  refine lv_aload_n hx hb dX12_readChannel_0 rfl (lv_at hl 0 rfl) ?_
  obtain ⟨k114_, h⟩ := h
  refine q_getI X Y kX12 16 rfl fl_X12_409 k114_ dX12_readChannel_1 ?_
  refine lv_bipush (v := 24) hx hb dX12_readChannel_4 (by decide) ?_
  refine lv_icmp_ne (tgt := 20) hx hb dX12_readChannel_6 (by decide) (fun c115_ => ?_) (fun c115_ => ?_)
  · replace h := h.1 c115_
    refine lv_aload_n hx hb dX12_readChannel_20 rfl (lv_at hl 0 rfl) ?_
    refine q_callV X Y hl (cm_X12_next h) mt_X12_next mi_X12_next ml_X12_341 (ci := 12) rfl k114_ (by decide) rfl rfl (by first | exact Nat.le_of_ble_eq_true rfl | simp [q_cat, q_catI, q_catJ, q_catR]) ⟨Nat.le_of_ble_eq_true rfl, Nat.le_of_ble_eq_true rfl⟩ ⟨Nat.le_of_ble_eq_true rfl, Nat.le_of_ble_eq_true rfl⟩ dX12_readChannel_21 (fun r116_ S117_ H locs hp Y => ?_)
    obtain ⟨rfl, h⟩ := hp
    refine W.eq (g2 := F0 m 24 ls []) rfl ?_
    refine lv_aload_n hx hb dX12_readChannel_24 rfl (lv_at hl 0 rfl) ?_
    obtain ⟨k118_, h⟩ := h
    refine q_getI X Y kX12 16 rfl fl_X12_409 k118_ dX12_readChannel_25 ?_
    refine lv_istore_n (i := 1) (lv' := [(1, .int (q_I S117_ 2416 a0)), (0, .ref a0)]) hx hb dX12_readChannel_28 rfl hl (by decide) (by first | rfl | simp [q_cat, q_catI, q_catJ, q_catR]) (fun ls hl => ?_)
    refine lv_aload_n hx hb dX12_readChannel_29 rfl (lv_at hl 1 rfl) ?_
    refine lv_dup hx hb dX12_readChannel_30 rfl ?_
    refine q_getI X Y kX12 16 rfl fl_X12_409 k118_ dX12_readChannel_31 ?_
    refine lv_iconst (v := 1) hx hb dX12_readChannel_34 (by decide) ?_
    refine lv_iadd hx hb dX12_readChannel_35 ?_
    refine q_putI X Y kX12 16 rfl fl_X12_409 k118_ .int rfl ⟨rfl, rfl⟩ rfl dX12_readChannel_36 (fun H locs Y => ?_)
    refine lv_aload_n hx hb dX12_readChannel_39 rfl (lv_at hl 1 rfl) ?_
    refine q_getP X Y kX12 54 rfl fl_X12_115 k118_ rfl dX12_readChannel_40 ?_
    refine lv_iload_n hx hb dX12_readChannel_43 rfl (lv_at hl 0 rfl) ?_
    refine lv_aload_n hx hb dX12_readChannel_44 rfl (lv_at hl 1 rfl) ?_
    refine lv_bipush (v := 25) hx hb dX12_readChannel_45 (by decide) ?_
    refine lv_bipush (v := 26) hx hb dX12_readChannel_47 (by decide) ?_
    refine q_callV X Y hl (cm_X12_either h) mt_X12_either mi_X12_either ml_X12_395 (ci := 12) rfl k118_ (by decide) rfl rfl (by first | exact Nat.le_of_ble_eq_true rfl | simp [q_cat, q_catI, q_catJ, q_catR]) ⟨Nat.le_of_ble_eq_true rfl, Nat.le_of_ble_eq_true rfl⟩ ⟨Nat.le_of_ble_eq_true rfl, Nat.le_of_ble_eq_true rfl⟩ dX12_readChannel_49 (fun r119_ S120_ H locs hp Y => ?_)
    obtain ⟨x121_, rfl, h⟩ := hp
    refine W.eq (g2 := F0 m 52 ls [.int x121_, .int (q_I S117_ 2416 a0), va_rf (q_P (qs_I S117_ 2416 a0 ((q_I S117_ 2416 a0) + (1 : Int32))) 2454 a0)]) rfl ?_
    obtain ⟨a122_, e123_, h⟩ := h
    refine q_nn [.int x121_, .int (q_I S117_ 2416 a0)] e123_ ?_
    obtain ⟨k124_, h⟩ := h
    obtain ⟨i125_, h⟩ := h
    refine q_zst X Y k124_ i125_ dX12_readChannel_52 (fun H locs Y => ?_)
    refine lv_aload_n hx hb dX12_readChannel_53 rfl (lv_at hl 1 rfl) ?_
    obtain ⟨k126_, h⟩ := h
    refine q_getP X Y kX12 55 rfl fl_X12_118 k126_ rfl dX12_readChannel_54 ?_
    refine lv_iload_n hx hb dX12_readChannel_57 rfl (lv_at hl 0 rfl) ?_
    refine lv_aload_n hx hb dX12_readChannel_58 rfl (lv_at hl 1 rfl) ?_
    refine q_getP X Y kX12 54 rfl fl_X12_115 k126_ rfl dX12_readChannel_59 ?_
    refine lv_iload_n hx hb dX12_readChannel_62 rfl (lv_at hl 0 rfl) ?_
    obtain ⟨a127_, e128_, h⟩ := h
    refine q_nn [.int (q_I S117_ 2416 a0)] e128_ ?_
    obtain ⟨k129_, h⟩ := h
    obtain ⟨i130_, h⟩ := h
    refine q_zld X Y k129_ i130_ dX12_readChannel_63 ?_
    refine lv_if_eq (tgt := 78) hx hb dX12_readChannel_64 (by decide) (fun c131_ => ?_) (fun c131_ => ?_)
    · replace h := h.1 c131_
      refine lv_aload_n hx hb dX12_readChannel_78 rfl (lv_at hl 1 rfl) ?_
      refine lv_iconst (v := 0) hx hb dX12_readChannel_79 (by decide) ?_
      refine lv_ldcw (v := 100000) hx hb X.2.2.2.1 (X.2.2.2.2.1 _ co_X12_401) dX12_readChannel_80 ?_
      refine lv_iconst (v := 1) hx hb dX12_readChannel_83 (by decide) ?_
      refine q_callV X Y hl (cm_X12_number h) mt_X12_number mi_X12_number ml_X12_371 (ci := 12) rfl k126_ (by decide) rfl rfl (by first | exact Nat.le_of_ble_eq_true rfl | simp [q_cat, q_catI, q_catJ, q_catR]) ⟨Nat.le_of_ble_eq_true rfl, Nat.le_of_ble_eq_true rfl⟩ ⟨Nat.le_of_ble_eq_true rfl, Nat.le_of_ble_eq_true rfl⟩ dX12_readChannel_84 (fun r132_ S133_ H locs hp Y => ?_)
      obtain ⟨x134_, rfl, h⟩ := hp
      refine W.eq (g2 := F0 m 87 ls [.int x134_, .int (q_I S117_ 2416 a0), va_rf (q_P (qs_A S120_ a122_ (q_I S117_ 2416 a0).toNatClampNeg (vp_nar .boolean x121_)) 2455 a0)]) rfl ?_
      exact cb_X12_readChannel_87 X Y (lv_sub hl [1, 0] rfl) h
    · replace h := h.2 c131_
      refine lv_aload_n hx hb dX12_readChannel_67 rfl (lv_at hl 1 rfl) ?_
      refine lv_iconst (v := 1) hx hb dX12_readChannel_68 (by decide) ?_
      refine lv_bipush (v := 32) hx hb dX12_readChannel_69 (by decide) ?_
      refine lv_iconst (v := 1) hx hb dX12_readChannel_71 (by decide) ?_
      refine q_callV X Y hl (cm_X12_number h) mt_X12_number mi_X12_number ml_X12_371 (ci := 12) rfl k126_ (by decide) rfl rfl (by first | exact Nat.le_of_ble_eq_true rfl | simp [q_cat, q_catI, q_catJ, q_catR]) ⟨Nat.le_of_ble_eq_true rfl, Nat.le_of_ble_eq_true rfl⟩ ⟨Nat.le_of_ble_eq_true rfl, Nat.le_of_ble_eq_true rfl⟩ dX12_readChannel_72 (fun r135_ S136_ H locs hp Y => ?_)
      obtain ⟨x137_, rfl, h⟩ := hp
      refine W.eq (g2 := F0 m 75 ls [.int x137_, .int (q_I S117_ 2416 a0), va_rf (q_P (qs_A S120_ a122_ (q_I S117_ 2416 a0).toNatClampNeg (vp_nar .boolean x121_)) 2455 a0)]) rfl ?_
      refine lv_goto (tgt := 87) hx hb dX12_readChannel_75 (by decide) ?_
      exact cb_X12_readChannel_87 X Y (lv_sub hl [1, 0] rfl) h
  · replace h := h.2 c115_
    refine lv_aload_n hx hb dX12_readChannel_9 rfl (lv_at hl 0 rfl) ?_
    refine lv_iconst (v := 4) hx hb dX12_readChannel_10 (by decide) ?_
    refine lv_aload_n hx hb dX12_readChannel_11 rfl (lv_at hl 0 rfl) ?_
    refine q_getI X Y kX12 7 rfl fl_X12_287 k114_ dX12_readChannel_12 ?_
    refine q_callV X Y hl (cm_X12_fail h) mt_X12_fail mi_X12_fail ml_X12_331 (ci := 12) rfl k114_ (by decide) rfl rfl (by first | exact Nat.le_of_ble_eq_true rfl | simp [q_cat, q_catI, q_catJ, q_catR]) ⟨Nat.le_of_ble_eq_true rfl, Nat.le_of_ble_eq_true rfl⟩ ⟨Nat.le_of_ble_eq_true rfl, Nat.le_of_ble_eq_true rfl⟩ dX12_readChannel_15 (fun r138_ S139_ H locs hp Y => ?_)
    obtain ⟨x140_, rfl, h⟩ := hp
    refine W.eq (g2 := F0 m 18 ls [.int x140_]) rfl ?_
    refine lv_pop hx hb dX12_readChannel_18 rfl ?_
    exact q_vret X Y (Nat.le_refl _) (Nat.le_refl _) h dX12_readChannel_19
-- X12_readFrame
theorem fl_X12_422 : Cond.fieldLink RX12 422 "PartitionWorksModel" "windows" "I" ∈ q_G := q_tb (i := 1751) (by decide +kernel) (by decide +kernel)
theorem fl_X12_425 : Cond.fieldLink RX12 425 "PartitionWorksModel" "frameTicks" "I" ∈ q_G := q_tb (i := 1754) (by decide +kernel) (by decide +kernel)
theorem dX12_readFrame_0 : decode cX12_readFrame 0 = .ok (.aload_n 0, 1) := by decide +kernel
theorem dX12_readFrame_1 : decode cX12_readFrame 1 = .ok (.bipush 29, 2) := by decide +kernel
theorem dX12_readFrame_3 : decode cX12_readFrame 3 = .ok (.invokevirtual 368, 3) := by decide +kernel
theorem dX12_readFrame_6 : decode cX12_readFrame 6 = .ok (.pop, 1) := by decide +kernel
theorem dX12_readFrame_7 : decode cX12_readFrame 7 = .ok (.aload_n 0, 1) := by decide +kernel
theorem dX12_readFrame_8 : decode cX12_readFrame 8 = .ok (.bipush 123, 2) := by decide +kernel
theorem dX12_readFrame_10 : decode cX12_readFrame 10 = .ok (.invokevirtual 365, 3) := by decide +kernel
theorem dX12_readFrame_13 : decode cX12_readFrame 13 = .ok (.pop, 1) := by decide +kernel
theorem dX12_readFrame_14 : decode cX12_readFrame 14 = .ok (.aload_n 0, 1) := by decide +kernel
theorem dX12_readFrame_15 : decode cX12_readFrame 15 = .ok (.getfield 328, 3) := by decide +kernel
theorem dX12_readFrame_18 : decode cX12_readFrame 18 = .ok (.ifCond .ne 142, 3) := by decide +kernel
theorem dX12_readFrame_21 : decode cX12_readFrame 21 = .ok (.aload_n 0, 1) := by decide +kernel
theorem dX12_readFrame_22 : decode cX12_readFrame 22 = .ok (.getfield 422, 3) := by decide +kernel
theorem dX12_readFrame_25 : decode cX12_readFrame 25 = .ok (.ifCond .eq 12, 3) := by decide +kernel
theorem dX12_readFrame_28 : decode cX12_readFrame 28 = .ok (.aload_n 0, 1) := by decide +kernel
theorem dX12_readFrame_29 : decode cX12_readFrame 29 = .ok (.bipush 125, 2) := by decide +kernel
theorem dX12_readFrame_31 : decode cX12_readFrame 31 = .ok (.invokevirtual 335, 3) := by decide +kernel
theorem dX12_readFrame_34 : decode cX12_readFrame 34 = .ok (.ifCond .ne 126, 3) := by decide +kernel
theorem dX12_readFrame_37 : decode cX12_readFrame 37 = .ok (.aload_n 0, 1) := by decide +kernel
theorem dX12_readFrame_38 : decode cX12_readFrame 38 = .ok (.getfield 422, 3) := by decide +kernel
theorem dX12_readFrame_41 : decode cX12_readFrame 41 = .ok (.bipush 24, 2) := by decide +kernel
theorem dX12_readFrame_43 : decode cX12_readFrame 43 = .ok (.if_icmp .ne 10, 3) := by decide +kernel
theorem dX12_readFrame_46 : decode cX12_readFrame 46 = .ok (.aload_n 0, 1) := by decide +kernel
theorem dX12_readFrame_47 : decode cX12_readFrame 47 = .ok (.iconst 4, 1) := by decide +kernel
theorem dX12_readFrame_48 : decode cX12_readFrame 48 = .ok (.invokevirtual 338, 3) := by decide +kernel
theorem dX12_readFrame_51 : decode cX12_readFrame 51 = .ok (.pop, 1) := by decide +kernel
theorem dX12_readFrame_52 : decode cX12_readFrame 52 = .ok (.return_, 1) := by decide +kernel
theorem dX12_readFrame_53 : decode cX12_readFrame 53 = .ok (.aload_n 0, 1) := by decide +kernel
theorem dX12_readFrame_54 : decode cX12_readFrame 54 = .ok (.getfield 297, 3) := by decide +kernel
theorem dX12_readFrame_57 : decode cX12_readFrame 57 = .ok (.iconst 1, 1) := by decide +kernel
theorem dX12_readFrame_58 : decode cX12_readFrame 58 = .ok (.if_icmp .eq 10, 3) := by decide +kernel
theorem dX12_readFrame_61 : decode cX12_readFrame 61 = .ok (.aload_n 0, 1) := by decide +kernel
theorem dX12_readFrame_62 : decode cX12_readFrame 62 = .ok (.iconst 1, 1) := by decide +kernel
theorem dX12_readFrame_63 : decode cX12_readFrame 63 = .ok (.invokevirtual 338, 3) := by decide +kernel
theorem dX12_readFrame_66 : decode cX12_readFrame 66 = .ok (.pop, 1) := by decide +kernel
theorem dX12_readFrame_67 : decode cX12_readFrame 67 = .ok (.return_, 1) := by decide +kernel
theorem dX12_readFrame_68 : decode cX12_readFrame 68 = .ok (.aload_n 0, 1) := by decide +kernel
theorem dX12_readFrame_69 : decode cX12_readFrame 69 = .ok (.invokevirtual 362, 3) := by decide +kernel
theorem dX12_readFrame_72 : decode cX12_readFrame 72 = .ok (.istore_n 1, 1) := by decide +kernel
theorem dX12_readFrame_73 : decode cX12_readFrame 73 = .ok (.iload_n 1, 1) := by decide +kernel
theorem dX12_readFrame_74 : decode cX12_readFrame 74 = .ok (.iconst (-1), 1) := by decide +kernel
theorem dX12_readFrame_75 : decode cX12_readFrame 75 = .ok (.if_icmp .ne 15, 3) := by decide +kernel
theorem dX12_readFrame_78 : decode cX12_readFrame 78 = .ok (.aload_n 0, 1) := by decide +kernel
theorem dX12_readFrame_79 : decode cX12_readFrame 79 = .ok (.bipush 6, 2) := by decide +kernel
theorem dX12_readFrame_81 : decode cX12_readFrame 81 = .ok (.aload_n 0, 1) := by decide +kernel
theorem dX12_readFrame_82 : decode cX12_readFrame 82 = .ok (.getfield 287, 3) := by decide +kernel
theorem dX12_readFrame_85 : decode cX12_readFrame 85 = .ok (.invokevirtual 331, 3) := by decide +kernel
theorem dX12_readFrame_88 : decode cX12_readFrame 88 = .ok (.pop, 1) := by decide +kernel
theorem dX12_readFrame_89 : decode cX12_readFrame 89 = .ok (.return_, 1) := by decide +kernel
theorem dX12_readFrame_90 : decode cX12_readFrame 90 = .ok (.aload_n 0, 1) := by decide +kernel
theorem dX12_readFrame_91 : decode cX12_readFrame 91 = .ok (.getfield 136, 3) := by decide +kernel
theorem dX12_readFrame_94 : decode cX12_readFrame 94 = .ok (.aload_n 0, 1) := by decide +kernel
theorem dX12_readFrame_95 : decode cX12_readFrame 95 = .ok (.getfield 422, 3) := by decide +kernel
theorem dX12_readFrame_98 : decode cX12_readFrame 98 = .ok (.iload_n 1, 1) := by decide +kernel
theorem dX12_readFrame_99 : decode cX12_readFrame 99 = .ok (.iastore, 1) := by decide +kernel
theorem dX12_readFrame_100 : decode cX12_readFrame 100 = .ok (.aload_n 0, 1) := by decide +kernel
theorem dX12_readFrame_101 : decode cX12_readFrame 101 = .ok (.invokevirtual 341, 3) := by decide +kernel
theorem dX12_readFrame_104 : decode cX12_readFrame 104 = .ok (.aload_n 0, 1) := by decide +kernel
theorem dX12_readFrame_105 : decode cX12_readFrame 105 = .ok (.getfield 139, 3) := by decide +kernel
theorem dX12_readFrame_108 : decode cX12_readFrame 108 = .ok (.aload_n 0, 1) := by decide +kernel
theorem dX12_readFrame_109 : decode cX12_readFrame 109 = .ok (.getfield 422, 3) := by decide +kernel
theorem dX12_readFrame_112 : decode cX12_readFrame 112 = .ok (.aload_n 0, 1) := by decide +kernel
theorem dX12_readFrame_113 : decode cX12_readFrame 113 = .ok (.iconst 1, 1) := by decide +kernel
theorem dX12_readFrame_114 : decode cX12_readFrame 114 = .ok (.sipush 200, 3) := by decide +kernel
theorem dX12_readFrame_117 : decode cX12_readFrame 117 = .ok (.iconst 1, 1) := by decide +kernel
theorem dX12_readFrame_118 : decode cX12_readFrame 118 = .ok (.invokevirtual 371, 3) := by decide +kernel
theorem dX12_readFrame_121 : decode cX12_readFrame 121 = .ok (.iastore, 1) := by decide +kernel
theorem dX12_readFrame_122 : decode cX12_readFrame 122 = .ok (.aload_n 0, 1) := by decide +kernel
theorem dX12_readFrame_123 : decode cX12_readFrame 123 = .ok (.dup, 1) := by decide +kernel
theorem dX12_readFrame_124 : decode cX12_readFrame 124 = .ok (.getfield 425, 3) := by decide +kernel
theorem dX12_readFrame_127 : decode cX12_readFrame 127 = .ok (.aload_n 0, 1) := by decide +kernel
theorem dX12_readFrame_128 : decode cX12_readFrame 128 = .ok (.getfield 139, 3) := by decide +kernel
theorem dX12_readFrame_131 : decode cX12_readFrame 131 = .ok (.aload_n 0, 1) := by decide +kernel
theorem dX12_readFrame_132 : decode cX12_readFrame 132 = .ok (.getfield 422, 3) := by decide +kernel
theorem dX12_readFrame_135 : decode cX12_readFrame 135 = .ok (.iaload, 1) := by decide +kernel
theorem dX12_readFrame_136 : decode cX12_readFrame 136 = .ok (.iadd, 1) := by decide +kernel
theorem dX12_readFrame_137 : decode cX12_readFrame 137 = .ok (.putfield 425, 3) := by decide +kernel
theorem dX12_readFrame_140 : decode cX12_readFrame 140 = .ok (.aload_n 0, 1) := by decide +kernel
theorem dX12_readFrame_141 : decode cX12_readFrame 141 = .ok (.dup, 1) := by decide +kernel
theorem dX12_readFrame_142 : decode cX12_readFrame 142 = .ok (.getfield 422, 3) := by decide +kernel
theorem dX12_readFrame_145 : decode cX12_readFrame 145 = .ok (.iconst 1, 1) := by decide +kernel
theorem dX12_readFrame_146 : decode cX12_readFrame 146 = .ok (.iadd, 1) := by decide +kernel
theorem dX12_readFrame_147 : decode cX12_readFrame 147 = .ok (.putfield 422, 3) := by decide +kernel
theorem dX12_readFrame_150 : decode cX12_readFrame 150 = .ok (.aload_n 0, 1) := by decide +kernel
theorem dX12_readFrame_151 : decode cX12_readFrame 151 = .ok (.bipush 59, 2) := by decide +kernel
theorem dX12_readFrame_153 : decode cX12_readFrame 153 = .ok (.invokevirtual 365, 3) := by decide +kernel
theorem dX12_readFrame_156 : decode cX12_readFrame 156 = .ok (.pop, 1) := by decide +kernel
theorem dX12_readFrame_157 : decode cX12_readFrame 157 = .ok (.goto (-143), 3) := by decide +kernel
theorem dX12_readFrame_160 : decode cX12_readFrame 160 = .ok (.aload_n 0, 1) := by decide +kernel
theorem dX12_readFrame_161 : decode cX12_readFrame 161 = .ok (.bipush 125, 2) := by decide +kernel
theorem dX12_readFrame_163 : decode cX12_readFrame 163 = .ok (.invokevirtual 365, 3) := by decide +kernel
theorem dX12_readFrame_166 : decode cX12_readFrame 166 = .ok (.pop, 1) := by decide +kernel
theorem dX12_readFrame_167 : decode cX12_readFrame 167 = .ok (.aload_n 0, 1) := by decide +kernel
theorem dX12_readFrame_168 : decode cX12_readFrame 168 = .ok (.getfield 328, 3) := by decide +kernel
theorem dX12_readFrame_171 : decode cX12_readFrame 171 = .ok (.ifCond .ne 16, 3) := by decide +kernel
theorem dX12_readFrame_174 : decode cX12_readFrame 174 = .ok (.aload_n 0, 1) := by decide +kernel
theorem dX12_readFrame_175 : decode cX12_readFrame 175 = .ok (.getfield 297, 3) := by decide +kernel
theorem dX12_readFrame_178 : decode cX12_readFrame 178 = .ok (.ifCond .eq 9, 3) := by decide +kernel
theorem dX12_readFrame_181 : decode cX12_readFrame 181 = .ok (.aload_n 0, 1) := by decide +kernel
theorem dX12_readFrame_182 : decode cX12_readFrame 182 = .ok (.iconst 1, 1) := by decide +kernel
theorem dX12_readFrame_183 : decode cX12_readFrame 183 = .ok (.invokevirtual 338, 3) := by decide +kernel
theorem dX12_readFrame_186 : decode cX12_readFrame 186 = .ok (.pop, 1) := by decide +kernel
theorem dX12_readFrame_187 : decode cX12_readFrame 187 = .ok (.return_, 1) := by decide +kernel
def wb_X12_readFrame_37 (B14 : q_S → Nat → Prop) (S : q_S) (a0 : Nat) (Q : Option Value → q_S → Prop) : Prop := q_K S a0 = 13 ∧ (((¬ (q_I S 2417 a0) = (24 : Int32) → ((((q_I S 2406 a0) = (1 : Int32) → (wm_X12_partitionNamed S a0 (fun r4_ S5_ => ∃ x6_ : Int32, r4_ = some (.int x6_) ∧ (((¬ x6_ = (-1 : Int32) → (q_K S5_ a0 = 13 ∧ (∃ a9_ : Nat, (q_P S5_ 2461 a0) = some a9_ ∧ (q_K S5_ a9_ = 21 ∧ (vp_in (q_I S5_ 2417 a0) (q_N S5_ a9_) ∧ (wm_X12_next (qs_A S5_ a9_ (q_I S5_ 2417 a0).toNatClampNeg x6_) a0 (fun r13_ S14_ => r13_ = none ∧ (q_K S14_ a0 = 13 ∧ (wm_X12_number S14_ a0 (1 : Int32) (200 : Int32) (1 : Int32) (fun r16_ S17_ => ∃ x18_ : Int32, r16_ = some (.int x18_) ∧ (∃ a19_ : Nat, (q_P S14_ 2462 a0) = some a19_ ∧ (q_K S17_ a19_ = 21 ∧ (vp_in (q_I S14_ 2417 a0) (q_N S17_ a19_) ∧ (q_K (qs_A S17_ a19_ (q_I S14_ 2417 a0).toNatClampNeg x18_) a0 = 13 ∧ (∃ a24_ : Nat, (q_P (qs_A S17_ a19_ (q_I S14_ 2417 a0).toNatClampNeg x18_) 2462 a0) = some a24_ ∧ (q_K (qs_A S17_ a19_ (q_I S14_ 2417 a0).toNatClampNeg x18_) a24_ = 21 ∧ (vp_in (q_I (qs_A S17_ a19_ (q_I S14_ 2417 a0).toNatClampNeg x18_) 2417 a0) (q_N (qs_A S17_ a19_ (q_I S14_ 2417 a0).toNatClampNeg x18_) a24_) ∧ (∀ S28_ : q_S, S28_ = (qs_I (qs_A S17_ a19_ (q_I S14_ 2417 a0).toNatClampNeg x18_) 2420 a0 ((q_I (qs_A S17_ a19_ (q_I S14_ 2417 a0).toNatClampNeg x18_) 2420 a0) + (q_A (qs_A S17_ a19_ (q_I S14_ 2417 a0).toNatClampNeg x18_) a24_ (q_I (qs_A S17_ a19_ (q_I S14_ 2417 a0).toNatClampNeg x18_) 2417 a0).toNatClampNeg))) → (wm_X12_sign (qs_I S28_ 2417 a0 ((q_I S28_ 2417 a0) + (1 : Int32))) a0 (59 : Int32) (fun r29_ S30_ => ∃ x31_ : Int32, r29_ = some (.int x31_) ∧ (B14 S30_ a0))))))))))))))))))))) ∧ (x6_ = (-1 : Int32) → (q_K S5_ a0 = 13 ∧ (wm_X12_fail S5_ a0 (6 : Int32) (q_I S5_ 2407 a0) (fun r33_ S34_ => ∃ x35_ : Int32, r33_ = some (.int x35_) ∧ (Q none S34_)))))))))) ∧ (¬ (q_I S 2406 a0) = (1 : Int32) → (wm_X12_failHere S a0 (1 : Int32) (fun r36_ S37_ => ∃ x38_ : Int32, r36_ = some (.int x38_) ∧ (Q none S37_))))))) ∧ ((q_I S 2417 a0) = (24 : Int32) → (wm_X12_failHere S a0 (4 : Int32) (fun r39_ S40_ => ∃ x41_ : Int32, r39_ = some (.int x41_) ∧ (Q none S40_))))))
set_option maxHeartbeats 4000000 in
set_option maxRecDepth 100000 in
theorem cb_X12_readFrame_37 {p : Program} {l : Launch} {e : Env} {s : State} {m : MethodId} {args : Array Value} {below : List Frame} {meth : Method} {c : Code} {D : va_G} {cy : Nat → ClassId} {lo : Nat} {B14 : q_S → Nat → Prop} {S : q_S} {a0 : Nat} {Q : Option Value → q_S → Prop} {H : Heap} {locs : List Loc} {ls : Array Slot} (X : q_X p s m args meth c RX12 cX12_readFrame 2 none D cy lo) (hB14 : ∀ (S : q_S) (a0 : Nat) (H : Heap) (locs : List Loc) (ls : Array Slot), B14 S a0 → q_Y D cy lo s S H locs → lv_has ls 2 [(0, .ref a0)] → W p l e ({ frames := 7, cells := 0, slots := 0, locals := 157 } : Room) s m args below meth c H locs 0 0 (MQ below (q_Q D cy lo Q) args s 0 0 (fun q => lo ≤ q)) (F0 m 14 ls [])) (Y : q_Y D cy lo s S H locs) (hl : lv_has ls 2 [(0, .ref a0)]) (h : wb_X12_readFrame_37 B14 S a0 Q) : W p l e ({ frames := 7, cells := 0, slots := 0, locals := 157 } : Room) s m args below meth c H locs 0 0 (MQ below (q_Q D cy lo Q) args s 0 0 (fun q => lo ≤ q)) (F0 m 37 ls []) := by
  have hx := X.1
  have hb := X.2.1
  unfold wb_X12_readFrame_37 at h
  refine lv_aload_n hx hb dX12_readFrame_37 rfl (lv_at hl 0 rfl) ?_
  obtain ⟨k1_, h⟩ := h
  refine q_getI X Y kX12 17 rfl fl_X12_422 k1_ dX12_readFrame_38 ?_
  refine lv_bipush (v := 24) hx hb dX12_readFrame_41 (by decide) ?_
  refine lv_icmp_ne (tgt := 53) hx hb dX12_readFrame_43 (by decide) (fun c2_ => ?_) (fun c2_ => ?_)
  · replace h := h.1 c2_
    refine lv_aload_n hx hb dX12_readFrame_53 rfl (lv_at hl 0 rfl) ?_
    refine q_getI X Y kX12 6 rfl fl_X12_297 k1_ dX12_readFrame_54 ?_
    refine lv_iconst (v := 1) hx hb dX12_readFrame_57 (by decide) ?_
    refine lv_icmp_eq (tgt := 68) hx hb dX12_readFrame_58 (by decide) (fun c3_ => ?_) (fun c3_ => ?_)
    · replace h := h.1 c3_
      refine lv_aload_n hx hb dX12_readFrame_68 rfl (lv_at hl 0 rfl) ?_
      refine q_callV X Y hl (cm_X12_partitionNamed h) mt_X12_partitionNamed mi_X12_partitionNamed ml_X12_362 (ci := 12) rfl k1_ (by decide) rfl rfl (by first | exact Nat.le_of_ble_eq_true rfl | simp [q_cat, q_catI, q_catJ, q_catR]) ⟨Nat.le_of_ble_eq_true rfl, Nat.le_of_ble_eq_true rfl⟩ ⟨Nat.le_of_ble_eq_true rfl, Nat.le_of_ble_eq_true rfl⟩ dX12_readFrame_69 (fun r4_ S5_ H locs hp Y => ?_)
      obtain ⟨x6_, rfl, h⟩ := hp
      refine W.eq (g2 := F0 m 72 ls [.int x6_]) rfl ?_
      refine lv_istore_n (i := 1) (lv' := [(1, .int x6_), (0, .ref a0)]) hx hb dX12_readFrame_72 rfl hl (by decide) (by first | rfl | simp [q_cat, q_catI, q_catJ, q_catR]) (fun ls hl => ?_)
      refine lv_iload_n hx hb dX12_readFrame_73 rfl (lv_at hl 0 rfl) ?_
      refine lv_iconst (v := (-1)) hx hb dX12_readFrame_74 (by decide) ?_
      refine lv_icmp_ne (tgt := 90) hx hb dX12_readFrame_75 (by decide) (fun c7_ => ?_) (fun c7_ => ?_)
      · replace h := h.1 c7_
        refine lv_aload_n hx hb dX12_readFrame_90 rfl (lv_at hl 1 rfl) ?_
        obtain ⟨k8_, h⟩ := h
        refine q_getP X Y kX12 61 rfl fl_X12_136 k8_ rfl dX12_readFrame_91 ?_
        refine lv_aload_n hx hb dX12_readFrame_94 rfl (lv_at hl 1 rfl) ?_
        refine q_getI X Y kX12 17 rfl fl_X12_422 k8_ dX12_readFrame_95 ?_
        refine lv_iload_n hx hb dX12_readFrame_98 rfl (lv_at hl 0 rfl) ?_
        obtain ⟨a9_, e10_, h⟩ := h
        refine q_nn [.int x6_, .int (q_I S5_ 2417 a0)] e10_ ?_
        obtain ⟨k11_, h⟩ := h
        obtain ⟨i12_, h⟩ := h
        refine q_ist X Y k11_ i12_ dX12_readFrame_99 (fun H locs Y => ?_)
        refine lv_aload_n hx hb dX12_readFrame_100 rfl (lv_at hl 1 rfl) ?_
        refine q_callV X Y hl (cm_X12_next h) mt_X12_next mi_X12_next ml_X12_341 (ci := 12) rfl k8_ (by decide) rfl rfl (by first | exact Nat.le_of_ble_eq_true rfl | simp [q_cat, q_catI, q_catJ, q_catR]) ⟨Nat.le_of_ble_eq_true rfl, Nat.le_of_ble_eq_true rfl⟩ ⟨Nat.le_of_ble_eq_true rfl, Nat.le_of_ble_eq_true rfl⟩ dX12_readFrame_101 (fun r13_ S14_ H locs hp Y => ?_)
        obtain ⟨rfl, h⟩ := hp
        refine W.eq (g2 := F0 m 104 ls []) rfl ?_
        refine lv_aload_n hx hb dX12_readFrame_104 rfl (lv_at hl 1 rfl) ?_
        obtain ⟨k15_, h⟩ := h
        refine q_getP X Y kX12 62 rfl fl_X12_139 k15_ rfl dX12_readFrame_105 ?_
        refine lv_aload_n hx hb dX12_readFrame_108 rfl (lv_at hl 1 rfl) ?_
        refine q_getI X Y kX12 17 rfl fl_X12_422 k15_ dX12_readFrame_109 ?_
        refine lv_aload_n hx hb dX12_readFrame_112 rfl (lv_at hl 1 rfl) ?_
        refine lv_iconst (v := 1) hx hb dX12_readFrame_113 (by decide) ?_
        refine lv_sipush (v := 200) hx hb dX12_readFrame_114 (by decide) ?_
        refine lv_iconst (v := 1) hx hb dX12_readFrame_117 (by decide) ?_
        refine q_callV X Y hl (cm_X12_number h) mt_X12_number mi_X12_number ml_X12_371 (ci := 12) rfl k15_ (by decide) rfl rfl (by first | exact Nat.le_of_ble_eq_true rfl | simp [q_cat, q_catI, q_catJ, q_catR]) ⟨Nat.le_of_ble_eq_true rfl, Nat.le_of_ble_eq_true rfl⟩ ⟨Nat.le_of_ble_eq_true rfl, Nat.le_of_ble_eq_true rfl⟩ dX12_readFrame_118 (fun r16_ S17_ H locs hp Y => ?_)
        obtain ⟨x18_, rfl, h⟩ := hp
        refine W.eq (g2 := F0 m 121 ls [.int x18_, .int (q_I S14_ 2417 a0), va_rf (q_P S14_ 2462 a0)]) rfl ?_
        obtain ⟨a19_, e20_, h⟩ := h
        refine q_nn [.int x18_, .int (q_I S14_ 2417 a0)] e20_ ?_
        obtain ⟨k21_, h⟩ := h
        obtain ⟨i22_, h⟩ := h
        refine q_ist X Y k21_ i22_ dX12_readFrame_121 (fun H locs Y => ?_)
        refine lv_aload_n hx hb dX12_readFrame_122 rfl (lv_at hl 1 rfl) ?_
        refine lv_dup hx hb dX12_readFrame_123 rfl ?_
        obtain ⟨k23_, h⟩ := h
        refine q_getI X Y kX12 20 rfl fl_X12_425 k23_ dX12_readFrame_124 ?_
        refine lv_aload_n hx hb dX12_readFrame_127 rfl (lv_at hl 1 rfl) ?_
        refine q_getP X Y kX12 62 rfl fl_X12_139 k23_ rfl dX12_readFrame_128 ?_
        refine lv_aload_n hx hb dX12_readFrame_131 rfl (lv_at hl 1 rfl) ?_
        refine q_getI X Y kX12 17 rfl fl_X12_422 k23_ dX12_readFrame_132 ?_
        obtain ⟨a24_, e25_, h⟩ := h
        refine q_nn [.int (q_I (qs_A S17_ a19_ (q_I S14_ 2417 a0).toNatClampNeg x18_) 2417 a0)] e25_ ?_
        obtain ⟨k26_, h⟩ := h
        obtain ⟨i27_, h⟩ := h
        refine q_ild X Y k26_ i27_ dX12_readFrame_135 ?_
        refine lv_iadd hx hb dX12_readFrame_136 ?_
        refine q_putI X Y kX12 20 rfl fl_X12_425 k23_ .int rfl ⟨rfl, rfl⟩ rfl dX12_readFrame_137 (fun H locs Y => ?_)
        obtain ⟨S28_, gS28_⟩ : ∃ z : q_S, z = (qs_I (qs_A S17_ a19_ (q_I S14_ 2417 a0).toNatClampNeg x18_) 2420 a0 ((q_I (qs_A S17_ a19_ (q_I S14_ 2417 a0).toNatClampNeg x18_) 2420 a0) + (q_A (qs_A S17_ a19_ (q_I S14_ 2417 a0).toNatClampNeg x18_) a24_ (q_I (qs_A S17_ a19_ (q_I S14_ 2417 a0).toNatClampNeg x18_) 2417 a0).toNatClampNeg))) := ⟨_, rfl⟩
        replace Y : q_Y D cy lo s S28_ H locs := by rw [gS28_]; exact Y
        replace h := h S28_ gS28_
        replace k21_ : q_K S28_ a19_ = 21 := by rw [gS28_]; exact k21_
        replace k23_ : q_K S28_ a0 = 13 := by rw [gS28_]; exact k23_
        replace k26_ : q_K S28_ a24_ = 21 := by rw [gS28_]; exact k26_
        refine lv_aload_n hx hb dX12_readFrame_140 rfl (lv_at hl 1 rfl) ?_
        refine lv_dup hx hb dX12_readFrame_141 rfl ?_
        refine q_getI X Y kX12 17 rfl fl_X12_422 k23_ dX12_readFrame_142 ?_
        refine lv_iconst (v := 1) hx hb dX12_readFrame_145 (by decide) ?_
        refine lv_iadd hx hb dX12_readFrame_146 ?_
        refine q_putI X Y kX12 17 rfl fl_X12_422 k23_ .int rfl ⟨rfl, rfl⟩ rfl dX12_readFrame_147 (fun H locs Y => ?_)
        refine lv_aload_n hx hb dX12_readFrame_150 rfl (lv_at hl 1 rfl) ?_
        refine lv_bipush (v := 59) hx hb dX12_readFrame_151 (by decide) ?_
        refine q_callV X Y hl (cm_X12_sign h) mt_X12_sign mi_X12_sign ml_X12_365 (ci := 12) rfl k23_ (by decide) rfl rfl (by first | exact Nat.le_of_ble_eq_true rfl | simp [q_cat, q_catI, q_catJ, q_catR]) ⟨Nat.le_of_ble_eq_true rfl, Nat.le_of_ble_eq_true rfl⟩ ⟨Nat.le_of_ble_eq_true rfl, Nat.le_of_ble_eq_true rfl⟩ dX12_readFrame_153 (fun r29_ S30_ H locs hp Y => ?_)
        obtain ⟨x31_, rfl, h⟩ := hp
        refine W.eq (g2 := F0 m 156 ls [.int x31_]) rfl ?_
        refine lv_pop hx hb dX12_readFrame_156 rfl ?_
        refine lv_goto (tgt := 14) hx hb dX12_readFrame_157 (by decide) ?_
        exact hB14 _ _ _ _ _ h Y (lv_sub hl [1] rfl)
      · replace h := h.2 c7_
        refine lv_aload_n hx hb dX12_readFrame_78 rfl (lv_at hl 1 rfl) ?_
        refine lv_bipush (v := 6) hx hb dX12_readFrame_79 (by decide) ?_
        refine lv_aload_n hx hb dX12_readFrame_81 rfl (lv_at hl 1 rfl) ?_
        obtain ⟨k32_, h⟩ := h
        refine q_getI X Y kX12 7 rfl fl_X12_287 k32_ dX12_readFrame_82 ?_
        refine q_callV X Y hl (cm_X12_fail h) mt_X12_fail mi_X12_fail ml_X12_331 (ci := 12) rfl k32_ (by decide) rfl rfl (by first | exact Nat.le_of_ble_eq_true rfl | simp [q_cat, q_catI, q_catJ, q_catR]) ⟨Nat.le_of_ble_eq_true rfl, Nat.le_of_ble_eq_true rfl⟩ ⟨Nat.le_of_ble_eq_true rfl, Nat.le_of_ble_eq_true rfl⟩ dX12_readFrame_85 (fun r33_ S34_ H locs hp Y => ?_)
        obtain ⟨x35_, rfl, h⟩ := hp
        refine W.eq (g2 := F0 m 88 ls [.int x35_]) rfl ?_
        refine lv_pop hx hb dX12_readFrame_88 rfl ?_
        exact q_vret X Y (Nat.le_refl _) (Nat.le_refl _) h dX12_readFrame_89
    · replace h := h.2 c3_
      refine lv_aload_n hx hb dX12_readFrame_61 rfl (lv_at hl 0 rfl) ?_
      refine lv_iconst (v := 1) hx hb dX12_readFrame_62 (by decide) ?_
      refine q_callV X Y hl (cm_X12_failHere h) mt_X12_failHere mi_X12_failHere ml_X12_338 (ci := 12) rfl k1_ (by decide) rfl rfl (by first | exact Nat.le_of_ble_eq_true rfl | simp [q_cat, q_catI, q_catJ, q_catR]) ⟨Nat.le_of_ble_eq_true rfl, Nat.le_of_ble_eq_true rfl⟩ ⟨Nat.le_of_ble_eq_true rfl, Nat.le_of_ble_eq_true rfl⟩ dX12_readFrame_63 (fun r36_ S37_ H locs hp Y => ?_)
      obtain ⟨x38_, rfl, h⟩ := hp
      refine W.eq (g2 := F0 m 66 ls [.int x38_]) rfl ?_
      refine lv_pop hx hb dX12_readFrame_66 rfl ?_
      exact q_vret X Y (Nat.le_refl _) (Nat.le_refl _) h dX12_readFrame_67
  · replace h := h.2 c2_
    refine lv_aload_n hx hb dX12_readFrame_46 rfl (lv_at hl 0 rfl) ?_
    refine lv_iconst (v := 4) hx hb dX12_readFrame_47 (by decide) ?_
    refine q_callV X Y hl (cm_X12_failHere h) mt_X12_failHere mi_X12_failHere ml_X12_338 (ci := 12) rfl k1_ (by decide) rfl rfl (by first | exact Nat.le_of_ble_eq_true rfl | simp [q_cat, q_catI, q_catJ, q_catR]) ⟨Nat.le_of_ble_eq_true rfl, Nat.le_of_ble_eq_true rfl⟩ ⟨Nat.le_of_ble_eq_true rfl, Nat.le_of_ble_eq_true rfl⟩ dX12_readFrame_48 (fun r39_ S40_ H locs hp Y => ?_)
    obtain ⟨x41_, rfl, h⟩ := hp
    refine W.eq (g2 := F0 m 51 ls [.int x41_]) rfl ?_
    refine lv_pop hx hb dX12_readFrame_51 rfl ?_
    exact q_vret X Y (Nat.le_refl _) (Nat.le_refl _) h dX12_readFrame_52
def wb_X12_readFrame_187  (S : q_S) (Q : Option Value → q_S → Prop) : Prop := Q none S
set_option maxHeartbeats 4000000 in
set_option maxRecDepth 100000 in
theorem cb_X12_readFrame_187 {p : Program} {l : Launch} {e : Env} {s : State} {m : MethodId} {args : Array Value} {below : List Frame} {meth : Method} {c : Code} {D : va_G} {cy : Nat → ClassId} {lo : Nat}  {S : q_S} {Q : Option Value → q_S → Prop} {H : Heap} {locs : List Loc} {ls : Array Slot} (X : q_X p s m args meth c RX12 cX12_readFrame 2 none D cy lo)  (Y : q_Y D cy lo s S H locs) (hl : lv_has ls 2 []) (h : wb_X12_readFrame_187 S Q) : W p l e ({ frames := 7, cells := 0, slots := 0, locals := 157 } : Room) s m args below meth c H locs 0 0 (MQ below (q_Q D cy lo Q) args s 0 0 (fun q => lo ≤ q)) (F0 m 187 ls []) := by
  have hx := X.1
  have hb := X.2.1
  unfold wb_X12_readFrame_187 at h
  exact q_vret X Y (Nat.le_refl _) (Nat.le_refl _) h dX12_readFrame_187
def wb_X12_readFrame_160  (S : q_S) (a0 : Nat) (Q : Option Value → q_S → Prop) : Prop := q_K S a0 = 13 ∧ (wm_X12_sign S a0 (125 : Int32) (fun r43_ S44_ => ∃ x45_ : Int32, r43_ = some (.int x45_) ∧ (q_K S44_ a0 = 13 ∧ (((¬ (q_I S44_ 2411 a0) = 0 → (wb_X12_readFrame_187 S44_ Q)) ∧ ((q_I S44_ 2411 a0) = 0 → ((((q_I S44_ 2406 a0) = 0 → (wb_X12_readFrame_187 S44_ Q)) ∧ (¬ (q_I S44_ 2406 a0) = 0 → (wm_X12_failHere S44_ a0 (1 : Int32) (fun r49_ S50_ => ∃ x51_ : Int32, r49_ = some (.int x51_) ∧ (wb_X12_readFrame_187 S50_ Q))))))))))))
set_option maxHeartbeats 4000000 in
set_option maxRecDepth 100000 in
theorem cb_X12_readFrame_160 {p : Program} {l : Launch} {e : Env} {s : State} {m : MethodId} {args : Array Value} {below : List Frame} {meth : Method} {c : Code} {D : va_G} {cy : Nat → ClassId} {lo : Nat}  {S : q_S} {a0 : Nat} {Q : Option Value → q_S → Prop} {H : Heap} {locs : List Loc} {ls : Array Slot} (X : q_X p s m args meth c RX12 cX12_readFrame 2 none D cy lo)  (Y : q_Y D cy lo s S H locs) (hl : lv_has ls 2 [(0, .ref a0)]) (h : wb_X12_readFrame_160 S a0 Q) : W p l e ({ frames := 7, cells := 0, slots := 0, locals := 157 } : Room) s m args below meth c H locs 0 0 (MQ below (q_Q D cy lo Q) args s 0 0 (fun q => lo ≤ q)) (F0 m 160 ls []) := by
  have hx := X.1
  have hb := X.2.1
  unfold wb_X12_readFrame_160 at h
  refine lv_aload_n hx hb dX12_readFrame_160 rfl (lv_at hl 0 rfl) ?_
  refine lv_bipush (v := 125) hx hb dX12_readFrame_161 (by decide) ?_
  obtain ⟨k42_, h⟩ := h
  refine q_callV X Y hl (cm_X12_sign h) mt_X12_sign mi_X12_sign ml_X12_365 (ci := 12) rfl k42_ (by decide) rfl rfl (by first | exact Nat.le_of_ble_eq_true rfl | simp [q_cat, q_catI, q_catJ, q_catR]) ⟨Nat.le_of_ble_eq_true rfl, Nat.le_of_ble_eq_true rfl⟩ ⟨Nat.le_of_ble_eq_true rfl, Nat.le_of_ble_eq_true rfl⟩ dX12_readFrame_163 (fun r43_ S44_ H locs hp Y => ?_)
  obtain ⟨x45_, rfl, h⟩ := hp
  refine W.eq (g2 := F0 m 166 ls [.int x45_]) rfl ?_
  refine lv_pop hx hb dX12_readFrame_166 rfl ?_
  refine lv_aload_n hx hb dX12_readFrame_167 rfl (lv_at hl 0 rfl) ?_
  obtain ⟨k46_, h⟩ := h
  refine q_getI X Y kX12 11 rfl fl_X12_328 k46_ dX12_readFrame_168 ?_
  refine lv_if_ne (tgt := 187) hx hb dX12_readFrame_171 (by decide) (fun c47_ => ?_) (fun c47_ => ?_)
  · replace h := h.1 c47_
    exact cb_X12_readFrame_187 X Y (lv_sub hl [] rfl) h
  · replace h := h.2 c47_
    refine lv_aload_n hx hb dX12_readFrame_174 rfl (lv_at hl 0 rfl) ?_
    refine q_getI X Y kX12 6 rfl fl_X12_297 k46_ dX12_readFrame_175 ?_
    refine lv_if_eq (tgt := 187) hx hb dX12_readFrame_178 (by decide) (fun c48_ => ?_) (fun c48_ => ?_)
    · replace h := h.1 c48_
      exact cb_X12_readFrame_187 X Y (lv_sub hl [] rfl) h
    · replace h := h.2 c48_
      refine lv_aload_n hx hb dX12_readFrame_181 rfl (lv_at hl 0 rfl) ?_
      refine lv_iconst (v := 1) hx hb dX12_readFrame_182 (by decide) ?_
      refine q_callV X Y hl (cm_X12_failHere h) mt_X12_failHere mi_X12_failHere ml_X12_338 (ci := 12) rfl k46_ (by decide) rfl rfl (by first | exact Nat.le_of_ble_eq_true rfl | simp [q_cat, q_catI, q_catJ, q_catR]) ⟨Nat.le_of_ble_eq_true rfl, Nat.le_of_ble_eq_true rfl⟩ ⟨Nat.le_of_ble_eq_true rfl, Nat.le_of_ble_eq_true rfl⟩ dX12_readFrame_183 (fun r49_ S50_ H locs hp Y => ?_)
      obtain ⟨x51_, rfl, h⟩ := hp
      refine W.eq (g2 := F0 m 186 ls [.int x51_]) rfl ?_
      refine lv_pop hx hb dX12_readFrame_186 rfl ?_
      exact cb_X12_readFrame_187 X Y (lv_sub hl [] rfl) h
def wb_X12_readFrame_14 (B14 : q_S → Nat → Prop) (S : q_S) (a0 : Nat) (Q : Option Value → q_S → Prop) : Prop := q_K S a0 = 13 ∧ (((¬ (q_I S 2411 a0) = 0 → (wb_X12_readFrame_160 S a0 Q)) ∧ ((q_I S 2411 a0) = 0 → ((((q_I S 2417 a0) = 0 → (wb_X12_readFrame_37 B14 S a0 Q)) ∧ (¬ (q_I S 2417 a0) = 0 → (wm_X12_isSign S a0 (125 : Int32) (fun r55_ S56_ => ∃ x57_ : Int32, r55_ = some (.int x57_) ∧ (((¬ x57_ = 0 → (wb_X12_readFrame_160 S56_ a0 Q)) ∧ (x57_ = 0 → (wb_X12_readFrame_37 B14 S56_ a0 Q))))))))))))
set_option maxHeartbeats 4000000 in
set_option maxRecDepth 100000 in
theorem cb_X12_readFrame_14 {p : Program} {l : Launch} {e : Env} {s : State} {m : MethodId} {args : Array Value} {below : List Frame} {meth : Method} {c : Code} {D : va_G} {cy : Nat → ClassId} {lo : Nat} {B14 : q_S → Nat → Prop} {S : q_S} {a0 : Nat} {Q : Option Value → q_S → Prop} {H : Heap} {locs : List Loc} {ls : Array Slot} (X : q_X p s m args meth c RX12 cX12_readFrame 2 none D cy lo) (hB14 : ∀ (S : q_S) (a0 : Nat) (H : Heap) (locs : List Loc) (ls : Array Slot), B14 S a0 → q_Y D cy lo s S H locs → lv_has ls 2 [(0, .ref a0)] → W p l e ({ frames := 7, cells := 0, slots := 0, locals := 157 } : Room) s m args below meth c H locs 0 0 (MQ below (q_Q D cy lo Q) args s 0 0 (fun q => lo ≤ q)) (F0 m 14 ls [])) (Y : q_Y D cy lo s S H locs) (hl : lv_has ls 2 [(0, .ref a0)]) (h : wb_X12_readFrame_14 B14 S a0 Q) : W p l e ({ frames := 7, cells := 0, slots := 0, locals := 157 } : Room) s m args below meth c H locs 0 0 (MQ below (q_Q D cy lo Q) args s 0 0 (fun q => lo ≤ q)) (F0 m 14 ls []) := by
  have hx := X.1
  have hb := X.2.1
  unfold wb_X12_readFrame_14 at h
  refine lv_aload_n hx hb dX12_readFrame_14 rfl (lv_at hl 0 rfl) ?_
  obtain ⟨k52_, h⟩ := h
  refine q_getI X Y kX12 11 rfl fl_X12_328 k52_ dX12_readFrame_15 ?_
  refine lv_if_ne (tgt := 160) hx hb dX12_readFrame_18 (by decide) (fun c53_ => ?_) (fun c53_ => ?_)
  · replace h := h.1 c53_
    exact cb_X12_readFrame_160 X Y (lv_sub hl [0] rfl) h
  · replace h := h.2 c53_
    refine lv_aload_n hx hb dX12_readFrame_21 rfl (lv_at hl 0 rfl) ?_
    refine q_getI X Y kX12 17 rfl fl_X12_422 k52_ dX12_readFrame_22 ?_
    refine lv_if_eq (tgt := 37) hx hb dX12_readFrame_25 (by decide) (fun c54_ => ?_) (fun c54_ => ?_)
    · replace h := h.1 c54_
      exact cb_X12_readFrame_37 X hB14 Y (lv_sub hl [0] rfl) h
    · replace h := h.2 c54_
      refine lv_aload_n hx hb dX12_readFrame_28 rfl (lv_at hl 0 rfl) ?_
      refine lv_bipush (v := 125) hx hb dX12_readFrame_29 (by decide) ?_
      refine q_callV X Y hl (cm_X12_isSign h) mt_X12_isSign mi_X12_isSign ml_X12_335 (ci := 12) rfl k52_ (by decide) rfl rfl (by first | exact Nat.le_of_ble_eq_true rfl | simp [q_cat, q_catI, q_catJ, q_catR]) ⟨Nat.le_of_ble_eq_true rfl, Nat.le_of_ble_eq_true rfl⟩ ⟨Nat.le_of_ble_eq_true rfl, Nat.le_of_ble_eq_true rfl⟩ dX12_readFrame_31 (fun r55_ S56_ H locs hp Y => ?_)
      obtain ⟨x57_, rfl, h⟩ := hp
      refine W.eq (g2 := F0 m 34 ls [.int x57_]) rfl ?_
      refine lv_if_ne (tgt := 160) hx hb dX12_readFrame_34 (by decide) (fun c58_ => ?_) (fun c58_ => ?_)
      · replace h := h.1 c58_
        exact cb_X12_readFrame_160 X Y (lv_sub hl [0] rfl) h
      · replace h := h.2 c58_
        exact cb_X12_readFrame_37 X hB14 Y (lv_sub hl [0] rfl) h
def wl_X12_readFrame_14  : Nat → q_S → Nat → (Option Value → q_S → Prop) → Prop
  | 0, _, _, _ => False
  | n + 1, S, a0, Q => wb_X12_readFrame_14 (fun S a0 => wl_X12_readFrame_14 n S a0 Q) S a0 Q
set_option maxHeartbeats 4000000 in
set_option maxRecDepth 100000 in
theorem cl_X12_readFrame_14 {p : Program} {l : Launch} {e : Env} {s : State} {m : MethodId} {args : Array Value} {below : List Frame} {meth : Method} {c : Code} {D : va_G} {cy : Nat → ClassId} {lo : Nat}  {Q : Option Value → q_S → Prop} (X : q_X p s m args meth c RX12 cX12_readFrame 2 none D cy lo)  : ∀ (n : Nat) (S : q_S) (a0 : Nat) (H : Heap) (locs : List Loc) (ls : Array Slot), wl_X12_readFrame_14 n S a0 Q → q_Y D cy lo s S H locs → lv_has ls 2 [(0, .ref a0)] → W p l e ({ frames := 7, cells := 0, slots := 0, locals := 157 } : Room) s m args below meth c H locs 0 0 (MQ below (q_Q D cy lo Q) args s 0 0 (fun q => lo ≤ q)) (F0 m 14 ls []) := by
  intro n
  induction n with
  | zero => intro S a0 H locs ls h; exact absurd h id
  | succ n ih => intro S a0 H locs ls h Y hl; exact cb_X12_readFrame_14 X ih Y hl h
def wm_X12_readFrame (S : q_S) (a0 : Nat) (Q : Option Value → q_S → Prop) : Prop := q_K S a0 = 13 ∧ (wm_X12_key S a0 (29 : Int32) (fun r60_ S61_ => ∃ x62_ : Int32, r60_ = some (.int x62_) ∧ (q_K S61_ a0 = 13 ∧ (wm_X12_sign S61_ a0 (123 : Int32) (fun r64_ S65_ => ∃ x66_ : Int32, r64_ = some (.int x66_) ∧ (∃ n67_ : Nat, wl_X12_readFrame_14 n67_ S65_ a0 Q))))))
set_option maxHeartbeats 4000000 in
set_option maxRecDepth 100000 in
theorem cm_X12_readFrame {l : Launch} {D : va_G} {cy : Nat → ClassId} {lo : Nat} {S : q_S} {a0 : Nat} {Q : Option Value → q_S → Prop} (h : wm_X12_readFrame S a0 Q) : q_Met l D cy lo yX12_readFrame cX12_readFrame 2 none 7 157 0 0 [.ref a0] S Q := by
  refine q_body (by decide) (by first | exact Nat.le_of_ble_eq_true rfl | simp [lg_sl, q_cat, q_catI, q_catJ, q_catR]) ?_
  intro p e s m below meth c ls X hnm Y hl
  have hx := X.1
  have hb := X.2.1
  have hl : lv_has ls 2 [(0, .ref a0)] := by first | exact hl | simpa [lv_args, q_cat, q_catI, q_catJ, q_catR] using hl
  generalize hargs : ([.ref a0] : List Value).toArray = args at X ⊢
  unfold wm_X12_readFrame at h
  refine lv_aload_n hx hb dX12_readFrame_0 rfl (lv_at hl 0 rfl) ?_
  refine lv_bipush (v := 29) hx hb dX12_readFrame_1 (by decide) ?_
  obtain ⟨k59_, h⟩ := h
  refine q_callV X Y hl (cm_X12_key h) mt_X12_key mi_X12_key ml_X12_368 (ci := 12) rfl k59_ (by decide) rfl rfl (by first | exact Nat.le_of_ble_eq_true rfl | simp [q_cat, q_catI, q_catJ, q_catR]) ⟨Nat.le_of_ble_eq_true rfl, Nat.le_of_ble_eq_true rfl⟩ ⟨Nat.le_of_ble_eq_true rfl, Nat.le_of_ble_eq_true rfl⟩ dX12_readFrame_3 (fun r60_ S61_ H locs hp Y => ?_)
  obtain ⟨x62_, rfl, h⟩ := hp
  refine W.eq (g2 := F0 m 6 ls [.int x62_]) rfl ?_
  refine lv_pop hx hb dX12_readFrame_6 rfl ?_
  refine lv_aload_n hx hb dX12_readFrame_7 rfl (lv_at hl 0 rfl) ?_
  refine lv_bipush (v := 123) hx hb dX12_readFrame_8 (by decide) ?_
  obtain ⟨k63_, h⟩ := h
  refine q_callV X Y hl (cm_X12_sign h) mt_X12_sign mi_X12_sign ml_X12_365 (ci := 12) rfl k63_ (by decide) rfl rfl (by first | exact Nat.le_of_ble_eq_true rfl | simp [q_cat, q_catI, q_catJ, q_catR]) ⟨Nat.le_of_ble_eq_true rfl, Nat.le_of_ble_eq_true rfl⟩ ⟨Nat.le_of_ble_eq_true rfl, Nat.le_of_ble_eq_true rfl⟩ dX12_readFrame_10 (fun r64_ S65_ H locs hp Y => ?_)
  obtain ⟨x66_, rfl, h⟩ := hp
  refine W.eq (g2 := F0 m 13 ls [.int x66_]) rfl ?_
  refine lv_pop hx hb dX12_readFrame_13 rfl ?_
  obtain ⟨n67_, h⟩ := h
  exact cl_X12_readFrame_14 X n67_ _ _ _ _ _ h Y (lv_sub hl [0] rfl)
-- X12_feed
theorem dX12_feed_0 : decode cX12_feed 0 = .ok (.aload_n 0, 1) := by decide +kernel
theorem dX12_feed_1 : decode cX12_feed 1 = .ok (.iconst 0, 1) := by decide +kernel
theorem dX12_feed_2 : decode cX12_feed 2 = .ok (.putfield 278, 3) := by decide +kernel
theorem dX12_feed_5 : decode cX12_feed 5 = .ok (.iconst 0, 1) := by decide +kernel
theorem dX12_feed_6 : decode cX12_feed 6 = .ok (.istore 6, 2) := by decide +kernel
theorem dX12_feed_8 : decode cX12_feed 8 = .ok (.iload 6, 2) := by decide +kernel
theorem dX12_feed_10 : decode cX12_feed 10 = .ok (.bipush 20, 2) := by decide +kernel
theorem dX12_feed_12 : decode cX12_feed 12 = .ok (.if_icmp .ge 78, 3) := by decide +kernel
theorem dX12_feed_15 : decode cX12_feed 15 = .ok (.iload 6, 2) := by decide +kernel
theorem dX12_feed_17 : decode cX12_feed 17 = .ok (.iconst 4, 1) := by decide +kernel
theorem dX12_feed_18 : decode cX12_feed 18 = .ok (.if_icmp .ge 7, 3) := by decide +kernel
theorem dX12_feed_21 : decode cX12_feed 21 = .ok (.iload_n 1, 1) := by decide +kernel
theorem dX12_feed_22 : decode cX12_feed 22 = .ok (.goto 39, 3) := by decide +kernel
theorem dX12_feed_25 : decode cX12_feed 25 = .ok (.iload 6, 2) := by decide +kernel
theorem dX12_feed_27 : decode cX12_feed 27 = .ok (.bipush 8, 2) := by decide +kernel
theorem dX12_feed_29 : decode cX12_feed 29 = .ok (.if_icmp .ge 7, 3) := by decide +kernel
theorem dX12_feed_32 : decode cX12_feed 32 = .ok (.iload_n 2, 1) := by decide +kernel
theorem dX12_feed_33 : decode cX12_feed 33 = .ok (.goto 28, 3) := by decide +kernel
theorem dX12_feed_36 : decode cX12_feed 36 = .ok (.iload 6, 2) := by decide +kernel
theorem dX12_feed_38 : decode cX12_feed 38 = .ok (.bipush 12, 2) := by decide +kernel
theorem dX12_feed_40 : decode cX12_feed 40 = .ok (.if_icmp .ge 7, 3) := by decide +kernel
theorem dX12_feed_43 : decode cX12_feed 43 = .ok (.iload_n 3, 1) := by decide +kernel
theorem dX12_feed_44 : decode cX12_feed 44 = .ok (.goto 17, 3) := by decide +kernel
theorem dX12_feed_47 : decode cX12_feed 47 = .ok (.iload 6, 2) := by decide +kernel
theorem dX12_feed_49 : decode cX12_feed 49 = .ok (.bipush 16, 2) := by decide +kernel
theorem dX12_feed_51 : decode cX12_feed 51 = .ok (.if_icmp .ge 8, 3) := by decide +kernel
theorem dX12_feed_54 : decode cX12_feed 54 = .ok (.iload 4, 2) := by decide +kernel
theorem dX12_feed_56 : decode cX12_feed 56 = .ok (.goto 5, 3) := by decide +kernel
theorem dX12_feed_59 : decode cX12_feed 59 = .ok (.iload 5, 2) := by decide +kernel
theorem dX12_feed_61 : decode cX12_feed 61 = .ok (.istore 7, 2) := by decide +kernel
theorem dX12_feed_63 : decode cX12_feed 63 = .ok (.aload_n 0, 1) := by decide +kernel
theorem dX12_feed_64 : decode cX12_feed 64 = .ok (.getfield 7, 3) := by decide +kernel
theorem dX12_feed_67 : decode cX12_feed 67 = .ok (.iload 6, 2) := by decide +kernel
theorem dX12_feed_69 : decode cX12_feed 69 = .ok (.iload 7, 2) := by decide +kernel
theorem dX12_feed_71 : decode cX12_feed 71 = .ok (.bipush 24, 2) := by decide +kernel
theorem dX12_feed_73 : decode cX12_feed 73 = .ok (.bipush 8, 2) := by decide +kernel
theorem dX12_feed_75 : decode cX12_feed 75 = .ok (.iload 6, 2) := by decide +kernel
theorem dX12_feed_77 : decode cX12_feed 77 = .ok (.iconst 4, 1) := by decide +kernel
theorem dX12_feed_78 : decode cX12_feed 78 = .ok (.irem, 1) := by decide +kernel
theorem dX12_feed_79 : decode cX12_feed 79 = .ok (.imul, 1) := by decide +kernel
theorem dX12_feed_80 : decode cX12_feed 80 = .ok (.isub, 1) := by decide +kernel
theorem dX12_feed_81 : decode cX12_feed 81 = .ok (.ishr, 1) := by decide +kernel
theorem dX12_feed_82 : decode cX12_feed 82 = .ok (.i2b, 1) := by decide +kernel
theorem dX12_feed_83 : decode cX12_feed 83 = .ok (.bastore, 1) := by decide +kernel
theorem dX12_feed_84 : decode cX12_feed 84 = .ok (.iinc 6 1, 3) := by decide +kernel
theorem dX12_feed_87 : decode cX12_feed 87 = .ok (.goto (-79), 3) := by decide +kernel
theorem dX12_feed_90 : decode cX12_feed 90 = .ok (.return_, 1) := by decide +kernel
def wb_X12_feed_61 (B8 : q_S → Nat → Int32 → Int32 → Int32 → Int32 → Int32 → Int32 → Prop) (S : q_S) (a0 : Nat) (x1 : Int32) (x2 : Int32) (x3 : Int32) (x4 : Int32) (x5 : Int32) (x6 : Int32) (xs0 : Int32) (Q : Option Value → q_S → Prop) : Prop := q_K S a0 = 13 ∧ (∃ a2_ : Nat, (q_P S 2401 a0) = some a2_ ∧ (q_K S a2_ = 20 ∧ (vp_in x6 (q_N S a2_) ∧ (B8 (qs_A S a2_ x6.toNatClampNeg (vp_nar .byte ((xs0 >>> (((24 : Int32) - ((8 : Int32) * (x6 - x6 / (4 : Int32) * (4 : Int32)))) &&& 31)).toInt8.toInt32))) a0 x1 x2 x3 x4 x5 (x6 + 1)))))
set_option maxHeartbeats 4000000 in
set_option maxRecDepth 100000 in
theorem cb_X12_feed_61 {p : Program} {l : Launch} {e : Env} {s : State} {m : MethodId} {args : Array Value} {below : List Frame} {meth : Method} {c : Code} {D : va_G} {cy : Nat → ClassId} {lo : Nat} {B8 : q_S → Nat → Int32 → Int32 → Int32 → Int32 → Int32 → Int32 → Prop} {S : q_S} {a0 : Nat} {x1 : Int32} {x2 : Int32} {x3 : Int32} {x4 : Int32} {x5 : Int32} {x6 : Int32} {xs0 : Int32} {Q : Option Value → q_S → Prop} {H : Heap} {locs : List Loc} {ls : Array Slot} (X : q_X p s m args meth c RX12 cX12_feed 8 none D cy lo) (hB8 : ∀ (S : q_S) (a0 : Nat) (x1 : Int32) (x2 : Int32) (x3 : Int32) (x4 : Int32) (x5 : Int32) (x6 : Int32) (H : Heap) (locs : List Loc) (ls : Array Slot), B8 S a0 x1 x2 x3 x4 x5 x6 → q_Y D cy lo s S H locs → lv_has ls 8 [(0, .ref a0), (1, .int x1), (2, .int x2), (3, .int x3), (4, .int x4), (5, .int x5), (6, .int x6)] → W p l e ({ frames := 0, cells := 0, slots := 0, locals := 0 } : Room) s m args below meth c H locs 0 0 (MQ below (q_Q D cy lo Q) args s 0 0 (fun q => lo ≤ q)) (F0 m 8 ls [])) (Y : q_Y D cy lo s S H locs) (hl : lv_has ls 8 [(0, .ref a0), (1, .int x1), (2, .int x2), (3, .int x3), (4, .int x4), (5, .int x5), (6, .int x6)]) (h : wb_X12_feed_61 B8 S a0 x1 x2 x3 x4 x5 x6 xs0 Q) : W p l e ({ frames := 0, cells := 0, slots := 0, locals := 0 } : Room) s m args below meth c H locs 0 0 (MQ below (q_Q D cy lo Q) args s 0 0 (fun q => lo ≤ q)) (F0 m 61 ls [.int xs0]) := by
  have hx := X.1
  have hb := X.2.1
  unfold wb_X12_feed_61 at h
  refine lv_istore (i := 7) (lv' := [(7, .int xs0), (0, .ref a0), (1, .int x1), (2, .int x2), (3, .int x3), (4, .int x4), (5, .int x5), (6, .int x6)]) hx hb dX12_feed_61 hl (by decide) (by first | rfl | simp [q_cat, q_catI, q_catJ, q_catR]) (fun ls hl => ?_)
  refine lv_aload_n hx hb dX12_feed_63 rfl (lv_at hl 1 rfl) ?_
  obtain ⟨k1_, h⟩ := h
  refine q_getP X Y kX12 1 rfl fl_X12_7 k1_ rfl dX12_feed_64 ?_
  refine lv_iload hx hb dX12_feed_67 (lv_at hl 7 rfl) ?_
  refine lv_iload hx hb dX12_feed_69 (lv_at hl 0 rfl) ?_
  refine lv_bipush (v := 24) hx hb dX12_feed_71 (by decide) ?_
  refine lv_bipush (v := 8) hx hb dX12_feed_73 (by decide) ?_
  refine lv_iload hx hb dX12_feed_75 (lv_at hl 7 rfl) ?_
  refine lv_iconst (v := 4) hx hb dX12_feed_77 (by decide) ?_
  refine lv_irem hx hb dX12_feed_78 (by decide) ?_
  refine lv_imul hx hb dX12_feed_79 ?_
  refine lv_isub hx hb dX12_feed_80 ?_
  refine lv_ishr hx hb dX12_feed_81 ?_
  refine lv_i2b hx hb dX12_feed_82 rfl ?_
  obtain ⟨a2_, e3_, h⟩ := h
  refine q_nn [.int ((xs0 >>> (((24 : Int32) - ((8 : Int32) * (x6 - x6 / (4 : Int32) * (4 : Int32)))) &&& 31)).toInt8.toInt32), .int x6] e3_ ?_
  obtain ⟨k4_, h⟩ := h
  obtain ⟨i5_, h⟩ := h
  refine q_bst X Y k4_ i5_ dX12_feed_83 (fun H locs Y => ?_)
  refine lv_iinc (v := (x6 + 1)) (lv' := [(6, .int (x6 + 1)), (7, .int xs0), (0, .ref a0), (1, .int x1), (2, .int x2), (3, .int x3), (4, .int x4), (5, .int x5)]) hx hb dX12_feed_84 hl (k := 7) rfl (by first | rfl | decide) (by decide) (by first | rfl | simp [q_cat, q_catI, q_catJ, q_catR]) (fun ls hl => ?_)
  refine lv_goto (tgt := 8) hx hb dX12_feed_87 (by decide) ?_
  exact hB8 _ _ _ _ _ _ _ _ _ _ _ h Y (lv_sub hl [2, 3, 4, 5, 6, 7, 0] rfl)
def wb_X12_feed_8 (B8 : q_S → Nat → Int32 → Int32 → Int32 → Int32 → Int32 → Int32 → Prop) (S : q_S) (a0 : Nat) (x1 : Int32) (x2 : Int32) (x3 : Int32) (x4 : Int32) (x5 : Int32) (x6 : Int32) (Q : Option Value → q_S → Prop) : Prop := (((20 : Int32) ≤ x6 → (Q none S)) ∧ (¬ (20 : Int32) ≤ x6 → ((((4 : Int32) ≤ x6 → ((((8 : Int32) ≤ x6 → ((((12 : Int32) ≤ x6 → ((((16 : Int32) ≤ x6 → (wb_X12_feed_61 B8 S a0 x1 x2 x3 x4 x5 x6 x5 Q)) ∧ (¬ (16 : Int32) ≤ x6 → (wb_X12_feed_61 B8 S a0 x1 x2 x3 x4 x5 x6 x4 Q))))) ∧ (¬ (12 : Int32) ≤ x6 → (wb_X12_feed_61 B8 S a0 x1 x2 x3 x4 x5 x6 x3 Q))))) ∧ (¬ (8 : Int32) ≤ x6 → (wb_X12_feed_61 B8 S a0 x1 x2 x3 x4 x5 x6 x2 Q))))) ∧ (¬ (4 : Int32) ≤ x6 → (wb_X12_feed_61 B8 S a0 x1 x2 x3 x4 x5 x6 x1 Q))))))
set_option maxHeartbeats 4000000 in
set_option maxRecDepth 100000 in
theorem cb_X12_feed_8 {p : Program} {l : Launch} {e : Env} {s : State} {m : MethodId} {args : Array Value} {below : List Frame} {meth : Method} {c : Code} {D : va_G} {cy : Nat → ClassId} {lo : Nat} {B8 : q_S → Nat → Int32 → Int32 → Int32 → Int32 → Int32 → Int32 → Prop} {S : q_S} {a0 : Nat} {x1 : Int32} {x2 : Int32} {x3 : Int32} {x4 : Int32} {x5 : Int32} {x6 : Int32} {Q : Option Value → q_S → Prop} {H : Heap} {locs : List Loc} {ls : Array Slot} (X : q_X p s m args meth c RX12 cX12_feed 8 none D cy lo) (hB8 : ∀ (S : q_S) (a0 : Nat) (x1 : Int32) (x2 : Int32) (x3 : Int32) (x4 : Int32) (x5 : Int32) (x6 : Int32) (H : Heap) (locs : List Loc) (ls : Array Slot), B8 S a0 x1 x2 x3 x4 x5 x6 → q_Y D cy lo s S H locs → lv_has ls 8 [(0, .ref a0), (1, .int x1), (2, .int x2), (3, .int x3), (4, .int x4), (5, .int x5), (6, .int x6)] → W p l e ({ frames := 0, cells := 0, slots := 0, locals := 0 } : Room) s m args below meth c H locs 0 0 (MQ below (q_Q D cy lo Q) args s 0 0 (fun q => lo ≤ q)) (F0 m 8 ls [])) (Y : q_Y D cy lo s S H locs) (hl : lv_has ls 8 [(0, .ref a0), (1, .int x1), (2, .int x2), (3, .int x3), (4, .int x4), (5, .int x5), (6, .int x6)]) (h : wb_X12_feed_8 B8 S a0 x1 x2 x3 x4 x5 x6 Q) : W p l e ({ frames := 0, cells := 0, slots := 0, locals := 0 } : Room) s m args below meth c H locs 0 0 (MQ below (q_Q D cy lo Q) args s 0 0 (fun q => lo ≤ q)) (F0 m 8 ls []) := by
  have hx := X.1
  have hb := X.2.1
  unfold wb_X12_feed_8 at h
  refine lv_iload hx hb dX12_feed_8 (lv_at hl 6 rfl) ?_
  refine lv_bipush (v := 20) hx hb dX12_feed_10 (by decide) ?_
  refine lv_icmp_ge (tgt := 90) hx hb dX12_feed_12 (by decide) (fun c6_ => ?_) (fun c6_ => ?_)
  · replace h := h.1 c6_
    exact q_vret X Y (Nat.le_refl _) (Nat.le_refl _) h dX12_feed_90
  · replace h := h.2 c6_
    refine lv_iload hx hb dX12_feed_15 (lv_at hl 6 rfl) ?_
    refine lv_iconst (v := 4) hx hb dX12_feed_17 (by decide) ?_
    refine lv_icmp_ge (tgt := 25) hx hb dX12_feed_18 (by decide) (fun c7_ => ?_) (fun c7_ => ?_)
    · replace h := h.1 c7_
      refine lv_iload hx hb dX12_feed_25 (lv_at hl 6 rfl) ?_
      refine lv_bipush (v := 8) hx hb dX12_feed_27 (by decide) ?_
      refine lv_icmp_ge (tgt := 36) hx hb dX12_feed_29 (by decide) (fun c8_ => ?_) (fun c8_ => ?_)
      · replace h := h.1 c8_
        refine lv_iload hx hb dX12_feed_36 (lv_at hl 6 rfl) ?_
        refine lv_bipush (v := 12) hx hb dX12_feed_38 (by decide) ?_
        refine lv_icmp_ge (tgt := 47) hx hb dX12_feed_40 (by decide) (fun c9_ => ?_) (fun c9_ => ?_)
        · replace h := h.1 c9_
          refine lv_iload hx hb dX12_feed_47 (lv_at hl 6 rfl) ?_
          refine lv_bipush (v := 16) hx hb dX12_feed_49 (by decide) ?_
          refine lv_icmp_ge (tgt := 59) hx hb dX12_feed_51 (by decide) (fun c10_ => ?_) (fun c10_ => ?_)
          · replace h := h.1 c10_
            refine lv_iload hx hb dX12_feed_59 (lv_at hl 5 rfl) ?_
            exact cb_X12_feed_61 X hB8 Y (lv_sub hl [0, 1, 2, 3, 4, 5, 6] rfl) h
          · replace h := h.2 c10_
            refine lv_iload hx hb dX12_feed_54 (lv_at hl 4 rfl) ?_
            refine lv_goto (tgt := 61) hx hb dX12_feed_56 (by decide) ?_
            exact cb_X12_feed_61 X hB8 Y (lv_sub hl [0, 1, 2, 3, 4, 5, 6] rfl) h
        · replace h := h.2 c9_
          refine lv_iload_n hx hb dX12_feed_43 rfl (lv_at hl 3 rfl) ?_
          refine lv_goto (tgt := 61) hx hb dX12_feed_44 (by decide) ?_
          exact cb_X12_feed_61 X hB8 Y (lv_sub hl [0, 1, 2, 3, 4, 5, 6] rfl) h
      · replace h := h.2 c8_
        refine lv_iload_n hx hb dX12_feed_32 rfl (lv_at hl 2 rfl) ?_
        refine lv_goto (tgt := 61) hx hb dX12_feed_33 (by decide) ?_
        exact cb_X12_feed_61 X hB8 Y (lv_sub hl [0, 1, 2, 3, 4, 5, 6] rfl) h
    · replace h := h.2 c7_
      refine lv_iload_n hx hb dX12_feed_21 rfl (lv_at hl 1 rfl) ?_
      refine lv_goto (tgt := 61) hx hb dX12_feed_22 (by decide) ?_
      exact cb_X12_feed_61 X hB8 Y (lv_sub hl [0, 1, 2, 3, 4, 5, 6] rfl) h
def wl_X12_feed_8  : Nat → q_S → Nat → Int32 → Int32 → Int32 → Int32 → Int32 → Int32 → (Option Value → q_S → Prop) → Prop
  | 0, _, _, _, _, _, _, _, _, _ => False
  | n + 1, S, a0, x1, x2, x3, x4, x5, x6, Q => wb_X12_feed_8 (fun S a0 x1 x2 x3 x4 x5 x6 => wl_X12_feed_8 n S a0 x1 x2 x3 x4 x5 x6 Q) S a0 x1 x2 x3 x4 x5 x6 Q
set_option maxHeartbeats 4000000 in
set_option maxRecDepth 100000 in
theorem cl_X12_feed_8 {p : Program} {l : Launch} {e : Env} {s : State} {m : MethodId} {args : Array Value} {below : List Frame} {meth : Method} {c : Code} {D : va_G} {cy : Nat → ClassId} {lo : Nat}  {Q : Option Value → q_S → Prop} (X : q_X p s m args meth c RX12 cX12_feed 8 none D cy lo)  : ∀ (n : Nat) (S : q_S) (a0 : Nat) (x1 : Int32) (x2 : Int32) (x3 : Int32) (x4 : Int32) (x5 : Int32) (x6 : Int32) (H : Heap) (locs : List Loc) (ls : Array Slot), wl_X12_feed_8 n S a0 x1 x2 x3 x4 x5 x6 Q → q_Y D cy lo s S H locs → lv_has ls 8 [(0, .ref a0), (1, .int x1), (2, .int x2), (3, .int x3), (4, .int x4), (5, .int x5), (6, .int x6)] → W p l e ({ frames := 0, cells := 0, slots := 0, locals := 0 } : Room) s m args below meth c H locs 0 0 (MQ below (q_Q D cy lo Q) args s 0 0 (fun q => lo ≤ q)) (F0 m 8 ls []) := by
  intro n
  induction n with
  | zero => intro S a0 x1 x2 x3 x4 x5 x6 H locs ls h; exact absurd h id
  | succ n ih => intro S a0 x1 x2 x3 x4 x5 x6 H locs ls h Y hl; exact cb_X12_feed_8 X ih Y hl h
def wm_X12_feed (S : q_S) (a0 : Nat) (x1 : Int32) (x2 : Int32) (x3 : Int32) (x4 : Int32) (x5 : Int32) (Q : Option Value → q_S → Prop) : Prop := q_K S a0 = 13 ∧ (∃ n12_ : Nat, wl_X12_feed_8 n12_ (qs_I S 2400 a0 (0 : Int32)) a0 x1 x2 x3 x4 x5 (0 : Int32) Q)
set_option maxHeartbeats 4000000 in
set_option maxRecDepth 100000 in
theorem cm_X12_feed {l : Launch} {D : va_G} {cy : Nat → ClassId} {lo : Nat} {S : q_S} {a0 : Nat} {x1 : Int32} {x2 : Int32} {x3 : Int32} {x4 : Int32} {x5 : Int32} {Q : Option Value → q_S → Prop} (h : wm_X12_feed S a0 x1 x2 x3 x4 x5 Q) : q_Met l D cy lo yX12_feed cX12_feed 8 none 0 0 0 0 [.ref a0, .int x1, .int x2, .int x3, .int x4, .int x5] S Q := by
  refine q_body (by decide) (by first | exact Nat.le_of_ble_eq_true rfl | simp [lg_sl, q_cat, q_catI, q_catJ, q_catR]) ?_
  intro p e s m below meth c ls X hnm Y hl
  have hx := X.1
  have hb := X.2.1
  have hl : lv_has ls 8 [(0, .ref a0), (1, .int x1), (2, .int x2), (3, .int x3), (4, .int x4), (5, .int x5)] := by first | exact hl | simpa [lv_args, q_cat, q_catI, q_catJ, q_catR] using hl
  generalize hargs : ([.ref a0, .int x1, .int x2, .int x3, .int x4, .int x5] : List Value).toArray = args at X ⊢
  unfold wm_X12_feed at h
  refine lv_aload_n hx hb dX12_feed_0 rfl (lv_at hl 0 rfl) ?_
  refine lv_iconst (v := 0) hx hb dX12_feed_1 (by decide) ?_
  obtain ⟨k11_, h⟩ := h
  refine q_putI X Y kX12 0 rfl fl_X12_278 k11_ .int rfl ⟨rfl, rfl⟩ rfl dX12_feed_2 (fun H locs Y => ?_)
  refine lv_iconst (v := 0) hx hb dX12_feed_5 (by decide) ?_
  refine lv_istore (i := 6) (lv' := [(6, .int (0 : Int32)), (0, .ref a0), (1, .int x1), (2, .int x2), (3, .int x3), (4, .int x4), (5, .int x5)]) hx hb dX12_feed_6 hl (by decide) (by first | rfl | simp [q_cat, q_catI, q_catJ, q_catR]) (fun ls hl => ?_)
  obtain ⟨n12_, h⟩ := h
  exact cl_X12_feed_8 X n12_ _ _ _ _ _ _ _ _ _ _ _ h Y (lv_sub hl [1, 2, 3, 4, 5, 6, 0] rfl)
-- X12_end_
theorem fl_X12_428 : Cond.fieldLink RX12 428 "PartitionWorksModel" "textMany" "I" ∈ q_G := q_tb (i := 1737) (by decide +kernel) (by decide +kernel)
theorem dX12_end__0 : decode cX12_end_ 0 = .ok (.aload_n 0, 1) := by decide +kernel
theorem dX12_end__1 : decode cX12_end_ 1 = .ok (.iconst 0, 1) := by decide +kernel
theorem dX12_end__2 : decode cX12_end_ 2 = .ok (.putfield 278, 3) := by decide +kernel
theorem dX12_end__5 : decode cX12_end_ 5 = .ok (.iload_n 1, 1) := by decide +kernel
theorem dX12_end__6 : decode cX12_end_ 6 = .ok (.ifCond .lt 21, 3) := by decide +kernel
theorem dX12_end__9 : decode cX12_end_ 9 = .ok (.iload_n 1, 1) := by decide +kernel
theorem dX12_end__10 : decode cX12_end_ 10 = .ok (.bipush 20, 2) := by decide +kernel
theorem dX12_end__12 : decode cX12_end_ 12 = .ok (.if_icmp .gt 15, 3) := by decide +kernel
theorem dX12_end__15 : decode cX12_end_ 15 = .ok (.aload_n 0, 1) := by decide +kernel
theorem dX12_end__16 : decode cX12_end_ 16 = .ok (.getfield 428, 3) := by decide +kernel
theorem dX12_end__19 : decode cX12_end_ 19 = .ok (.iload_n 1, 1) := by decide +kernel
theorem dX12_end__20 : decode cX12_end_ 20 = .ok (.iadd, 1) := by decide +kernel
theorem dX12_end__21 : decode cX12_end_ 21 = .ok (.sipush 4000, 3) := by decide +kernel
theorem dX12_end__24 : decode cX12_end_ 24 = .ok (.if_icmp .le 5, 3) := by decide +kernel
theorem dX12_end__27 : decode cX12_end_ 27 = .ok (.iconst (-1), 1) := by decide +kernel
theorem dX12_end__28 : decode cX12_end_ 28 = .ok (.ireturn, 1) := by decide +kernel
theorem dX12_end__29 : decode cX12_end_ 29 = .ok (.iconst 0, 1) := by decide +kernel
theorem dX12_end__30 : decode cX12_end_ 30 = .ok (.istore_n 2, 1) := by decide +kernel
theorem dX12_end__31 : decode cX12_end_ 31 = .ok (.iload_n 2, 1) := by decide +kernel
theorem dX12_end__32 : decode cX12_end_ 32 = .ok (.iload_n 1, 1) := by decide +kernel
theorem dX12_end__33 : decode cX12_end_ 33 = .ok (.if_icmp .ge 26, 3) := by decide +kernel
theorem dX12_end__36 : decode cX12_end_ 36 = .ok (.aload_n 0, 1) := by decide +kernel
theorem dX12_end__37 : decode cX12_end_ 37 = .ok (.getfield 13, 3) := by decide +kernel
theorem dX12_end__40 : decode cX12_end_ 40 = .ok (.aload_n 0, 1) := by decide +kernel
theorem dX12_end__41 : decode cX12_end_ 41 = .ok (.getfield 428, 3) := by decide +kernel
theorem dX12_end__44 : decode cX12_end_ 44 = .ok (.iload_n 2, 1) := by decide +kernel
theorem dX12_end__45 : decode cX12_end_ 45 = .ok (.iadd, 1) := by decide +kernel
theorem dX12_end__46 : decode cX12_end_ 46 = .ok (.aload_n 0, 1) := by decide +kernel
theorem dX12_end__47 : decode cX12_end_ 47 = .ok (.getfield 7, 3) := by decide +kernel
theorem dX12_end__50 : decode cX12_end_ 50 = .ok (.iload_n 2, 1) := by decide +kernel
theorem dX12_end__51 : decode cX12_end_ 51 = .ok (.baload, 1) := by decide +kernel
theorem dX12_end__52 : decode cX12_end_ 52 = .ok (.bastore, 1) := by decide +kernel
theorem dX12_end__53 : decode cX12_end_ 53 = .ok (.iinc 2 1, 3) := by decide +kernel
theorem dX12_end__56 : decode cX12_end_ 56 = .ok (.goto (-25), 3) := by decide +kernel
theorem dX12_end__59 : decode cX12_end_ 59 = .ok (.aload_n 0, 1) := by decide +kernel
theorem dX12_end__60 : decode cX12_end_ 60 = .ok (.dup, 1) := by decide +kernel
theorem dX12_end__61 : decode cX12_end_ 61 = .ok (.getfield 428, 3) := by decide +kernel
theorem dX12_end__64 : decode cX12_end_ 64 = .ok (.iload_n 1, 1) := by decide +kernel
theorem dX12_end__65 : decode cX12_end_ 65 = .ok (.iadd, 1) := by decide +kernel
theorem dX12_end__66 : decode cX12_end_ 66 = .ok (.putfield 428, 3) := by decide +kernel
theorem dX12_end__69 : decode cX12_end_ 69 = .ok (.iconst 0, 1) := by decide +kernel
theorem dX12_end__70 : decode cX12_end_ 70 = .ok (.istore_n 2, 1) := by decide +kernel
theorem dX12_end__71 : decode cX12_end_ 71 = .ok (.iload_n 2, 1) := by decide +kernel
theorem dX12_end__72 : decode cX12_end_ 72 = .ok (.bipush 20, 2) := by decide +kernel
theorem dX12_end__74 : decode cX12_end_ 74 = .ok (.if_icmp .ge 16, 3) := by decide +kernel
theorem dX12_end__77 : decode cX12_end_ 77 = .ok (.aload_n 0, 1) := by decide +kernel
theorem dX12_end__78 : decode cX12_end_ 78 = .ok (.getfield 7, 3) := by decide +kernel
theorem dX12_end__81 : decode cX12_end_ 81 = .ok (.iload_n 2, 1) := by decide +kernel
theorem dX12_end__82 : decode cX12_end_ 82 = .ok (.iconst 0, 1) := by decide +kernel
theorem dX12_end__83 : decode cX12_end_ 83 = .ok (.bastore, 1) := by decide +kernel
theorem dX12_end__84 : decode cX12_end_ 84 = .ok (.iinc 2 1, 3) := by decide +kernel
theorem dX12_end__87 : decode cX12_end_ 87 = .ok (.goto (-16), 3) := by decide +kernel
theorem dX12_end__90 : decode cX12_end_ 90 = .ok (.aload_n 0, 1) := by decide +kernel
theorem dX12_end__91 : decode cX12_end_ 91 = .ok (.getfield 428, 3) := by decide +kernel
theorem dX12_end__94 : decode cX12_end_ 94 = .ok (.ireturn, 1) := by decide +kernel
def wb_X12_end__27  (S : q_S) (Q : Option Value → q_S → Prop) : Prop := Q (some (.int (-1 : Int32))) S
set_option maxHeartbeats 4000000 in
set_option maxRecDepth 100000 in
theorem cb_X12_end__27 {p : Program} {l : Launch} {e : Env} {s : State} {m : MethodId} {args : Array Value} {below : List Frame} {meth : Method} {c : Code} {D : va_G} {cy : Nat → ClassId} {lo : Nat}  {S : q_S} {Q : Option Value → q_S → Prop} {H : Heap} {locs : List Loc} {ls : Array Slot} (X : q_X p s m args meth c RX12 cX12_end_ 3 (some .int) D cy lo)  (Y : q_Y D cy lo s S H locs) (hl : lv_has ls 3 []) (h : wb_X12_end__27 S Q) : W p l e ({ frames := 0, cells := 0, slots := 0, locals := 0 } : Room) s m args below meth c H locs 0 0 (MQ below (q_Q D cy lo Q) args s 0 0 (fun q => lo ≤ q)) (F0 m 27 ls []) := by
  have hx := X.1
  have hb := X.2.1
  unfold wb_X12_end__27 at h
  refine lv_iconst (v := (-1)) hx hb dX12_end__27 (by decide) ?_
  exact q_iret X Y rfl (Nat.le_refl _) (Nat.le_refl _) h dX12_end__28
def wb_X12_end__71 (B71 : q_S → Nat → Int32 → Prop) (S : q_S) (a0 : Nat) (x2 : Int32) (Q : Option Value → q_S → Prop) : Prop := (((20 : Int32) ≤ x2 → (q_K S a0 = 13 ∧ (Q (some (.int (q_I S 2403 a0))) S))) ∧ (¬ (20 : Int32) ≤ x2 → (q_K S a0 = 13 ∧ (∃ a4_ : Nat, (q_P S 2401 a0) = some a4_ ∧ (q_K S a4_ = 20 ∧ (vp_in x2 (q_N S a4_) ∧ (B71 (qs_A S a4_ x2.toNatClampNeg (vp_nar .byte (0 : Int32))) a0 (x2 + 1))))))))
set_option maxHeartbeats 4000000 in
set_option maxRecDepth 100000 in
theorem cb_X12_end__71 {p : Program} {l : Launch} {e : Env} {s : State} {m : MethodId} {args : Array Value} {below : List Frame} {meth : Method} {c : Code} {D : va_G} {cy : Nat → ClassId} {lo : Nat} {B71 : q_S → Nat → Int32 → Prop} {S : q_S} {a0 : Nat} {x2 : Int32} {Q : Option Value → q_S → Prop} {H : Heap} {locs : List Loc} {ls : Array Slot} (X : q_X p s m args meth c RX12 cX12_end_ 3 (some .int) D cy lo) (hB71 : ∀ (S : q_S) (a0 : Nat) (x2 : Int32) (H : Heap) (locs : List Loc) (ls : Array Slot), B71 S a0 x2 → q_Y D cy lo s S H locs → lv_has ls 3 [(0, .ref a0), (2, .int x2)] → W p l e ({ frames := 0, cells := 0, slots := 0, locals := 0 } : Room) s m args below meth c H locs 0 0 (MQ below (q_Q D cy lo Q) args s 0 0 (fun q => lo ≤ q)) (F0 m 71 ls [])) (Y : q_Y D cy lo s S H locs) (hl : lv_has ls 3 [(0, .ref a0), (2, .int x2)]) (h : wb_X12_end__71 B71 S a0 x2 Q) : W p l e ({ frames := 0, cells := 0, slots := 0, locals := 0 } : Room) s m args below meth c H locs 0 0 (MQ below (q_Q D cy lo Q) args s 0 0 (fun q => lo ≤ q)) (F0 m 71 ls []) := by
  have hx := X.1
  have hb := X.2.1
  unfold wb_X12_end__71 at h
  refine lv_iload_n hx hb dX12_end__71 rfl (lv_at hl 1 rfl) ?_
  refine lv_bipush (v := 20) hx hb dX12_end__72 (by decide) ?_
  refine lv_icmp_ge (tgt := 90) hx hb dX12_end__74 (by decide) (fun c1_ => ?_) (fun c1_ => ?_)
  · replace h := h.1 c1_
    refine lv_aload_n hx hb dX12_end__90 rfl (lv_at hl 0 rfl) ?_
    obtain ⟨k2_, h⟩ := h
    refine q_getI X Y kX12 3 rfl fl_X12_428 k2_ dX12_end__91 ?_
    exact q_iret X Y rfl (Nat.le_refl _) (Nat.le_refl _) h dX12_end__94
  · replace h := h.2 c1_
    refine lv_aload_n hx hb dX12_end__77 rfl (lv_at hl 0 rfl) ?_
    obtain ⟨k3_, h⟩ := h
    refine q_getP X Y kX12 1 rfl fl_X12_7 k3_ rfl dX12_end__78 ?_
    refine lv_iload_n hx hb dX12_end__81 rfl (lv_at hl 1 rfl) ?_
    refine lv_iconst (v := 0) hx hb dX12_end__82 (by decide) ?_
    obtain ⟨a4_, e5_, h⟩ := h
    refine q_nn [.int (0 : Int32), .int x2] e5_ ?_
    obtain ⟨k6_, h⟩ := h
    obtain ⟨i7_, h⟩ := h
    refine q_bst X Y k6_ i7_ dX12_end__83 (fun H locs Y => ?_)
    refine lv_iinc (v := (x2 + 1)) (lv' := [(2, .int (x2 + 1)), (0, .ref a0)]) hx hb dX12_end__84 hl (k := 1) rfl (by first | rfl | decide) (by decide) (by first | rfl | simp [q_cat, q_catI, q_catJ, q_catR]) (fun ls hl => ?_)
    refine lv_goto (tgt := 71) hx hb dX12_end__87 (by decide) ?_
    exact hB71 _ _ _ _ _ _ h Y (lv_sub hl [1, 0] rfl)
def wl_X12_end__71  : Nat → q_S → Nat → Int32 → (Option Value → q_S → Prop) → Prop
  | 0, _, _, _, _ => False
  | n + 1, S, a0, x2, Q => wb_X12_end__71 (fun S a0 x2 => wl_X12_end__71 n S a0 x2 Q) S a0 x2 Q
set_option maxHeartbeats 4000000 in
set_option maxRecDepth 100000 in
theorem cl_X12_end__71 {p : Program} {l : Launch} {e : Env} {s : State} {m : MethodId} {args : Array Value} {below : List Frame} {meth : Method} {c : Code} {D : va_G} {cy : Nat → ClassId} {lo : Nat}  {Q : Option Value → q_S → Prop} (X : q_X p s m args meth c RX12 cX12_end_ 3 (some .int) D cy lo)  : ∀ (n : Nat) (S : q_S) (a0 : Nat) (x2 : Int32) (H : Heap) (locs : List Loc) (ls : Array Slot), wl_X12_end__71 n S a0 x2 Q → q_Y D cy lo s S H locs → lv_has ls 3 [(0, .ref a0), (2, .int x2)] → W p l e ({ frames := 0, cells := 0, slots := 0, locals := 0 } : Room) s m args below meth c H locs 0 0 (MQ below (q_Q D cy lo Q) args s 0 0 (fun q => lo ≤ q)) (F0 m 71 ls []) := by
  intro n
  induction n with
  | zero => intro S a0 x2 H locs ls h; exact absurd h id
  | succ n ih => intro S a0 x2 H locs ls h Y hl; exact cb_X12_end__71 X ih Y hl h
def wb_X12_end__31 (B31 : q_S → Nat → Int32 → Int32 → Prop) (S : q_S) (a0 : Nat) (x1 : Int32) (x2 : Int32) (Q : Option Value → q_S → Prop) : Prop := ((x1 ≤ x2 → (q_K S a0 = 13 ∧ (∃ n10_ : Nat, wl_X12_end__71 n10_ (qs_I S 2403 a0 ((q_I S 2403 a0) + x1)) a0 (0 : Int32) Q))) ∧ (¬ x1 ≤ x2 → (q_K S a0 = 13 ∧ (∃ a12_ : Nat, (q_P S 2401 a0) = some a12_ ∧ (q_K S a12_ = 20 ∧ (vp_in x2 (q_N S a12_) ∧ (∃ a16_ : Nat, (q_P S 2402 a0) = some a16_ ∧ (q_K S a16_ = 20 ∧ (vp_in ((q_I S 2403 a0) + x2) (q_N S a16_) ∧ (B31 (qs_A S a16_ ((q_I S 2403 a0) + x2).toNatClampNeg (vp_nar .byte (q_A S a12_ x2.toNatClampNeg))) a0 x1 (x2 + 1)))))))))))
set_option maxHeartbeats 4000000 in
set_option maxRecDepth 100000 in
theorem cb_X12_end__31 {p : Program} {l : Launch} {e : Env} {s : State} {m : MethodId} {args : Array Value} {below : List Frame} {meth : Method} {c : Code} {D : va_G} {cy : Nat → ClassId} {lo : Nat} {B31 : q_S → Nat → Int32 → Int32 → Prop} {S : q_S} {a0 : Nat} {x1 : Int32} {x2 : Int32} {Q : Option Value → q_S → Prop} {H : Heap} {locs : List Loc} {ls : Array Slot} (X : q_X p s m args meth c RX12 cX12_end_ 3 (some .int) D cy lo) (hB31 : ∀ (S : q_S) (a0 : Nat) (x1 : Int32) (x2 : Int32) (H : Heap) (locs : List Loc) (ls : Array Slot), B31 S a0 x1 x2 → q_Y D cy lo s S H locs → lv_has ls 3 [(0, .ref a0), (1, .int x1), (2, .int x2)] → W p l e ({ frames := 0, cells := 0, slots := 0, locals := 0 } : Room) s m args below meth c H locs 0 0 (MQ below (q_Q D cy lo Q) args s 0 0 (fun q => lo ≤ q)) (F0 m 31 ls [])) (Y : q_Y D cy lo s S H locs) (hl : lv_has ls 3 [(0, .ref a0), (1, .int x1), (2, .int x2)]) (h : wb_X12_end__31 B31 S a0 x1 x2 Q) : W p l e ({ frames := 0, cells := 0, slots := 0, locals := 0 } : Room) s m args below meth c H locs 0 0 (MQ below (q_Q D cy lo Q) args s 0 0 (fun q => lo ≤ q)) (F0 m 31 ls []) := by
  have hx := X.1
  have hb := X.2.1
  unfold wb_X12_end__31 at h
  refine lv_iload_n hx hb dX12_end__31 rfl (lv_at hl 2 rfl) ?_
  refine lv_iload_n hx hb dX12_end__32 rfl (lv_at hl 1 rfl) ?_
  refine lv_icmp_ge (tgt := 59) hx hb dX12_end__33 (by decide) (fun c8_ => ?_) (fun c8_ => ?_)
  · replace h := h.1 c8_
    refine lv_aload_n hx hb dX12_end__59 rfl (lv_at hl 0 rfl) ?_
    refine lv_dup hx hb dX12_end__60 rfl ?_
    obtain ⟨k9_, h⟩ := h
    refine q_getI X Y kX12 3 rfl fl_X12_428 k9_ dX12_end__61 ?_
    refine lv_iload_n hx hb dX12_end__64 rfl (lv_at hl 1 rfl) ?_
    refine lv_iadd hx hb dX12_end__65 ?_
    refine q_putI X Y kX12 3 rfl fl_X12_428 k9_ .int rfl ⟨rfl, rfl⟩ rfl dX12_end__66 (fun H locs Y => ?_)
    refine lv_iconst (v := 0) hx hb dX12_end__69 (by decide) ?_
    refine lv_istore_n (i := 2) (lv' := [(2, .int (0 : Int32)), (0, .ref a0), (1, .int x1)]) hx hb dX12_end__70 rfl hl (by decide) (by first | rfl | simp [q_cat, q_catI, q_catJ, q_catR]) (fun ls hl => ?_)
    obtain ⟨n10_, h⟩ := h
    exact cl_X12_end__71 X n10_ _ _ _ _ _ _ h Y (lv_sub hl [1, 0] rfl)
  · replace h := h.2 c8_
    refine lv_aload_n hx hb dX12_end__36 rfl (lv_at hl 0 rfl) ?_
    obtain ⟨k11_, h⟩ := h
    refine q_getP X Y kX12 2 rfl fl_X12_13 k11_ rfl dX12_end__37 ?_
    refine lv_aload_n hx hb dX12_end__40 rfl (lv_at hl 0 rfl) ?_
    refine q_getI X Y kX12 3 rfl fl_X12_428 k11_ dX12_end__41 ?_
    refine lv_iload_n hx hb dX12_end__44 rfl (lv_at hl 2 rfl) ?_
    refine lv_iadd hx hb dX12_end__45 ?_
    refine lv_aload_n hx hb dX12_end__46 rfl (lv_at hl 0 rfl) ?_
    refine q_getP X Y kX12 1 rfl fl_X12_7 k11_ rfl dX12_end__47 ?_
    refine lv_iload_n hx hb dX12_end__50 rfl (lv_at hl 2 rfl) ?_
    obtain ⟨a12_, e13_, h⟩ := h
    refine q_nn [.int x2] e13_ ?_
    obtain ⟨k14_, h⟩ := h
    obtain ⟨i15_, h⟩ := h
    refine q_bld X Y k14_ i15_ dX12_end__51 ?_
    obtain ⟨a16_, e17_, h⟩ := h
    refine q_nn [.int (q_A S a12_ x2.toNatClampNeg), .int ((q_I S 2403 a0) + x2)] e17_ ?_
    obtain ⟨k18_, h⟩ := h
    obtain ⟨i19_, h⟩ := h
    refine q_bst X Y k18_ i19_ dX12_end__52 (fun H locs Y => ?_)
    refine lv_iinc (v := (x2 + 1)) (lv' := [(2, .int (x2 + 1)), (0, .ref a0), (1, .int x1)]) hx hb dX12_end__53 hl (k := 2) rfl (by first | rfl | decide) (by decide) (by first | rfl | simp [q_cat, q_catI, q_catJ, q_catR]) (fun ls hl => ?_)
    refine lv_goto (tgt := 31) hx hb dX12_end__56 (by decide) ?_
    exact hB31 _ _ _ _ _ _ _ h Y (lv_sub hl [1, 2, 0] rfl)
def wl_X12_end__31  : Nat → q_S → Nat → Int32 → Int32 → (Option Value → q_S → Prop) → Prop
  | 0, _, _, _, _, _ => False
  | n + 1, S, a0, x1, x2, Q => wb_X12_end__31 (fun S a0 x1 x2 => wl_X12_end__31 n S a0 x1 x2 Q) S a0 x1 x2 Q
set_option maxHeartbeats 4000000 in
set_option maxRecDepth 100000 in
theorem cl_X12_end__31 {p : Program} {l : Launch} {e : Env} {s : State} {m : MethodId} {args : Array Value} {below : List Frame} {meth : Method} {c : Code} {D : va_G} {cy : Nat → ClassId} {lo : Nat}  {Q : Option Value → q_S → Prop} (X : q_X p s m args meth c RX12 cX12_end_ 3 (some .int) D cy lo)  : ∀ (n : Nat) (S : q_S) (a0 : Nat) (x1 : Int32) (x2 : Int32) (H : Heap) (locs : List Loc) (ls : Array Slot), wl_X12_end__31 n S a0 x1 x2 Q → q_Y D cy lo s S H locs → lv_has ls 3 [(0, .ref a0), (1, .int x1), (2, .int x2)] → W p l e ({ frames := 0, cells := 0, slots := 0, locals := 0 } : Room) s m args below meth c H locs 0 0 (MQ below (q_Q D cy lo Q) args s 0 0 (fun q => lo ≤ q)) (F0 m 31 ls []) := by
  intro n
  induction n with
  | zero => intro S a0 x1 x2 H locs ls h; exact absurd h id
  | succ n ih => intro S a0 x1 x2 H locs ls h Y hl; exact cb_X12_end__31 X ih Y hl h
def wm_X12_end_ (S : q_S) (a0 : Nat) (x1 : Int32) (Q : Option Value → q_S → Prop) : Prop := q_K S a0 = 13 ∧ (((x1 < 0 → (wb_X12_end__27 (qs_I S 2400 a0 (0 : Int32)) Q)) ∧ (¬ x1 < 0 → ((((20 : Int32) < x1 → (wb_X12_end__27 (qs_I S 2400 a0 (0 : Int32)) Q)) ∧ (¬ (20 : Int32) < x1 → (((((q_I (qs_I S 2400 a0 (0 : Int32)) 2403 a0) + x1) ≤ (4000 : Int32) → (∃ n24_ : Nat, wl_X12_end__31 n24_ (qs_I S 2400 a0 (0 : Int32)) a0 x1 (0 : Int32) Q)) ∧ (¬ ((q_I (qs_I S 2400 a0 (0 : Int32)) 2403 a0) + x1) ≤ (4000 : Int32) → (wb_X12_end__27 (qs_I S 2400 a0 (0 : Int32)) Q))))))))))
set_option maxHeartbeats 4000000 in
set_option maxRecDepth 100000 in
theorem cm_X12_end_ {l : Launch} {D : va_G} {cy : Nat → ClassId} {lo : Nat} {S : q_S} {a0 : Nat} {x1 : Int32} {Q : Option Value → q_S → Prop} (h : wm_X12_end_ S a0 x1 Q) : q_Met l D cy lo yX12_end_ cX12_end_ 3 (some .int) 0 0 0 0 [.ref a0, .int x1] S Q := by
  refine q_body (by decide) (by first | exact Nat.le_of_ble_eq_true rfl | simp [lg_sl, q_cat, q_catI, q_catJ, q_catR]) ?_
  intro p e s m below meth c ls X hnm Y hl
  have hx := X.1
  have hb := X.2.1
  have hl : lv_has ls 3 [(0, .ref a0), (1, .int x1)] := by first | exact hl | simpa [lv_args, q_cat, q_catI, q_catJ, q_catR] using hl
  generalize hargs : ([.ref a0, .int x1] : List Value).toArray = args at X ⊢
  unfold wm_X12_end_ at h
  refine lv_aload_n hx hb dX12_end__0 rfl (lv_at hl 0 rfl) ?_
  refine lv_iconst (v := 0) hx hb dX12_end__1 (by decide) ?_
  obtain ⟨k20_, h⟩ := h
  refine q_putI X Y kX12 0 rfl fl_X12_278 k20_ .int rfl ⟨rfl, rfl⟩ rfl dX12_end__2 (fun H locs Y => ?_)
  refine lv_iload_n hx hb dX12_end__5 rfl (lv_at hl 1 rfl) ?_
  refine lv_if_lt (tgt := 27) hx hb dX12_end__6 (by decide) (fun c21_ => ?_) (fun c21_ => ?_)
  · replace h := h.1 c21_
    exact cb_X12_end__27 X Y (lv_sub hl [] rfl) h
  · replace h := h.2 c21_
    refine lv_iload_n hx hb dX12_end__9 rfl (lv_at hl 1 rfl) ?_
    refine lv_bipush (v := 20) hx hb dX12_end__10 (by decide) ?_
    refine lv_icmp_gt (tgt := 27) hx hb dX12_end__12 (by decide) (fun c22_ => ?_) (fun c22_ => ?_)
    · replace h := h.1 c22_
      exact cb_X12_end__27 X Y (lv_sub hl [] rfl) h
    · replace h := h.2 c22_
      refine lv_aload_n hx hb dX12_end__15 rfl (lv_at hl 0 rfl) ?_
      refine q_getI X Y kX12 3 rfl fl_X12_428 k20_ dX12_end__16 ?_
      refine lv_iload_n hx hb dX12_end__19 rfl (lv_at hl 1 rfl) ?_
      refine lv_iadd hx hb dX12_end__20 ?_
      refine lv_sipush (v := 4000) hx hb dX12_end__21 (by decide) ?_
      refine lv_icmp_le (tgt := 29) hx hb dX12_end__24 (by decide) (fun c23_ => ?_) (fun c23_ => ?_)
      · replace h := h.1 c23_
        refine lv_iconst (v := 0) hx hb dX12_end__29 (by decide) ?_
        refine lv_istore_n (i := 2) (lv' := [(2, .int (0 : Int32)), (0, .ref a0), (1, .int x1)]) hx hb dX12_end__30 rfl hl (by decide) (by first | rfl | simp [q_cat, q_catI, q_catJ, q_catR]) (fun ls hl => ?_)
        obtain ⟨n24_, h⟩ := h
        exact cl_X12_end__31 X n24_ _ _ _ _ _ _ _ h Y (lv_sub hl [1, 2, 0] rfl)
      · replace h := h.2 c23_
        exact cb_X12_end__27 X Y (lv_sub hl [] rfl) h
-- X12_forget
theorem fl_X12_450 : Cond.fieldLink RX12 450 "PartitionWorksModel" "begun" "Z" ∈ q_G := q_tb (i := 1748) (by decide +kernel) (by decide +kernel)
theorem fl_X12_453 : Cond.fieldLink RX12 453 "PartitionWorksModel" "time" "I" ∈ q_G := q_tb (i := 1797) (by decide +kernel) (by decide +kernel)
theorem fl_X12_456 : Cond.fieldLink RX12 456 "PartitionWorksModel" "stamp" "I" ∈ q_G := q_tb (i := 1798) (by decide +kernel) (by decide +kernel)
theorem fl_X12_459 : Cond.fieldLink RX12 459 "PartitionWorksModel" "traces" "I" ∈ q_G := q_tb (i := 1842) (by decide +kernel) (by decide +kernel)
theorem fl_X12_462 : Cond.fieldLink RX12 462 "PartitionWorksModel" "errors" "I" ∈ q_G := q_tb (i := 1843) (by decide +kernel) (by decide +kernel)
theorem fl_X12_465 : Cond.fieldLink RX12 465 "PartitionWorksModel" "instructions" "I" ∈ q_G := q_tb (i := 1844) (by decide +kernel) (by decide +kernel)
theorem dX12_forget_0 : decode cX12_forget 0 = .ok (.aload_n 0, 1) := by decide +kernel
theorem dX12_forget_1 : decode cX12_forget 1 = .ok (.iconst 0, 1) := by decide +kernel
theorem dX12_forget_2 : decode cX12_forget 2 = .ok (.putfield 328, 3) := by decide +kernel
theorem dX12_forget_5 : decode cX12_forget 5 = .ok (.aload_n 0, 1) := by decide +kernel
theorem dX12_forget_6 : decode cX12_forget 6 = .ok (.iconst (-1), 1) := by decide +kernel
theorem dX12_forget_7 : decode cX12_forget 7 = .ok (.putfield 16, 3) := by decide +kernel
theorem dX12_forget_10 : decode cX12_forget 10 = .ok (.aload_n 0, 1) := by decide +kernel
theorem dX12_forget_11 : decode cX12_forget 11 = .ok (.iconst 0, 1) := by decide +kernel
theorem dX12_forget_12 : decode cX12_forget 12 = .ok (.putfield 450, 3) := by decide +kernel
theorem dX12_forget_15 : decode cX12_forget 15 = .ok (.aload_n 0, 1) := by decide +kernel
theorem dX12_forget_16 : decode cX12_forget 16 = .ok (.iconst 0, 1) := by decide +kernel
theorem dX12_forget_17 : decode cX12_forget 17 = .ok (.putfield 350, 3) := by decide +kernel
theorem dX12_forget_20 : decode cX12_forget 20 = .ok (.aload_n 0, 1) := by decide +kernel
theorem dX12_forget_21 : decode cX12_forget 21 = .ok (.iconst 0, 1) := by decide +kernel
theorem dX12_forget_22 : decode cX12_forget 22 = .ok (.putfield 409, 3) := by decide +kernel
theorem dX12_forget_25 : decode cX12_forget 25 = .ok (.aload_n 0, 1) := by decide +kernel
theorem dX12_forget_26 : decode cX12_forget 26 = .ok (.iconst 0, 1) := by decide +kernel
theorem dX12_forget_27 : decode cX12_forget 27 = .ok (.putfield 422, 3) := by decide +kernel
theorem dX12_forget_30 : decode cX12_forget 30 = .ok (.aload_n 0, 1) := by decide +kernel
theorem dX12_forget_31 : decode cX12_forget 31 = .ok (.iconst 0, 1) := by decide +kernel
theorem dX12_forget_32 : decode cX12_forget 32 = .ok (.putfield 416, 3) := by decide +kernel
theorem dX12_forget_35 : decode cX12_forget 35 = .ok (.aload_n 0, 1) := by decide +kernel
theorem dX12_forget_36 : decode cX12_forget 36 = .ok (.iconst 0, 1) := by decide +kernel
theorem dX12_forget_37 : decode cX12_forget 37 = .ok (.putfield 419, 3) := by decide +kernel
theorem dX12_forget_40 : decode cX12_forget 40 = .ok (.aload_n 0, 1) := by decide +kernel
theorem dX12_forget_41 : decode cX12_forget 41 = .ok (.iconst 0, 1) := by decide +kernel
theorem dX12_forget_42 : decode cX12_forget 42 = .ok (.putfield 425, 3) := by decide +kernel
theorem dX12_forget_45 : decode cX12_forget 45 = .ok (.aload_n 0, 1) := by decide +kernel
theorem dX12_forget_46 : decode cX12_forget 46 = .ok (.iconst 0, 1) := by decide +kernel
theorem dX12_forget_47 : decode cX12_forget 47 = .ok (.putfield 347, 3) := by decide +kernel
theorem dX12_forget_50 : decode cX12_forget 50 = .ok (.aload_n 0, 1) := by decide +kernel
theorem dX12_forget_51 : decode cX12_forget 51 = .ok (.iconst 0, 1) := by decide +kernel
theorem dX12_forget_52 : decode cX12_forget 52 = .ok (.putfield 453, 3) := by decide +kernel
theorem dX12_forget_55 : decode cX12_forget 55 = .ok (.aload_n 0, 1) := by decide +kernel
theorem dX12_forget_56 : decode cX12_forget 56 = .ok (.iconst 0, 1) := by decide +kernel
theorem dX12_forget_57 : decode cX12_forget 57 = .ok (.putfield 456, 3) := by decide +kernel
theorem dX12_forget_60 : decode cX12_forget 60 = .ok (.aload_n 0, 1) := by decide +kernel
theorem dX12_forget_61 : decode cX12_forget 61 = .ok (.iconst 0, 1) := by decide +kernel
theorem dX12_forget_62 : decode cX12_forget 62 = .ok (.putfield 459, 3) := by decide +kernel
theorem dX12_forget_65 : decode cX12_forget 65 = .ok (.aload_n 0, 1) := by decide +kernel
theorem dX12_forget_66 : decode cX12_forget 66 = .ok (.iconst 0, 1) := by decide +kernel
theorem dX12_forget_67 : decode cX12_forget 67 = .ok (.putfield 462, 3) := by decide +kernel
theorem dX12_forget_70 : decode cX12_forget 70 = .ok (.aload_n 0, 1) := by decide +kernel
theorem dX12_forget_71 : decode cX12_forget 71 = .ok (.iconst 0, 1) := by decide +kernel
theorem dX12_forget_72 : decode cX12_forget 72 = .ok (.putfield 465, 3) := by decide +kernel
theorem dX12_forget_75 : decode cX12_forget 75 = .ok (.iconst 0, 1) := by decide +kernel
theorem dX12_forget_76 : decode cX12_forget 76 = .ok (.istore_n 1, 1) := by decide +kernel
theorem dX12_forget_77 : decode cX12_forget 77 = .ok (.iload_n 1, 1) := by decide +kernel
theorem dX12_forget_78 : decode cX12_forget 78 = .ok (.ldc 142, 2) := by decide +kernel
theorem dX12_forget_80 : decode cX12_forget 80 = .ok (.if_icmp .ge 16, 3) := by decide +kernel
theorem dX12_forget_83 : decode cX12_forget 83 = .ok (.aload_n 0, 1) := by decide +kernel
theorem dX12_forget_84 : decode cX12_forget 84 = .ok (.getfield 143, 3) := by decide +kernel
theorem dX12_forget_87 : decode cX12_forget 87 = .ok (.iload_n 1, 1) := by decide +kernel
theorem dX12_forget_88 : decode cX12_forget 88 = .ok (.iconst 0, 1) := by decide +kernel
theorem dX12_forget_89 : decode cX12_forget 89 = .ok (.bastore, 1) := by decide +kernel
theorem dX12_forget_90 : decode cX12_forget 90 = .ok (.iinc 1 1, 3) := by decide +kernel
theorem dX12_forget_93 : decode cX12_forget 93 = .ok (.goto (-16), 3) := by decide +kernel
theorem dX12_forget_96 : decode cX12_forget 96 = .ok (.iconst 0, 1) := by decide +kernel
theorem dX12_forget_97 : decode cX12_forget 97 = .ok (.istore_n 1, 1) := by decide +kernel
theorem dX12_forget_98 : decode cX12_forget 98 = .ok (.iload_n 1, 1) := by decide +kernel
theorem dX12_forget_99 : decode cX12_forget 99 = .ok (.sipush 8192, 3) := by decide +kernel
theorem dX12_forget_102 : decode cX12_forget 102 = .ok (.if_icmp .ge 16, 3) := by decide +kernel
theorem dX12_forget_105 : decode cX12_forget 105 = .ok (.aload_n 0, 1) := by decide +kernel
theorem dX12_forget_106 : decode cX12_forget 106 = .ok (.getfield 179, 3) := by decide +kernel
theorem dX12_forget_109 : decode cX12_forget 109 = .ok (.iload_n 1, 1) := by decide +kernel
theorem dX12_forget_110 : decode cX12_forget 110 = .ok (.iconst 0, 1) := by decide +kernel
theorem dX12_forget_111 : decode cX12_forget 111 = .ok (.iastore, 1) := by decide +kernel
theorem dX12_forget_112 : decode cX12_forget 112 = .ok (.iinc 1 1, 3) := by decide +kernel
theorem dX12_forget_115 : decode cX12_forget 115 = .ok (.goto (-17), 3) := by decide +kernel
theorem dX12_forget_118 : decode cX12_forget 118 = .ok (.iconst 0, 1) := by decide +kernel
theorem dX12_forget_119 : decode cX12_forget 119 = .ok (.istore_n 1, 1) := by decide +kernel
theorem dX12_forget_120 : decode cX12_forget 120 = .ok (.iload_n 1, 1) := by decide +kernel
theorem dX12_forget_121 : decode cX12_forget 121 = .ok (.bipush 16, 2) := by decide +kernel
theorem dX12_forget_123 : decode cX12_forget 123 = .ok (.if_icmp .ge 79, 3) := by decide +kernel
theorem dX12_forget_126 : decode cX12_forget 126 = .ok (.aload_n 0, 1) := by decide +kernel
theorem dX12_forget_127 : decode cX12_forget 127 = .ok (.getfield 45, 3) := by decide +kernel
theorem dX12_forget_130 : decode cX12_forget 130 = .ok (.iload_n 1, 1) := by decide +kernel
theorem dX12_forget_131 : decode cX12_forget 131 = .ok (.iconst 0, 1) := by decide +kernel
theorem dX12_forget_132 : decode cX12_forget 132 = .ok (.iastore, 1) := by decide +kernel
theorem dX12_forget_133 : decode cX12_forget 133 = .ok (.aload_n 0, 1) := by decide +kernel
theorem dX12_forget_134 : decode cX12_forget 134 = .ok (.getfield 82, 3) := by decide +kernel
theorem dX12_forget_137 : decode cX12_forget 137 = .ok (.iload_n 1, 1) := by decide +kernel
theorem dX12_forget_138 : decode cX12_forget 138 = .ok (.iconst (-1), 1) := by decide +kernel
theorem dX12_forget_139 : decode cX12_forget 139 = .ok (.iastore, 1) := by decide +kernel
theorem dX12_forget_140 : decode cX12_forget 140 = .ok (.aload_n 0, 1) := by decide +kernel
theorem dX12_forget_141 : decode cX12_forget 141 = .ok (.getfield 109, 3) := by decide +kernel
theorem dX12_forget_144 : decode cX12_forget 144 = .ok (.iload_n 1, 1) := by decide +kernel
theorem dX12_forget_145 : decode cX12_forget 145 = .ok (.iconst 0, 1) := by decide +kernel
theorem dX12_forget_146 : decode cX12_forget 146 = .ok (.bastore, 1) := by decide +kernel
theorem dX12_forget_147 : decode cX12_forget 147 = .ok (.aload_n 0, 1) := by decide +kernel
theorem dX12_forget_148 : decode cX12_forget 148 = .ok (.getfield 197, 3) := by decide +kernel
theorem dX12_forget_151 : decode cX12_forget 151 = .ok (.iload_n 1, 1) := by decide +kernel
theorem dX12_forget_152 : decode cX12_forget 152 = .ok (.iconst 0, 1) := by decide +kernel
theorem dX12_forget_153 : decode cX12_forget 153 = .ok (.iastore, 1) := by decide +kernel
theorem dX12_forget_154 : decode cX12_forget 154 = .ok (.aload_n 0, 1) := by decide +kernel
theorem dX12_forget_155 : decode cX12_forget 155 = .ok (.getfield 200, 3) := by decide +kernel
theorem dX12_forget_158 : decode cX12_forget 158 = .ok (.iload_n 1, 1) := by decide +kernel
theorem dX12_forget_159 : decode cX12_forget 159 = .ok (.iconst (-1), 1) := by decide +kernel
theorem dX12_forget_160 : decode cX12_forget 160 = .ok (.iastore, 1) := by decide +kernel
theorem dX12_forget_161 : decode cX12_forget 161 = .ok (.aload_n 0, 1) := by decide +kernel
theorem dX12_forget_162 : decode cX12_forget 162 = .ok (.getfield 203, 3) := by decide +kernel
theorem dX12_forget_165 : decode cX12_forget 165 = .ok (.iload_n 1, 1) := by decide +kernel
theorem dX12_forget_166 : decode cX12_forget 166 = .ok (.iconst 0, 1) := by decide +kernel
theorem dX12_forget_167 : decode cX12_forget 167 = .ok (.iastore, 1) := by decide +kernel
theorem dX12_forget_168 : decode cX12_forget 168 = .ok (.aload_n 0, 1) := by decide +kernel
theorem dX12_forget_169 : decode cX12_forget 169 = .ok (.getfield 206, 3) := by decide +kernel
theorem dX12_forget_172 : decode cX12_forget 172 = .ok (.iload_n 1, 1) := by decide +kernel
theorem dX12_forget_173 : decode cX12_forget 173 = .ok (.iconst 0, 1) := by decide +kernel
theorem dX12_forget_174 : decode cX12_forget 174 = .ok (.iastore, 1) := by decide +kernel
theorem dX12_forget_175 : decode cX12_forget 175 = .ok (.aload_n 0, 1) := by decide +kernel
theorem dX12_forget_176 : decode cX12_forget 176 = .ok (.getfield 209, 3) := by decide +kernel
theorem dX12_forget_179 : decode cX12_forget 179 = .ok (.iload_n 1, 1) := by decide +kernel
theorem dX12_forget_180 : decode cX12_forget 180 = .ok (.iconst (-1), 1) := by decide +kernel
theorem dX12_forget_181 : decode cX12_forget 181 = .ok (.iastore, 1) := by decide +kernel
theorem dX12_forget_182 : decode cX12_forget 182 = .ok (.aload_n 0, 1) := by decide +kernel
theorem dX12_forget_183 : decode cX12_forget 183 = .ok (.getfield 212, 3) := by decide +kernel
theorem dX12_forget_186 : decode cX12_forget 186 = .ok (.iload_n 1, 1) := by decide +kernel
theorem dX12_forget_187 : decode cX12_forget 187 = .ok (.iconst (-1), 1) := by decide +kernel
theorem dX12_forget_188 : decode cX12_forget 188 = .ok (.iastore, 1) := by decide +kernel
theorem dX12_forget_189 : decode cX12_forget 189 = .ok (.aload_n 0, 1) := by decide +kernel
theorem dX12_forget_190 : decode cX12_forget 190 = .ok (.getfield 221, 3) := by decide +kernel
theorem dX12_forget_193 : decode cX12_forget 193 = .ok (.iload_n 1, 1) := by decide +kernel
theorem dX12_forget_194 : decode cX12_forget 194 = .ok (.iconst 0, 1) := by decide +kernel
theorem dX12_forget_195 : decode cX12_forget 195 = .ok (.iastore, 1) := by decide +kernel
theorem dX12_forget_196 : decode cX12_forget 196 = .ok (.iinc 1 1, 3) := by decide +kernel
theorem dX12_forget_199 : decode cX12_forget 199 = .ok (.goto (-79), 3) := by decide +kernel
theorem dX12_forget_202 : decode cX12_forget 202 = .ok (.iconst 0, 1) := by decide +kernel
theorem dX12_forget_203 : decode cX12_forget 203 = .ok (.istore_n 1, 1) := by decide +kernel
theorem dX12_forget_204 : decode cX12_forget 204 = .ok (.iload_n 1, 1) := by decide +kernel
theorem dX12_forget_205 : decode cX12_forget 205 = .ok (.bipush 96, 2) := by decide +kernel
theorem dX12_forget_207 : decode cX12_forget 207 = .ok (.if_icmp .ge 16, 3) := by decide +kernel
theorem dX12_forget_210 : decode cX12_forget 210 = .ok (.aload_n 0, 1) := by decide +kernel
theorem dX12_forget_211 : decode cX12_forget 211 = .ok (.getfield 60, 3) := by decide +kernel
theorem dX12_forget_214 : decode cX12_forget 214 = .ok (.iload_n 1, 1) := by decide +kernel
theorem dX12_forget_215 : decode cX12_forget 215 = .ok (.iconst 0, 1) := by decide +kernel
theorem dX12_forget_216 : decode cX12_forget 216 = .ok (.iastore, 1) := by decide +kernel
theorem dX12_forget_217 : decode cX12_forget 217 = .ok (.iinc 1 1, 3) := by decide +kernel
theorem dX12_forget_220 : decode cX12_forget 220 = .ok (.goto (-16), 3) := by decide +kernel
theorem dX12_forget_223 : decode cX12_forget 223 = .ok (.iconst 0, 1) := by decide +kernel
theorem dX12_forget_224 : decode cX12_forget 224 = .ok (.istore_n 1, 1) := by decide +kernel
theorem dX12_forget_225 : decode cX12_forget 225 = .ok (.iload_n 1, 1) := by decide +kernel
theorem dX12_forget_226 : decode cX12_forget 226 = .ok (.bipush 80, 2) := by decide +kernel
theorem dX12_forget_228 : decode cX12_forget 228 = .ok (.if_icmp .ge 16, 3) := by decide +kernel
theorem dX12_forget_231 : decode cX12_forget 231 = .ok (.aload_n 0, 1) := by decide +kernel
theorem dX12_forget_232 : decode cX12_forget 232 = .ok (.getfield 112, 3) := by decide +kernel
theorem dX12_forget_235 : decode cX12_forget 235 = .ok (.iload_n 1, 1) := by decide +kernel
theorem dX12_forget_236 : decode cX12_forget 236 = .ok (.iconst 0, 1) := by decide +kernel
theorem dX12_forget_237 : decode cX12_forget 237 = .ok (.iastore, 1) := by decide +kernel
theorem dX12_forget_238 : decode cX12_forget 238 = .ok (.iinc 1 1, 3) := by decide +kernel
theorem dX12_forget_241 : decode cX12_forget 241 = .ok (.goto (-16), 3) := by decide +kernel
theorem dX12_forget_244 : decode cX12_forget 244 = .ok (.iconst 0, 1) := by decide +kernel
theorem dX12_forget_245 : decode cX12_forget 245 = .ok (.istore_n 1, 1) := by decide +kernel
theorem dX12_forget_246 : decode cX12_forget 246 = .ok (.iload_n 1, 1) := by decide +kernel
theorem dX12_forget_247 : decode cX12_forget 247 = .ok (.sipush 256, 3) := by decide +kernel
theorem dX12_forget_250 : decode cX12_forget 250 = .ok (.if_icmp .ge 65, 3) := by decide +kernel
theorem dX12_forget_253 : decode cX12_forget 253 = .ok (.aload_n 0, 1) := by decide +kernel
theorem dX12_forget_254 : decode cX12_forget 254 = .ok (.getfield 149, 3) := by decide +kernel
theorem dX12_forget_257 : decode cX12_forget 257 = .ok (.iload_n 1, 1) := by decide +kernel
theorem dX12_forget_258 : decode cX12_forget 258 = .ok (.iconst 0, 1) := by decide +kernel
theorem dX12_forget_259 : decode cX12_forget 259 = .ok (.iastore, 1) := by decide +kernel
theorem dX12_forget_260 : decode cX12_forget 260 = .ok (.aload_n 0, 1) := by decide +kernel
theorem dX12_forget_261 : decode cX12_forget 261 = .ok (.getfield 152, 3) := by decide +kernel
theorem dX12_forget_264 : decode cX12_forget 264 = .ok (.iload_n 1, 1) := by decide +kernel
theorem dX12_forget_265 : decode cX12_forget 265 = .ok (.iconst 0, 1) := by decide +kernel
theorem dX12_forget_266 : decode cX12_forget 266 = .ok (.iastore, 1) := by decide +kernel
theorem dX12_forget_267 : decode cX12_forget 267 = .ok (.aload_n 0, 1) := by decide +kernel
theorem dX12_forget_268 : decode cX12_forget 268 = .ok (.getfield 158, 3) := by decide +kernel
theorem dX12_forget_271 : decode cX12_forget 271 = .ok (.iload_n 1, 1) := by decide +kernel
theorem dX12_forget_272 : decode cX12_forget 272 = .ok (.iconst 0, 1) := by decide +kernel
theorem dX12_forget_273 : decode cX12_forget 273 = .ok (.bastore, 1) := by decide +kernel
theorem dX12_forget_274 : decode cX12_forget 274 = .ok (.aload_n 0, 1) := by decide +kernel
theorem dX12_forget_275 : decode cX12_forget 275 = .ok (.getfield 164, 3) := by decide +kernel
theorem dX12_forget_278 : decode cX12_forget 278 = .ok (.iload_n 1, 1) := by decide +kernel
theorem dX12_forget_279 : decode cX12_forget 279 = .ok (.iconst (-1), 1) := by decide +kernel
theorem dX12_forget_280 : decode cX12_forget 280 = .ok (.iastore, 1) := by decide +kernel
theorem dX12_forget_281 : decode cX12_forget 281 = .ok (.aload_n 0, 1) := by decide +kernel
theorem dX12_forget_282 : decode cX12_forget 282 = .ok (.getfield 167, 3) := by decide +kernel
theorem dX12_forget_285 : decode cX12_forget 285 = .ok (.iload_n 1, 1) := by decide +kernel
theorem dX12_forget_286 : decode cX12_forget 286 = .ok (.iconst 0, 1) := by decide +kernel
theorem dX12_forget_287 : decode cX12_forget 287 = .ok (.iastore, 1) := by decide +kernel
theorem dX12_forget_288 : decode cX12_forget 288 = .ok (.aload_n 0, 1) := by decide +kernel
theorem dX12_forget_289 : decode cX12_forget 289 = .ok (.getfield 170, 3) := by decide +kernel
theorem dX12_forget_292 : decode cX12_forget 292 = .ok (.iload_n 1, 1) := by decide +kernel
theorem dX12_forget_293 : decode cX12_forget 293 = .ok (.iconst 0, 1) := by decide +kernel
theorem dX12_forget_294 : decode cX12_forget 294 = .ok (.iastore, 1) := by decide +kernel
theorem dX12_forget_295 : decode cX12_forget 295 = .ok (.aload_n 0, 1) := by decide +kernel
theorem dX12_forget_296 : decode cX12_forget 296 = .ok (.getfield 173, 3) := by decide +kernel
theorem dX12_forget_299 : decode cX12_forget 299 = .ok (.iload_n 1, 1) := by decide +kernel
theorem dX12_forget_300 : decode cX12_forget 300 = .ok (.iconst 0, 1) := by decide +kernel
theorem dX12_forget_301 : decode cX12_forget 301 = .ok (.bastore, 1) := by decide +kernel
theorem dX12_forget_302 : decode cX12_forget 302 = .ok (.aload_n 0, 1) := by decide +kernel
theorem dX12_forget_303 : decode cX12_forget 303 = .ok (.getfield 182, 3) := by decide +kernel
theorem dX12_forget_306 : decode cX12_forget 306 = .ok (.iload_n 1, 1) := by decide +kernel
theorem dX12_forget_307 : decode cX12_forget 307 = .ok (.iconst 0, 1) := by decide +kernel
theorem dX12_forget_308 : decode cX12_forget 308 = .ok (.iastore, 1) := by decide +kernel
theorem dX12_forget_309 : decode cX12_forget 309 = .ok (.iinc 1 1, 3) := by decide +kernel
theorem dX12_forget_312 : decode cX12_forget 312 = .ok (.goto (-66), 3) := by decide +kernel
theorem dX12_forget_315 : decode cX12_forget 315 = .ok (.iconst 0, 1) := by decide +kernel
theorem dX12_forget_316 : decode cX12_forget 316 = .ok (.istore_n 1, 1) := by decide +kernel
theorem dX12_forget_317 : decode cX12_forget 317 = .ok (.iload_n 1, 1) := by decide +kernel
theorem dX12_forget_318 : decode cX12_forget 318 = .ok (.bipush 24, 2) := by decide +kernel
theorem dX12_forget_320 : decode cX12_forget 320 = .ok (.if_icmp .ge 44, 3) := by decide +kernel
theorem dX12_forget_323 : decode cX12_forget 323 = .ok (.aload_n 0, 1) := by decide +kernel
theorem dX12_forget_324 : decode cX12_forget 324 = .ok (.getfield 242, 3) := by decide +kernel
theorem dX12_forget_327 : decode cX12_forget 327 = .ok (.iload_n 1, 1) := by decide +kernel
theorem dX12_forget_328 : decode cX12_forget 328 = .ok (.iconst 0, 1) := by decide +kernel
theorem dX12_forget_329 : decode cX12_forget 329 = .ok (.bastore, 1) := by decide +kernel
theorem dX12_forget_330 : decode cX12_forget 330 = .ok (.aload_n 0, 1) := by decide +kernel
theorem dX12_forget_331 : decode cX12_forget 331 = .ok (.getfield 251, 3) := by decide +kernel
theorem dX12_forget_334 : decode cX12_forget 334 = .ok (.iload_n 1, 1) := by decide +kernel
theorem dX12_forget_335 : decode cX12_forget 335 = .ok (.iconst 0, 1) := by decide +kernel
theorem dX12_forget_336 : decode cX12_forget 336 = .ok (.iastore, 1) := by decide +kernel
theorem dX12_forget_337 : decode cX12_forget 337 = .ok (.aload_n 0, 1) := by decide +kernel
theorem dX12_forget_338 : decode cX12_forget 338 = .ok (.getfield 257, 3) := by decide +kernel
theorem dX12_forget_341 : decode cX12_forget 341 = .ok (.iload_n 1, 1) := by decide +kernel
theorem dX12_forget_342 : decode cX12_forget 342 = .ok (.iconst 0, 1) := by decide +kernel
theorem dX12_forget_343 : decode cX12_forget 343 = .ok (.iastore, 1) := by decide +kernel
theorem dX12_forget_344 : decode cX12_forget 344 = .ok (.aload_n 0, 1) := by decide +kernel
theorem dX12_forget_345 : decode cX12_forget 345 = .ok (.getfield 260, 3) := by decide +kernel
theorem dX12_forget_348 : decode cX12_forget 348 = .ok (.iload_n 1, 1) := by decide +kernel
theorem dX12_forget_349 : decode cX12_forget 349 = .ok (.iconst 0, 1) := by decide +kernel
theorem dX12_forget_350 : decode cX12_forget 350 = .ok (.iastore, 1) := by decide +kernel
theorem dX12_forget_351 : decode cX12_forget 351 = .ok (.aload_n 0, 1) := by decide +kernel
theorem dX12_forget_352 : decode cX12_forget 352 = .ok (.getfield 263, 3) := by decide +kernel
theorem dX12_forget_355 : decode cX12_forget 355 = .ok (.iload_n 1, 1) := by decide +kernel
theorem dX12_forget_356 : decode cX12_forget 356 = .ok (.iconst 0, 1) := by decide +kernel
theorem dX12_forget_357 : decode cX12_forget 357 = .ok (.iastore, 1) := by decide +kernel
theorem dX12_forget_358 : decode cX12_forget 358 = .ok (.iinc 1 1, 3) := by decide +kernel
theorem dX12_forget_361 : decode cX12_forget 361 = .ok (.goto (-44), 3) := by decide +kernel
theorem dX12_forget_364 : decode cX12_forget 364 = .ok (.return_, 1) := by decide +kernel
def wb_X12_forget_317 (B317 : q_S → Nat → Int32 → Prop) (S : q_S) (a0 : Nat) (x1 : Int32) (Q : Option Value → q_S → Prop) : Prop := (((24 : Int32) ≤ x1 → (Q none S)) ∧ (¬ (24 : Int32) ≤ x1 → (q_K S a0 = 13 ∧ (∃ a3_ : Nat, (q_P S 2498 a0) = some a3_ ∧ (q_K S a3_ = 22 ∧ (vp_in x1 (q_N S a3_) ∧ (∃ a7_ : Nat, (q_P (qs_A S a3_ x1.toNatClampNeg (vp_nar .boolean (0 : Int32))) 2501 a0) = some a7_ ∧ (q_K (qs_A S a3_ x1.toNatClampNeg (vp_nar .boolean (0 : Int32))) a7_ = 21 ∧ (vp_in x1 (q_N (qs_A S a3_ x1.toNatClampNeg (vp_nar .boolean (0 : Int32))) a7_) ∧ (∃ a11_ : Nat, (q_P (qs_A (qs_A S a3_ x1.toNatClampNeg (vp_nar .boolean (0 : Int32))) a7_ x1.toNatClampNeg (0 : Int32)) 2503 a0) = some a11_ ∧ (q_K (qs_A (qs_A S a3_ x1.toNatClampNeg (vp_nar .boolean (0 : Int32))) a7_ x1.toNatClampNeg (0 : Int32)) a11_ = 21 ∧ (vp_in x1 (q_N (qs_A (qs_A S a3_ x1.toNatClampNeg (vp_nar .boolean (0 : Int32))) a7_ x1.toNatClampNeg (0 : Int32)) a11_) ∧ (∀ S15_ : q_S, S15_ = (qs_A (qs_A (qs_A S a3_ x1.toNatClampNeg (vp_nar .boolean (0 : Int32))) a7_ x1.toNatClampNeg (0 : Int32)) a11_ x1.toNatClampNeg (0 : Int32)) → (∃ a16_ : Nat, (q_P S15_ 2504 a0) = some a16_ ∧ (q_K S15_ a16_ = 21 ∧ (vp_in x1 (q_N S15_ a16_) ∧ (∃ a20_ : Nat, (q_P (qs_A S15_ a16_ x1.toNatClampNeg (0 : Int32)) 2505 a0) = some a20_ ∧ (q_K (qs_A S15_ a16_ x1.toNatClampNeg (0 : Int32)) a20_ = 21 ∧ (vp_in x1 (q_N (qs_A S15_ a16_ x1.toNatClampNeg (0 : Int32)) a20_) ∧ (B317 (qs_A (qs_A S15_ a16_ x1.toNatClampNeg (0 : Int32)) a20_ x1.toNatClampNeg (0 : Int32)) a0 (x1 + 1)))))))))))))))))))))
set_option maxHeartbeats 4000000 in
set_option maxRecDepth 100000 in
theorem cb_X12_forget_317 {p : Program} {l : Launch} {e : Env} {s : State} {m : MethodId} {args : Array Value} {below : List Frame} {meth : Method} {c : Code} {D : va_G} {cy : Nat → ClassId} {lo : Nat} {B317 : q_S → Nat → Int32 → Prop} {S : q_S} {a0 : Nat} {x1 : Int32} {Q : Option Value → q_S → Prop} {H : Heap} {locs : List Loc} {ls : Array Slot} (X : q_X p s m args meth c RX12 cX12_forget 2 none D cy lo) (hB317 : ∀ (S : q_S) (a0 : Nat) (x1 : Int32) (H : Heap) (locs : List Loc) (ls : Array Slot), B317 S a0 x1 → q_Y D cy lo s S H locs → lv_has ls 2 [(0, .ref a0), (1, .int x1)] → W p l e ({ frames := 0, cells := 0, slots := 0, locals := 0 } : Room) s m args below meth c H locs 0 0 (MQ below (q_Q D cy lo Q) args s 0 0 (fun q => lo ≤ q)) (F0 m 317 ls [])) (Y : q_Y D cy lo s S H locs) (hl : lv_has ls 2 [(0, .ref a0), (1, .int x1)]) (h : wb_X12_forget_317 B317 S a0 x1 Q) : W p l e ({ frames := 0, cells := 0, slots := 0, locals := 0 } : Room) s m args below meth c H locs 0 0 (MQ below (q_Q D cy lo Q) args s 0 0 (fun q => lo ≤ q)) (F0 m 317 ls []) := by
  have hx := X.1
  have hb := X.2.1
  unfold wb_X12_forget_317 at h
  refine lv_iload_n hx hb dX12_forget_317 rfl (lv_at hl 1 rfl) ?_
  refine lv_bipush (v := 24) hx hb dX12_forget_318 (by decide) ?_
  refine lv_icmp_ge (tgt := 364) hx hb dX12_forget_320 (by decide) (fun c1_ => ?_) (fun c1_ => ?_)
  · replace h := h.1 c1_
    exact q_vret X Y (Nat.le_refl _) (Nat.le_refl _) h dX12_forget_364
  · replace h := h.2 c1_
    refine lv_aload_n hx hb dX12_forget_323 rfl (lv_at hl 0 rfl) ?_
    obtain ⟨k2_, h⟩ := h
    refine q_getP X Y kX12 98 rfl fl_X12_242 k2_ rfl dX12_forget_324 ?_
    refine lv_iload_n hx hb dX12_forget_327 rfl (lv_at hl 1 rfl) ?_
    refine lv_iconst (v := 0) hx hb dX12_forget_328 (by decide) ?_
    obtain ⟨a3_, e4_, h⟩ := h
    refine q_nn [.int (0 : Int32), .int x1] e4_ ?_
    obtain ⟨k5_, h⟩ := h
    obtain ⟨i6_, h⟩ := h
    refine q_zst X Y k5_ i6_ dX12_forget_329 (fun H locs Y => ?_)
    refine lv_aload_n hx hb dX12_forget_330 rfl (lv_at hl 0 rfl) ?_
    refine q_getP X Y kX12 101 rfl fl_X12_251 k2_ rfl dX12_forget_331 ?_
    refine lv_iload_n hx hb dX12_forget_334 rfl (lv_at hl 1 rfl) ?_
    refine lv_iconst (v := 0) hx hb dX12_forget_335 (by decide) ?_
    obtain ⟨a7_, e8_, h⟩ := h
    refine q_nn [.int (0 : Int32), .int x1] e8_ ?_
    obtain ⟨k9_, h⟩ := h
    obtain ⟨i10_, h⟩ := h
    refine q_ist X Y k9_ i10_ dX12_forget_336 (fun H locs Y => ?_)
    refine lv_aload_n hx hb dX12_forget_337 rfl (lv_at hl 0 rfl) ?_
    refine q_getP X Y kX12 103 rfl fl_X12_257 k2_ rfl dX12_forget_338 ?_
    refine lv_iload_n hx hb dX12_forget_341 rfl (lv_at hl 1 rfl) ?_
    refine lv_iconst (v := 0) hx hb dX12_forget_342 (by decide) ?_
    obtain ⟨a11_, e12_, h⟩ := h
    refine q_nn [.int (0 : Int32), .int x1] e12_ ?_
    obtain ⟨k13_, h⟩ := h
    obtain ⟨i14_, h⟩ := h
    refine q_ist X Y k13_ i14_ dX12_forget_343 (fun H locs Y => ?_)
    obtain ⟨S15_, gS15_⟩ : ∃ z : q_S, z = (qs_A (qs_A (qs_A S a3_ x1.toNatClampNeg (vp_nar .boolean (0 : Int32))) a7_ x1.toNatClampNeg (0 : Int32)) a11_ x1.toNatClampNeg (0 : Int32)) := ⟨_, rfl⟩
    replace Y : q_Y D cy lo s S15_ H locs := by rw [gS15_]; exact Y
    replace h := h S15_ gS15_
    replace k2_ : q_K S15_ a0 = 13 := by rw [gS15_]; exact k2_
    replace k5_ : q_K S15_ a3_ = 22 := by rw [gS15_]; exact k5_
    replace k9_ : q_K S15_ a7_ = 21 := by rw [gS15_]; exact k9_
    replace k13_ : q_K S15_ a11_ = 21 := by rw [gS15_]; exact k13_
    refine lv_aload_n hx hb dX12_forget_344 rfl (lv_at hl 0 rfl) ?_
    refine q_getP X Y kX12 104 rfl fl_X12_260 k2_ rfl dX12_forget_345 ?_
    refine lv_iload_n hx hb dX12_forget_348 rfl (lv_at hl 1 rfl) ?_
    refine lv_iconst (v := 0) hx hb dX12_forget_349 (by decide) ?_
    obtain ⟨a16_, e17_, h⟩ := h
    refine q_nn [.int (0 : Int32), .int x1] e17_ ?_
    obtain ⟨k18_, h⟩ := h
    obtain ⟨i19_, h⟩ := h
    refine q_ist X Y k18_ i19_ dX12_forget_350 (fun H locs Y => ?_)
    refine lv_aload_n hx hb dX12_forget_351 rfl (lv_at hl 0 rfl) ?_
    refine q_getP X Y kX12 105 rfl fl_X12_263 k2_ rfl dX12_forget_352 ?_
    refine lv_iload_n hx hb dX12_forget_355 rfl (lv_at hl 1 rfl) ?_
    refine lv_iconst (v := 0) hx hb dX12_forget_356 (by decide) ?_
    obtain ⟨a20_, e21_, h⟩ := h
    refine q_nn [.int (0 : Int32), .int x1] e21_ ?_
    obtain ⟨k22_, h⟩ := h
    obtain ⟨i23_, h⟩ := h
    refine q_ist X Y k22_ i23_ dX12_forget_357 (fun H locs Y => ?_)
    refine lv_iinc (v := (x1 + 1)) (lv' := [(1, .int (x1 + 1)), (0, .ref a0)]) hx hb dX12_forget_358 hl (k := 1) rfl (by first | rfl | decide) (by decide) (by first | rfl | simp [q_cat, q_catI, q_catJ, q_catR]) (fun ls hl => ?_)
    refine lv_goto (tgt := 317) hx hb dX12_forget_361 (by decide) ?_
    exact hB317 _ _ _ _ _ _ h Y (lv_sub hl [1, 0] rfl)
def wl_X12_forget_317  : Nat → q_S → Nat → Int32 → (Option Value → q_S → Prop) → Prop
  | 0, _, _, _, _ => False
  | n + 1, S, a0, x1, Q => wb_X12_forget_317 (fun S a0 x1 => wl_X12_forget_317 n S a0 x1 Q) S a0 x1 Q
set_option maxHeartbeats 4000000 in
set_option maxRecDepth 100000 in
theorem cl_X12_forget_317 {p : Program} {l : Launch} {e : Env} {s : State} {m : MethodId} {args : Array Value} {below : List Frame} {meth : Method} {c : Code} {D : va_G} {cy : Nat → ClassId} {lo : Nat}  {Q : Option Value → q_S → Prop} (X : q_X p s m args meth c RX12 cX12_forget 2 none D cy lo)  : ∀ (n : Nat) (S : q_S) (a0 : Nat) (x1 : Int32) (H : Heap) (locs : List Loc) (ls : Array Slot), wl_X12_forget_317 n S a0 x1 Q → q_Y D cy lo s S H locs → lv_has ls 2 [(0, .ref a0), (1, .int x1)] → W p l e ({ frames := 0, cells := 0, slots := 0, locals := 0 } : Room) s m args below meth c H locs 0 0 (MQ below (q_Q D cy lo Q) args s 0 0 (fun q => lo ≤ q)) (F0 m 317 ls []) := by
  intro n
  induction n with
  | zero => intro S a0 x1 H locs ls h; exact absurd h id
  | succ n ih => intro S a0 x1 H locs ls h Y hl; exact cb_X12_forget_317 X ih Y hl h
def wb_X12_forget_246 (B246 : q_S → Nat → Int32 → Prop) (S : q_S) (a0 : Nat) (x1 : Int32) (Q : Option Value → q_S → Prop) : Prop := (((256 : Int32) ≤ x1 → (∃ n25_ : Nat, wl_X12_forget_317 n25_ S a0 (0 : Int32) Q)) ∧ (¬ (256 : Int32) ≤ x1 → (q_K S a0 = 13 ∧ (∃ a27_ : Nat, (q_P S 2467 a0) = some a27_ ∧ (q_K S a27_ = 21 ∧ (vp_in x1 (q_N S a27_) ∧ (∃ a31_ : Nat, (q_P (qs_A S a27_ x1.toNatClampNeg (0 : Int32)) 2468 a0) = some a31_ ∧ (q_K (qs_A S a27_ x1.toNatClampNeg (0 : Int32)) a31_ = 21 ∧ (vp_in x1 (q_N (qs_A S a27_ x1.toNatClampNeg (0 : Int32)) a31_) ∧ (∃ a35_ : Nat, (q_P (qs_A (qs_A S a27_ x1.toNatClampNeg (0 : Int32)) a31_ x1.toNatClampNeg (0 : Int32)) 2470 a0) = some a35_ ∧ (q_K (qs_A (qs_A S a27_ x1.toNatClampNeg (0 : Int32)) a31_ x1.toNatClampNeg (0 : Int32)) a35_ = 22 ∧ (vp_in x1 (q_N (qs_A (qs_A S a27_ x1.toNatClampNeg (0 : Int32)) a31_ x1.toNatClampNeg (0 : Int32)) a35_) ∧ (∀ S39_ : q_S, S39_ = (qs_A (qs_A (qs_A S a27_ x1.toNatClampNeg (0 : Int32)) a31_ x1.toNatClampNeg (0 : Int32)) a35_ x1.toNatClampNeg (vp_nar .boolean (0 : Int32))) → (∃ a40_ : Nat, (q_P S39_ 2472 a0) = some a40_ ∧ (q_K S39_ a40_ = 21 ∧ (vp_in x1 (q_N S39_ a40_) ∧ (∃ a44_ : Nat, (q_P (qs_A S39_ a40_ x1.toNatClampNeg (-1 : Int32)) 2473 a0) = some a44_ ∧ (q_K (qs_A S39_ a40_ x1.toNatClampNeg (-1 : Int32)) a44_ = 21 ∧ (vp_in x1 (q_N (qs_A S39_ a40_ x1.toNatClampNeg (-1 : Int32)) a44_) ∧ (∃ a48_ : Nat, (q_P (qs_A (qs_A S39_ a40_ x1.toNatClampNeg (-1 : Int32)) a44_ x1.toNatClampNeg (0 : Int32)) 2474 a0) = some a48_ ∧ (q_K (qs_A (qs_A S39_ a40_ x1.toNatClampNeg (-1 : Int32)) a44_ x1.toNatClampNeg (0 : Int32)) a48_ = 21 ∧ (vp_in x1 (q_N (qs_A (qs_A S39_ a40_ x1.toNatClampNeg (-1 : Int32)) a44_ x1.toNatClampNeg (0 : Int32)) a48_) ∧ (∀ S52_ : q_S, S52_ = (qs_A (qs_A (qs_A S39_ a40_ x1.toNatClampNeg (-1 : Int32)) a44_ x1.toNatClampNeg (0 : Int32)) a48_ x1.toNatClampNeg (0 : Int32)) → (∃ a53_ : Nat, (q_P S52_ 2475 a0) = some a53_ ∧ (q_K S52_ a53_ = 22 ∧ (vp_in x1 (q_N S52_ a53_) ∧ (∃ a57_ : Nat, (q_P (qs_A S52_ a53_ x1.toNatClampNeg (vp_nar .boolean (0 : Int32))) 2478 a0) = some a57_ ∧ (q_K (qs_A S52_ a53_ x1.toNatClampNeg (vp_nar .boolean (0 : Int32))) a57_ = 21 ∧ (vp_in x1 (q_N (qs_A S52_ a53_ x1.toNatClampNeg (vp_nar .boolean (0 : Int32))) a57_) ∧ (B246 (qs_A (qs_A S52_ a53_ x1.toNatClampNeg (vp_nar .boolean (0 : Int32))) a57_ x1.toNatClampNeg (0 : Int32)) a0 (x1 + 1)))))))))))))))))))))))))))))))
set_option maxHeartbeats 4000000 in
set_option maxRecDepth 100000 in
theorem cb_X12_forget_246 {p : Program} {l : Launch} {e : Env} {s : State} {m : MethodId} {args : Array Value} {below : List Frame} {meth : Method} {c : Code} {D : va_G} {cy : Nat → ClassId} {lo : Nat} {B246 : q_S → Nat → Int32 → Prop} {S : q_S} {a0 : Nat} {x1 : Int32} {Q : Option Value → q_S → Prop} {H : Heap} {locs : List Loc} {ls : Array Slot} (X : q_X p s m args meth c RX12 cX12_forget 2 none D cy lo) (hB246 : ∀ (S : q_S) (a0 : Nat) (x1 : Int32) (H : Heap) (locs : List Loc) (ls : Array Slot), B246 S a0 x1 → q_Y D cy lo s S H locs → lv_has ls 2 [(0, .ref a0), (1, .int x1)] → W p l e ({ frames := 0, cells := 0, slots := 0, locals := 0 } : Room) s m args below meth c H locs 0 0 (MQ below (q_Q D cy lo Q) args s 0 0 (fun q => lo ≤ q)) (F0 m 246 ls [])) (Y : q_Y D cy lo s S H locs) (hl : lv_has ls 2 [(0, .ref a0), (1, .int x1)]) (h : wb_X12_forget_246 B246 S a0 x1 Q) : W p l e ({ frames := 0, cells := 0, slots := 0, locals := 0 } : Room) s m args below meth c H locs 0 0 (MQ below (q_Q D cy lo Q) args s 0 0 (fun q => lo ≤ q)) (F0 m 246 ls []) := by
  have hx := X.1
  have hb := X.2.1
  unfold wb_X12_forget_246 at h
  refine lv_iload_n hx hb dX12_forget_246 rfl (lv_at hl 1 rfl) ?_
  refine lv_sipush (v := 256) hx hb dX12_forget_247 (by decide) ?_
  refine lv_icmp_ge (tgt := 315) hx hb dX12_forget_250 (by decide) (fun c24_ => ?_) (fun c24_ => ?_)
  · replace h := h.1 c24_
    refine lv_iconst (v := 0) hx hb dX12_forget_315 (by decide) ?_
    refine lv_istore_n (i := 1) (lv' := [(1, .int (0 : Int32)), (0, .ref a0)]) hx hb dX12_forget_316 rfl hl (by decide) (by first | rfl | simp [q_cat, q_catI, q_catJ, q_catR]) (fun ls hl => ?_)
    obtain ⟨n25_, h⟩ := h
    exact cl_X12_forget_317 X n25_ _ _ _ _ _ _ h Y (lv_sub hl [1, 0] rfl)
  · replace h := h.2 c24_
    refine lv_aload_n hx hb dX12_forget_253 rfl (lv_at hl 0 rfl) ?_
    obtain ⟨k26_, h⟩ := h
    refine q_getP X Y kX12 67 rfl fl_X12_149 k26_ rfl dX12_forget_254 ?_
    refine lv_iload_n hx hb dX12_forget_257 rfl (lv_at hl 1 rfl) ?_
    refine lv_iconst (v := 0) hx hb dX12_forget_258 (by decide) ?_
    obtain ⟨a27_, e28_, h⟩ := h
    refine q_nn [.int (0 : Int32), .int x1] e28_ ?_
    obtain ⟨k29_, h⟩ := h
    obtain ⟨i30_, h⟩ := h
    refine q_ist X Y k29_ i30_ dX12_forget_259 (fun H locs Y => ?_)
    refine lv_aload_n hx hb dX12_forget_260 rfl (lv_at hl 0 rfl) ?_
    refine q_getP X Y kX12 68 rfl fl_X12_152 k26_ rfl dX12_forget_261 ?_
    refine lv_iload_n hx hb dX12_forget_264 rfl (lv_at hl 1 rfl) ?_
    refine lv_iconst (v := 0) hx hb dX12_forget_265 (by decide) ?_
    obtain ⟨a31_, e32_, h⟩ := h
    refine q_nn [.int (0 : Int32), .int x1] e32_ ?_
    obtain ⟨k33_, h⟩ := h
    obtain ⟨i34_, h⟩ := h
    refine q_ist X Y k33_ i34_ dX12_forget_266 (fun H locs Y => ?_)
    refine lv_aload_n hx hb dX12_forget_267 rfl (lv_at hl 0 rfl) ?_
    refine q_getP X Y kX12 70 rfl fl_X12_158 k26_ rfl dX12_forget_268 ?_
    refine lv_iload_n hx hb dX12_forget_271 rfl (lv_at hl 1 rfl) ?_
    refine lv_iconst (v := 0) hx hb dX12_forget_272 (by decide) ?_
    obtain ⟨a35_, e36_, h⟩ := h
    refine q_nn [.int (0 : Int32), .int x1] e36_ ?_
    obtain ⟨k37_, h⟩ := h
    obtain ⟨i38_, h⟩ := h
    refine q_zst X Y k37_ i38_ dX12_forget_273 (fun H locs Y => ?_)
    obtain ⟨S39_, gS39_⟩ : ∃ z : q_S, z = (qs_A (qs_A (qs_A S a27_ x1.toNatClampNeg (0 : Int32)) a31_ x1.toNatClampNeg (0 : Int32)) a35_ x1.toNatClampNeg (vp_nar .boolean (0 : Int32))) := ⟨_, rfl⟩
    replace Y : q_Y D cy lo s S39_ H locs := by rw [gS39_]; exact Y
    replace h := h S39_ gS39_
    replace k26_ : q_K S39_ a0 = 13 := by rw [gS39_]; exact k26_
    replace k29_ : q_K S39_ a27_ = 21 := by rw [gS39_]; exact k29_
    replace k33_ : q_K S39_ a31_ = 21 := by rw [gS39_]; exact k33_
    replace k37_ : q_K S39_ a35_ = 22 := by rw [gS39_]; exact k37_
    refine lv_aload_n hx hb dX12_forget_274 rfl (lv_at hl 0 rfl) ?_
    refine q_getP X Y kX12 72 rfl fl_X12_164 k26_ rfl dX12_forget_275 ?_
    refine lv_iload_n hx hb dX12_forget_278 rfl (lv_at hl 1 rfl) ?_
    refine lv_iconst (v := (-1)) hx hb dX12_forget_279 (by decide) ?_
    obtain ⟨a40_, e41_, h⟩ := h
    refine q_nn [.int (-1 : Int32), .int x1] e41_ ?_
    obtain ⟨k42_, h⟩ := h
    obtain ⟨i43_, h⟩ := h
    refine q_ist X Y k42_ i43_ dX12_forget_280 (fun H locs Y => ?_)
    refine lv_aload_n hx hb dX12_forget_281 rfl (lv_at hl 0 rfl) ?_
    refine q_getP X Y kX12 73 rfl fl_X12_167 k26_ rfl dX12_forget_282 ?_
    refine lv_iload_n hx hb dX12_forget_285 rfl (lv_at hl 1 rfl) ?_
    refine lv_iconst (v := 0) hx hb dX12_forget_286 (by decide) ?_
    obtain ⟨a44_, e45_, h⟩ := h
    refine q_nn [.int (0 : Int32), .int x1] e45_ ?_
    obtain ⟨k46_, h⟩ := h
    obtain ⟨i47_, h⟩ := h
    refine q_ist X Y k46_ i47_ dX12_forget_287 (fun H locs Y => ?_)
    refine lv_aload_n hx hb dX12_forget_288 rfl (lv_at hl 0 rfl) ?_
    refine q_getP X Y kX12 74 rfl fl_X12_170 k26_ rfl dX12_forget_289 ?_
    refine lv_iload_n hx hb dX12_forget_292 rfl (lv_at hl 1 rfl) ?_
    refine lv_iconst (v := 0) hx hb dX12_forget_293 (by decide) ?_
    obtain ⟨a48_, e49_, h⟩ := h
    refine q_nn [.int (0 : Int32), .int x1] e49_ ?_
    obtain ⟨k50_, h⟩ := h
    obtain ⟨i51_, h⟩ := h
    refine q_ist X Y k50_ i51_ dX12_forget_294 (fun H locs Y => ?_)
    obtain ⟨S52_, gS52_⟩ : ∃ z : q_S, z = (qs_A (qs_A (qs_A S39_ a40_ x1.toNatClampNeg (-1 : Int32)) a44_ x1.toNatClampNeg (0 : Int32)) a48_ x1.toNatClampNeg (0 : Int32)) := ⟨_, rfl⟩
    replace Y : q_Y D cy lo s S52_ H locs := by rw [gS52_]; exact Y
    replace h := h S52_ gS52_
    replace k26_ : q_K S52_ a0 = 13 := by rw [gS52_]; exact k26_
    replace k29_ : q_K S52_ a27_ = 21 := by rw [gS52_]; exact k29_
    replace k33_ : q_K S52_ a31_ = 21 := by rw [gS52_]; exact k33_
    replace k37_ : q_K S52_ a35_ = 22 := by rw [gS52_]; exact k37_
    replace k42_ : q_K S52_ a40_ = 21 := by rw [gS52_]; exact k42_
    replace k46_ : q_K S52_ a44_ = 21 := by rw [gS52_]; exact k46_
    replace k50_ : q_K S52_ a48_ = 21 := by rw [gS52_]; exact k50_
    refine lv_aload_n hx hb dX12_forget_295 rfl (lv_at hl 0 rfl) ?_
    refine q_getP X Y kX12 75 rfl fl_X12_173 k26_ rfl dX12_forget_296 ?_
    refine lv_iload_n hx hb dX12_forget_299 rfl (lv_at hl 1 rfl) ?_
    refine lv_iconst (v := 0) hx hb dX12_forget_300 (by decide) ?_
    obtain ⟨a53_, e54_, h⟩ := h
    refine q_nn [.int (0 : Int32), .int x1] e54_ ?_
    obtain ⟨k55_, h⟩ := h
    obtain ⟨i56_, h⟩ := h
    refine q_zst X Y k55_ i56_ dX12_forget_301 (fun H locs Y => ?_)
    refine lv_aload_n hx hb dX12_forget_302 rfl (lv_at hl 0 rfl) ?_
    refine q_getP X Y kX12 78 rfl fl_X12_182 k26_ rfl dX12_forget_303 ?_
    refine lv_iload_n hx hb dX12_forget_306 rfl (lv_at hl 1 rfl) ?_
    refine lv_iconst (v := 0) hx hb dX12_forget_307 (by decide) ?_
    obtain ⟨a57_, e58_, h⟩ := h
    refine q_nn [.int (0 : Int32), .int x1] e58_ ?_
    obtain ⟨k59_, h⟩ := h
    obtain ⟨i60_, h⟩ := h
    refine q_ist X Y k59_ i60_ dX12_forget_308 (fun H locs Y => ?_)
    refine lv_iinc (v := (x1 + 1)) (lv' := [(1, .int (x1 + 1)), (0, .ref a0)]) hx hb dX12_forget_309 hl (k := 1) rfl (by first | rfl | decide) (by decide) (by first | rfl | simp [q_cat, q_catI, q_catJ, q_catR]) (fun ls hl => ?_)
    refine lv_goto (tgt := 246) hx hb dX12_forget_312 (by decide) ?_
    exact hB246 _ _ _ _ _ _ h Y (lv_sub hl [1, 0] rfl)
def wl_X12_forget_246  : Nat → q_S → Nat → Int32 → (Option Value → q_S → Prop) → Prop
  | 0, _, _, _, _ => False
  | n + 1, S, a0, x1, Q => wb_X12_forget_246 (fun S a0 x1 => wl_X12_forget_246 n S a0 x1 Q) S a0 x1 Q
set_option maxHeartbeats 4000000 in
set_option maxRecDepth 100000 in
theorem cl_X12_forget_246 {p : Program} {l : Launch} {e : Env} {s : State} {m : MethodId} {args : Array Value} {below : List Frame} {meth : Method} {c : Code} {D : va_G} {cy : Nat → ClassId} {lo : Nat}  {Q : Option Value → q_S → Prop} (X : q_X p s m args meth c RX12 cX12_forget 2 none D cy lo)  : ∀ (n : Nat) (S : q_S) (a0 : Nat) (x1 : Int32) (H : Heap) (locs : List Loc) (ls : Array Slot), wl_X12_forget_246 n S a0 x1 Q → q_Y D cy lo s S H locs → lv_has ls 2 [(0, .ref a0), (1, .int x1)] → W p l e ({ frames := 0, cells := 0, slots := 0, locals := 0 } : Room) s m args below meth c H locs 0 0 (MQ below (q_Q D cy lo Q) args s 0 0 (fun q => lo ≤ q)) (F0 m 246 ls []) := by
  intro n
  induction n with
  | zero => intro S a0 x1 H locs ls h; exact absurd h id
  | succ n ih => intro S a0 x1 H locs ls h Y hl; exact cb_X12_forget_246 X ih Y hl h
def wb_X12_forget_225 (B225 : q_S → Nat → Int32 → Prop) (S : q_S) (a0 : Nat) (x1 : Int32) (Q : Option Value → q_S → Prop) : Prop := (((80 : Int32) ≤ x1 → (∃ n62_ : Nat, wl_X12_forget_246 n62_ S a0 (0 : Int32) Q)) ∧ (¬ (80 : Int32) ≤ x1 → (q_K S a0 = 13 ∧ (∃ a64_ : Nat, (q_P S 2452 a0) = some a64_ ∧ (q_K S a64_ = 21 ∧ (vp_in x1 (q_N S a64_) ∧ (B225 (qs_A S a64_ x1.toNatClampNeg (0 : Int32)) a0 (x1 + 1))))))))
set_option maxHeartbeats 4000000 in
set_option maxRecDepth 100000 in
theorem cb_X12_forget_225 {p : Program} {l : Launch} {e : Env} {s : State} {m : MethodId} {args : Array Value} {below : List Frame} {meth : Method} {c : Code} {D : va_G} {cy : Nat → ClassId} {lo : Nat} {B225 : q_S → Nat → Int32 → Prop} {S : q_S} {a0 : Nat} {x1 : Int32} {Q : Option Value → q_S → Prop} {H : Heap} {locs : List Loc} {ls : Array Slot} (X : q_X p s m args meth c RX12 cX12_forget 2 none D cy lo) (hB225 : ∀ (S : q_S) (a0 : Nat) (x1 : Int32) (H : Heap) (locs : List Loc) (ls : Array Slot), B225 S a0 x1 → q_Y D cy lo s S H locs → lv_has ls 2 [(0, .ref a0), (1, .int x1)] → W p l e ({ frames := 0, cells := 0, slots := 0, locals := 0 } : Room) s m args below meth c H locs 0 0 (MQ below (q_Q D cy lo Q) args s 0 0 (fun q => lo ≤ q)) (F0 m 225 ls [])) (Y : q_Y D cy lo s S H locs) (hl : lv_has ls 2 [(0, .ref a0), (1, .int x1)]) (h : wb_X12_forget_225 B225 S a0 x1 Q) : W p l e ({ frames := 0, cells := 0, slots := 0, locals := 0 } : Room) s m args below meth c H locs 0 0 (MQ below (q_Q D cy lo Q) args s 0 0 (fun q => lo ≤ q)) (F0 m 225 ls []) := by
  have hx := X.1
  have hb := X.2.1
  unfold wb_X12_forget_225 at h
  refine lv_iload_n hx hb dX12_forget_225 rfl (lv_at hl 1 rfl) ?_
  refine lv_bipush (v := 80) hx hb dX12_forget_226 (by decide) ?_
  refine lv_icmp_ge (tgt := 244) hx hb dX12_forget_228 (by decide) (fun c61_ => ?_) (fun c61_ => ?_)
  · replace h := h.1 c61_
    refine lv_iconst (v := 0) hx hb dX12_forget_244 (by decide) ?_
    refine lv_istore_n (i := 1) (lv' := [(1, .int (0 : Int32)), (0, .ref a0)]) hx hb dX12_forget_245 rfl hl (by decide) (by first | rfl | simp [q_cat, q_catI, q_catJ, q_catR]) (fun ls hl => ?_)
    obtain ⟨n62_, h⟩ := h
    exact cl_X12_forget_246 X n62_ _ _ _ _ _ _ h Y (lv_sub hl [1, 0] rfl)
  · replace h := h.2 c61_
    refine lv_aload_n hx hb dX12_forget_231 rfl (lv_at hl 0 rfl) ?_
    obtain ⟨k63_, h⟩ := h
    refine q_getP X Y kX12 52 rfl fl_X12_112 k63_ rfl dX12_forget_232 ?_
    refine lv_iload_n hx hb dX12_forget_235 rfl (lv_at hl 1 rfl) ?_
    refine lv_iconst (v := 0) hx hb dX12_forget_236 (by decide) ?_
    obtain ⟨a64_, e65_, h⟩ := h
    refine q_nn [.int (0 : Int32), .int x1] e65_ ?_
    obtain ⟨k66_, h⟩ := h
    obtain ⟨i67_, h⟩ := h
    refine q_ist X Y k66_ i67_ dX12_forget_237 (fun H locs Y => ?_)
    refine lv_iinc (v := (x1 + 1)) (lv' := [(1, .int (x1 + 1)), (0, .ref a0)]) hx hb dX12_forget_238 hl (k := 1) rfl (by first | rfl | decide) (by decide) (by first | rfl | simp [q_cat, q_catI, q_catJ, q_catR]) (fun ls hl => ?_)
    refine lv_goto (tgt := 225) hx hb dX12_forget_241 (by decide) ?_
    exact hB225 _ _ _ _ _ _ h Y (lv_sub hl [1, 0] rfl)
def wl_X12_forget_225  : Nat → q_S → Nat → Int32 → (Option Value → q_S → Prop) → Prop
  | 0, _, _, _, _ => False
  | n + 1, S, a0, x1, Q => wb_X12_forget_225 (fun S a0 x1 => wl_X12_forget_225 n S a0 x1 Q) S a0 x1 Q
set_option maxHeartbeats 4000000 in
set_option maxRecDepth 100000 in
theorem cl_X12_forget_225 {p : Program} {l : Launch} {e : Env} {s : State} {m : MethodId} {args : Array Value} {below : List Frame} {meth : Method} {c : Code} {D : va_G} {cy : Nat → ClassId} {lo : Nat}  {Q : Option Value → q_S → Prop} (X : q_X p s m args meth c RX12 cX12_forget 2 none D cy lo)  : ∀ (n : Nat) (S : q_S) (a0 : Nat) (x1 : Int32) (H : Heap) (locs : List Loc) (ls : Array Slot), wl_X12_forget_225 n S a0 x1 Q → q_Y D cy lo s S H locs → lv_has ls 2 [(0, .ref a0), (1, .int x1)] → W p l e ({ frames := 0, cells := 0, slots := 0, locals := 0 } : Room) s m args below meth c H locs 0 0 (MQ below (q_Q D cy lo Q) args s 0 0 (fun q => lo ≤ q)) (F0 m 225 ls []) := by
  intro n
  induction n with
  | zero => intro S a0 x1 H locs ls h; exact absurd h id
  | succ n ih => intro S a0 x1 H locs ls h Y hl; exact cb_X12_forget_225 X ih Y hl h
def wb_X12_forget_204 (B204 : q_S → Nat → Int32 → Prop) (S : q_S) (a0 : Nat) (x1 : Int32) (Q : Option Value → q_S → Prop) : Prop := (((96 : Int32) ≤ x1 → (∃ n69_ : Nat, wl_X12_forget_225 n69_ S a0 (0 : Int32) Q)) ∧ (¬ (96 : Int32) ≤ x1 → (q_K S a0 = 13 ∧ (∃ a71_ : Nat, (q_P S 2435 a0) = some a71_ ∧ (q_K S a71_ = 21 ∧ (vp_in x1 (q_N S a71_) ∧ (B204 (qs_A S a71_ x1.toNatClampNeg (0 : Int32)) a0 (x1 + 1))))))))
set_option maxHeartbeats 4000000 in
set_option maxRecDepth 100000 in
theorem cb_X12_forget_204 {p : Program} {l : Launch} {e : Env} {s : State} {m : MethodId} {args : Array Value} {below : List Frame} {meth : Method} {c : Code} {D : va_G} {cy : Nat → ClassId} {lo : Nat} {B204 : q_S → Nat → Int32 → Prop} {S : q_S} {a0 : Nat} {x1 : Int32} {Q : Option Value → q_S → Prop} {H : Heap} {locs : List Loc} {ls : Array Slot} (X : q_X p s m args meth c RX12 cX12_forget 2 none D cy lo) (hB204 : ∀ (S : q_S) (a0 : Nat) (x1 : Int32) (H : Heap) (locs : List Loc) (ls : Array Slot), B204 S a0 x1 → q_Y D cy lo s S H locs → lv_has ls 2 [(0, .ref a0), (1, .int x1)] → W p l e ({ frames := 0, cells := 0, slots := 0, locals := 0 } : Room) s m args below meth c H locs 0 0 (MQ below (q_Q D cy lo Q) args s 0 0 (fun q => lo ≤ q)) (F0 m 204 ls [])) (Y : q_Y D cy lo s S H locs) (hl : lv_has ls 2 [(0, .ref a0), (1, .int x1)]) (h : wb_X12_forget_204 B204 S a0 x1 Q) : W p l e ({ frames := 0, cells := 0, slots := 0, locals := 0 } : Room) s m args below meth c H locs 0 0 (MQ below (q_Q D cy lo Q) args s 0 0 (fun q => lo ≤ q)) (F0 m 204 ls []) := by
  have hx := X.1
  have hb := X.2.1
  unfold wb_X12_forget_204 at h
  refine lv_iload_n hx hb dX12_forget_204 rfl (lv_at hl 1 rfl) ?_
  refine lv_bipush (v := 96) hx hb dX12_forget_205 (by decide) ?_
  refine lv_icmp_ge (tgt := 223) hx hb dX12_forget_207 (by decide) (fun c68_ => ?_) (fun c68_ => ?_)
  · replace h := h.1 c68_
    refine lv_iconst (v := 0) hx hb dX12_forget_223 (by decide) ?_
    refine lv_istore_n (i := 1) (lv' := [(1, .int (0 : Int32)), (0, .ref a0)]) hx hb dX12_forget_224 rfl hl (by decide) (by first | rfl | simp [q_cat, q_catI, q_catJ, q_catR]) (fun ls hl => ?_)
    obtain ⟨n69_, h⟩ := h
    exact cl_X12_forget_225 X n69_ _ _ _ _ _ _ h Y (lv_sub hl [1, 0] rfl)
  · replace h := h.2 c68_
    refine lv_aload_n hx hb dX12_forget_210 rfl (lv_at hl 0 rfl) ?_
    obtain ⟨k70_, h⟩ := h
    refine q_getP X Y kX12 35 rfl fl_X12_60 k70_ rfl dX12_forget_211 ?_
    refine lv_iload_n hx hb dX12_forget_214 rfl (lv_at hl 1 rfl) ?_
    refine lv_iconst (v := 0) hx hb dX12_forget_215 (by decide) ?_
    obtain ⟨a71_, e72_, h⟩ := h
    refine q_nn [.int (0 : Int32), .int x1] e72_ ?_
    obtain ⟨k73_, h⟩ := h
    obtain ⟨i74_, h⟩ := h
    refine q_ist X Y k73_ i74_ dX12_forget_216 (fun H locs Y => ?_)
    refine lv_iinc (v := (x1 + 1)) (lv' := [(1, .int (x1 + 1)), (0, .ref a0)]) hx hb dX12_forget_217 hl (k := 1) rfl (by first | rfl | decide) (by decide) (by first | rfl | simp [q_cat, q_catI, q_catJ, q_catR]) (fun ls hl => ?_)
    refine lv_goto (tgt := 204) hx hb dX12_forget_220 (by decide) ?_
    exact hB204 _ _ _ _ _ _ h Y (lv_sub hl [1, 0] rfl)
def wl_X12_forget_204  : Nat → q_S → Nat → Int32 → (Option Value → q_S → Prop) → Prop
  | 0, _, _, _, _ => False
  | n + 1, S, a0, x1, Q => wb_X12_forget_204 (fun S a0 x1 => wl_X12_forget_204 n S a0 x1 Q) S a0 x1 Q
set_option maxHeartbeats 4000000 in
set_option maxRecDepth 100000 in
theorem cl_X12_forget_204 {p : Program} {l : Launch} {e : Env} {s : State} {m : MethodId} {args : Array Value} {below : List Frame} {meth : Method} {c : Code} {D : va_G} {cy : Nat → ClassId} {lo : Nat}  {Q : Option Value → q_S → Prop} (X : q_X p s m args meth c RX12 cX12_forget 2 none D cy lo)  : ∀ (n : Nat) (S : q_S) (a0 : Nat) (x1 : Int32) (H : Heap) (locs : List Loc) (ls : Array Slot), wl_X12_forget_204 n S a0 x1 Q → q_Y D cy lo s S H locs → lv_has ls 2 [(0, .ref a0), (1, .int x1)] → W p l e ({ frames := 0, cells := 0, slots := 0, locals := 0 } : Room) s m args below meth c H locs 0 0 (MQ below (q_Q D cy lo Q) args s 0 0 (fun q => lo ≤ q)) (F0 m 204 ls []) := by
  intro n
  induction n with
  | zero => intro S a0 x1 H locs ls h; exact absurd h id
  | succ n ih => intro S a0 x1 H locs ls h Y hl; exact cb_X12_forget_204 X ih Y hl h
def wb_X12_forget_120 (B120 : q_S → Nat → Int32 → Prop) (S : q_S) (a0 : Nat) (x1 : Int32) (Q : Option Value → q_S → Prop) : Prop := (((16 : Int32) ≤ x1 → (∃ n76_ : Nat, wl_X12_forget_204 n76_ S a0 (0 : Int32) Q)) ∧ (¬ (16 : Int32) ≤ x1 → (q_K S a0 = 13 ∧ (∃ a78_ : Nat, (q_P S 2430 a0) = some a78_ ∧ (q_K S a78_ = 21 ∧ (vp_in x1 (q_N S a78_) ∧ (∃ a82_ : Nat, (q_P (qs_A S a78_ x1.toNatClampNeg (0 : Int32)) 2442 a0) = some a82_ ∧ (q_K (qs_A S a78_ x1.toNatClampNeg (0 : Int32)) a82_ = 21 ∧ (vp_in x1 (q_N (qs_A S a78_ x1.toNatClampNeg (0 : Int32)) a82_) ∧ (∃ a86_ : Nat, (q_P (qs_A (qs_A S a78_ x1.toNatClampNeg (0 : Int32)) a82_ x1.toNatClampNeg (-1 : Int32)) 2451 a0) = some a86_ ∧ (q_K (qs_A (qs_A S a78_ x1.toNatClampNeg (0 : Int32)) a82_ x1.toNatClampNeg (-1 : Int32)) a86_ = 22 ∧ (vp_in x1 (q_N (qs_A (qs_A S a78_ x1.toNatClampNeg (0 : Int32)) a82_ x1.toNatClampNeg (-1 : Int32)) a86_) ∧ (∀ S90_ : q_S, S90_ = (qs_A (qs_A (qs_A S a78_ x1.toNatClampNeg (0 : Int32)) a82_ x1.toNatClampNeg (-1 : Int32)) a86_ x1.toNatClampNeg (vp_nar .boolean (0 : Int32))) → (∃ a91_ : Nat, (q_P S90_ 2483 a0) = some a91_ ∧ (q_K S90_ a91_ = 21 ∧ (vp_in x1 (q_N S90_ a91_) ∧ (∃ a95_ : Nat, (q_P (qs_A S90_ a91_ x1.toNatClampNeg (0 : Int32)) 2484 a0) = some a95_ ∧ (q_K (qs_A S90_ a91_ x1.toNatClampNeg (0 : Int32)) a95_ = 21 ∧ (vp_in x1 (q_N (qs_A S90_ a91_ x1.toNatClampNeg (0 : Int32)) a95_) ∧ (∃ a99_ : Nat, (q_P (qs_A (qs_A S90_ a91_ x1.toNatClampNeg (0 : Int32)) a95_ x1.toNatClampNeg (-1 : Int32)) 2485 a0) = some a99_ ∧ (q_K (qs_A (qs_A S90_ a91_ x1.toNatClampNeg (0 : Int32)) a95_ x1.toNatClampNeg (-1 : Int32)) a99_ = 21 ∧ (vp_in x1 (q_N (qs_A (qs_A S90_ a91_ x1.toNatClampNeg (0 : Int32)) a95_ x1.toNatClampNeg (-1 : Int32)) a99_) ∧ (∀ S103_ : q_S, S103_ = (qs_A (qs_A (qs_A S90_ a91_ x1.toNatClampNeg (0 : Int32)) a95_ x1.toNatClampNeg (-1 : Int32)) a99_ x1.toNatClampNeg (0 : Int32)) → (∃ a104_ : Nat, (q_P S103_ 2486 a0) = some a104_ ∧ (q_K S103_ a104_ = 21 ∧ (vp_in x1 (q_N S103_ a104_) ∧ (∃ a108_ : Nat, (q_P (qs_A S103_ a104_ x1.toNatClampNeg (0 : Int32)) 2487 a0) = some a108_ ∧ (q_K (qs_A S103_ a104_ x1.toNatClampNeg (0 : Int32)) a108_ = 21 ∧ (vp_in x1 (q_N (qs_A S103_ a104_ x1.toNatClampNeg (0 : Int32)) a108_) ∧ (∃ a112_ : Nat, (q_P (qs_A (qs_A S103_ a104_ x1.toNatClampNeg (0 : Int32)) a108_ x1.toNatClampNeg (-1 : Int32)) 2488 a0) = some a112_ ∧ (q_K (qs_A (qs_A S103_ a104_ x1.toNatClampNeg (0 : Int32)) a108_ x1.toNatClampNeg (-1 : Int32)) a112_ = 21 ∧ (vp_in x1 (q_N (qs_A (qs_A S103_ a104_ x1.toNatClampNeg (0 : Int32)) a108_ x1.toNatClampNeg (-1 : Int32)) a112_) ∧ (∀ S116_ : q_S, S116_ = (qs_A (qs_A (qs_A S103_ a104_ x1.toNatClampNeg (0 : Int32)) a108_ x1.toNatClampNeg (-1 : Int32)) a112_ x1.toNatClampNeg (-1 : Int32)) → (∃ a117_ : Nat, (q_P S116_ 2491 a0) = some a117_ ∧ (q_K S116_ a117_ = 21 ∧ (vp_in x1 (q_N S116_ a117_) ∧ (B120 (qs_A S116_ a117_ x1.toNatClampNeg (0 : Int32)) a0 (x1 + 1))))))))))))))))))))))))))))))))))))))
set_option maxHeartbeats 4000000 in
set_option maxRecDepth 100000 in
theorem cb_X12_forget_120 {p : Program} {l : Launch} {e : Env} {s : State} {m : MethodId} {args : Array Value} {below : List Frame} {meth : Method} {c : Code} {D : va_G} {cy : Nat → ClassId} {lo : Nat} {B120 : q_S → Nat → Int32 → Prop} {S : q_S} {a0 : Nat} {x1 : Int32} {Q : Option Value → q_S → Prop} {H : Heap} {locs : List Loc} {ls : Array Slot} (X : q_X p s m args meth c RX12 cX12_forget 2 none D cy lo) (hB120 : ∀ (S : q_S) (a0 : Nat) (x1 : Int32) (H : Heap) (locs : List Loc) (ls : Array Slot), B120 S a0 x1 → q_Y D cy lo s S H locs → lv_has ls 2 [(0, .ref a0), (1, .int x1)] → W p l e ({ frames := 0, cells := 0, slots := 0, locals := 0 } : Room) s m args below meth c H locs 0 0 (MQ below (q_Q D cy lo Q) args s 0 0 (fun q => lo ≤ q)) (F0 m 120 ls [])) (Y : q_Y D cy lo s S H locs) (hl : lv_has ls 2 [(0, .ref a0), (1, .int x1)]) (h : wb_X12_forget_120 B120 S a0 x1 Q) : W p l e ({ frames := 0, cells := 0, slots := 0, locals := 0 } : Room) s m args below meth c H locs 0 0 (MQ below (q_Q D cy lo Q) args s 0 0 (fun q => lo ≤ q)) (F0 m 120 ls []) := by
  have hx := X.1
  have hb := X.2.1
  unfold wb_X12_forget_120 at h
  refine lv_iload_n hx hb dX12_forget_120 rfl (lv_at hl 1 rfl) ?_
  refine lv_bipush (v := 16) hx hb dX12_forget_121 (by decide) ?_
  refine lv_icmp_ge (tgt := 202) hx hb dX12_forget_123 (by decide) (fun c75_ => ?_) (fun c75_ => ?_)
  · replace h := h.1 c75_
    refine lv_iconst (v := 0) hx hb dX12_forget_202 (by decide) ?_
    refine lv_istore_n (i := 1) (lv' := [(1, .int (0 : Int32)), (0, .ref a0)]) hx hb dX12_forget_203 rfl hl (by decide) (by first | rfl | simp [q_cat, q_catI, q_catJ, q_catR]) (fun ls hl => ?_)
    obtain ⟨n76_, h⟩ := h
    exact cl_X12_forget_204 X n76_ _ _ _ _ _ _ h Y (lv_sub hl [1, 0] rfl)
  · replace h := h.2 c75_
    refine lv_aload_n hx hb dX12_forget_126 rfl (lv_at hl 0 rfl) ?_
    obtain ⟨k77_, h⟩ := h
    refine q_getP X Y kX12 30 rfl fl_X12_45 k77_ rfl dX12_forget_127 ?_
    refine lv_iload_n hx hb dX12_forget_130 rfl (lv_at hl 1 rfl) ?_
    refine lv_iconst (v := 0) hx hb dX12_forget_131 (by decide) ?_
    obtain ⟨a78_, e79_, h⟩ := h
    refine q_nn [.int (0 : Int32), .int x1] e79_ ?_
    obtain ⟨k80_, h⟩ := h
    obtain ⟨i81_, h⟩ := h
    refine q_ist X Y k80_ i81_ dX12_forget_132 (fun H locs Y => ?_)
    refine lv_aload_n hx hb dX12_forget_133 rfl (lv_at hl 0 rfl) ?_
    refine q_getP X Y kX12 42 rfl fl_X12_82 k77_ rfl dX12_forget_134 ?_
    refine lv_iload_n hx hb dX12_forget_137 rfl (lv_at hl 1 rfl) ?_
    refine lv_iconst (v := (-1)) hx hb dX12_forget_138 (by decide) ?_
    obtain ⟨a82_, e83_, h⟩ := h
    refine q_nn [.int (-1 : Int32), .int x1] e83_ ?_
    obtain ⟨k84_, h⟩ := h
    obtain ⟨i85_, h⟩ := h
    refine q_ist X Y k84_ i85_ dX12_forget_139 (fun H locs Y => ?_)
    refine lv_aload_n hx hb dX12_forget_140 rfl (lv_at hl 0 rfl) ?_
    refine q_getP X Y kX12 51 rfl fl_X12_109 k77_ rfl dX12_forget_141 ?_
    refine lv_iload_n hx hb dX12_forget_144 rfl (lv_at hl 1 rfl) ?_
    refine lv_iconst (v := 0) hx hb dX12_forget_145 (by decide) ?_
    obtain ⟨a86_, e87_, h⟩ := h
    refine q_nn [.int (0 : Int32), .int x1] e87_ ?_
    obtain ⟨k88_, h⟩ := h
    obtain ⟨i89_, h⟩ := h
    refine q_zst X Y k88_ i89_ dX12_forget_146 (fun H locs Y => ?_)
    obtain ⟨S90_, gS90_⟩ : ∃ z : q_S, z = (qs_A (qs_A (qs_A S a78_ x1.toNatClampNeg (0 : Int32)) a82_ x1.toNatClampNeg (-1 : Int32)) a86_ x1.toNatClampNeg (vp_nar .boolean (0 : Int32))) := ⟨_, rfl⟩
    replace Y : q_Y D cy lo s S90_ H locs := by rw [gS90_]; exact Y
    replace h := h S90_ gS90_
    replace k77_ : q_K S90_ a0 = 13 := by rw [gS90_]; exact k77_
    replace k80_ : q_K S90_ a78_ = 21 := by rw [gS90_]; exact k80_
    replace k84_ : q_K S90_ a82_ = 21 := by rw [gS90_]; exact k84_
    replace k88_ : q_K S90_ a86_ = 22 := by rw [gS90_]; exact k88_
    refine lv_aload_n hx hb dX12_forget_147 rfl (lv_at hl 0 rfl) ?_
    refine q_getP X Y kX12 83 rfl fl_X12_197 k77_ rfl dX12_forget_148 ?_
    refine lv_iload_n hx hb dX12_forget_151 rfl (lv_at hl 1 rfl) ?_
    refine lv_iconst (v := 0) hx hb dX12_forget_152 (by decide) ?_
    obtain ⟨a91_, e92_, h⟩ := h
    refine q_nn [.int (0 : Int32), .int x1] e92_ ?_
    obtain ⟨k93_, h⟩ := h
    obtain ⟨i94_, h⟩ := h
    refine q_ist X Y k93_ i94_ dX12_forget_153 (fun H locs Y => ?_)
    refine lv_aload_n hx hb dX12_forget_154 rfl (lv_at hl 0 rfl) ?_
    refine q_getP X Y kX12 84 rfl fl_X12_200 k77_ rfl dX12_forget_155 ?_
    refine lv_iload_n hx hb dX12_forget_158 rfl (lv_at hl 1 rfl) ?_
    refine lv_iconst (v := (-1)) hx hb dX12_forget_159 (by decide) ?_
    obtain ⟨a95_, e96_, h⟩ := h
    refine q_nn [.int (-1 : Int32), .int x1] e96_ ?_
    obtain ⟨k97_, h⟩ := h
    obtain ⟨i98_, h⟩ := h
    refine q_ist X Y k97_ i98_ dX12_forget_160 (fun H locs Y => ?_)
    refine lv_aload_n hx hb dX12_forget_161 rfl (lv_at hl 0 rfl) ?_
    refine q_getP X Y kX12 85 rfl fl_X12_203 k77_ rfl dX12_forget_162 ?_
    refine lv_iload_n hx hb dX12_forget_165 rfl (lv_at hl 1 rfl) ?_
    refine lv_iconst (v := 0) hx hb dX12_forget_166 (by decide) ?_
    obtain ⟨a99_, e100_, h⟩ := h
    refine q_nn [.int (0 : Int32), .int x1] e100_ ?_
    obtain ⟨k101_, h⟩ := h
    obtain ⟨i102_, h⟩ := h
    refine q_ist X Y k101_ i102_ dX12_forget_167 (fun H locs Y => ?_)
    obtain ⟨S103_, gS103_⟩ : ∃ z : q_S, z = (qs_A (qs_A (qs_A S90_ a91_ x1.toNatClampNeg (0 : Int32)) a95_ x1.toNatClampNeg (-1 : Int32)) a99_ x1.toNatClampNeg (0 : Int32)) := ⟨_, rfl⟩
    replace Y : q_Y D cy lo s S103_ H locs := by rw [gS103_]; exact Y
    replace h := h S103_ gS103_
    replace k77_ : q_K S103_ a0 = 13 := by rw [gS103_]; exact k77_
    replace k80_ : q_K S103_ a78_ = 21 := by rw [gS103_]; exact k80_
    replace k84_ : q_K S103_ a82_ = 21 := by rw [gS103_]; exact k84_
    replace k88_ : q_K S103_ a86_ = 22 := by rw [gS103_]; exact k88_
    replace k93_ : q_K S103_ a91_ = 21 := by rw [gS103_]; exact k93_
    replace k97_ : q_K S103_ a95_ = 21 := by rw [gS103_]; exact k97_
    replace k101_ : q_K S103_ a99_ = 21 := by rw [gS103_]; exact k101_
    refine lv_aload_n hx hb dX12_forget_168 rfl (lv_at hl 0 rfl) ?_
    refine q_getP X Y kX12 86 rfl fl_X12_206 k77_ rfl dX12_forget_169 ?_
    refine lv_iload_n hx hb dX12_forget_172 rfl (lv_at hl 1 rfl) ?_
    refine lv_iconst (v := 0) hx hb dX12_forget_173 (by decide) ?_
    obtain ⟨a104_, e105_, h⟩ := h
    refine q_nn [.int (0 : Int32), .int x1] e105_ ?_
    obtain ⟨k106_, h⟩ := h
    obtain ⟨i107_, h⟩ := h
    refine q_ist X Y k106_ i107_ dX12_forget_174 (fun H locs Y => ?_)
    refine lv_aload_n hx hb dX12_forget_175 rfl (lv_at hl 0 rfl) ?_
    refine q_getP X Y kX12 87 rfl fl_X12_209 k77_ rfl dX12_forget_176 ?_
    refine lv_iload_n hx hb dX12_forget_179 rfl (lv_at hl 1 rfl) ?_
    refine lv_iconst (v := (-1)) hx hb dX12_forget_180 (by decide) ?_
    obtain ⟨a108_, e109_, h⟩ := h
    refine q_nn [.int (-1 : Int32), .int x1] e109_ ?_
    obtain ⟨k110_, h⟩ := h
    obtain ⟨i111_, h⟩ := h
    refine q_ist X Y k110_ i111_ dX12_forget_181 (fun H locs Y => ?_)
    refine lv_aload_n hx hb dX12_forget_182 rfl (lv_at hl 0 rfl) ?_
    refine q_getP X Y kX12 88 rfl fl_X12_212 k77_ rfl dX12_forget_183 ?_
    refine lv_iload_n hx hb dX12_forget_186 rfl (lv_at hl 1 rfl) ?_
    refine lv_iconst (v := (-1)) hx hb dX12_forget_187 (by decide) ?_
    obtain ⟨a112_, e113_, h⟩ := h
    refine q_nn [.int (-1 : Int32), .int x1] e113_ ?_
    obtain ⟨k114_, h⟩ := h
    obtain ⟨i115_, h⟩ := h
    refine q_ist X Y k114_ i115_ dX12_forget_188 (fun H locs Y => ?_)
    obtain ⟨S116_, gS116_⟩ : ∃ z : q_S, z = (qs_A (qs_A (qs_A S103_ a104_ x1.toNatClampNeg (0 : Int32)) a108_ x1.toNatClampNeg (-1 : Int32)) a112_ x1.toNatClampNeg (-1 : Int32)) := ⟨_, rfl⟩
    replace Y : q_Y D cy lo s S116_ H locs := by rw [gS116_]; exact Y
    replace h := h S116_ gS116_
    replace k77_ : q_K S116_ a0 = 13 := by rw [gS116_]; exact k77_
    replace k80_ : q_K S116_ a78_ = 21 := by rw [gS116_]; exact k80_
    replace k84_ : q_K S116_ a82_ = 21 := by rw [gS116_]; exact k84_
    replace k88_ : q_K S116_ a86_ = 22 := by rw [gS116_]; exact k88_
    replace k93_ : q_K S116_ a91_ = 21 := by rw [gS116_]; exact k93_
    replace k97_ : q_K S116_ a95_ = 21 := by rw [gS116_]; exact k97_
    replace k101_ : q_K S116_ a99_ = 21 := by rw [gS116_]; exact k101_
    replace k106_ : q_K S116_ a104_ = 21 := by rw [gS116_]; exact k106_
    replace k110_ : q_K S116_ a108_ = 21 := by rw [gS116_]; exact k110_
    replace k114_ : q_K S116_ a112_ = 21 := by rw [gS116_]; exact k114_
    refine lv_aload_n hx hb dX12_forget_189 rfl (lv_at hl 0 rfl) ?_
    refine q_getP X Y kX12 91 rfl fl_X12_221 k77_ rfl dX12_forget_190 ?_
    refine lv_iload_n hx hb dX12_forget_193 rfl (lv_at hl 1 rfl) ?_
    refine lv_iconst (v := 0) hx hb dX12_forget_194 (by decide) ?_
    obtain ⟨a117_, e118_, h⟩ := h
    refine q_nn [.int (0 : Int32), .int x1] e118_ ?_
    obtain ⟨k119_, h⟩ := h
    obtain ⟨i120_, h⟩ := h
    refine q_ist X Y k119_ i120_ dX12_forget_195 (fun H locs Y => ?_)
    refine lv_iinc (v := (x1 + 1)) (lv' := [(1, .int (x1 + 1)), (0, .ref a0)]) hx hb dX12_forget_196 hl (k := 1) rfl (by first | rfl | decide) (by decide) (by first | rfl | simp [q_cat, q_catI, q_catJ, q_catR]) (fun ls hl => ?_)
    refine lv_goto (tgt := 120) hx hb dX12_forget_199 (by decide) ?_
    exact hB120 _ _ _ _ _ _ h Y (lv_sub hl [1, 0] rfl)
def wl_X12_forget_120  : Nat → q_S → Nat → Int32 → (Option Value → q_S → Prop) → Prop
  | 0, _, _, _, _ => False
  | n + 1, S, a0, x1, Q => wb_X12_forget_120 (fun S a0 x1 => wl_X12_forget_120 n S a0 x1 Q) S a0 x1 Q
set_option maxHeartbeats 4000000 in
set_option maxRecDepth 100000 in
theorem cl_X12_forget_120 {p : Program} {l : Launch} {e : Env} {s : State} {m : MethodId} {args : Array Value} {below : List Frame} {meth : Method} {c : Code} {D : va_G} {cy : Nat → ClassId} {lo : Nat}  {Q : Option Value → q_S → Prop} (X : q_X p s m args meth c RX12 cX12_forget 2 none D cy lo)  : ∀ (n : Nat) (S : q_S) (a0 : Nat) (x1 : Int32) (H : Heap) (locs : List Loc) (ls : Array Slot), wl_X12_forget_120 n S a0 x1 Q → q_Y D cy lo s S H locs → lv_has ls 2 [(0, .ref a0), (1, .int x1)] → W p l e ({ frames := 0, cells := 0, slots := 0, locals := 0 } : Room) s m args below meth c H locs 0 0 (MQ below (q_Q D cy lo Q) args s 0 0 (fun q => lo ≤ q)) (F0 m 120 ls []) := by
  intro n
  induction n with
  | zero => intro S a0 x1 H locs ls h; exact absurd h id
  | succ n ih => intro S a0 x1 H locs ls h Y hl; exact cb_X12_forget_120 X ih Y hl h
def wb_X12_forget_98 (B98 : q_S → Nat → Int32 → Prop) (S : q_S) (a0 : Nat) (x1 : Int32) (Q : Option Value → q_S → Prop) : Prop := (((8192 : Int32) ≤ x1 → (∃ n122_ : Nat, wl_X12_forget_120 n122_ S a0 (0 : Int32) Q)) ∧ (¬ (8192 : Int32) ≤ x1 → (q_K S a0 = 13 ∧ (∃ a124_ : Nat, (q_P S 2477 a0) = some a124_ ∧ (q_K S a124_ = 21 ∧ (vp_in x1 (q_N S a124_) ∧ (B98 (qs_A S a124_ x1.toNatClampNeg (0 : Int32)) a0 (x1 + 1))))))))
set_option maxHeartbeats 4000000 in
set_option maxRecDepth 100000 in
theorem cb_X12_forget_98 {p : Program} {l : Launch} {e : Env} {s : State} {m : MethodId} {args : Array Value} {below : List Frame} {meth : Method} {c : Code} {D : va_G} {cy : Nat → ClassId} {lo : Nat} {B98 : q_S → Nat → Int32 → Prop} {S : q_S} {a0 : Nat} {x1 : Int32} {Q : Option Value → q_S → Prop} {H : Heap} {locs : List Loc} {ls : Array Slot} (X : q_X p s m args meth c RX12 cX12_forget 2 none D cy lo) (hB98 : ∀ (S : q_S) (a0 : Nat) (x1 : Int32) (H : Heap) (locs : List Loc) (ls : Array Slot), B98 S a0 x1 → q_Y D cy lo s S H locs → lv_has ls 2 [(0, .ref a0), (1, .int x1)] → W p l e ({ frames := 0, cells := 0, slots := 0, locals := 0 } : Room) s m args below meth c H locs 0 0 (MQ below (q_Q D cy lo Q) args s 0 0 (fun q => lo ≤ q)) (F0 m 98 ls [])) (Y : q_Y D cy lo s S H locs) (hl : lv_has ls 2 [(0, .ref a0), (1, .int x1)]) (h : wb_X12_forget_98 B98 S a0 x1 Q) : W p l e ({ frames := 0, cells := 0, slots := 0, locals := 0 } : Room) s m args below meth c H locs 0 0 (MQ below (q_Q D cy lo Q) args s 0 0 (fun q => lo ≤ q)) (F0 m 98 ls []) := by
  have hx := X.1
  have hb := X.2.1
  unfold wb_X12_forget_98 at h
  refine lv_iload_n hx hb dX12_forget_98 rfl (lv_at hl 1 rfl) ?_
  refine lv_sipush (v := 8192) hx hb dX12_forget_99 (by decide) ?_
  refine lv_icmp_ge (tgt := 118) hx hb dX12_forget_102 (by decide) (fun c121_ => ?_) (fun c121_ => ?_)
  · replace h := h.1 c121_
    refine lv_iconst (v := 0) hx hb dX12_forget_118 (by decide) ?_
    refine lv_istore_n (i := 1) (lv' := [(1, .int (0 : Int32)), (0, .ref a0)]) hx hb dX12_forget_119 rfl hl (by decide) (by first | rfl | simp [q_cat, q_catI, q_catJ, q_catR]) (fun ls hl => ?_)
    obtain ⟨n122_, h⟩ := h
    exact cl_X12_forget_120 X n122_ _ _ _ _ _ _ h Y (lv_sub hl [1, 0] rfl)
  · replace h := h.2 c121_
    refine lv_aload_n hx hb dX12_forget_105 rfl (lv_at hl 0 rfl) ?_
    obtain ⟨k123_, h⟩ := h
    refine q_getP X Y kX12 77 rfl fl_X12_179 k123_ rfl dX12_forget_106 ?_
    refine lv_iload_n hx hb dX12_forget_109 rfl (lv_at hl 1 rfl) ?_
    refine lv_iconst (v := 0) hx hb dX12_forget_110 (by decide) ?_
    obtain ⟨a124_, e125_, h⟩ := h
    refine q_nn [.int (0 : Int32), .int x1] e125_ ?_
    obtain ⟨k126_, h⟩ := h
    obtain ⟨i127_, h⟩ := h
    refine q_ist X Y k126_ i127_ dX12_forget_111 (fun H locs Y => ?_)
    refine lv_iinc (v := (x1 + 1)) (lv' := [(1, .int (x1 + 1)), (0, .ref a0)]) hx hb dX12_forget_112 hl (k := 1) rfl (by first | rfl | decide) (by decide) (by first | rfl | simp [q_cat, q_catI, q_catJ, q_catR]) (fun ls hl => ?_)
    refine lv_goto (tgt := 98) hx hb dX12_forget_115 (by decide) ?_
    exact hB98 _ _ _ _ _ _ h Y (lv_sub hl [1, 0] rfl)
def wl_X12_forget_98  : Nat → q_S → Nat → Int32 → (Option Value → q_S → Prop) → Prop
  | 0, _, _, _, _ => False
  | n + 1, S, a0, x1, Q => wb_X12_forget_98 (fun S a0 x1 => wl_X12_forget_98 n S a0 x1 Q) S a0 x1 Q
set_option maxHeartbeats 4000000 in
set_option maxRecDepth 100000 in
theorem cl_X12_forget_98 {p : Program} {l : Launch} {e : Env} {s : State} {m : MethodId} {args : Array Value} {below : List Frame} {meth : Method} {c : Code} {D : va_G} {cy : Nat → ClassId} {lo : Nat}  {Q : Option Value → q_S → Prop} (X : q_X p s m args meth c RX12 cX12_forget 2 none D cy lo)  : ∀ (n : Nat) (S : q_S) (a0 : Nat) (x1 : Int32) (H : Heap) (locs : List Loc) (ls : Array Slot), wl_X12_forget_98 n S a0 x1 Q → q_Y D cy lo s S H locs → lv_has ls 2 [(0, .ref a0), (1, .int x1)] → W p l e ({ frames := 0, cells := 0, slots := 0, locals := 0 } : Room) s m args below meth c H locs 0 0 (MQ below (q_Q D cy lo Q) args s 0 0 (fun q => lo ≤ q)) (F0 m 98 ls []) := by
  intro n
  induction n with
  | zero => intro S a0 x1 H locs ls h; exact absurd h id
  | succ n ih => intro S a0 x1 H locs ls h Y hl; exact cb_X12_forget_98 X ih Y hl h
def wb_X12_forget_77 (B77 : q_S → Nat → Int32 → Prop) (S : q_S) (a0 : Nat) (x1 : Int32) (Q : Option Value → q_S → Prop) : Prop := (((131072 : Int32) ≤ x1 → (∃ n129_ : Nat, wl_X12_forget_98 n129_ S a0 (0 : Int32) Q)) ∧ (¬ (131072 : Int32) ≤ x1 → (q_K S a0 = 13 ∧ (∃ a131_ : Nat, (q_P S 2465 a0) = some a131_ ∧ (q_K S a131_ = 20 ∧ (vp_in x1 (q_N S a131_) ∧ (B77 (qs_A S a131_ x1.toNatClampNeg (vp_nar .byte (0 : Int32))) a0 (x1 + 1))))))))
set_option maxHeartbeats 4000000 in
set_option maxRecDepth 100000 in
theorem cb_X12_forget_77 {p : Program} {l : Launch} {e : Env} {s : State} {m : MethodId} {args : Array Value} {below : List Frame} {meth : Method} {c : Code} {D : va_G} {cy : Nat → ClassId} {lo : Nat} {B77 : q_S → Nat → Int32 → Prop} {S : q_S} {a0 : Nat} {x1 : Int32} {Q : Option Value → q_S → Prop} {H : Heap} {locs : List Loc} {ls : Array Slot} (X : q_X p s m args meth c RX12 cX12_forget 2 none D cy lo) (hB77 : ∀ (S : q_S) (a0 : Nat) (x1 : Int32) (H : Heap) (locs : List Loc) (ls : Array Slot), B77 S a0 x1 → q_Y D cy lo s S H locs → lv_has ls 2 [(0, .ref a0), (1, .int x1)] → W p l e ({ frames := 0, cells := 0, slots := 0, locals := 0 } : Room) s m args below meth c H locs 0 0 (MQ below (q_Q D cy lo Q) args s 0 0 (fun q => lo ≤ q)) (F0 m 77 ls [])) (Y : q_Y D cy lo s S H locs) (hl : lv_has ls 2 [(0, .ref a0), (1, .int x1)]) (h : wb_X12_forget_77 B77 S a0 x1 Q) : W p l e ({ frames := 0, cells := 0, slots := 0, locals := 0 } : Room) s m args below meth c H locs 0 0 (MQ below (q_Q D cy lo Q) args s 0 0 (fun q => lo ≤ q)) (F0 m 77 ls []) := by
  have hx := X.1
  have hb := X.2.1
  unfold wb_X12_forget_77 at h
  refine lv_iload_n hx hb dX12_forget_77 rfl (lv_at hl 1 rfl) ?_
  refine lv_ldc (v := 131072) hx hb X.2.2.2.1 (X.2.2.2.2.1 _ co_X12_142) dX12_forget_78 ?_
  refine lv_icmp_ge (tgt := 96) hx hb dX12_forget_80 (by decide) (fun c128_ => ?_) (fun c128_ => ?_)
  · replace h := h.1 c128_
    refine lv_iconst (v := 0) hx hb dX12_forget_96 (by decide) ?_
    refine lv_istore_n (i := 1) (lv' := [(1, .int (0 : Int32)), (0, .ref a0)]) hx hb dX12_forget_97 rfl hl (by decide) (by first | rfl | simp [q_cat, q_catI, q_catJ, q_catR]) (fun ls hl => ?_)
    obtain ⟨n129_, h⟩ := h
    exact cl_X12_forget_98 X n129_ _ _ _ _ _ _ h Y (lv_sub hl [1, 0] rfl)
  · replace h := h.2 c128_
    refine lv_aload_n hx hb dX12_forget_83 rfl (lv_at hl 0 rfl) ?_
    obtain ⟨k130_, h⟩ := h
    refine q_getP X Y kX12 65 rfl fl_X12_143 k130_ rfl dX12_forget_84 ?_
    refine lv_iload_n hx hb dX12_forget_87 rfl (lv_at hl 1 rfl) ?_
    refine lv_iconst (v := 0) hx hb dX12_forget_88 (by decide) ?_
    obtain ⟨a131_, e132_, h⟩ := h
    refine q_nn [.int (0 : Int32), .int x1] e132_ ?_
    obtain ⟨k133_, h⟩ := h
    obtain ⟨i134_, h⟩ := h
    refine q_bst X Y k133_ i134_ dX12_forget_89 (fun H locs Y => ?_)
    refine lv_iinc (v := (x1 + 1)) (lv' := [(1, .int (x1 + 1)), (0, .ref a0)]) hx hb dX12_forget_90 hl (k := 1) rfl (by first | rfl | decide) (by decide) (by first | rfl | simp [q_cat, q_catI, q_catJ, q_catR]) (fun ls hl => ?_)
    refine lv_goto (tgt := 77) hx hb dX12_forget_93 (by decide) ?_
    exact hB77 _ _ _ _ _ _ h Y (lv_sub hl [1, 0] rfl)
def wl_X12_forget_77  : Nat → q_S → Nat → Int32 → (Option Value → q_S → Prop) → Prop
  | 0, _, _, _, _ => False
  | n + 1, S, a0, x1, Q => wb_X12_forget_77 (fun S a0 x1 => wl_X12_forget_77 n S a0 x1 Q) S a0 x1 Q
set_option maxHeartbeats 4000000 in
set_option maxRecDepth 100000 in
theorem cl_X12_forget_77 {p : Program} {l : Launch} {e : Env} {s : State} {m : MethodId} {args : Array Value} {below : List Frame} {meth : Method} {c : Code} {D : va_G} {cy : Nat → ClassId} {lo : Nat}  {Q : Option Value → q_S → Prop} (X : q_X p s m args meth c RX12 cX12_forget 2 none D cy lo)  : ∀ (n : Nat) (S : q_S) (a0 : Nat) (x1 : Int32) (H : Heap) (locs : List Loc) (ls : Array Slot), wl_X12_forget_77 n S a0 x1 Q → q_Y D cy lo s S H locs → lv_has ls 2 [(0, .ref a0), (1, .int x1)] → W p l e ({ frames := 0, cells := 0, slots := 0, locals := 0 } : Room) s m args below meth c H locs 0 0 (MQ below (q_Q D cy lo Q) args s 0 0 (fun q => lo ≤ q)) (F0 m 77 ls []) := by
  intro n
  induction n with
  | zero => intro S a0 x1 H locs ls h; exact absurd h id
  | succ n ih => intro S a0 x1 H locs ls h Y hl; exact cb_X12_forget_77 X ih Y hl h
def wm_X12_forget (S : q_S) (a0 : Nat) (Q : Option Value → q_S → Prop) : Prop := q_K S a0 = 13 ∧ (∀ S136_ : q_S, S136_ = (qs_I (qs_I (qs_I S 2411 a0 (0 : Int32)) 2412 a0 (-1 : Int32)) 2414 a0 (0 : Int32)) → (∀ S137_ : q_S, S137_ = (qs_I (qs_I (qs_I S136_ 2415 a0 (0 : Int32)) 2416 a0 (0 : Int32)) 2417 a0 (0 : Int32)) → (∀ S138_ : q_S, S138_ = (qs_I (qs_I (qs_I S137_ 2418 a0 (0 : Int32)) 2419 a0 (0 : Int32)) 2420 a0 (0 : Int32)) → (∀ S139_ : q_S, S139_ = (qs_I (qs_I (qs_I S138_ 2422 a0 (0 : Int32)) 2463 a0 (0 : Int32)) 2464 a0 (0 : Int32)) → (∀ S140_ : q_S, S140_ = (qs_I (qs_I (qs_I S139_ 2508 a0 (0 : Int32)) 2509 a0 (0 : Int32)) 2510 a0 (0 : Int32)) → (∃ n141_ : Nat, wl_X12_forget_77 n141_ S140_ a0 (0 : Int32) Q))))))
set_option maxHeartbeats 4000000 in
set_option maxRecDepth 100000 in
theorem cm_X12_forget {l : Launch} {D : va_G} {cy : Nat → ClassId} {lo : Nat} {S : q_S} {a0 : Nat} {Q : Option Value → q_S → Prop} (h : wm_X12_forget S a0 Q) : q_Met l D cy lo yX12_forget cX12_forget 2 none 0 0 0 0 [.ref a0] S Q := by
  refine q_body (by decide) (by first | exact Nat.le_of_ble_eq_true rfl | simp [lg_sl, q_cat, q_catI, q_catJ, q_catR]) ?_
  intro p e s m below meth c ls X hnm Y hl
  have hx := X.1
  have hb := X.2.1
  have hl : lv_has ls 2 [(0, .ref a0)] := by first | exact hl | simpa [lv_args, q_cat, q_catI, q_catJ, q_catR] using hl
  generalize hargs : ([.ref a0] : List Value).toArray = args at X ⊢
  unfold wm_X12_forget at h
  refine lv_aload_n hx hb dX12_forget_0 rfl (lv_at hl 0 rfl) ?_
  refine lv_iconst (v := 0) hx hb dX12_forget_1 (by decide) ?_
  obtain ⟨k135_, h⟩ := h
  refine q_putI X Y kX12 11 rfl fl_X12_328 k135_ .int rfl ⟨rfl, rfl⟩ rfl dX12_forget_2 (fun H locs Y => ?_)
  refine lv_aload_n hx hb dX12_forget_5 rfl (lv_at hl 0 rfl) ?_
  refine lv_iconst (v := (-1)) hx hb dX12_forget_6 (by decide) ?_
  refine q_putI X Y kX12 12 rfl fl_X12_16 k135_ .int rfl ⟨rfl, rfl⟩ rfl dX12_forget_7 (fun H locs Y => ?_)
  refine lv_aload_n hx hb dX12_forget_10 rfl (lv_at hl 0 rfl) ?_
  refine lv_iconst (v := 0) hx hb dX12_forget_11 (by decide) ?_
  refine q_putI X Y kX12 14 rfl fl_X12_450 k135_ .boolean rfl ⟨rfl, rfl⟩ rfl dX12_forget_12 (fun H locs Y => ?_)
  obtain ⟨S136_, gS136_⟩ : ∃ z : q_S, z = (qs_I (qs_I (qs_I S 2411 a0 (0 : Int32)) 2412 a0 (-1 : Int32)) 2414 a0 (0 : Int32)) := ⟨_, rfl⟩
  replace Y : q_Y D cy lo s S136_ H locs := by rw [gS136_]; exact Y
  replace h := h S136_ gS136_
  replace k135_ : q_K S136_ a0 = 13 := by rw [gS136_]; exact k135_
  refine lv_aload_n hx hb dX12_forget_15 rfl (lv_at hl 0 rfl) ?_
  refine lv_iconst (v := 0) hx hb dX12_forget_16 (by decide) ?_
  refine q_putI X Y kX12 15 rfl fl_X12_350 k135_ .int rfl ⟨rfl, rfl⟩ rfl dX12_forget_17 (fun H locs Y => ?_)
  refine lv_aload_n hx hb dX12_forget_20 rfl (lv_at hl 0 rfl) ?_
  refine lv_iconst (v := 0) hx hb dX12_forget_21 (by decide) ?_
  refine q_putI X Y kX12 16 rfl fl_X12_409 k135_ .int rfl ⟨rfl, rfl⟩ rfl dX12_forget_22 (fun H locs Y => ?_)
  refine lv_aload_n hx hb dX12_forget_25 rfl (lv_at hl 0 rfl) ?_
  refine lv_iconst (v := 0) hx hb dX12_forget_26 (by decide) ?_
  refine q_putI X Y kX12 17 rfl fl_X12_422 k135_ .int rfl ⟨rfl, rfl⟩ rfl dX12_forget_27 (fun H locs Y => ?_)
  obtain ⟨S137_, gS137_⟩ : ∃ z : q_S, z = (qs_I (qs_I (qs_I S136_ 2415 a0 (0 : Int32)) 2416 a0 (0 : Int32)) 2417 a0 (0 : Int32)) := ⟨_, rfl⟩
  replace Y : q_Y D cy lo s S137_ H locs := by rw [gS137_]; exact Y
  replace h := h S137_ gS137_
  replace k135_ : q_K S137_ a0 = 13 := by rw [gS137_]; exact k135_
  refine lv_aload_n hx hb dX12_forget_30 rfl (lv_at hl 0 rfl) ?_
  refine lv_iconst (v := 0) hx hb dX12_forget_31 (by decide) ?_
  refine q_putI X Y kX12 18 rfl fl_X12_416 k135_ .int rfl ⟨rfl, rfl⟩ rfl dX12_forget_32 (fun H locs Y => ?_)
  refine lv_aload_n hx hb dX12_forget_35 rfl (lv_at hl 0 rfl) ?_
  refine lv_iconst (v := 0) hx hb dX12_forget_36 (by decide) ?_
  refine q_putI X Y kX12 19 rfl fl_X12_419 k135_ .int rfl ⟨rfl, rfl⟩ rfl dX12_forget_37 (fun H locs Y => ?_)
  refine lv_aload_n hx hb dX12_forget_40 rfl (lv_at hl 0 rfl) ?_
  refine lv_iconst (v := 0) hx hb dX12_forget_41 (by decide) ?_
  refine q_putI X Y kX12 20 rfl fl_X12_425 k135_ .int rfl ⟨rfl, rfl⟩ rfl dX12_forget_42 (fun H locs Y => ?_)
  obtain ⟨S138_, gS138_⟩ : ∃ z : q_S, z = (qs_I (qs_I (qs_I S137_ 2418 a0 (0 : Int32)) 2419 a0 (0 : Int32)) 2420 a0 (0 : Int32)) := ⟨_, rfl⟩
  replace Y : q_Y D cy lo s S138_ H locs := by rw [gS138_]; exact Y
  replace h := h S138_ gS138_
  replace k135_ : q_K S138_ a0 = 13 := by rw [gS138_]; exact k135_
  refine lv_aload_n hx hb dX12_forget_45 rfl (lv_at hl 0 rfl) ?_
  refine lv_iconst (v := 0) hx hb dX12_forget_46 (by decide) ?_
  refine q_putI X Y kX12 22 rfl fl_X12_347 k135_ .int rfl ⟨rfl, rfl⟩ rfl dX12_forget_47 (fun H locs Y => ?_)
  refine lv_aload_n hx hb dX12_forget_50 rfl (lv_at hl 0 rfl) ?_
  refine lv_iconst (v := 0) hx hb dX12_forget_51 (by decide) ?_
  refine q_putI X Y kX12 63 rfl fl_X12_453 k135_ .int rfl ⟨rfl, rfl⟩ rfl dX12_forget_52 (fun H locs Y => ?_)
  refine lv_aload_n hx hb dX12_forget_55 rfl (lv_at hl 0 rfl) ?_
  refine lv_iconst (v := 0) hx hb dX12_forget_56 (by decide) ?_
  refine q_putI X Y kX12 64 rfl fl_X12_456 k135_ .int rfl ⟨rfl, rfl⟩ rfl dX12_forget_57 (fun H locs Y => ?_)
  obtain ⟨S139_, gS139_⟩ : ∃ z : q_S, z = (qs_I (qs_I (qs_I S138_ 2422 a0 (0 : Int32)) 2463 a0 (0 : Int32)) 2464 a0 (0 : Int32)) := ⟨_, rfl⟩
  replace Y : q_Y D cy lo s S139_ H locs := by rw [gS139_]; exact Y
  replace h := h S139_ gS139_
  replace k135_ : q_K S139_ a0 = 13 := by rw [gS139_]; exact k135_
  refine lv_aload_n hx hb dX12_forget_60 rfl (lv_at hl 0 rfl) ?_
  refine lv_iconst (v := 0) hx hb dX12_forget_61 (by decide) ?_
  refine q_putI X Y kX12 108 rfl fl_X12_459 k135_ .int rfl ⟨rfl, rfl⟩ rfl dX12_forget_62 (fun H locs Y => ?_)
  refine lv_aload_n hx hb dX12_forget_65 rfl (lv_at hl 0 rfl) ?_
  refine lv_iconst (v := 0) hx hb dX12_forget_66 (by decide) ?_
  refine q_putI X Y kX12 109 rfl fl_X12_462 k135_ .int rfl ⟨rfl, rfl⟩ rfl dX12_forget_67 (fun H locs Y => ?_)
  refine lv_aload_n hx hb dX12_forget_70 rfl (lv_at hl 0 rfl) ?_
  refine lv_iconst (v := 0) hx hb dX12_forget_71 (by decide) ?_
  refine q_putI X Y kX12 110 rfl fl_X12_465 k135_ .int rfl ⟨rfl, rfl⟩ rfl dX12_forget_72 (fun H locs Y => ?_)
  obtain ⟨S140_, gS140_⟩ : ∃ z : q_S, z = (qs_I (qs_I (qs_I S139_ 2508 a0 (0 : Int32)) 2509 a0 (0 : Int32)) 2510 a0 (0 : Int32)) := ⟨_, rfl⟩
  replace Y : q_Y D cy lo s S140_ H locs := by rw [gS140_]; exact Y
  replace h := h S140_ gS140_
  replace k135_ : q_K S140_ a0 = 13 := by rw [gS140_]; exact k135_
  refine lv_iconst (v := 0) hx hb dX12_forget_75 (by decide) ?_
  refine lv_istore_n (i := 1) (lv' := [(1, .int (0 : Int32)), (0, .ref a0)]) hx hb dX12_forget_76 rfl hl (by decide) (by first | rfl | simp [q_cat, q_catI, q_catJ, q_catR]) (fun ls hl => ?_)
  obtain ⟨n141_, h⟩ := h
  exact cl_X12_forget_77 X n141_ _ _ _ _ _ _ h Y (lv_sub hl [1, 0] rfl)
-- X12_things
theorem dX12_things_0 : decode cX12_things 0 = .ok (.bipush 8, 2) := by decide +kernel
theorem dX12_things_2 : decode cX12_things 2 = .ok (.iload_n 1, 1) := by decide +kernel
theorem dX12_things_3 : decode cX12_things 3 = .ok (.imul, 1) := by decide +kernel
theorem dX12_things_4 : decode cX12_things 4 = .ok (.istore_n 2, 1) := by decide +kernel
theorem dX12_things_5 : decode cX12_things 5 = .ok (.iload_n 2, 1) := by decide +kernel
theorem dX12_things_6 : decode cX12_things 6 = .ok (.bipush 8, 2) := by decide +kernel
theorem dX12_things_8 : decode cX12_things 8 = .ok (.iload_n 1, 1) := by decide +kernel
theorem dX12_things_9 : decode cX12_things 9 = .ok (.imul, 1) := by decide +kernel
theorem dX12_things_10 : decode cX12_things 10 = .ok (.bipush 8, 2) := by decide +kernel
theorem dX12_things_12 : decode cX12_things 12 = .ok (.iadd, 1) := by decide +kernel
theorem dX12_things_13 : decode cX12_things 13 = .ok (.if_icmp .ge 64, 3) := by decide +kernel
theorem dX12_things_16 : decode cX12_things 16 = .ok (.aload_n 0, 1) := by decide +kernel
theorem dX12_things_17 : decode cX12_things 17 = .ok (.getfield 224, 3) := by decide +kernel
theorem dX12_things_20 : decode cX12_things 20 = .ok (.iload_n 2, 1) := by decide +kernel
theorem dX12_things_21 : decode cX12_things 21 = .ok (.iload_n 2, 1) := by decide +kernel
theorem dX12_things_22 : decode cX12_things 22 = .ok (.bipush 8, 2) := by decide +kernel
theorem dX12_things_24 : decode cX12_things 24 = .ok (.iload_n 1, 1) := by decide +kernel
theorem dX12_things_25 : decode cX12_things 25 = .ok (.imul, 1) := by decide +kernel
theorem dX12_things_26 : decode cX12_things 26 = .ok (.isub, 1) := by decide +kernel
theorem dX12_things_27 : decode cX12_things 27 = .ok (.aload_n 0, 1) := by decide +kernel
theorem dX12_things_28 : decode cX12_things 28 = .ok (.getfield 60, 3) := by decide +kernel
theorem dX12_things_31 : decode cX12_things 31 = .ok (.bipush 6, 2) := by decide +kernel
theorem dX12_things_33 : decode cX12_things 33 = .ok (.iload_n 1, 1) := by decide +kernel
theorem dX12_things_34 : decode cX12_things 34 = .ok (.imul, 1) := by decide +kernel
theorem dX12_things_35 : decode cX12_things 35 = .ok (.iaload, 1) := by decide +kernel
theorem dX12_things_36 : decode cX12_things 36 = .ok (.if_icmp .ge 12, 3) := by decide +kernel
theorem dX12_things_39 : decode cX12_things 39 = .ok (.aload_n 0, 1) := by decide +kernel
theorem dX12_things_40 : decode cX12_things 40 = .ok (.getfield 85, 3) := by decide +kernel
theorem dX12_things_43 : decode cX12_things 43 = .ok (.iload_n 2, 1) := by decide +kernel
theorem dX12_things_44 : decode cX12_things 44 = .ok (.iaload, 1) := by decide +kernel
theorem dX12_things_45 : decode cX12_things 45 = .ok (.goto 4, 3) := by decide +kernel
theorem dX12_things_48 : decode cX12_things 48 = .ok (.iconst 0, 1) := by decide +kernel
theorem dX12_things_49 : decode cX12_things 49 = .ok (.iastore, 1) := by decide +kernel
theorem dX12_things_50 : decode cX12_things 50 = .ok (.aload_n 0, 1) := by decide +kernel
theorem dX12_things_51 : decode cX12_things 51 = .ok (.getfield 227, 3) := by decide +kernel
theorem dX12_things_54 : decode cX12_things 54 = .ok (.iload_n 2, 1) := by decide +kernel
theorem dX12_things_55 : decode cX12_things 55 = .ok (.iconst 0, 1) := by decide +kernel
theorem dX12_things_56 : decode cX12_things 56 = .ok (.bastore, 1) := by decide +kernel
theorem dX12_things_57 : decode cX12_things 57 = .ok (.aload_n 0, 1) := by decide +kernel
theorem dX12_things_58 : decode cX12_things 58 = .ok (.getfield 230, 3) := by decide +kernel
theorem dX12_things_61 : decode cX12_things 61 = .ok (.iload_n 2, 1) := by decide +kernel
theorem dX12_things_62 : decode cX12_things 62 = .ok (.iconst 0, 1) := by decide +kernel
theorem dX12_things_63 : decode cX12_things 63 = .ok (.iastore, 1) := by decide +kernel
theorem dX12_things_64 : decode cX12_things 64 = .ok (.aload_n 0, 1) := by decide +kernel
theorem dX12_things_65 : decode cX12_things 65 = .ok (.getfield 236, 3) := by decide +kernel
theorem dX12_things_68 : decode cX12_things 68 = .ok (.iload_n 2, 1) := by decide +kernel
theorem dX12_things_69 : decode cX12_things 69 = .ok (.iconst 0, 1) := by decide +kernel
theorem dX12_things_70 : decode cX12_things 70 = .ok (.bastore, 1) := by decide +kernel
theorem dX12_things_71 : decode cX12_things 71 = .ok (.iinc 2 1, 3) := by decide +kernel
theorem dX12_things_74 : decode cX12_things 74 = .ok (.goto (-69), 3) := by decide +kernel
theorem dX12_things_77 : decode cX12_things 77 = .ok (.return_, 1) := by decide +kernel
def wb_X12_things_49 (B5 : q_S → Nat → Int32 → Int32 → Prop) (S : q_S) (a0 : Nat) (x1 : Int32) (x2 : Int32) (rs0 : Option Nat) (xs1 : Int32) (xs2 : Int32) (Q : Option Value → q_S → Prop) : Prop := ∃ a1_ : Nat, rs0 = some a1_ ∧ (q_K S a1_ = 21 ∧ (vp_in xs1 (q_N S a1_) ∧ (q_K (qs_A S a1_ xs1.toNatClampNeg xs2) a0 = 13 ∧ (∃ a6_ : Nat, (q_P (qs_A S a1_ xs1.toNatClampNeg xs2) 2493 a0) = some a6_ ∧ (q_K (qs_A S a1_ xs1.toNatClampNeg xs2) a6_ = 22 ∧ (vp_in x2 (q_N (qs_A S a1_ xs1.toNatClampNeg xs2) a6_) ∧ (∃ a10_ : Nat, (q_P (qs_A (qs_A S a1_ xs1.toNatClampNeg xs2) a6_ x2.toNatClampNeg (vp_nar .boolean (0 : Int32))) 2494 a0) = some a10_ ∧ (q_K (qs_A (qs_A S a1_ xs1.toNatClampNeg xs2) a6_ x2.toNatClampNeg (vp_nar .boolean (0 : Int32))) a10_ = 21 ∧ (vp_in x2 (q_N (qs_A (qs_A S a1_ xs1.toNatClampNeg xs2) a6_ x2.toNatClampNeg (vp_nar .boolean (0 : Int32))) a10_) ∧ (∀ S14_ : q_S, S14_ = (qs_A (qs_A (qs_A S a1_ xs1.toNatClampNeg xs2) a6_ x2.toNatClampNeg (vp_nar .boolean (0 : Int32))) a10_ x2.toNatClampNeg (0 : Int32)) → (∃ a15_ : Nat, (q_P S14_ 2496 a0) = some a15_ ∧ (q_K S14_ a15_ = 22 ∧ (vp_in x2 (q_N S14_ a15_) ∧ (B5 (qs_A S14_ a15_ x2.toNatClampNeg (vp_nar .boolean (0 : Int32))) a0 x1 (x2 + 1)))))))))))))))
set_option maxHeartbeats 4000000 in
set_option maxRecDepth 100000 in
theorem cb_X12_things_49 {p : Program} {l : Launch} {e : Env} {s : State} {m : MethodId} {args : Array Value} {below : List Frame} {meth : Method} {c : Code} {D : va_G} {cy : Nat → ClassId} {lo : Nat} {B5 : q_S → Nat → Int32 → Int32 → Prop} {S : q_S} {a0 : Nat} {x1 : Int32} {x2 : Int32} {rs0 : Option Nat} {xs1 : Int32} {xs2 : Int32} {Q : Option Value → q_S → Prop} {H : Heap} {locs : List Loc} {ls : Array Slot} (X : q_X p s m args meth c RX12 cX12_things 3 none D cy lo) (hB5 : ∀ (S : q_S) (a0 : Nat) (x1 : Int32) (x2 : Int32) (H : Heap) (locs : List Loc) (ls : Array Slot), B5 S a0 x1 x2 → q_Y D cy lo s S H locs → lv_has ls 3 [(0, .ref a0), (1, .int x1), (2, .int x2)] → W p l e ({ frames := 0, cells := 0, slots := 0, locals := 0 } : Room) s m args below meth c H locs 0 0 (MQ below (q_Q D cy lo Q) args s 0 0 (fun q => lo ≤ q)) (F0 m 5 ls [])) (Y : q_Y D cy lo s S H locs) (hl : lv_has ls 3 [(0, .ref a0), (1, .int x1), (2, .int x2)]) (h : wb_X12_things_49 B5 S a0 x1 x2 rs0 xs1 xs2 Q) : W p l e ({ frames := 0, cells := 0, slots := 0, locals := 0 } : Room) s m args below meth c H locs 0 0 (MQ below (q_Q D cy lo Q) args s 0 0 (fun q => lo ≤ q)) (F0 m 49 ls [.int xs2, .int xs1, va_rf rs0]) := by
  have hx := X.1
  have hb := X.2.1
  unfold wb_X12_things_49 at h
  obtain ⟨a1_, e2_, h⟩ := h
  refine q_nn [.int xs2, .int xs1] e2_ ?_
  obtain ⟨k3_, h⟩ := h
  obtain ⟨i4_, h⟩ := h
  refine q_ist X Y k3_ i4_ dX12_things_49 (fun H locs Y => ?_)
  refine lv_aload_n hx hb dX12_things_50 rfl (lv_at hl 0 rfl) ?_
  obtain ⟨k5_, h⟩ := h
  refine q_getP X Y kX12 93 rfl fl_X12_227 k5_ rfl dX12_things_51 ?_
  refine lv_iload_n hx hb dX12_things_54 rfl (lv_at hl 2 rfl) ?_
  refine lv_iconst (v := 0) hx hb dX12_things_55 (by decide) ?_
  obtain ⟨a6_, e7_, h⟩ := h
  refine q_nn [.int (0 : Int32), .int x2] e7_ ?_
  obtain ⟨k8_, h⟩ := h
  obtain ⟨i9_, h⟩ := h
  refine q_zst X Y k8_ i9_ dX12_things_56 (fun H locs Y => ?_)
  refine lv_aload_n hx hb dX12_things_57 rfl (lv_at hl 0 rfl) ?_
  refine q_getP X Y kX12 94 rfl fl_X12_230 k5_ rfl dX12_things_58 ?_
  refine lv_iload_n hx hb dX12_things_61 rfl (lv_at hl 2 rfl) ?_
  refine lv_iconst (v := 0) hx hb dX12_things_62 (by decide) ?_
  obtain ⟨a10_, e11_, h⟩ := h
  refine q_nn [.int (0 : Int32), .int x2] e11_ ?_
  obtain ⟨k12_, h⟩ := h
  obtain ⟨i13_, h⟩ := h
  refine q_ist X Y k12_ i13_ dX12_things_63 (fun H locs Y => ?_)
  obtain ⟨S14_, gS14_⟩ : ∃ z : q_S, z = (qs_A (qs_A (qs_A S a1_ xs1.toNatClampNeg xs2) a6_ x2.toNatClampNeg (vp_nar .boolean (0 : Int32))) a10_ x2.toNatClampNeg (0 : Int32)) := ⟨_, rfl⟩
  replace Y : q_Y D cy lo s S14_ H locs := by rw [gS14_]; exact Y
  replace h := h S14_ gS14_
  replace k3_ : q_K S14_ a1_ = 21 := by rw [gS14_]; exact k3_
  replace k5_ : q_K S14_ a0 = 13 := by rw [gS14_]; exact k5_
  replace k8_ : q_K S14_ a6_ = 22 := by rw [gS14_]; exact k8_
  replace k12_ : q_K S14_ a10_ = 21 := by rw [gS14_]; exact k12_
  refine lv_aload_n hx hb dX12_things_64 rfl (lv_at hl 0 rfl) ?_
  refine q_getP X Y kX12 96 rfl fl_X12_236 k5_ rfl dX12_things_65 ?_
  refine lv_iload_n hx hb dX12_things_68 rfl (lv_at hl 2 rfl) ?_
  refine lv_iconst (v := 0) hx hb dX12_things_69 (by decide) ?_
  obtain ⟨a15_, e16_, h⟩ := h
  refine q_nn [.int (0 : Int32), .int x2] e16_ ?_
  obtain ⟨k17_, h⟩ := h
  obtain ⟨i18_, h⟩ := h
  refine q_zst X Y k17_ i18_ dX12_things_70 (fun H locs Y => ?_)
  refine lv_iinc (v := (x2 + 1)) (lv' := [(2, .int (x2 + 1)), (0, .ref a0), (1, .int x1)]) hx hb dX12_things_71 hl (k := 2) rfl (by first | rfl | decide) (by decide) (by first | rfl | simp [q_cat, q_catI, q_catJ, q_catR]) (fun ls hl => ?_)
  refine lv_goto (tgt := 5) hx hb dX12_things_74 (by decide) ?_
  exact hB5 _ _ _ _ _ _ _ h Y (lv_sub hl [1, 2, 0] rfl)
def wb_X12_things_5 (B5 : q_S → Nat → Int32 → Int32 → Prop) (S : q_S) (a0 : Nat) (x1 : Int32) (x2 : Int32) (Q : Option Value → q_S → Prop) : Prop := (((((8 : Int32) * x1) + (8 : Int32)) ≤ x2 → (Q none S)) ∧ (¬ (((8 : Int32) * x1) + (8 : Int32)) ≤ x2 → (q_K S a0 = 13 ∧ (∃ a21_ : Nat, (q_P S 2435 a0) = some a21_ ∧ (q_K S a21_ = 21 ∧ (vp_in ((6 : Int32) * x1) (q_N S a21_) ∧ ((((q_A S a21_ ((6 : Int32) * x1).toNatClampNeg) ≤ (x2 - ((8 : Int32) * x1)) → (wb_X12_things_49 B5 S a0 x1 x2 (q_P S 2492 a0) x2 (0 : Int32) Q)) ∧ (¬ (q_A S a21_ ((6 : Int32) * x1).toNatClampNeg) ≤ (x2 - ((8 : Int32) * x1)) → (∃ a26_ : Nat, (q_P S 2443 a0) = some a26_ ∧ (q_K S a26_ = 21 ∧ (vp_in x2 (q_N S a26_) ∧ (wb_X12_things_49 B5 S a0 x1 x2 (q_P S 2492 a0) x2 (q_A S a26_ x2.toNatClampNeg) Q)))))))))))))
set_option maxHeartbeats 4000000 in
set_option maxRecDepth 100000 in
theorem cb_X12_things_5 {p : Program} {l : Launch} {e : Env} {s : State} {m : MethodId} {args : Array Value} {below : List Frame} {meth : Method} {c : Code} {D : va_G} {cy : Nat → ClassId} {lo : Nat} {B5 : q_S → Nat → Int32 → Int32 → Prop} {S : q_S} {a0 : Nat} {x1 : Int32} {x2 : Int32} {Q : Option Value → q_S → Prop} {H : Heap} {locs : List Loc} {ls : Array Slot} (X : q_X p s m args meth c RX12 cX12_things 3 none D cy lo) (hB5 : ∀ (S : q_S) (a0 : Nat) (x1 : Int32) (x2 : Int32) (H : Heap) (locs : List Loc) (ls : Array Slot), B5 S a0 x1 x2 → q_Y D cy lo s S H locs → lv_has ls 3 [(0, .ref a0), (1, .int x1), (2, .int x2)] → W p l e ({ frames := 0, cells := 0, slots := 0, locals := 0 } : Room) s m args below meth c H locs 0 0 (MQ below (q_Q D cy lo Q) args s 0 0 (fun q => lo ≤ q)) (F0 m 5 ls [])) (Y : q_Y D cy lo s S H locs) (hl : lv_has ls 3 [(0, .ref a0), (1, .int x1), (2, .int x2)]) (h : wb_X12_things_5 B5 S a0 x1 x2 Q) : W p l e ({ frames := 0, cells := 0, slots := 0, locals := 0 } : Room) s m args below meth c H locs 0 0 (MQ below (q_Q D cy lo Q) args s 0 0 (fun q => lo ≤ q)) (F0 m 5 ls []) := by
  have hx := X.1
  have hb := X.2.1
  unfold wb_X12_things_5 at h
  refine lv_iload_n hx hb dX12_things_5 rfl (lv_at hl 2 rfl) ?_
  refine lv_bipush (v := 8) hx hb dX12_things_6 (by decide) ?_
  refine lv_iload_n hx hb dX12_things_8 rfl (lv_at hl 1 rfl) ?_
  refine lv_imul hx hb dX12_things_9 ?_
  refine lv_bipush (v := 8) hx hb dX12_things_10 (by decide) ?_
  refine lv_iadd hx hb dX12_things_12 ?_
  refine lv_icmp_ge (tgt := 77) hx hb dX12_things_13 (by decide) (fun c19_ => ?_) (fun c19_ => ?_)
  · replace h := h.1 c19_
    exact q_vret X Y (Nat.le_refl _) (Nat.le_refl _) h dX12_things_77
  · replace h := h.2 c19_
    refine lv_aload_n hx hb dX12_things_16 rfl (lv_at hl 0 rfl) ?_
    obtain ⟨k20_, h⟩ := h
    refine q_getP X Y kX12 92 rfl fl_X12_224 k20_ rfl dX12_things_17 ?_
    refine lv_iload_n hx hb dX12_things_20 rfl (lv_at hl 2 rfl) ?_
    refine lv_iload_n hx hb dX12_things_21 rfl (lv_at hl 2 rfl) ?_
    refine lv_bipush (v := 8) hx hb dX12_things_22 (by decide) ?_
    refine lv_iload_n hx hb dX12_things_24 rfl (lv_at hl 1 rfl) ?_
    refine lv_imul hx hb dX12_things_25 ?_
    refine lv_isub hx hb dX12_things_26 ?_
    refine lv_aload_n hx hb dX12_things_27 rfl (lv_at hl 0 rfl) ?_
    refine q_getP X Y kX12 35 rfl fl_X12_60 k20_ rfl dX12_things_28 ?_
    refine lv_bipush (v := 6) hx hb dX12_things_31 (by decide) ?_
    refine lv_iload_n hx hb dX12_things_33 rfl (lv_at hl 1 rfl) ?_
    refine lv_imul hx hb dX12_things_34 ?_
    obtain ⟨a21_, e22_, h⟩ := h
    refine q_nn [.int ((6 : Int32) * x1)] e22_ ?_
    obtain ⟨k23_, h⟩ := h
    obtain ⟨i24_, h⟩ := h
    refine q_ild X Y k23_ i24_ dX12_things_35 ?_
    refine lv_icmp_ge (tgt := 48) hx hb dX12_things_36 (by decide) (fun c25_ => ?_) (fun c25_ => ?_)
    · replace h := h.1 c25_
      refine lv_iconst (v := 0) hx hb dX12_things_48 (by decide) ?_
      exact cb_X12_things_49 X hB5 Y (lv_sub hl [0, 1, 2] rfl) h
    · replace h := h.2 c25_
      refine lv_aload_n hx hb dX12_things_39 rfl (lv_at hl 0 rfl) ?_
      refine q_getP X Y kX12 43 rfl fl_X12_85 k20_ rfl dX12_things_40 ?_
      refine lv_iload_n hx hb dX12_things_43 rfl (lv_at hl 2 rfl) ?_
      obtain ⟨a26_, e27_, h⟩ := h
      refine q_nn [.int x2] e27_ ?_
      obtain ⟨k28_, h⟩ := h
      obtain ⟨i29_, h⟩ := h
      refine q_ild X Y k28_ i29_ dX12_things_44 ?_
      refine lv_goto (tgt := 49) hx hb dX12_things_45 (by decide) ?_
      exact cb_X12_things_49 X hB5 Y (lv_sub hl [0, 1, 2] rfl) h
def wl_X12_things_5  : Nat → q_S → Nat → Int32 → Int32 → (Option Value → q_S → Prop) → Prop
  | 0, _, _, _, _, _ => False
  | n + 1, S, a0, x1, x2, Q => wb_X12_things_5 (fun S a0 x1 x2 => wl_X12_things_5 n S a0 x1 x2 Q) S a0 x1 x2 Q
set_option maxHeartbeats 4000000 in
set_option maxRecDepth 100000 in
theorem cl_X12_things_5 {p : Program} {l : Launch} {e : Env} {s : State} {m : MethodId} {args : Array Value} {below : List Frame} {meth : Method} {c : Code} {D : va_G} {cy : Nat → ClassId} {lo : Nat}  {Q : Option Value → q_S → Prop} (X : q_X p s m args meth c RX12 cX12_things 3 none D cy lo)  : ∀ (n : Nat) (S : q_S) (a0 : Nat) (x1 : Int32) (x2 : Int32) (H : Heap) (locs : List Loc) (ls : Array Slot), wl_X12_things_5 n S a0 x1 x2 Q → q_Y D cy lo s S H locs → lv_has ls 3 [(0, .ref a0), (1, .int x1), (2, .int x2)] → W p l e ({ frames := 0, cells := 0, slots := 0, locals := 0 } : Room) s m args below meth c H locs 0 0 (MQ below (q_Q D cy lo Q) args s 0 0 (fun q => lo ≤ q)) (F0 m 5 ls []) := by
  intro n
  induction n with
  | zero => intro S a0 x1 x2 H locs ls h; exact absurd h id
  | succ n ih => intro S a0 x1 x2 H locs ls h Y hl; exact cb_X12_things_5 X ih Y hl h
def wm_X12_things (S : q_S) (a0 : Nat) (x1 : Int32) (Q : Option Value → q_S → Prop) : Prop := ∃ n30_ : Nat, wl_X12_things_5 n30_ S a0 x1 ((8 : Int32) * x1) Q
set_option maxHeartbeats 4000000 in
set_option maxRecDepth 100000 in
theorem cm_X12_things {l : Launch} {D : va_G} {cy : Nat → ClassId} {lo : Nat} {S : q_S} {a0 : Nat} {x1 : Int32} {Q : Option Value → q_S → Prop} (h : wm_X12_things S a0 x1 Q) : q_Met l D cy lo yX12_things cX12_things 3 none 0 0 0 0 [.ref a0, .int x1] S Q := by
  refine q_body (by decide) (by first | exact Nat.le_of_ble_eq_true rfl | simp [lg_sl, q_cat, q_catI, q_catJ, q_catR]) ?_
  intro p e s m below meth c ls X hnm Y hl
  have hx := X.1
  have hb := X.2.1
  have hl : lv_has ls 3 [(0, .ref a0), (1, .int x1)] := by first | exact hl | simpa [lv_args, q_cat, q_catI, q_catJ, q_catR] using hl
  generalize hargs : ([.ref a0, .int x1] : List Value).toArray = args at X ⊢
  unfold wm_X12_things at h
  refine lv_bipush (v := 8) hx hb dX12_things_0 (by decide) ?_
  refine lv_iload_n hx hb dX12_things_2 rfl (lv_at hl 1 rfl) ?_
  refine lv_imul hx hb dX12_things_3 ?_
  refine lv_istore_n (i := 2) (lv' := [(2, .int ((8 : Int32) * x1)), (0, .ref a0), (1, .int x1)]) hx hb dX12_things_4 rfl hl (by decide) (by first | rfl | simp [q_cat, q_catI, q_catJ, q_catR]) (fun ls hl => ?_)
  obtain ⟨n30_, h⟩ := h
  exact cl_X12_things_5 X n30_ _ _ _ _ _ _ _ h Y (lv_sub hl [1, 2, 0] rfl)
-- X12_load
theorem fl_X12_443 : Cond.fieldLink RX12 443 "PartitionWorksModel" "loaded" "Z" ∈ q_G := q_tb (i := 1747) (by decide +kernel) (by decide +kernel)
theorem ml_X12_447 : Cond.methodLink RX12 447 yX12_things ∈ q_G := q_tb (i := 2216) (by decide +kernel) (by decide +kernel)
theorem mt_X12_things : q_Mt yX12_things cX12_things 3 none 1 := ⟨q_tb (i := 2219) (by decide +kernel) (by decide +kernel), q_tb (i := 11) (by decide +kernel) (by decide +kernel), by decide +kernel, by decide +kernel, by decide +kernel⟩
theorem mi_X12_things : Cond.instanceMethod yX12_things ∈ q_G ∧ Cond.selects yX12_things.cls yX12_things yX12_things ∈ q_G := ⟨q_tb (i := 2218) (by decide +kernel) (by decide +kernel), q_tp (i := 115) (q := (yX12_things, 114)) (by decide +kernel) (by decide +kernel)⟩
theorem ml_X12_440 : Cond.methodLink RX12 440 yX12_readFrame ∈ q_G := q_tb (i := 2212) (by decide +kernel) (by decide +kernel)
theorem mt_X12_readFrame : q_Mt yX12_readFrame cX12_readFrame 2 none 0 := ⟨q_tb (i := 2215) (by decide +kernel) (by decide +kernel), q_tb (i := 11) (by decide +kernel) (by decide +kernel), by decide +kernel, by decide +kernel, by decide +kernel⟩
theorem mi_X12_readFrame : Cond.instanceMethod yX12_readFrame ∈ q_G ∧ Cond.selects yX12_readFrame.cls yX12_readFrame yX12_readFrame ∈ q_G := ⟨q_tb (i := 2214) (by decide +kernel) (by decide +kernel), q_tp (i := 114) (q := (yX12_readFrame, 114)) (by decide +kernel) (by decide +kernel)⟩
theorem ml_X12_437 : Cond.methodLink RX12 437 yX12_readChannel ∈ q_G := q_tb (i := 2204) (by decide +kernel) (by decide +kernel)
theorem mt_X12_readChannel : q_Mt yX12_readChannel cX12_readChannel 4 none 0 := ⟨q_tb (i := 2207) (by decide +kernel) (by decide +kernel), q_tb (i := 11) (by decide +kernel) (by decide +kernel), by decide +kernel, by decide +kernel, by decide +kernel⟩
theorem mi_X12_readChannel : Cond.instanceMethod yX12_readChannel ∈ q_G ∧ Cond.selects yX12_readChannel.cls yX12_readChannel yX12_readChannel ∈ q_G := ⟨q_tb (i := 2206) (by decide +kernel) (by decide +kernel), q_tp (i := 112) (q := (yX12_readChannel, 114)) (by decide +kernel) (by decide +kernel)⟩
theorem ml_X12_434 : Cond.methodLink RX12 434 yX12_readPartition ∈ q_G := q_tb (i := 2125) (by decide +kernel) (by decide +kernel)
theorem mt_X12_readPartition : q_Mt yX12_readPartition cX12_readPartition 2 none 0 := ⟨q_tb (i := 2128) (by decide +kernel) (by decide +kernel), q_tb (i := 11) (by decide +kernel) (by decide +kernel), by decide +kernel, by decide +kernel, by decide +kernel⟩
theorem mi_X12_readPartition : Cond.instanceMethod yX12_readPartition ∈ q_G ∧ Cond.selects yX12_readPartition.cls yX12_readPartition yX12_readPartition ∈ q_G := ⟨q_tb (i := 2127) (by decide +kernel) (by decide +kernel), q_tp (i := 93) (q := (yX12_readPartition, 114)) (by decide +kernel) (by decide +kernel)⟩
theorem ml_X12_431 : Cond.methodLink RX12 431 yX12_forget ∈ q_G := q_tb (i := 2094) (by decide +kernel) (by decide +kernel)
theorem mt_X12_forget : q_Mt yX12_forget cX12_forget 2 none 0 := ⟨q_tb (i := 2097) (by decide +kernel) (by decide +kernel), q_tb (i := 11) (by decide +kernel) (by decide +kernel), by decide +kernel, by decide +kernel, by decide +kernel⟩
theorem mi_X12_forget : Cond.instanceMethod yX12_forget ∈ q_G ∧ Cond.selects yX12_forget.cls yX12_forget yX12_forget ∈ q_G := ⟨q_tb (i := 2096) (by decide +kernel) (by decide +kernel), q_tp (i := 86) (q := (yX12_forget, 114)) (by decide +kernel) (by decide +kernel)⟩
theorem dX12_load_0 : decode cX12_load 0 = .ok (.aload_n 0, 1) := by decide +kernel
theorem dX12_load_1 : decode cX12_load 1 = .ok (.aload_n 0, 1) := by decide +kernel
theorem dX12_load_2 : decode cX12_load 2 = .ok (.getfield 428, 3) := by decide +kernel
theorem dX12_load_5 : decode cX12_load 5 = .ok (.putfield 281, 3) := by decide +kernel
theorem dX12_load_8 : decode cX12_load 8 = .ok (.aload_n 0, 1) := by decide +kernel
theorem dX12_load_9 : decode cX12_load 9 = .ok (.iconst 0, 1) := by decide +kernel
theorem dX12_load_10 : decode cX12_load 10 = .ok (.putfield 428, 3) := by decide +kernel
theorem dX12_load_13 : decode cX12_load 13 = .ok (.aload_n 0, 1) := by decide +kernel
theorem dX12_load_14 : decode cX12_load 14 = .ok (.invokevirtual 431, 3) := by decide +kernel
theorem dX12_load_17 : decode cX12_load 17 = .ok (.aload_n 0, 1) := by decide +kernel
theorem dX12_load_18 : decode cX12_load 18 = .ok (.iconst 0, 1) := by decide +kernel
theorem dX12_load_19 : decode cX12_load 19 = .ok (.putfield 284, 3) := by decide +kernel
theorem dX12_load_22 : decode cX12_load 22 = .ok (.aload_n 0, 1) := by decide +kernel
theorem dX12_load_23 : decode cX12_load 23 = .ok (.invokevirtual 341, 3) := by decide +kernel
theorem dX12_load_26 : decode cX12_load 26 = .ok (.aload_n 0, 1) := by decide +kernel
theorem dX12_load_27 : decode cX12_load 27 = .ok (.iconst 0, 1) := by decide +kernel
theorem dX12_load_28 : decode cX12_load 28 = .ok (.invokevirtual 344, 3) := by decide +kernel
theorem dX12_load_31 : decode cX12_load 31 = .ok (.ifCond .eq 10, 3) := by decide +kernel
theorem dX12_load_34 : decode cX12_load 34 = .ok (.aload_n 0, 1) := by decide +kernel
theorem dX12_load_35 : decode cX12_load 35 = .ok (.invokevirtual 434, 3) := by decide +kernel
theorem dX12_load_38 : decode cX12_load 38 = .ok (.goto 9, 3) := by decide +kernel
theorem dX12_load_41 : decode cX12_load 41 = .ok (.aload_n 0, 1) := by decide +kernel
theorem dX12_load_42 : decode cX12_load 42 = .ok (.iconst 1, 1) := by decide +kernel
theorem dX12_load_43 : decode cX12_load 43 = .ok (.invokevirtual 338, 3) := by decide +kernel
theorem dX12_load_46 : decode cX12_load 46 = .ok (.pop, 1) := by decide +kernel
theorem dX12_load_47 : decode cX12_load 47 = .ok (.aload_n 0, 1) := by decide +kernel
theorem dX12_load_48 : decode cX12_load 48 = .ok (.iconst 0, 1) := by decide +kernel
theorem dX12_load_49 : decode cX12_load 49 = .ok (.invokevirtual 344, 3) := by decide +kernel
theorem dX12_load_52 : decode cX12_load 52 = .ok (.ifCond .ne (-26), 3) := by decide +kernel
theorem dX12_load_55 : decode cX12_load 55 = .ok (.aload_n 0, 1) := by decide +kernel
theorem dX12_load_56 : decode cX12_load 56 = .ok (.bipush 24, 2) := by decide +kernel
theorem dX12_load_58 : decode cX12_load 58 = .ok (.invokevirtual 344, 3) := by decide +kernel
theorem dX12_load_61 : decode cX12_load 61 = .ok (.ifCond .eq 10, 3) := by decide +kernel
theorem dX12_load_64 : decode cX12_load 64 = .ok (.aload_n 0, 1) := by decide +kernel
theorem dX12_load_65 : decode cX12_load 65 = .ok (.invokevirtual 437, 3) := by decide +kernel
theorem dX12_load_68 : decode cX12_load 68 = .ok (.goto (-13), 3) := by decide +kernel
theorem dX12_load_71 : decode cX12_load 71 = .ok (.aload_n 0, 1) := by decide +kernel
theorem dX12_load_72 : decode cX12_load 72 = .ok (.invokevirtual 440, 3) := by decide +kernel
theorem dX12_load_75 : decode cX12_load 75 = .ok (.aload_n 0, 1) := by decide +kernel
theorem dX12_load_76 : decode cX12_load 76 = .ok (.aload_n 0, 1) := by decide +kernel
theorem dX12_load_77 : decode cX12_load 77 = .ok (.getfield 328, 3) := by decide +kernel
theorem dX12_load_80 : decode cX12_load 80 = .ok (.ifCond .ne 7, 3) := by decide +kernel
theorem dX12_load_83 : decode cX12_load 83 = .ok (.iconst 1, 1) := by decide +kernel
theorem dX12_load_84 : decode cX12_load 84 = .ok (.goto 4, 3) := by decide +kernel
theorem dX12_load_87 : decode cX12_load 87 = .ok (.iconst 0, 1) := by decide +kernel
theorem dX12_load_88 : decode cX12_load 88 = .ok (.putfield 443, 3) := by decide +kernel
theorem dX12_load_91 : decode cX12_load 91 = .ok (.aload_n 0, 1) := by decide +kernel
theorem dX12_load_92 : decode cX12_load 92 = .ok (.getfield 443, 3) := by decide +kernel
theorem dX12_load_95 : decode cX12_load 95 = .ok (.ifCond .ne 28, 3) := by decide +kernel
theorem dX12_load_98 : decode cX12_load 98 = .ok (.aload_n 0, 1) := by decide +kernel
theorem dX12_load_99 : decode cX12_load 99 = .ok (.iconst 0, 1) := by decide +kernel
theorem dX12_load_100 : decode cX12_load 100 = .ok (.putfield 350, 3) := by decide +kernel
theorem dX12_load_103 : decode cX12_load 103 = .ok (.aload_n 0, 1) := by decide +kernel
theorem dX12_load_104 : decode cX12_load 104 = .ok (.iconst 0, 1) := by decide +kernel
theorem dX12_load_105 : decode cX12_load 105 = .ok (.putfield 409, 3) := by decide +kernel
theorem dX12_load_108 : decode cX12_load 108 = .ok (.aload_n 0, 1) := by decide +kernel
theorem dX12_load_109 : decode cX12_load 109 = .ok (.iconst 0, 1) := by decide +kernel
theorem dX12_load_110 : decode cX12_load 110 = .ok (.putfield 422, 3) := by decide +kernel
theorem dX12_load_113 : decode cX12_load 113 = .ok (.aload_n 0, 1) := by decide +kernel
theorem dX12_load_114 : decode cX12_load 114 = .ok (.iconst 0, 1) := by decide +kernel
theorem dX12_load_115 : decode cX12_load 115 = .ok (.putfield 416, 3) := by decide +kernel
theorem dX12_load_118 : decode cX12_load 118 = .ok (.aload_n 0, 1) := by decide +kernel
theorem dX12_load_119 : decode cX12_load 119 = .ok (.iconst 0, 1) := by decide +kernel
theorem dX12_load_120 : decode cX12_load 120 = .ok (.putfield 419, 3) := by decide +kernel
theorem dX12_load_123 : decode cX12_load 123 = .ok (.iconst 0, 1) := by decide +kernel
theorem dX12_load_124 : decode cX12_load 124 = .ok (.istore_n 1, 1) := by decide +kernel
theorem dX12_load_125 : decode cX12_load 125 = .ok (.iload_n 1, 1) := by decide +kernel
theorem dX12_load_126 : decode cX12_load 126 = .ok (.aload_n 0, 1) := by decide +kernel
theorem dX12_load_127 : decode cX12_load 127 = .ok (.getfield 350, 3) := by decide +kernel
theorem dX12_load_130 : decode cX12_load 130 = .ok (.if_icmp .ge 57, 3) := by decide +kernel
theorem dX12_load_133 : decode cX12_load 133 = .ok (.aload_n 0, 1) := by decide +kernel
theorem dX12_load_134 : decode cX12_load 134 = .ok (.iload_n 1, 1) := by decide +kernel
theorem dX12_load_135 : decode cX12_load 135 = .ok (.invokevirtual 447, 3) := by decide +kernel
theorem dX12_load_138 : decode cX12_load 138 = .ok (.bipush 16, 2) := by decide +kernel
theorem dX12_load_140 : decode cX12_load 140 = .ok (.iload_n 1, 1) := by decide +kernel
theorem dX12_load_141 : decode cX12_load 141 = .ok (.imul, 1) := by decide +kernel
theorem dX12_load_142 : decode cX12_load 142 = .ok (.istore_n 2, 1) := by decide +kernel
theorem dX12_load_143 : decode cX12_load 143 = .ok (.iload_n 2, 1) := by decide +kernel
theorem dX12_load_144 : decode cX12_load 144 = .ok (.bipush 16, 2) := by decide +kernel
theorem dX12_load_146 : decode cX12_load 146 = .ok (.iload_n 1, 1) := by decide +kernel
theorem dX12_load_147 : decode cX12_load 147 = .ok (.imul, 1) := by decide +kernel
theorem dX12_load_148 : decode cX12_load 148 = .ok (.aload_n 0, 1) := by decide +kernel
theorem dX12_load_149 : decode cX12_load 149 = .ok (.getfield 60, 3) := by decide +kernel
theorem dX12_load_152 : decode cX12_load 152 = .ok (.bipush 6, 2) := by decide +kernel
theorem dX12_load_154 : decode cX12_load 154 = .ok (.iload_n 1, 1) := by decide +kernel
theorem dX12_load_155 : decode cX12_load 155 = .ok (.imul, 1) := by decide +kernel
theorem dX12_load_156 : decode cX12_load 156 = .ok (.iconst 5, 1) := by decide +kernel
theorem dX12_load_157 : decode cX12_load 157 = .ok (.iadd, 1) := by decide +kernel
theorem dX12_load_158 : decode cX12_load 158 = .ok (.iaload, 1) := by decide +kernel
theorem dX12_load_159 : decode cX12_load 159 = .ok (.iadd, 1) := by decide +kernel
theorem dX12_load_160 : decode cX12_load 160 = .ok (.if_icmp .ge 21, 3) := by decide +kernel
theorem dX12_load_163 : decode cX12_load 163 = .ok (.aload_n 0, 1) := by decide +kernel
theorem dX12_load_164 : decode cX12_load 164 = .ok (.getfield 155, 3) := by decide +kernel
theorem dX12_load_167 : decode cX12_load 167 = .ok (.iload_n 2, 1) := by decide +kernel
theorem dX12_load_168 : decode cX12_load 168 = .ok (.aload_n 0, 1) := by decide +kernel
theorem dX12_load_169 : decode cX12_load 169 = .ok (.getfield 66, 3) := by decide +kernel
theorem dX12_load_172 : decode cX12_load 172 = .ok (.iload_n 2, 1) := by decide +kernel
theorem dX12_load_173 : decode cX12_load 173 = .ok (.iaload, 1) := by decide +kernel
theorem dX12_load_174 : decode cX12_load 174 = .ok (.iastore, 1) := by decide +kernel
theorem dX12_load_175 : decode cX12_load 175 = .ok (.iinc 2 1, 3) := by decide +kernel
theorem dX12_load_178 : decode cX12_load 178 = .ok (.goto (-35), 3) := by decide +kernel
theorem dX12_load_181 : decode cX12_load 181 = .ok (.iinc 1 1, 3) := by decide +kernel
theorem dX12_load_184 : decode cX12_load 184 = .ok (.goto (-59), 3) := by decide +kernel
theorem dX12_load_187 : decode cX12_load 187 = .ok (.aload_n 0, 1) := by decide +kernel
theorem dX12_load_188 : decode cX12_load 188 = .ok (.aload_n 0, 1) := by decide +kernel
theorem dX12_load_189 : decode cX12_load 189 = .ok (.getfield 443, 3) := by decide +kernel
theorem dX12_load_192 : decode cX12_load 192 = .ok (.ifCond .eq 7, 3) := by decide +kernel
theorem dX12_load_195 : decode cX12_load 195 = .ok (.iconst 0, 1) := by decide +kernel
theorem dX12_load_196 : decode cX12_load 196 = .ok (.goto 4, 3) := by decide +kernel
theorem dX12_load_199 : decode cX12_load 199 = .ok (.iconst 1, 1) := by decide +kernel
theorem dX12_load_200 : decode cX12_load 200 = .ok (.putfield 278, 3) := by decide +kernel
theorem dX12_load_203 : decode cX12_load 203 = .ok (.aload_n 0, 1) := by decide +kernel
theorem dX12_load_204 : decode cX12_load 204 = .ok (.getfield 443, 3) := by decide +kernel
theorem dX12_load_207 : decode cX12_load 207 = .ok (.ifCond .eq 10, 3) := by decide +kernel
theorem dX12_load_210 : decode cX12_load 210 = .ok (.aload_n 0, 1) := by decide +kernel
theorem dX12_load_211 : decode cX12_load 211 = .ok (.getfield 350, 3) := by decide +kernel
theorem dX12_load_214 : decode cX12_load 214 = .ok (.goto 4, 3) := by decide +kernel
theorem dX12_load_217 : decode cX12_load 217 = .ok (.iconst 0, 1) := by decide +kernel
theorem dX12_load_218 : decode cX12_load 218 = .ok (.ireturn, 1) := by decide +kernel
def wb_X12_load_143 (B125 : q_S → Nat → Int32 → Prop) (B143 : q_S → Nat → Int32 → Int32 → Prop) (S : q_S) (a0 : Nat) (x1 : Int32) (x2 : Int32) (Q : Option Value → q_S → Prop) : Prop := q_K S a0 = 13 ∧ (∃ a2_ : Nat, (q_P S 2435 a0) = some a2_ ∧ (q_K S a2_ = 21 ∧ (vp_in (((6 : Int32) * x1) + (5 : Int32)) (q_N S a2_) ∧ ((((((16 : Int32) * x1) + (q_A S a2_ (((6 : Int32) * x1) + (5 : Int32)).toNatClampNeg)) ≤ x2 → (B125 S a0 (x1 + 1))) ∧ (¬ (((16 : Int32) * x1) + (q_A S a2_ (((6 : Int32) * x1) + (5 : Int32)).toNatClampNeg)) ≤ x2 → (∃ a7_ : Nat, (q_P S 2437 a0) = some a7_ ∧ (q_K S a7_ = 21 ∧ (vp_in x2 (q_N S a7_) ∧ (∃ a11_ : Nat, (q_P S 2469 a0) = some a11_ ∧ (q_K S a11_ = 21 ∧ (vp_in x2 (q_N S a11_) ∧ (B143 (qs_A S a11_ x2.toNatClampNeg (q_A S a7_ x2.toNatClampNeg)) a0 x1 (x2 + 1))))))))))))))
set_option maxHeartbeats 4000000 in
set_option maxRecDepth 100000 in
theorem cb_X12_load_143 {p : Program} {l : Launch} {e : Env} {s : State} {m : MethodId} {args : Array Value} {below : List Frame} {meth : Method} {c : Code} {D : va_G} {cy : Nat → ClassId} {lo : Nat} {B125 : q_S → Nat → Int32 → Prop} {B143 : q_S → Nat → Int32 → Int32 → Prop} {S : q_S} {a0 : Nat} {x1 : Int32} {x2 : Int32} {Q : Option Value → q_S → Prop} {H : Heap} {locs : List Loc} {ls : Array Slot} (X : q_X p s m args meth c RX12 cX12_load 3 (some .int) D cy lo) (hB125 : ∀ (S : q_S) (a0 : Nat) (x1 : Int32) (H : Heap) (locs : List Loc) (ls : Array Slot), B125 S a0 x1 → q_Y D cy lo s S H locs → lv_has ls 3 [(0, .ref a0), (1, .int x1)] → W p l e ({ frames := 11, cells := 0, slots := 0, locals := 245 } : Room) s m args below meth c H locs 0 0 (MQ below (q_Q D cy lo Q) args s 0 0 (fun q => lo ≤ q)) (F0 m 125 ls [])) (hB143 : ∀ (S : q_S) (a0 : Nat) (x1 : Int32) (x2 : Int32) (H : Heap) (locs : List Loc) (ls : Array Slot), B143 S a0 x1 x2 → q_Y D cy lo s S H locs → lv_has ls 3 [(0, .ref a0), (1, .int x1), (2, .int x2)] → W p l e ({ frames := 11, cells := 0, slots := 0, locals := 245 } : Room) s m args below meth c H locs 0 0 (MQ below (q_Q D cy lo Q) args s 0 0 (fun q => lo ≤ q)) (F0 m 143 ls [])) (Y : q_Y D cy lo s S H locs) (hl : lv_has ls 3 [(0, .ref a0), (1, .int x1), (2, .int x2)]) (h : wb_X12_load_143 B125 B143 S a0 x1 x2 Q) : W p l e ({ frames := 11, cells := 0, slots := 0, locals := 245 } : Room) s m args below meth c H locs 0 0 (MQ below (q_Q D cy lo Q) args s 0 0 (fun q => lo ≤ q)) (F0 m 143 ls []) := by
  have hx := X.1
  have hb := X.2.1
  unfold wb_X12_load_143 at h
  refine lv_iload_n hx hb dX12_load_143 rfl (lv_at hl 2 rfl) ?_
  refine lv_bipush (v := 16) hx hb dX12_load_144 (by decide) ?_
  refine lv_iload_n hx hb dX12_load_146 rfl (lv_at hl 1 rfl) ?_
  refine lv_imul hx hb dX12_load_147 ?_
  refine lv_aload_n hx hb dX12_load_148 rfl (lv_at hl 0 rfl) ?_
  obtain ⟨k1_, h⟩ := h
  refine q_getP X Y kX12 35 rfl fl_X12_60 k1_ rfl dX12_load_149 ?_
  refine lv_bipush (v := 6) hx hb dX12_load_152 (by decide) ?_
  refine lv_iload_n hx hb dX12_load_154 rfl (lv_at hl 1 rfl) ?_
  refine lv_imul hx hb dX12_load_155 ?_
  refine lv_iconst (v := 5) hx hb dX12_load_156 (by decide) ?_
  refine lv_iadd hx hb dX12_load_157 ?_
  obtain ⟨a2_, e3_, h⟩ := h
  refine q_nn [.int (((6 : Int32) * x1) + (5 : Int32))] e3_ ?_
  obtain ⟨k4_, h⟩ := h
  obtain ⟨i5_, h⟩ := h
  refine q_ild X Y k4_ i5_ dX12_load_158 ?_
  refine lv_iadd hx hb dX12_load_159 ?_
  refine lv_icmp_ge (tgt := 181) hx hb dX12_load_160 (by decide) (fun c6_ => ?_) (fun c6_ => ?_)
  · replace h := h.1 c6_
    refine lv_iinc (v := (x1 + 1)) (lv' := [(1, .int (x1 + 1)), (0, .ref a0), (2, .int x2)]) hx hb dX12_load_181 hl (k := 1) rfl (by first | rfl | decide) (by decide) (by first | rfl | simp [q_cat, q_catI, q_catJ, q_catR]) (fun ls hl => ?_)
    refine lv_goto (tgt := 125) hx hb dX12_load_184 (by decide) ?_
    exact hB125 _ _ _ _ _ _ h Y (lv_sub hl [1, 0] rfl)
  · replace h := h.2 c6_
    refine lv_aload_n hx hb dX12_load_163 rfl (lv_at hl 0 rfl) ?_
    refine q_getP X Y kX12 69 rfl fl_X12_155 k1_ rfl dX12_load_164 ?_
    refine lv_iload_n hx hb dX12_load_167 rfl (lv_at hl 2 rfl) ?_
    refine lv_aload_n hx hb dX12_load_168 rfl (lv_at hl 0 rfl) ?_
    refine q_getP X Y kX12 37 rfl fl_X12_66 k1_ rfl dX12_load_169 ?_
    refine lv_iload_n hx hb dX12_load_172 rfl (lv_at hl 2 rfl) ?_
    obtain ⟨a7_, e8_, h⟩ := h
    refine q_nn [.int x2] e8_ ?_
    obtain ⟨k9_, h⟩ := h
    obtain ⟨i10_, h⟩ := h
    refine q_ild X Y k9_ i10_ dX12_load_173 ?_
    obtain ⟨a11_, e12_, h⟩ := h
    refine q_nn [.int (q_A S a7_ x2.toNatClampNeg), .int x2] e12_ ?_
    obtain ⟨k13_, h⟩ := h
    obtain ⟨i14_, h⟩ := h
    refine q_ist X Y k13_ i14_ dX12_load_174 (fun H locs Y => ?_)
    refine lv_iinc (v := (x2 + 1)) (lv' := [(2, .int (x2 + 1)), (0, .ref a0), (1, .int x1)]) hx hb dX12_load_175 hl (k := 2) rfl (by first | rfl | decide) (by decide) (by first | rfl | simp [q_cat, q_catI, q_catJ, q_catR]) (fun ls hl => ?_)
    refine lv_goto (tgt := 143) hx hb dX12_load_178 (by decide) ?_
    exact hB143 _ _ _ _ _ _ _ h Y (lv_sub hl [1, 2, 0] rfl)
def wl_X12_load_143 (B125 : q_S → Nat → Int32 → Prop) : Nat → q_S → Nat → Int32 → Int32 → (Option Value → q_S → Prop) → Prop
  | 0, _, _, _, _, _ => False
  | n + 1, S, a0, x1, x2, Q => wb_X12_load_143 B125 (fun S a0 x1 x2 => wl_X12_load_143 B125 n S a0 x1 x2 Q) S a0 x1 x2 Q
set_option maxHeartbeats 4000000 in
set_option maxRecDepth 100000 in
theorem cl_X12_load_143 {p : Program} {l : Launch} {e : Env} {s : State} {m : MethodId} {args : Array Value} {below : List Frame} {meth : Method} {c : Code} {D : va_G} {cy : Nat → ClassId} {lo : Nat} {B125 : q_S → Nat → Int32 → Prop} {Q : Option Value → q_S → Prop} (X : q_X p s m args meth c RX12 cX12_load 3 (some .int) D cy lo) (hB125 : ∀ (S : q_S) (a0 : Nat) (x1 : Int32) (H : Heap) (locs : List Loc) (ls : Array Slot), B125 S a0 x1 → q_Y D cy lo s S H locs → lv_has ls 3 [(0, .ref a0), (1, .int x1)] → W p l e ({ frames := 11, cells := 0, slots := 0, locals := 245 } : Room) s m args below meth c H locs 0 0 (MQ below (q_Q D cy lo Q) args s 0 0 (fun q => lo ≤ q)) (F0 m 125 ls [])) : ∀ (n : Nat) (S : q_S) (a0 : Nat) (x1 : Int32) (x2 : Int32) (H : Heap) (locs : List Loc) (ls : Array Slot), wl_X12_load_143 B125 n S a0 x1 x2 Q → q_Y D cy lo s S H locs → lv_has ls 3 [(0, .ref a0), (1, .int x1), (2, .int x2)] → W p l e ({ frames := 11, cells := 0, slots := 0, locals := 245 } : Room) s m args below meth c H locs 0 0 (MQ below (q_Q D cy lo Q) args s 0 0 (fun q => lo ≤ q)) (F0 m 143 ls []) := by
  intro n
  induction n with
  | zero => intro S a0 x1 x2 H locs ls h; exact absurd h id
  | succ n ih => intro S a0 x1 x2 H locs ls h Y hl; exact cb_X12_load_143 X hB125 ih Y hl h
def wb_X12_load_218  (S : q_S) (xs0 : Int32) (Q : Option Value → q_S → Prop) : Prop := Q (some (.int xs0)) S
set_option maxHeartbeats 4000000 in
set_option maxRecDepth 100000 in
theorem cb_X12_load_218 {p : Program} {l : Launch} {e : Env} {s : State} {m : MethodId} {args : Array Value} {below : List Frame} {meth : Method} {c : Code} {D : va_G} {cy : Nat → ClassId} {lo : Nat}  {S : q_S} {xs0 : Int32} {Q : Option Value → q_S → Prop} {H : Heap} {locs : List Loc} {ls : Array Slot} (X : q_X p s m args meth c RX12 cX12_load 3 (some .int) D cy lo)  (Y : q_Y D cy lo s S H locs) (hl : lv_has ls 3 []) (h : wb_X12_load_218 S xs0 Q) : W p l e ({ frames := 11, cells := 0, slots := 0, locals := 245 } : Room) s m args below meth c H locs 0 0 (MQ below (q_Q D cy lo Q) args s 0 0 (fun q => lo ≤ q)) (F0 m 218 ls [.int xs0]) := by
  have hx := X.1
  have hb := X.2.1
  unfold wb_X12_load_218 at h
  exact q_iret X Y rfl (Nat.le_refl _) (Nat.le_refl _) h dX12_load_218
def wb_X12_load_200  (S : q_S) (a0 : Nat) (as0 : Nat) (xs1 : Int32) (Q : Option Value → q_S → Prop) : Prop := q_K S as0 = 13 ∧ (q_K (qs_I S 2400 as0 xs1) a0 = 13 ∧ ((((q_I (qs_I S 2400 as0 xs1) 2413 a0) = 0 → (wb_X12_load_218 (qs_I S 2400 as0 xs1) (0 : Int32) Q)) ∧ (¬ (q_I (qs_I S 2400 as0 xs1) 2413 a0) = 0 → (wb_X12_load_218 (qs_I S 2400 as0 xs1) (q_I (qs_I S 2400 as0 xs1) 2415 a0) Q)))))
set_option maxHeartbeats 4000000 in
set_option maxRecDepth 100000 in
theorem cb_X12_load_200 {p : Program} {l : Launch} {e : Env} {s : State} {m : MethodId} {args : Array Value} {below : List Frame} {meth : Method} {c : Code} {D : va_G} {cy : Nat → ClassId} {lo : Nat}  {S : q_S} {a0 : Nat} {as0 : Nat} {xs1 : Int32} {Q : Option Value → q_S → Prop} {H : Heap} {locs : List Loc} {ls : Array Slot} (X : q_X p s m args meth c RX12 cX12_load 3 (some .int) D cy lo)  (Y : q_Y D cy lo s S H locs) (hl : lv_has ls 3 [(0, .ref a0)]) (h : wb_X12_load_200 S a0 as0 xs1 Q) : W p l e ({ frames := 11, cells := 0, slots := 0, locals := 245 } : Room) s m args below meth c H locs 0 0 (MQ below (q_Q D cy lo Q) args s 0 0 (fun q => lo ≤ q)) (F0 m 200 ls [.int xs1, .ref as0]) := by
  have hx := X.1
  have hb := X.2.1
  unfold wb_X12_load_200 at h
  obtain ⟨k15_, h⟩ := h
  refine q_putI X Y kX12 0 rfl fl_X12_278 k15_ .int rfl ⟨rfl, rfl⟩ rfl dX12_load_200 (fun H locs Y => ?_)
  refine lv_aload_n hx hb dX12_load_203 rfl (lv_at hl 0 rfl) ?_
  obtain ⟨k16_, h⟩ := h
  refine q_getI X Y kX12 13 rfl fl_X12_443 k16_ dX12_load_204 ?_
  refine lv_if_eq (tgt := 217) hx hb dX12_load_207 (by decide) (fun c17_ => ?_) (fun c17_ => ?_)
  · replace h := h.1 c17_
    refine lv_iconst (v := 0) hx hb dX12_load_217 (by decide) ?_
    exact cb_X12_load_218 X Y (lv_sub hl [] rfl) h
  · replace h := h.2 c17_
    refine lv_aload_n hx hb dX12_load_210 rfl (lv_at hl 0 rfl) ?_
    refine q_getI X Y kX12 15 rfl fl_X12_350 k16_ dX12_load_211 ?_
    refine lv_goto (tgt := 218) hx hb dX12_load_214 (by decide) ?_
    exact cb_X12_load_218 X Y (lv_sub hl [] rfl) h
def wb_X12_load_125 (B125 : q_S → Nat → Int32 → Prop) (S : q_S) (a0 : Nat) (x1 : Int32) (Q : Option Value → q_S → Prop) : Prop := q_K S a0 = 13 ∧ ((((q_I S 2415 a0) ≤ x1 → ((((q_I S 2413 a0) = 0 → (wb_X12_load_200 S a0 a0 (1 : Int32) Q)) ∧ (¬ (q_I S 2413 a0) = 0 → (wb_X12_load_200 S a0 a0 (0 : Int32) Q))))) ∧ (¬ (q_I S 2415 a0) ≤ x1 → (wm_X12_things S a0 x1 (fun r21_ S22_ => r21_ = none ∧ (∃ n23_ : Nat, wl_X12_load_143 B125 n23_ S22_ a0 x1 ((16 : Int32) * x1) Q))))))
set_option maxHeartbeats 4000000 in
set_option maxRecDepth 100000 in
theorem cb_X12_load_125 {p : Program} {l : Launch} {e : Env} {s : State} {m : MethodId} {args : Array Value} {below : List Frame} {meth : Method} {c : Code} {D : va_G} {cy : Nat → ClassId} {lo : Nat} {B125 : q_S → Nat → Int32 → Prop} {S : q_S} {a0 : Nat} {x1 : Int32} {Q : Option Value → q_S → Prop} {H : Heap} {locs : List Loc} {ls : Array Slot} (X : q_X p s m args meth c RX12 cX12_load 3 (some .int) D cy lo) (hB125 : ∀ (S : q_S) (a0 : Nat) (x1 : Int32) (H : Heap) (locs : List Loc) (ls : Array Slot), B125 S a0 x1 → q_Y D cy lo s S H locs → lv_has ls 3 [(0, .ref a0), (1, .int x1)] → W p l e ({ frames := 11, cells := 0, slots := 0, locals := 245 } : Room) s m args below meth c H locs 0 0 (MQ below (q_Q D cy lo Q) args s 0 0 (fun q => lo ≤ q)) (F0 m 125 ls [])) (Y : q_Y D cy lo s S H locs) (hl : lv_has ls 3 [(0, .ref a0), (1, .int x1)]) (h : wb_X12_load_125 B125 S a0 x1 Q) : W p l e ({ frames := 11, cells := 0, slots := 0, locals := 245 } : Room) s m args below meth c H locs 0 0 (MQ below (q_Q D cy lo Q) args s 0 0 (fun q => lo ≤ q)) (F0 m 125 ls []) := by
  have hx := X.1
  have hb := X.2.1
  unfold wb_X12_load_125 at h
  refine lv_iload_n hx hb dX12_load_125 rfl (lv_at hl 1 rfl) ?_
  refine lv_aload_n hx hb dX12_load_126 rfl (lv_at hl 0 rfl) ?_
  obtain ⟨k18_, h⟩ := h
  refine q_getI X Y kX12 15 rfl fl_X12_350 k18_ dX12_load_127 ?_
  refine lv_icmp_ge (tgt := 187) hx hb dX12_load_130 (by decide) (fun c19_ => ?_) (fun c19_ => ?_)
  · replace h := h.1 c19_
    refine lv_aload_n hx hb dX12_load_187 rfl (lv_at hl 0 rfl) ?_
    refine lv_aload_n hx hb dX12_load_188 rfl (lv_at hl 0 rfl) ?_
    refine q_getI X Y kX12 13 rfl fl_X12_443 k18_ dX12_load_189 ?_
    refine lv_if_eq (tgt := 199) hx hb dX12_load_192 (by decide) (fun c20_ => ?_) (fun c20_ => ?_)
    · replace h := h.1 c20_
      refine lv_iconst (v := 1) hx hb dX12_load_199 (by decide) ?_
      exact cb_X12_load_200 X Y (lv_sub hl [0] rfl) h
    · replace h := h.2 c20_
      refine lv_iconst (v := 0) hx hb dX12_load_195 (by decide) ?_
      refine lv_goto (tgt := 200) hx hb dX12_load_196 (by decide) ?_
      exact cb_X12_load_200 X Y (lv_sub hl [0] rfl) h
  · replace h := h.2 c19_
    refine lv_aload_n hx hb dX12_load_133 rfl (lv_at hl 0 rfl) ?_
    refine lv_iload_n hx hb dX12_load_134 rfl (lv_at hl 1 rfl) ?_
    refine q_callV X Y hl (cm_X12_things h) mt_X12_things mi_X12_things ml_X12_447 (ci := 12) rfl k18_ (by decide) rfl rfl (by first | exact Nat.le_of_ble_eq_true rfl | simp [q_cat, q_catI, q_catJ, q_catR]) ⟨Nat.le_of_ble_eq_true rfl, Nat.le_of_ble_eq_true rfl⟩ ⟨Nat.le_of_ble_eq_true rfl, Nat.le_of_ble_eq_true rfl⟩ dX12_load_135 (fun r21_ S22_ H locs hp Y => ?_)
    obtain ⟨rfl, h⟩ := hp
    refine W.eq (g2 := F0 m 138 ls []) rfl ?_
    refine lv_bipush (v := 16) hx hb dX12_load_138 (by decide) ?_
    refine lv_iload_n hx hb dX12_load_140 rfl (lv_at hl 1 rfl) ?_
    refine lv_imul hx hb dX12_load_141 ?_
    refine lv_istore_n (i := 2) (lv' := [(2, .int ((16 : Int32) * x1)), (0, .ref a0), (1, .int x1)]) hx hb dX12_load_142 rfl hl (by decide) (by first | rfl | simp [q_cat, q_catI, q_catJ, q_catR]) (fun ls hl => ?_)
    obtain ⟨n23_, h⟩ := h
    exact cl_X12_load_143 X hB125 n23_ _ _ _ _ _ _ _ h Y (lv_sub hl [1, 2, 0] rfl)
def wl_X12_load_125  : Nat → q_S → Nat → Int32 → (Option Value → q_S → Prop) → Prop
  | 0, _, _, _, _ => False
  | n + 1, S, a0, x1, Q => wb_X12_load_125 (fun S a0 x1 => wl_X12_load_125 n S a0 x1 Q) S a0 x1 Q
set_option maxHeartbeats 4000000 in
set_option maxRecDepth 100000 in
theorem cl_X12_load_125 {p : Program} {l : Launch} {e : Env} {s : State} {m : MethodId} {args : Array Value} {below : List Frame} {meth : Method} {c : Code} {D : va_G} {cy : Nat → ClassId} {lo : Nat}  {Q : Option Value → q_S → Prop} (X : q_X p s m args meth c RX12 cX12_load 3 (some .int) D cy lo)  : ∀ (n : Nat) (S : q_S) (a0 : Nat) (x1 : Int32) (H : Heap) (locs : List Loc) (ls : Array Slot), wl_X12_load_125 n S a0 x1 Q → q_Y D cy lo s S H locs → lv_has ls 3 [(0, .ref a0), (1, .int x1)] → W p l e ({ frames := 11, cells := 0, slots := 0, locals := 245 } : Room) s m args below meth c H locs 0 0 (MQ below (q_Q D cy lo Q) args s 0 0 (fun q => lo ≤ q)) (F0 m 125 ls []) := by
  intro n
  induction n with
  | zero => intro S a0 x1 H locs ls h; exact absurd h id
  | succ n ih => intro S a0 x1 H locs ls h Y hl; exact cb_X12_load_125 X ih Y hl h
def wb_X12_load_123  (S : q_S) (a0 : Nat) (Q : Option Value → q_S → Prop) : Prop := ∃ n24_ : Nat, wl_X12_load_125 n24_ S a0 (0 : Int32) Q
set_option maxHeartbeats 4000000 in
set_option maxRecDepth 100000 in
theorem cb_X12_load_123 {p : Program} {l : Launch} {e : Env} {s : State} {m : MethodId} {args : Array Value} {below : List Frame} {meth : Method} {c : Code} {D : va_G} {cy : Nat → ClassId} {lo : Nat}  {S : q_S} {a0 : Nat} {Q : Option Value → q_S → Prop} {H : Heap} {locs : List Loc} {ls : Array Slot} (X : q_X p s m args meth c RX12 cX12_load 3 (some .int) D cy lo)  (Y : q_Y D cy lo s S H locs) (hl : lv_has ls 3 [(0, .ref a0)]) (h : wb_X12_load_123 S a0 Q) : W p l e ({ frames := 11, cells := 0, slots := 0, locals := 245 } : Room) s m args below meth c H locs 0 0 (MQ below (q_Q D cy lo Q) args s 0 0 (fun q => lo ≤ q)) (F0 m 123 ls []) := by
  have hx := X.1
  have hb := X.2.1
  unfold wb_X12_load_123 at h
  refine lv_iconst (v := 0) hx hb dX12_load_123 (by decide) ?_
  refine lv_istore_n (i := 1) (lv' := [(1, .int (0 : Int32)), (0, .ref a0)]) hx hb dX12_load_124 rfl hl (by decide) (by first | rfl | simp [q_cat, q_catI, q_catJ, q_catR]) (fun ls hl => ?_)
  obtain ⟨n24_, h⟩ := h
  exact cl_X12_load_125 X n24_ _ _ _ _ _ _ h Y (lv_sub hl [1, 0] rfl)
def wb_X12_load_88  (S : q_S) (a0 : Nat) (as0 : Nat) (xs1 : Int32) (Q : Option Value → q_S → Prop) : Prop := q_K S as0 = 13 ∧ ((narrow .boolean (.int xs1) = .int xs1 ∧ fits .boolean (.int xs1) = true) ∧ (q_K (qs_I S 2413 as0 xs1) a0 = 13 ∧ (((¬ (q_I (qs_I S 2413 as0 xs1) 2413 a0) = 0 → (wb_X12_load_123 (qs_I S 2413 as0 xs1) a0 Q)) ∧ ((q_I (qs_I S 2413 as0 xs1) 2413 a0) = 0 → (∀ S29_ : q_S, S29_ = (qs_I (qs_I (qs_I S 2413 as0 xs1) 2415 a0 (0 : Int32)) 2416 a0 (0 : Int32)) → (∀ S30_ : q_S, S30_ = (qs_I (qs_I (qs_I S29_ 2417 a0 (0 : Int32)) 2418 a0 (0 : Int32)) 2419 a0 (0 : Int32)) → (wb_X12_load_123 S30_ a0 Q))))))))
set_option maxHeartbeats 4000000 in
set_option maxRecDepth 100000 in
theorem cb_X12_load_88 {p : Program} {l : Launch} {e : Env} {s : State} {m : MethodId} {args : Array Value} {below : List Frame} {meth : Method} {c : Code} {D : va_G} {cy : Nat → ClassId} {lo : Nat}  {S : q_S} {a0 : Nat} {as0 : Nat} {xs1 : Int32} {Q : Option Value → q_S → Prop} {H : Heap} {locs : List Loc} {ls : Array Slot} (X : q_X p s m args meth c RX12 cX12_load 3 (some .int) D cy lo)  (Y : q_Y D cy lo s S H locs) (hl : lv_has ls 3 [(0, .ref a0)]) (h : wb_X12_load_88 S a0 as0 xs1 Q) : W p l e ({ frames := 11, cells := 0, slots := 0, locals := 245 } : Room) s m args below meth c H locs 0 0 (MQ below (q_Q D cy lo Q) args s 0 0 (fun q => lo ≤ q)) (F0 m 88 ls [.int xs1, .ref as0]) := by
  have hx := X.1
  have hb := X.2.1
  unfold wb_X12_load_88 at h
  obtain ⟨k25_, h⟩ := h
  obtain ⟨v26_, h⟩ := h
  refine q_putI X Y kX12 13 rfl fl_X12_443 k25_ .boolean rfl v26_ rfl dX12_load_88 (fun H locs Y => ?_)
  refine lv_aload_n hx hb dX12_load_91 rfl (lv_at hl 0 rfl) ?_
  obtain ⟨k27_, h⟩ := h
  refine q_getI X Y kX12 13 rfl fl_X12_443 k27_ dX12_load_92 ?_
  refine lv_if_ne (tgt := 123) hx hb dX12_load_95 (by decide) (fun c28_ => ?_) (fun c28_ => ?_)
  · replace h := h.1 c28_
    exact cb_X12_load_123 X Y (lv_sub hl [0] rfl) h
  · replace h := h.2 c28_
    refine lv_aload_n hx hb dX12_load_98 rfl (lv_at hl 0 rfl) ?_
    refine lv_iconst (v := 0) hx hb dX12_load_99 (by decide) ?_
    refine q_putI X Y kX12 15 rfl fl_X12_350 k27_ .int rfl ⟨rfl, rfl⟩ rfl dX12_load_100 (fun H locs Y => ?_)
    refine lv_aload_n hx hb dX12_load_103 rfl (lv_at hl 0 rfl) ?_
    refine lv_iconst (v := 0) hx hb dX12_load_104 (by decide) ?_
    refine q_putI X Y kX12 16 rfl fl_X12_409 k27_ .int rfl ⟨rfl, rfl⟩ rfl dX12_load_105 (fun H locs Y => ?_)
    obtain ⟨S29_, gS29_⟩ : ∃ z : q_S, z = (qs_I (qs_I (qs_I S 2413 as0 xs1) 2415 a0 (0 : Int32)) 2416 a0 (0 : Int32)) := ⟨_, rfl⟩
    replace Y : q_Y D cy lo s S29_ H locs := by rw [gS29_]; exact Y
    replace h := h S29_ gS29_
    replace k25_ : q_K S29_ as0 = 13 := by rw [gS29_]; exact k25_
    replace k27_ : q_K S29_ a0 = 13 := by rw [gS29_]; exact k27_
    refine lv_aload_n hx hb dX12_load_108 rfl (lv_at hl 0 rfl) ?_
    refine lv_iconst (v := 0) hx hb dX12_load_109 (by decide) ?_
    refine q_putI X Y kX12 17 rfl fl_X12_422 k27_ .int rfl ⟨rfl, rfl⟩ rfl dX12_load_110 (fun H locs Y => ?_)
    refine lv_aload_n hx hb dX12_load_113 rfl (lv_at hl 0 rfl) ?_
    refine lv_iconst (v := 0) hx hb dX12_load_114 (by decide) ?_
    refine q_putI X Y kX12 18 rfl fl_X12_416 k27_ .int rfl ⟨rfl, rfl⟩ rfl dX12_load_115 (fun H locs Y => ?_)
    refine lv_aload_n hx hb dX12_load_118 rfl (lv_at hl 0 rfl) ?_
    refine lv_iconst (v := 0) hx hb dX12_load_119 (by decide) ?_
    refine q_putI X Y kX12 19 rfl fl_X12_419 k27_ .int rfl ⟨rfl, rfl⟩ rfl dX12_load_120 (fun H locs Y => ?_)
    obtain ⟨S30_, gS30_⟩ : ∃ z : q_S, z = (qs_I (qs_I (qs_I S29_ 2417 a0 (0 : Int32)) 2418 a0 (0 : Int32)) 2419 a0 (0 : Int32)) := ⟨_, rfl⟩
    replace Y : q_Y D cy lo s S30_ H locs := by rw [gS30_]; exact Y
    replace h := h S30_ gS30_
    replace k25_ : q_K S30_ as0 = 13 := by rw [gS30_]; exact k25_
    replace k27_ : q_K S30_ a0 = 13 := by rw [gS30_]; exact k27_
    exact cb_X12_load_123 X Y (lv_sub hl [0] rfl) h
def wb_X12_load_55 (B55 : q_S → Nat → Prop) (S : q_S) (a0 : Nat) (Q : Option Value → q_S → Prop) : Prop := q_K S a0 = 13 ∧ (wm_X12_isKey S a0 (24 : Int32) (fun r32_ S33_ => ∃ x34_ : Int32, r32_ = some (.int x34_) ∧ (((x34_ = 0 → (q_K S33_ a0 = 13 ∧ (wm_X12_readFrame S33_ a0 (fun r37_ S38_ => r37_ = none ∧ (q_K S38_ a0 = 13 ∧ (((¬ (q_I S38_ 2411 a0) = 0 → (wb_X12_load_88 S38_ a0 a0 (0 : Int32) Q)) ∧ ((q_I S38_ 2411 a0) = 0 → (wb_X12_load_88 S38_ a0 a0 (1 : Int32) Q))))))))) ∧ (¬ x34_ = 0 → (q_K S33_ a0 = 13 ∧ (wm_X12_readChannel S33_ a0 (fun r42_ S43_ => r42_ = none ∧ (B55 S43_ a0)))))))))
set_option maxHeartbeats 4000000 in
set_option maxRecDepth 100000 in
theorem cb_X12_load_55 {p : Program} {l : Launch} {e : Env} {s : State} {m : MethodId} {args : Array Value} {below : List Frame} {meth : Method} {c : Code} {D : va_G} {cy : Nat → ClassId} {lo : Nat} {B55 : q_S → Nat → Prop} {S : q_S} {a0 : Nat} {Q : Option Value → q_S → Prop} {H : Heap} {locs : List Loc} {ls : Array Slot} (X : q_X p s m args meth c RX12 cX12_load 3 (some .int) D cy lo) (hB55 : ∀ (S : q_S) (a0 : Nat) (H : Heap) (locs : List Loc) (ls : Array Slot), B55 S a0 → q_Y D cy lo s S H locs → lv_has ls 3 [(0, .ref a0)] → W p l e ({ frames := 11, cells := 0, slots := 0, locals := 245 } : Room) s m args below meth c H locs 0 0 (MQ below (q_Q D cy lo Q) args s 0 0 (fun q => lo ≤ q)) (F0 m 55 ls [])) (Y : q_Y D cy lo s S H locs) (hl : lv_has ls 3 [(0, .ref a0)]) (h : wb_X12_load_55 B55 S a0 Q) : W p l e ({ frames := 11, cells := 0, slots := 0, locals := 245 } : Room) s m args below meth c H locs 0 0 (MQ below (q_Q D cy lo Q) args s 0 0 (fun q => lo ≤ q)) (F0 m 55 ls []) := by
  have hx := X.1
  have hb := X.2.1
  unfold wb_X12_load_55 at h
  refine lv_aload_n hx hb dX12_load_55 rfl (lv_at hl 0 rfl) ?_
  refine lv_bipush (v := 24) hx hb dX12_load_56 (by decide) ?_
  obtain ⟨k31_, h⟩ := h
  refine q_callV X Y hl (cm_X12_isKey h) mt_X12_isKey mi_X12_isKey ml_X12_344 (ci := 12) rfl k31_ (by decide) rfl rfl (by first | exact Nat.le_of_ble_eq_true rfl | simp [q_cat, q_catI, q_catJ, q_catR]) ⟨Nat.le_of_ble_eq_true rfl, Nat.le_of_ble_eq_true rfl⟩ ⟨Nat.le_of_ble_eq_true rfl, Nat.le_of_ble_eq_true rfl⟩ dX12_load_58 (fun r32_ S33_ H locs hp Y => ?_)
  obtain ⟨x34_, rfl, h⟩ := hp
  refine W.eq (g2 := F0 m 61 ls [.int x34_]) rfl ?_
  refine lv_if_eq (tgt := 71) hx hb dX12_load_61 (by decide) (fun c35_ => ?_) (fun c35_ => ?_)
  · replace h := h.1 c35_
    refine lv_aload_n hx hb dX12_load_71 rfl (lv_at hl 0 rfl) ?_
    obtain ⟨k36_, h⟩ := h
    refine q_callV X Y hl (cm_X12_readFrame h) mt_X12_readFrame mi_X12_readFrame ml_X12_440 (ci := 12) rfl k36_ (by decide) rfl rfl (by first | exact Nat.le_of_ble_eq_true rfl | simp [q_cat, q_catI, q_catJ, q_catR]) ⟨Nat.le_of_ble_eq_true rfl, Nat.le_of_ble_eq_true rfl⟩ ⟨Nat.le_of_ble_eq_true rfl, Nat.le_of_ble_eq_true rfl⟩ dX12_load_72 (fun r37_ S38_ H locs hp Y => ?_)
    obtain ⟨rfl, h⟩ := hp
    refine W.eq (g2 := F0 m 75 ls []) rfl ?_
    refine lv_aload_n hx hb dX12_load_75 rfl (lv_at hl 0 rfl) ?_
    refine lv_aload_n hx hb dX12_load_76 rfl (lv_at hl 0 rfl) ?_
    obtain ⟨k39_, h⟩ := h
    refine q_getI X Y kX12 11 rfl fl_X12_328 k39_ dX12_load_77 ?_
    refine lv_if_ne (tgt := 87) hx hb dX12_load_80 (by decide) (fun c40_ => ?_) (fun c40_ => ?_)
    · replace h := h.1 c40_
      refine lv_iconst (v := 0) hx hb dX12_load_87 (by decide) ?_
      exact cb_X12_load_88 X Y (lv_sub hl [0] rfl) h
    · replace h := h.2 c40_
      refine lv_iconst (v := 1) hx hb dX12_load_83 (by decide) ?_
      refine lv_goto (tgt := 88) hx hb dX12_load_84 (by decide) ?_
      exact cb_X12_load_88 X Y (lv_sub hl [0] rfl) h
  · replace h := h.2 c35_
    refine lv_aload_n hx hb dX12_load_64 rfl (lv_at hl 0 rfl) ?_
    obtain ⟨k41_, h⟩ := h
    refine q_callV X Y hl (cm_X12_readChannel h) mt_X12_readChannel mi_X12_readChannel ml_X12_437 (ci := 12) rfl k41_ (by decide) rfl rfl (by first | exact Nat.le_of_ble_eq_true rfl | simp [q_cat, q_catI, q_catJ, q_catR]) ⟨Nat.le_of_ble_eq_true rfl, Nat.le_of_ble_eq_true rfl⟩ ⟨Nat.le_of_ble_eq_true rfl, Nat.le_of_ble_eq_true rfl⟩ dX12_load_65 (fun r42_ S43_ H locs hp Y => ?_)
    obtain ⟨rfl, h⟩ := hp
    refine W.eq (g2 := F0 m 68 ls []) rfl ?_
    refine lv_goto (tgt := 55) hx hb dX12_load_68 (by decide) ?_
    exact hB55 _ _ _ _ _ h Y (lv_sub hl [0] rfl)
def wl_X12_load_55  : Nat → q_S → Nat → (Option Value → q_S → Prop) → Prop
  | 0, _, _, _ => False
  | n + 1, S, a0, Q => wb_X12_load_55 (fun S a0 => wl_X12_load_55 n S a0 Q) S a0 Q
set_option maxHeartbeats 4000000 in
set_option maxRecDepth 100000 in
theorem cl_X12_load_55 {p : Program} {l : Launch} {e : Env} {s : State} {m : MethodId} {args : Array Value} {below : List Frame} {meth : Method} {c : Code} {D : va_G} {cy : Nat → ClassId} {lo : Nat}  {Q : Option Value → q_S → Prop} (X : q_X p s m args meth c RX12 cX12_load 3 (some .int) D cy lo)  : ∀ (n : Nat) (S : q_S) (a0 : Nat) (H : Heap) (locs : List Loc) (ls : Array Slot), wl_X12_load_55 n S a0 Q → q_Y D cy lo s S H locs → lv_has ls 3 [(0, .ref a0)] → W p l e ({ frames := 11, cells := 0, slots := 0, locals := 245 } : Room) s m args below meth c H locs 0 0 (MQ below (q_Q D cy lo Q) args s 0 0 (fun q => lo ≤ q)) (F0 m 55 ls []) := by
  intro n
  induction n with
  | zero => intro S a0 H locs ls h; exact absurd h id
  | succ n ih => intro S a0 H locs ls h Y hl; exact cb_X12_load_55 X ih Y hl h
def wb_X12_load_47 (B26 : q_S → Nat → Prop) (S : q_S) (a0 : Nat) (Q : Option Value → q_S → Prop) : Prop := q_K S a0 = 13 ∧ (wm_X12_isKey S a0 (0 : Int32) (fun r45_ S46_ => ∃ x47_ : Int32, r45_ = some (.int x47_) ∧ (((¬ x47_ = 0 → (B26 S46_ a0)) ∧ (x47_ = 0 → (∃ n49_ : Nat, wl_X12_load_55 n49_ S46_ a0 Q))))))
set_option maxHeartbeats 4000000 in
set_option maxRecDepth 100000 in
theorem cb_X12_load_47 {p : Program} {l : Launch} {e : Env} {s : State} {m : MethodId} {args : Array Value} {below : List Frame} {meth : Method} {c : Code} {D : va_G} {cy : Nat → ClassId} {lo : Nat} {B26 : q_S → Nat → Prop} {S : q_S} {a0 : Nat} {Q : Option Value → q_S → Prop} {H : Heap} {locs : List Loc} {ls : Array Slot} (X : q_X p s m args meth c RX12 cX12_load 3 (some .int) D cy lo) (hB26 : ∀ (S : q_S) (a0 : Nat) (H : Heap) (locs : List Loc) (ls : Array Slot), B26 S a0 → q_Y D cy lo s S H locs → lv_has ls 3 [(0, .ref a0)] → W p l e ({ frames := 11, cells := 0, slots := 0, locals := 245 } : Room) s m args below meth c H locs 0 0 (MQ below (q_Q D cy lo Q) args s 0 0 (fun q => lo ≤ q)) (F0 m 26 ls [])) (Y : q_Y D cy lo s S H locs) (hl : lv_has ls 3 [(0, .ref a0)]) (h : wb_X12_load_47 B26 S a0 Q) : W p l e ({ frames := 11, cells := 0, slots := 0, locals := 245 } : Room) s m args below meth c H locs 0 0 (MQ below (q_Q D cy lo Q) args s 0 0 (fun q => lo ≤ q)) (F0 m 47 ls []) := by
  have hx := X.1
  have hb := X.2.1
  unfold wb_X12_load_47 at h
  refine lv_aload_n hx hb dX12_load_47 rfl (lv_at hl 0 rfl) ?_
  refine lv_iconst (v := 0) hx hb dX12_load_48 (by decide) ?_
  obtain ⟨k44_, h⟩ := h
  refine q_callV X Y hl (cm_X12_isKey h) mt_X12_isKey mi_X12_isKey ml_X12_344 (ci := 12) rfl k44_ (by decide) rfl rfl (by first | exact Nat.le_of_ble_eq_true rfl | simp [q_cat, q_catI, q_catJ, q_catR]) ⟨Nat.le_of_ble_eq_true rfl, Nat.le_of_ble_eq_true rfl⟩ ⟨Nat.le_of_ble_eq_true rfl, Nat.le_of_ble_eq_true rfl⟩ dX12_load_49 (fun r45_ S46_ H locs hp Y => ?_)
  obtain ⟨x47_, rfl, h⟩ := hp
  refine W.eq (g2 := F0 m 52 ls [.int x47_]) rfl ?_
  refine lv_if_ne (tgt := 26) hx hb dX12_load_52 (by decide) (fun c48_ => ?_) (fun c48_ => ?_)
  · replace h := h.1 c48_
    exact hB26 _ _ _ _ _ h Y (lv_sub hl [0] rfl)
  · replace h := h.2 c48_
    obtain ⟨n49_, h⟩ := h
    exact cl_X12_load_55 X n49_ _ _ _ _ _ h Y (lv_sub hl [0] rfl)
def wb_X12_load_26 (B26 : q_S → Nat → Prop) (S : q_S) (a0 : Nat) (Q : Option Value → q_S → Prop) : Prop := q_K S a0 = 13 ∧ (wm_X12_isKey S a0 (0 : Int32) (fun r51_ S52_ => ∃ x53_ : Int32, r51_ = some (.int x53_) ∧ (((x53_ = 0 → (q_K S52_ a0 = 13 ∧ (wm_X12_failHere S52_ a0 (1 : Int32) (fun r56_ S57_ => ∃ x58_ : Int32, r56_ = some (.int x58_) ∧ (wb_X12_load_47 B26 S57_ a0 Q))))) ∧ (¬ x53_ = 0 → (q_K S52_ a0 = 13 ∧ (wm_X12_readPartition S52_ a0 (fun r60_ S61_ => r60_ = none ∧ (wb_X12_load_47 B26 S61_ a0 Q)))))))))
set_option maxHeartbeats 4000000 in
set_option maxRecDepth 100000 in
theorem cb_X12_load_26 {p : Program} {l : Launch} {e : Env} {s : State} {m : MethodId} {args : Array Value} {below : List Frame} {meth : Method} {c : Code} {D : va_G} {cy : Nat → ClassId} {lo : Nat} {B26 : q_S → Nat → Prop} {S : q_S} {a0 : Nat} {Q : Option Value → q_S → Prop} {H : Heap} {locs : List Loc} {ls : Array Slot} (X : q_X p s m args meth c RX12 cX12_load 3 (some .int) D cy lo) (hB26 : ∀ (S : q_S) (a0 : Nat) (H : Heap) (locs : List Loc) (ls : Array Slot), B26 S a0 → q_Y D cy lo s S H locs → lv_has ls 3 [(0, .ref a0)] → W p l e ({ frames := 11, cells := 0, slots := 0, locals := 245 } : Room) s m args below meth c H locs 0 0 (MQ below (q_Q D cy lo Q) args s 0 0 (fun q => lo ≤ q)) (F0 m 26 ls [])) (Y : q_Y D cy lo s S H locs) (hl : lv_has ls 3 [(0, .ref a0)]) (h : wb_X12_load_26 B26 S a0 Q) : W p l e ({ frames := 11, cells := 0, slots := 0, locals := 245 } : Room) s m args below meth c H locs 0 0 (MQ below (q_Q D cy lo Q) args s 0 0 (fun q => lo ≤ q)) (F0 m 26 ls []) := by
  have hx := X.1
  have hb := X.2.1
  unfold wb_X12_load_26 at h
  refine lv_aload_n hx hb dX12_load_26 rfl (lv_at hl 0 rfl) ?_
  refine lv_iconst (v := 0) hx hb dX12_load_27 (by decide) ?_
  obtain ⟨k50_, h⟩ := h
  refine q_callV X Y hl (cm_X12_isKey h) mt_X12_isKey mi_X12_isKey ml_X12_344 (ci := 12) rfl k50_ (by decide) rfl rfl (by first | exact Nat.le_of_ble_eq_true rfl | simp [q_cat, q_catI, q_catJ, q_catR]) ⟨Nat.le_of_ble_eq_true rfl, Nat.le_of_ble_eq_true rfl⟩ ⟨Nat.le_of_ble_eq_true rfl, Nat.le_of_ble_eq_true rfl⟩ dX12_load_28 (fun r51_ S52_ H locs hp Y => ?_)
  obtain ⟨x53_, rfl, h⟩ := hp
  refine W.eq (g2 := F0 m 31 ls [.int x53_]) rfl ?_
  refine lv_if_eq (tgt := 41) hx hb dX12_load_31 (by decide) (fun c54_ => ?_) (fun c54_ => ?_)
  · replace h := h.1 c54_
    refine lv_aload_n hx hb dX12_load_41 rfl (lv_at hl 0 rfl) ?_
    refine lv_iconst (v := 1) hx hb dX12_load_42 (by decide) ?_
    obtain ⟨k55_, h⟩ := h
    refine q_callV X Y hl (cm_X12_failHere h) mt_X12_failHere mi_X12_failHere ml_X12_338 (ci := 12) rfl k55_ (by decide) rfl rfl (by first | exact Nat.le_of_ble_eq_true rfl | simp [q_cat, q_catI, q_catJ, q_catR]) ⟨Nat.le_of_ble_eq_true rfl, Nat.le_of_ble_eq_true rfl⟩ ⟨Nat.le_of_ble_eq_true rfl, Nat.le_of_ble_eq_true rfl⟩ dX12_load_43 (fun r56_ S57_ H locs hp Y => ?_)
    obtain ⟨x58_, rfl, h⟩ := hp
    refine W.eq (g2 := F0 m 46 ls [.int x58_]) rfl ?_
    refine lv_pop hx hb dX12_load_46 rfl ?_
    exact cb_X12_load_47 X hB26 Y (lv_sub hl [0] rfl) h
  · replace h := h.2 c54_
    refine lv_aload_n hx hb dX12_load_34 rfl (lv_at hl 0 rfl) ?_
    obtain ⟨k59_, h⟩ := h
    refine q_callV X Y hl (cm_X12_readPartition h) mt_X12_readPartition mi_X12_readPartition ml_X12_434 (ci := 12) rfl k59_ (by decide) rfl rfl (by first | exact Nat.le_of_ble_eq_true rfl | simp [q_cat, q_catI, q_catJ, q_catR]) ⟨Nat.le_of_ble_eq_true rfl, Nat.le_of_ble_eq_true rfl⟩ ⟨Nat.le_of_ble_eq_true rfl, Nat.le_of_ble_eq_true rfl⟩ dX12_load_35 (fun r60_ S61_ H locs hp Y => ?_)
    obtain ⟨rfl, h⟩ := hp
    refine W.eq (g2 := F0 m 38 ls []) rfl ?_
    refine lv_goto (tgt := 47) hx hb dX12_load_38 (by decide) ?_
    exact cb_X12_load_47 X hB26 Y (lv_sub hl [0] rfl) h
def wl_X12_load_26  : Nat → q_S → Nat → (Option Value → q_S → Prop) → Prop
  | 0, _, _, _ => False
  | n + 1, S, a0, Q => wb_X12_load_26 (fun S a0 => wl_X12_load_26 n S a0 Q) S a0 Q
set_option maxHeartbeats 4000000 in
set_option maxRecDepth 100000 in
theorem cl_X12_load_26 {p : Program} {l : Launch} {e : Env} {s : State} {m : MethodId} {args : Array Value} {below : List Frame} {meth : Method} {c : Code} {D : va_G} {cy : Nat → ClassId} {lo : Nat}  {Q : Option Value → q_S → Prop} (X : q_X p s m args meth c RX12 cX12_load 3 (some .int) D cy lo)  : ∀ (n : Nat) (S : q_S) (a0 : Nat) (H : Heap) (locs : List Loc) (ls : Array Slot), wl_X12_load_26 n S a0 Q → q_Y D cy lo s S H locs → lv_has ls 3 [(0, .ref a0)] → W p l e ({ frames := 11, cells := 0, slots := 0, locals := 245 } : Room) s m args below meth c H locs 0 0 (MQ below (q_Q D cy lo Q) args s 0 0 (fun q => lo ≤ q)) (F0 m 26 ls []) := by
  intro n
  induction n with
  | zero => intro S a0 H locs ls h; exact absurd h id
  | succ n ih => intro S a0 H locs ls h Y hl; exact cb_X12_load_26 X ih Y hl h
def wm_X12_load (S : q_S) (a0 : Nat) (Q : Option Value → q_S → Prop) : Prop := q_K S a0 = 13 ∧ (wm_X12_forget (qs_I (qs_I S 2404 a0 (q_I S 2403 a0)) 2403 a0 (0 : Int32)) a0 (fun r63_ S64_ => r63_ = none ∧ (q_K S64_ a0 = 13 ∧ (wm_X12_next (qs_I S64_ 2405 a0 (0 : Int32)) a0 (fun r66_ S67_ => r66_ = none ∧ (∃ n68_ : Nat, wl_X12_load_26 n68_ S67_ a0 Q))))))
set_option maxHeartbeats 4000000 in
set_option maxRecDepth 100000 in
theorem cm_X12_load {l : Launch} {D : va_G} {cy : Nat → ClassId} {lo : Nat} {S : q_S} {a0 : Nat} {Q : Option Value → q_S → Prop} (h : wm_X12_load S a0 Q) : q_Met l D cy lo yX12_load cX12_load 3 (some .int) 11 245 0 0 [.ref a0] S Q := by
  refine q_body (by decide) (by first | exact Nat.le_of_ble_eq_true rfl | simp [lg_sl, q_cat, q_catI, q_catJ, q_catR]) ?_
  intro p e s m below meth c ls X hnm Y hl
  have hx := X.1
  have hb := X.2.1
  have hl : lv_has ls 3 [(0, .ref a0)] := by first | exact hl | simpa [lv_args, q_cat, q_catI, q_catJ, q_catR] using hl
  generalize hargs : ([.ref a0] : List Value).toArray = args at X ⊢
  unfold wm_X12_load at h
  refine lv_aload_n hx hb dX12_load_0 rfl (lv_at hl 0 rfl) ?_
  refine lv_aload_n hx hb dX12_load_1 rfl (lv_at hl 0 rfl) ?_
  obtain ⟨k62_, h⟩ := h
  refine q_getI X Y kX12 3 rfl fl_X12_428 k62_ dX12_load_2 ?_
  refine q_putI X Y kX12 4 rfl fl_X12_281 k62_ .int rfl ⟨rfl, rfl⟩ rfl dX12_load_5 (fun H locs Y => ?_)
  refine lv_aload_n hx hb dX12_load_8 rfl (lv_at hl 0 rfl) ?_
  refine lv_iconst (v := 0) hx hb dX12_load_9 (by decide) ?_
  refine q_putI X Y kX12 3 rfl fl_X12_428 k62_ .int rfl ⟨rfl, rfl⟩ rfl dX12_load_10 (fun H locs Y => ?_)
  refine lv_aload_n hx hb dX12_load_13 rfl (lv_at hl 0 rfl) ?_
  refine q_callV X Y hl (cm_X12_forget h) mt_X12_forget mi_X12_forget ml_X12_431 (ci := 12) rfl k62_ (by decide) rfl rfl (by first | exact Nat.le_of_ble_eq_true rfl | simp [q_cat, q_catI, q_catJ, q_catR]) ⟨Nat.le_of_ble_eq_true rfl, Nat.le_of_ble_eq_true rfl⟩ ⟨Nat.le_of_ble_eq_true rfl, Nat.le_of_ble_eq_true rfl⟩ dX12_load_14 (fun r63_ S64_ H locs hp Y => ?_)
  obtain ⟨rfl, h⟩ := hp
  refine W.eq (g2 := F0 m 17 ls []) rfl ?_
  refine lv_aload_n hx hb dX12_load_17 rfl (lv_at hl 0 rfl) ?_
  refine lv_iconst (v := 0) hx hb dX12_load_18 (by decide) ?_
  obtain ⟨k65_, h⟩ := h
  refine q_putI X Y kX12 5 rfl fl_X12_284 k65_ .int rfl ⟨rfl, rfl⟩ rfl dX12_load_19 (fun H locs Y => ?_)
  refine lv_aload_n hx hb dX12_load_22 rfl (lv_at hl 0 rfl) ?_
  refine q_callV X Y hl (cm_X12_next h) mt_X12_next mi_X12_next ml_X12_341 (ci := 12) rfl k65_ (by decide) rfl rfl (by first | exact Nat.le_of_ble_eq_true rfl | simp [q_cat, q_catI, q_catJ, q_catR]) ⟨Nat.le_of_ble_eq_true rfl, Nat.le_of_ble_eq_true rfl⟩ ⟨Nat.le_of_ble_eq_true rfl, Nat.le_of_ble_eq_true rfl⟩ dX12_load_23 (fun r66_ S67_ H locs hp Y => ?_)
  obtain ⟨rfl, h⟩ := hp
  refine W.eq (g2 := F0 m 26 ls []) rfl ?_
  obtain ⟨n68_, h⟩ := h
  exact cl_X12_load_26 X n68_ _ _ _ _ _ h Y (lv_sub hl [0] rfl)
