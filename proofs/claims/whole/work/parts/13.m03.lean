-- X0_answer
theorem fl_X0_23 : Cond.fieldLink RX0 23 "PartitionWorks$Process" "x" "[I" ∈ q_G := q_tb (i := 879) (by decide +kernel) (by decide +kernel)
theorem fl_X0_30 : Cond.fieldLink RX0 30 "PartitionWorks$Plan" "time" "I" ∈ q_G := q_tb (i := 98) (by decide +kernel) (by decide +kernel)
theorem ml_X0_66 : Cond.methodLink RX0 66 yX0_ofLooks ∈ q_G := q_tb (i := 1696) (by decide +kernel) (by decide +kernel)
theorem mt_X0_ofLooks : q_Mt yX0_ofLooks cX0_ofLooks 5 (some .int) 4 := ⟨q_tb (i := 1699) (by decide +kernel) (by decide +kernel), q_tb (i := 10) (by decide +kernel) (by decide +kernel), by decide +kernel, by decide +kernel, by decide +kernel⟩
theorem mi_X0_ofLooks : Cond.instanceMethod yX0_ofLooks ∈ q_G ∧ Cond.selects yX0_ofLooks.cls yX0_ofLooks yX0_ofLooks ∈ q_G := ⟨q_tb (i := 1698) (by decide +kernel) (by decide +kernel), q_tp (i := 83) (q := (yX0_ofLooks, 5)) (by decide +kernel) (by decide +kernel)⟩
theorem ml_X0_63 : Cond.methodLink RX0 63 yX0_ofOthers ∈ q_G := q_tb (i := 1672) (by decide +kernel) (by decide +kernel)
theorem mt_X0_ofOthers : q_Mt yX0_ofOthers cX0_ofOthers 3 (some .int) 2 := ⟨q_tb (i := 1675) (by decide +kernel) (by decide +kernel), q_tb (i := 10) (by decide +kernel) (by decide +kernel), by decide +kernel, by decide +kernel, by decide +kernel⟩
theorem mi_X0_ofOthers : Cond.instanceMethod yX0_ofOthers ∈ q_G ∧ Cond.selects yX0_ofOthers.cls yX0_ofOthers yX0_ofOthers ∈ q_G := ⟨q_tb (i := 1674) (by decide +kernel) (by decide +kernel), q_tp (i := 77) (q := (yX0_ofOthers, 5)) (by decide +kernel) (by decide +kernel)⟩
theorem ml_X0_60 : Cond.methodLink RX0 60 yX0_ofPartition ∈ q_G := q_tb (i := 1637) (by decide +kernel) (by decide +kernel)
theorem mt_X0_ofPartition : q_Mt yX0_ofPartition cX0_ofPartition 3 (some .int) 2 := ⟨q_tb (i := 1640) (by decide +kernel) (by decide +kernel), q_tb (i := 10) (by decide +kernel) (by decide +kernel), by decide +kernel, by decide +kernel, by decide +kernel⟩
theorem mi_X0_ofPartition : Cond.instanceMethod yX0_ofPartition ∈ q_G ∧ Cond.selects yX0_ofPartition.cls yX0_ofPartition yX0_ofPartition ∈ q_G := ⟨q_tb (i := 1639) (by decide +kernel) (by decide +kernel), q_tp (i := 71) (q := (yX0_ofPartition, 5)) (by decide +kernel) (by decide +kernel)⟩
theorem ml_X0_56 : Cond.methodLink RX0 56 yX0_receive ∈ q_G := q_tb (i := 1632) (by decide +kernel) (by decide +kernel)
theorem mt_X0_receive : q_Mt yX0_receive cX0_receive 5 (some .int) 2 := ⟨q_tb (i := 1635) (by decide +kernel) (by decide +kernel), q_tb (i := 10) (by decide +kernel) (by decide +kernel), by decide +kernel, by decide +kernel, by decide +kernel⟩
theorem mi_X0_receive : Cond.instanceMethod yX0_receive ∈ q_G ∧ Cond.selects yX0_receive.cls yX0_receive yX0_receive ∈ q_G := ⟨q_tb (i := 1634) (by decide +kernel) (by decide +kernel), q_tp (i := 70) (q := (yX0_receive, 5)) (by decide +kernel) (by decide +kernel)⟩
theorem ml_X0_53 : Cond.methodLink RX0 53 yX0_send ∈ q_G := q_tb (i := 1626) (by decide +kernel) (by decide +kernel)
theorem mt_X0_send : q_Mt yX0_send cX0_send 6 (some .int) 3 := ⟨q_tb (i := 1629) (by decide +kernel) (by decide +kernel), q_tb (i := 10) (by decide +kernel) (by decide +kernel), by decide +kernel, by decide +kernel, by decide +kernel⟩
theorem mi_X0_send : Cond.instanceMethod yX0_send ∈ q_G ∧ Cond.selects yX0_send.cls yX0_send yX0_send ∈ q_G := ⟨q_tb (i := 1628) (by decide +kernel) (by decide +kernel), q_tp (i := 69) (q := (yX0_send, 5)) (by decide +kernel) (by decide +kernel)⟩
theorem ml_X0_49 : Cond.methodLink RX0 49 yX0_ofWords ∈ q_G := q_tb (i := 1589) (by decide +kernel) (by decide +kernel)
theorem mt_X0_ofWords : q_Mt yX0_ofWords cX0_ofWords 8 (some .int) 4 := ⟨q_tb (i := 1592) (by decide +kernel) (by decide +kernel), q_tb (i := 10) (by decide +kernel) (by decide +kernel), by decide +kernel, by decide +kernel, by decide +kernel⟩
theorem mi_X0_ofWords : Cond.instanceMethod yX0_ofWords ∈ q_G ∧ Cond.selects yX0_ofWords.cls yX0_ofWords yX0_ofWords ∈ q_G := ⟨q_tb (i := 1591) (by decide +kernel) (by decide +kernel), q_tp (i := 64) (q := (yX0_ofWords, 5)) (by decide +kernel) (by decide +kernel)⟩
theorem ml_X0_46 : Cond.methodLink RX0 46 yX0_ofSignals ∈ q_G := q_tb (i := 1562) (by decide +kernel) (by decide +kernel)
theorem mt_X0_ofSignals : q_Mt yX0_ofSignals cX0_ofSignals 5 (some .int) 3 := ⟨q_tb (i := 1565) (by decide +kernel) (by decide +kernel), q_tb (i := 10) (by decide +kernel) (by decide +kernel), by decide +kernel, by decide +kernel, by decide +kernel⟩
theorem mi_X0_ofSignals : Cond.instanceMethod yX0_ofSignals ∈ q_G ∧ Cond.selects yX0_ofSignals.cls yX0_ofSignals yX0_ofSignals ∈ q_G := ⟨q_tb (i := 1564) (by decide +kernel) (by decide +kernel), q_tp (i := 59) (q := (yX0_ofSignals, 5)) (by decide +kernel) (by decide +kernel)⟩
theorem ml_X0_42 : Cond.methodLink RX0 42 yX0_ofProcesses ∈ q_G := q_tb (i := 1520) (by decide +kernel) (by decide +kernel)
theorem mt_X0_ofProcesses : q_Mt yX0_ofProcesses cX0_ofProcesses 4 (some .int) 3 := ⟨q_tb (i := 1523) (by decide +kernel) (by decide +kernel), q_tb (i := 10) (by decide +kernel) (by decide +kernel), by decide +kernel, by decide +kernel, by decide +kernel⟩
theorem mi_X0_ofProcesses : Cond.instanceMethod yX0_ofProcesses ∈ q_G ∧ Cond.selects yX0_ofProcesses.cls yX0_ofProcesses yX0_ofProcesses ∈ q_G := ⟨q_tb (i := 1522) (by decide +kernel) (by decide +kernel), q_tp (i := 51) (q := (yX0_ofProcesses, 5)) (by decide +kernel) (by decide +kernel)⟩
theorem dX0_answer_0 : decode cX0_answer 0 = .ok (.aload_n 0, 1) := by decide +kernel
theorem dX0_answer_1 : decode cX0_answer 1 = .ok (.aload_n 1, 1) := by decide +kernel
theorem dX0_answer_2 : decode cX0_answer 2 = .ok (.putfield 9, 3) := by decide +kernel
theorem dX0_answer_5 : decode cX0_answer 5 = .ok (.aload_n 0, 1) := by decide +kernel
theorem dX0_answer_6 : decode cX0_answer 6 = .ok (.aload_n 2, 1) := by decide +kernel
theorem dX0_answer_7 : decode cX0_answer 7 = .ok (.putfield 15, 3) := by decide +kernel
theorem dX0_answer_10 : decode cX0_answer 10 = .ok (.aload_n 0, 1) := by decide +kernel
theorem dX0_answer_11 : decode cX0_answer 11 = .ok (.aload_n 3, 1) := by decide +kernel
theorem dX0_answer_12 : decode cX0_answer 12 = .ok (.putfield 19, 3) := by decide +kernel
theorem dX0_answer_15 : decode cX0_answer 15 = .ok (.aload_n 0, 1) := by decide +kernel
theorem dX0_answer_16 : decode cX0_answer 16 = .ok (.aload_n 3, 1) := by decide +kernel
theorem dX0_answer_17 : decode cX0_answer 17 = .ok (.getfield 23, 3) := by decide +kernel
theorem dX0_answer_20 : decode cX0_answer 20 = .ok (.putfield 29, 3) := by decide +kernel
theorem dX0_answer_23 : decode cX0_answer 23 = .ok (.aload_n 0, 1) := by decide +kernel
theorem dX0_answer_24 : decode cX0_answer 24 = .ok (.aload_n 1, 1) := by decide +kernel
theorem dX0_answer_25 : decode cX0_answer 25 = .ok (.getfield 30, 3) := by decide +kernel
theorem dX0_answer_28 : decode cX0_answer 28 = .ok (.putfield 36, 3) := by decide +kernel
theorem dX0_answer_31 : decode cX0_answer 31 = .ok (.aload_n 0, 1) := by decide +kernel
theorem dX0_answer_32 : decode cX0_answer 32 = .ok (.getfield 29, 3) := by decide +kernel
theorem dX0_answer_35 : decode cX0_answer 35 = .ok (.bipush 17, 2) := by decide +kernel
theorem dX0_answer_37 : decode cX0_answer 37 = .ok (.iaload, 1) := by decide +kernel
theorem dX0_answer_38 : decode cX0_answer 38 = .ok (.istore 4, 2) := by decide +kernel
theorem dX0_answer_40 : decode cX0_answer 40 = .ok (.iload 4, 2) := by decide +kernel
theorem dX0_answer_42 : decode cX0_answer 42 = .ok (.ifCond .lt 10, 3) := by decide +kernel
theorem dX0_answer_45 : decode cX0_answer 45 = .ok (.iload 4, 2) := by decide +kernel
theorem dX0_answer_47 : decode cX0_answer 47 = .ok (.bipush 36, 2) := by decide +kernel
theorem dX0_answer_49 : decode cX0_answer 49 = .ok (.if_icmp .le 5, 3) := by decide +kernel
theorem dX0_answer_52 : decode cX0_answer 52 = .ok (.iconst 0, 1) := by decide +kernel
theorem dX0_answer_53 : decode cX0_answer 53 = .ok (.ireturn, 1) := by decide +kernel
theorem dX0_answer_54 : decode cX0_answer 54 = .ok (.iload 4, 2) := by decide +kernel
theorem dX0_answer_56 : decode cX0_answer 56 = .ok (.bipush 20, 2) := by decide +kernel
theorem dX0_answer_58 : decode cX0_answer 58 = .ok (.if_icmp .ne 5, 3) := by decide +kernel
theorem dX0_answer_61 : decode cX0_answer 61 = .ok (.iconst 3, 1) := by decide +kernel
theorem dX0_answer_62 : decode cX0_answer 62 = .ok (.ireturn, 1) := by decide +kernel
theorem dX0_answer_63 : decode cX0_answer 63 = .ok (.aload_n 3, 1) := by decide +kernel
theorem dX0_answer_64 : decode cX0_answer 64 = .ok (.dup, 1) := by decide +kernel
theorem dX0_answer_65 : decode cX0_answer 65 = .ok (.getfield 39, 3) := by decide +kernel
theorem dX0_answer_68 : decode cX0_answer 68 = .ok (.iconst 4, 1) := by decide +kernel
theorem dX0_answer_69 : decode cX0_answer 69 = .ok (.iadd, 1) := by decide +kernel
theorem dX0_answer_70 : decode cX0_answer 70 = .ok (.putfield 39, 3) := by decide +kernel
theorem dX0_answer_73 : decode cX0_answer 73 = .ok (.iload 4, 2) := by decide +kernel
theorem dX0_answer_75 : decode cX0_answer 75 = .ok (.bipush 7, 2) := by decide +kernel
theorem dX0_answer_77 : decode cX0_answer 77 = .ok (.if_icmp .gt 28, 3) := by decide +kernel
theorem dX0_answer_80 : decode cX0_answer 80 = .ok (.aload_n 0, 1) := by decide +kernel
theorem dX0_answer_81 : decode cX0_answer 81 = .ok (.iload 4, 2) := by decide +kernel
theorem dX0_answer_83 : decode cX0_answer 83 = .ok (.aload_n 0, 1) := by decide +kernel
theorem dX0_answer_84 : decode cX0_answer 84 = .ok (.getfield 29, 3) := by decide +kernel
theorem dX0_answer_87 : decode cX0_answer 87 = .ok (.bipush 10, 2) := by decide +kernel
theorem dX0_answer_89 : decode cX0_answer 89 = .ok (.iaload, 1) := by decide +kernel
theorem dX0_answer_90 : decode cX0_answer 90 = .ok (.aload_n 0, 1) := by decide +kernel
theorem dX0_answer_91 : decode cX0_answer 91 = .ok (.getfield 29, 3) := by decide +kernel
theorem dX0_answer_94 : decode cX0_answer 94 = .ok (.bipush 11, 2) := by decide +kernel
theorem dX0_answer_96 : decode cX0_answer 96 = .ok (.iaload, 1) := by decide +kernel
theorem dX0_answer_97 : decode cX0_answer 97 = .ok (.invokevirtual 42, 3) := by decide +kernel
theorem dX0_answer_100 : decode cX0_answer 100 = .ok (.istore 5, 2) := by decide +kernel
theorem dX0_answer_102 : decode cX0_answer 102 = .ok (.goto 218, 3) := by decide +kernel
theorem dX0_answer_105 : decode cX0_answer 105 = .ok (.iload 4, 2) := by decide +kernel
theorem dX0_answer_107 : decode cX0_answer 107 = .ok (.bipush 12, 2) := by decide +kernel
theorem dX0_answer_109 : decode cX0_answer 109 = .ok (.if_icmp .gt 28, 3) := by decide +kernel
theorem dX0_answer_112 : decode cX0_answer 112 = .ok (.aload_n 0, 1) := by decide +kernel
theorem dX0_answer_113 : decode cX0_answer 113 = .ok (.iload 4, 2) := by decide +kernel
theorem dX0_answer_115 : decode cX0_answer 115 = .ok (.aload_n 0, 1) := by decide +kernel
theorem dX0_answer_116 : decode cX0_answer 116 = .ok (.getfield 29, 3) := by decide +kernel
theorem dX0_answer_119 : decode cX0_answer 119 = .ok (.bipush 10, 2) := by decide +kernel
theorem dX0_answer_121 : decode cX0_answer 121 = .ok (.iaload, 1) := by decide +kernel
theorem dX0_answer_122 : decode cX0_answer 122 = .ok (.aload_n 0, 1) := by decide +kernel
theorem dX0_answer_123 : decode cX0_answer 123 = .ok (.getfield 29, 3) := by decide +kernel
theorem dX0_answer_126 : decode cX0_answer 126 = .ok (.bipush 11, 2) := by decide +kernel
theorem dX0_answer_128 : decode cX0_answer 128 = .ok (.iaload, 1) := by decide +kernel
theorem dX0_answer_129 : decode cX0_answer 129 = .ok (.invokevirtual 46, 3) := by decide +kernel
theorem dX0_answer_132 : decode cX0_answer 132 = .ok (.istore 5, 2) := by decide +kernel
theorem dX0_answer_134 : decode cX0_answer 134 = .ok (.goto 186, 3) := by decide +kernel
theorem dX0_answer_137 : decode cX0_answer 137 = .ok (.iload 4, 2) := by decide +kernel
theorem dX0_answer_139 : decode cX0_answer 139 = .ok (.bipush 17, 2) := by decide +kernel
theorem dX0_answer_141 : decode cX0_answer 141 = .ok (.if_icmp .gt 35, 3) := by decide +kernel
theorem dX0_answer_144 : decode cX0_answer 144 = .ok (.aload_n 0, 1) := by decide +kernel
theorem dX0_answer_145 : decode cX0_answer 145 = .ok (.iload 4, 2) := by decide +kernel
theorem dX0_answer_147 : decode cX0_answer 147 = .ok (.aload_n 0, 1) := by decide +kernel
theorem dX0_answer_148 : decode cX0_answer 148 = .ok (.getfield 29, 3) := by decide +kernel
theorem dX0_answer_151 : decode cX0_answer 151 = .ok (.bipush 10, 2) := by decide +kernel
theorem dX0_answer_153 : decode cX0_answer 153 = .ok (.iaload, 1) := by decide +kernel
theorem dX0_answer_154 : decode cX0_answer 154 = .ok (.aload_n 0, 1) := by decide +kernel
theorem dX0_answer_155 : decode cX0_answer 155 = .ok (.getfield 29, 3) := by decide +kernel
theorem dX0_answer_158 : decode cX0_answer 158 = .ok (.bipush 11, 2) := by decide +kernel
theorem dX0_answer_160 : decode cX0_answer 160 = .ok (.iaload, 1) := by decide +kernel
theorem dX0_answer_161 : decode cX0_answer 161 = .ok (.aload_n 0, 1) := by decide +kernel
theorem dX0_answer_162 : decode cX0_answer 162 = .ok (.getfield 29, 3) := by decide +kernel
theorem dX0_answer_165 : decode cX0_answer 165 = .ok (.bipush 12, 2) := by decide +kernel
theorem dX0_answer_167 : decode cX0_answer 167 = .ok (.iaload, 1) := by decide +kernel
theorem dX0_answer_168 : decode cX0_answer 168 = .ok (.invokevirtual 49, 3) := by decide +kernel
theorem dX0_answer_171 : decode cX0_answer 171 = .ok (.istore 5, 2) := by decide +kernel
theorem dX0_answer_173 : decode cX0_answer 173 = .ok (.goto 147, 3) := by decide +kernel
theorem dX0_answer_176 : decode cX0_answer 176 = .ok (.iload 4, 2) := by decide +kernel
theorem dX0_answer_178 : decode cX0_answer 178 = .ok (.bipush 19, 2) := by decide +kernel
theorem dX0_answer_180 : decode cX0_answer 180 = .ok (.if_icmp .gt 61, 3) := by decide +kernel
theorem dX0_answer_183 : decode cX0_answer 183 = .ok (.iload 4, 2) := by decide +kernel
theorem dX0_answer_185 : decode cX0_answer 185 = .ok (.bipush 18, 2) := by decide +kernel
theorem dX0_answer_187 : decode cX0_answer 187 = .ok (.if_icmp .ne 31, 3) := by decide +kernel
theorem dX0_answer_190 : decode cX0_answer 190 = .ok (.aload_n 0, 1) := by decide +kernel
theorem dX0_answer_191 : decode cX0_answer 191 = .ok (.aload_n 0, 1) := by decide +kernel
theorem dX0_answer_192 : decode cX0_answer 192 = .ok (.getfield 29, 3) := by decide +kernel
theorem dX0_answer_195 : decode cX0_answer 195 = .ok (.bipush 10, 2) := by decide +kernel
theorem dX0_answer_197 : decode cX0_answer 197 = .ok (.iaload, 1) := by decide +kernel
theorem dX0_answer_198 : decode cX0_answer 198 = .ok (.aload_n 0, 1) := by decide +kernel
theorem dX0_answer_199 : decode cX0_answer 199 = .ok (.getfield 29, 3) := by decide +kernel
theorem dX0_answer_202 : decode cX0_answer 202 = .ok (.bipush 11, 2) := by decide +kernel
theorem dX0_answer_204 : decode cX0_answer 204 = .ok (.iaload, 1) := by decide +kernel
theorem dX0_answer_205 : decode cX0_answer 205 = .ok (.aload_n 0, 1) := by decide +kernel
theorem dX0_answer_206 : decode cX0_answer 206 = .ok (.getfield 29, 3) := by decide +kernel
theorem dX0_answer_209 : decode cX0_answer 209 = .ok (.bipush 12, 2) := by decide +kernel
theorem dX0_answer_211 : decode cX0_answer 211 = .ok (.iaload, 1) := by decide +kernel
theorem dX0_answer_212 : decode cX0_answer 212 = .ok (.invokevirtual 53, 3) := by decide +kernel
theorem dX0_answer_215 : decode cX0_answer 215 = .ok (.goto 21, 3) := by decide +kernel
theorem dX0_answer_218 : decode cX0_answer 218 = .ok (.aload_n 0, 1) := by decide +kernel
theorem dX0_answer_219 : decode cX0_answer 219 = .ok (.aload_n 0, 1) := by decide +kernel
theorem dX0_answer_220 : decode cX0_answer 220 = .ok (.getfield 29, 3) := by decide +kernel
theorem dX0_answer_223 : decode cX0_answer 223 = .ok (.bipush 10, 2) := by decide +kernel
theorem dX0_answer_225 : decode cX0_answer 225 = .ok (.iaload, 1) := by decide +kernel
theorem dX0_answer_226 : decode cX0_answer 226 = .ok (.aload_n 0, 1) := by decide +kernel
theorem dX0_answer_227 : decode cX0_answer 227 = .ok (.getfield 29, 3) := by decide +kernel
theorem dX0_answer_230 : decode cX0_answer 230 = .ok (.bipush 11, 2) := by decide +kernel
theorem dX0_answer_232 : decode cX0_answer 232 = .ok (.iaload, 1) := by decide +kernel
theorem dX0_answer_233 : decode cX0_answer 233 = .ok (.invokevirtual 56, 3) := by decide +kernel
theorem dX0_answer_236 : decode cX0_answer 236 = .ok (.istore 5, 2) := by decide +kernel
theorem dX0_answer_238 : decode cX0_answer 238 = .ok (.goto 82, 3) := by decide +kernel
theorem dX0_answer_241 : decode cX0_answer 241 = .ok (.iload 4, 2) := by decide +kernel
theorem dX0_answer_243 : decode cX0_answer 243 = .ok (.bipush 25, 2) := by decide +kernel
theorem dX0_answer_245 : decode cX0_answer 245 = .ok (.if_icmp .gt 21, 3) := by decide +kernel
theorem dX0_answer_248 : decode cX0_answer 248 = .ok (.aload_n 0, 1) := by decide +kernel
theorem dX0_answer_249 : decode cX0_answer 249 = .ok (.iload 4, 2) := by decide +kernel
theorem dX0_answer_251 : decode cX0_answer 251 = .ok (.aload_n 0, 1) := by decide +kernel
theorem dX0_answer_252 : decode cX0_answer 252 = .ok (.getfield 29, 3) := by decide +kernel
theorem dX0_answer_255 : decode cX0_answer 255 = .ok (.bipush 10, 2) := by decide +kernel
theorem dX0_answer_257 : decode cX0_answer 257 = .ok (.iaload, 1) := by decide +kernel
theorem dX0_answer_258 : decode cX0_answer 258 = .ok (.invokevirtual 60, 3) := by decide +kernel
theorem dX0_answer_261 : decode cX0_answer 261 = .ok (.istore 5, 2) := by decide +kernel
theorem dX0_answer_263 : decode cX0_answer 263 = .ok (.goto 57, 3) := by decide +kernel
theorem dX0_answer_266 : decode cX0_answer 266 = .ok (.iload 4, 2) := by decide +kernel
theorem dX0_answer_268 : decode cX0_answer 268 = .ok (.bipush 31, 2) := by decide +kernel
theorem dX0_answer_270 : decode cX0_answer 270 = .ok (.if_icmp .gt 21, 3) := by decide +kernel
theorem dX0_answer_273 : decode cX0_answer 273 = .ok (.aload_n 0, 1) := by decide +kernel
theorem dX0_answer_274 : decode cX0_answer 274 = .ok (.iload 4, 2) := by decide +kernel
theorem dX0_answer_276 : decode cX0_answer 276 = .ok (.aload_n 0, 1) := by decide +kernel
theorem dX0_answer_277 : decode cX0_answer 277 = .ok (.getfield 29, 3) := by decide +kernel
theorem dX0_answer_280 : decode cX0_answer 280 = .ok (.bipush 10, 2) := by decide +kernel
theorem dX0_answer_282 : decode cX0_answer 282 = .ok (.iaload, 1) := by decide +kernel
theorem dX0_answer_283 : decode cX0_answer 283 = .ok (.invokevirtual 63, 3) := by decide +kernel
theorem dX0_answer_286 : decode cX0_answer 286 = .ok (.istore 5, 2) := by decide +kernel
theorem dX0_answer_288 : decode cX0_answer 288 = .ok (.goto 32, 3) := by decide +kernel
theorem dX0_answer_291 : decode cX0_answer 291 = .ok (.aload_n 0, 1) := by decide +kernel
theorem dX0_answer_292 : decode cX0_answer 292 = .ok (.iload 4, 2) := by decide +kernel
theorem dX0_answer_294 : decode cX0_answer 294 = .ok (.aload_n 0, 1) := by decide +kernel
theorem dX0_answer_295 : decode cX0_answer 295 = .ok (.getfield 29, 3) := by decide +kernel
theorem dX0_answer_298 : decode cX0_answer 298 = .ok (.bipush 10, 2) := by decide +kernel
theorem dX0_answer_300 : decode cX0_answer 300 = .ok (.iaload, 1) := by decide +kernel
theorem dX0_answer_301 : decode cX0_answer 301 = .ok (.aload_n 0, 1) := by decide +kernel
theorem dX0_answer_302 : decode cX0_answer 302 = .ok (.getfield 29, 3) := by decide +kernel
theorem dX0_answer_305 : decode cX0_answer 305 = .ok (.bipush 11, 2) := by decide +kernel
theorem dX0_answer_307 : decode cX0_answer 307 = .ok (.iaload, 1) := by decide +kernel
theorem dX0_answer_308 : decode cX0_answer 308 = .ok (.aload_n 0, 1) := by decide +kernel
theorem dX0_answer_309 : decode cX0_answer 309 = .ok (.getfield 29, 3) := by decide +kernel
theorem dX0_answer_312 : decode cX0_answer 312 = .ok (.bipush 12, 2) := by decide +kernel
theorem dX0_answer_314 : decode cX0_answer 314 = .ok (.iaload, 1) := by decide +kernel
theorem dX0_answer_315 : decode cX0_answer 315 = .ok (.invokevirtual 66, 3) := by decide +kernel
theorem dX0_answer_318 : decode cX0_answer 318 = .ok (.istore 5, 2) := by decide +kernel
theorem dX0_answer_320 : decode cX0_answer 320 = .ok (.iload 5, 2) := by decide +kernel
theorem dX0_answer_322 : decode cX0_answer 322 = .ok (.iconst (-1), 1) := by decide +kernel
theorem dX0_answer_323 : decode cX0_answer 323 = .ok (.if_icmp .eq 12, 3) := by decide +kernel
theorem dX0_answer_326 : decode cX0_answer 326 = .ok (.aload_n 0, 1) := by decide +kernel
theorem dX0_answer_327 : decode cX0_answer 327 = .ok (.getfield 29, 3) := by decide +kernel
theorem dX0_answer_330 : decode cX0_answer 330 = .ok (.bipush 10, 2) := by decide +kernel
theorem dX0_answer_332 : decode cX0_answer 332 = .ok (.iload 5, 2) := by decide +kernel
theorem dX0_answer_334 : decode cX0_answer 334 = .ok (.iastore, 1) := by decide +kernel
theorem dX0_answer_335 : decode cX0_answer 335 = .ok (.iconst (-1), 1) := by decide +kernel
theorem dX0_answer_336 : decode cX0_answer 336 = .ok (.ireturn, 1) := by decide +kernel
def wb_X0_answer_52  (S : q_S) (Q : Option Value → q_S → Prop) : Prop := Q (some (.int (0 : Int32))) S
set_option maxHeartbeats 4000000 in
set_option maxRecDepth 100000 in
theorem cb_X0_answer_52 {p : Program} {l : Launch} {e : Env} {s : State} {m : MethodId} {args : Array Value} {below : List Frame} {meth : Method} {c : Code} {D : va_G} {cy : Nat → ClassId} {lo : Nat}  {S : q_S} {Q : Option Value → q_S → Prop} {H : Heap} {locs : List Loc} {ls : Array Slot} (X : q_X p s m args meth c RX0 cX0_answer 6 (some .int) D cy lo)  (Y : q_Y D cy lo s S H locs) (hl : lv_has ls 6 []) (h : wb_X0_answer_52 S Q) : W p l e ({ frames := 6, cells := 0, slots := 0, locals := 148 } : Room) s m args below meth c H locs 0 0 (MQ below (q_Q D cy lo Q) args s 0 0 (fun q => lo ≤ q)) (F0 m 52 ls []) := by
  have hx := X.1
  have hb := X.2.1
  unfold wb_X0_answer_52 at h
  refine lv_iconst (v := 0) hx hb dX0_answer_52 (by decide) ?_
  exact q_iret X Y rfl (Nat.le_refl _) (Nat.le_refl _) h dX0_answer_53
def wb_X0_answer_335  (S : q_S) (Q : Option Value → q_S → Prop) : Prop := Q (some (.int (-1 : Int32))) S
set_option maxHeartbeats 4000000 in
set_option maxRecDepth 100000 in
theorem cb_X0_answer_335 {p : Program} {l : Launch} {e : Env} {s : State} {m : MethodId} {args : Array Value} {below : List Frame} {meth : Method} {c : Code} {D : va_G} {cy : Nat → ClassId} {lo : Nat}  {S : q_S} {Q : Option Value → q_S → Prop} {H : Heap} {locs : List Loc} {ls : Array Slot} (X : q_X p s m args meth c RX0 cX0_answer 6 (some .int) D cy lo)  (Y : q_Y D cy lo s S H locs) (hl : lv_has ls 6 []) (h : wb_X0_answer_335 S Q) : W p l e ({ frames := 6, cells := 0, slots := 0, locals := 148 } : Room) s m args below meth c H locs 0 0 (MQ below (q_Q D cy lo Q) args s 0 0 (fun q => lo ≤ q)) (F0 m 335 ls []) := by
  have hx := X.1
  have hb := X.2.1
  unfold wb_X0_answer_335 at h
  refine lv_iconst (v := (-1)) hx hb dX0_answer_335 (by decide) ?_
  exact q_iret X Y rfl (Nat.le_refl _) (Nat.le_refl _) h dX0_answer_336
def wb_X0_answer_320  (S : q_S) (a0 : Nat) (x5 : Int32) (Q : Option Value → q_S → Prop) : Prop := ((x5 = (-1 : Int32) → (wb_X0_answer_335 S Q)) ∧ (¬ x5 = (-1 : Int32) → (q_K S a0 = 1 ∧ (∃ a3_ : Nat, (q_P S 3 a0) = some a3_ ∧ (q_K S a3_ = 21 ∧ (vp_in (10 : Int32) (q_N S a3_) ∧ (wb_X0_answer_335 (qs_A S a3_ (10 : Int32).toNatClampNeg x5) Q)))))))
set_option maxHeartbeats 4000000 in
set_option maxRecDepth 100000 in
theorem cb_X0_answer_320 {p : Program} {l : Launch} {e : Env} {s : State} {m : MethodId} {args : Array Value} {below : List Frame} {meth : Method} {c : Code} {D : va_G} {cy : Nat → ClassId} {lo : Nat}  {S : q_S} {a0 : Nat} {x5 : Int32} {Q : Option Value → q_S → Prop} {H : Heap} {locs : List Loc} {ls : Array Slot} (X : q_X p s m args meth c RX0 cX0_answer 6 (some .int) D cy lo)  (Y : q_Y D cy lo s S H locs) (hl : lv_has ls 6 [(0, .ref a0), (5, .int x5)]) (h : wb_X0_answer_320 S a0 x5 Q) : W p l e ({ frames := 6, cells := 0, slots := 0, locals := 148 } : Room) s m args below meth c H locs 0 0 (MQ below (q_Q D cy lo Q) args s 0 0 (fun q => lo ≤ q)) (F0 m 320 ls []) := by
  have hx := X.1
  have hb := X.2.1
  unfold wb_X0_answer_320 at h
  refine lv_iload hx hb dX0_answer_320 (lv_at hl 1 rfl) ?_
  refine lv_iconst (v := (-1)) hx hb dX0_answer_322 (by decide) ?_
  refine lv_icmp_eq (tgt := 335) hx hb dX0_answer_323 (by decide) (fun c1_ => ?_) (fun c1_ => ?_)
  · replace h := h.1 c1_
    exact cb_X0_answer_335 X Y (lv_sub hl [] rfl) h
  · replace h := h.2 c1_
    refine lv_aload_n hx hb dX0_answer_326 rfl (lv_at hl 0 rfl) ?_
    obtain ⟨k2_, h⟩ := h
    refine q_getP X Y kX0 3 rfl fl_X0_29 k2_ rfl dX0_answer_327 ?_
    refine lv_bipush (v := 10) hx hb dX0_answer_330 (by decide) ?_
    refine lv_iload hx hb dX0_answer_332 (lv_at hl 1 rfl) ?_
    obtain ⟨a3_, e4_, h⟩ := h
    refine q_nn [.int x5, .int (10 : Int32)] e4_ ?_
    obtain ⟨k5_, h⟩ := h
    obtain ⟨i6_, h⟩ := h
    refine q_ist X Y k5_ i6_ dX0_answer_334 (fun H locs Y => ?_)
    exact cb_X0_answer_335 X Y (lv_sub hl [] rfl) h
def wb_X0_answer_236  (S : q_S) (a0 : Nat) (xs0 : Int32) (Q : Option Value → q_S → Prop) : Prop := wb_X0_answer_320 S a0 xs0 Q
set_option maxHeartbeats 4000000 in
set_option maxRecDepth 100000 in
theorem cb_X0_answer_236 {p : Program} {l : Launch} {e : Env} {s : State} {m : MethodId} {args : Array Value} {below : List Frame} {meth : Method} {c : Code} {D : va_G} {cy : Nat → ClassId} {lo : Nat}  {S : q_S} {a0 : Nat} {xs0 : Int32} {Q : Option Value → q_S → Prop} {H : Heap} {locs : List Loc} {ls : Array Slot} (X : q_X p s m args meth c RX0 cX0_answer 6 (some .int) D cy lo)  (Y : q_Y D cy lo s S H locs) (hl : lv_has ls 6 [(0, .ref a0)]) (h : wb_X0_answer_236 S a0 xs0 Q) : W p l e ({ frames := 6, cells := 0, slots := 0, locals := 148 } : Room) s m args below meth c H locs 0 0 (MQ below (q_Q D cy lo Q) args s 0 0 (fun q => lo ≤ q)) (F0 m 236 ls [.int xs0]) := by
  have hx := X.1
  have hb := X.2.1
  unfold wb_X0_answer_236 at h
  refine lv_istore (i := 5) (lv' := [(5, .int xs0), (0, .ref a0)]) hx hb dX0_answer_236 hl (by decide) (by first | rfl | simp [q_cat, q_catI, q_catJ, q_catR]) (fun ls hl => ?_)
  refine lv_goto (tgt := 320) hx hb dX0_answer_238 (by decide) ?_
  exact cb_X0_answer_320 X Y (lv_sub hl [1, 0] rfl) h
def wm_X0_answer (S : q_S) (a0 : Nat) (r1 : Option Nat) (r2 : Option Nat) (r3 : Option Nat) (Q : Option Value → q_S → Prop) : Prop := q_K S a0 = 1 ∧ (∀ S8_ : q_S, S8_ = (qs_P (qs_P (qs_P S 0 a0 r1) 1 a0 r2) 2 a0 r3) → (∃ a9_ : Nat, r3 = some a9_ ∧ (q_K S8_ a9_ = 8 ∧ (∃ a12_ : Nat, r1 = some a12_ ∧ (q_K (qs_P S8_ 3 a0 (q_P S8_ 1411 a9_)) a12_ = 7 ∧ (∀ S15_ : q_S, S15_ = (qs_I (qs_P S8_ 3 a0 (q_P S8_ 1411 a9_)) 4 a0 (q_I (qs_P S8_ 3 a0 (q_P S8_ 1411 a9_)) 1211 a12_)) → (∃ a16_ : Nat, (q_P S15_ 3 a0) = some a16_ ∧ (q_K S15_ a16_ = 21 ∧ (vp_in (17 : Int32) (q_N S15_ a16_) ∧ ((((q_A S15_ a16_ (17 : Int32).toNatClampNeg) < 0 → (wb_X0_answer_52 S15_ Q)) ∧ (¬ (q_A S15_ a16_ (17 : Int32).toNatClampNeg) < 0 → ((((q_A S15_ a16_ (17 : Int32).toNatClampNeg) ≤ (36 : Int32) → (((¬ (q_A S15_ a16_ (17 : Int32).toNatClampNeg) = (20 : Int32) → ((((7 : Int32) < (q_A S15_ a16_ (17 : Int32).toNatClampNeg) → ((((12 : Int32) < (q_A S15_ a16_ (17 : Int32).toNatClampNeg) → ((((17 : Int32) < (q_A S15_ a16_ (17 : Int32).toNatClampNeg) → ((((19 : Int32) < (q_A S15_ a16_ (17 : Int32).toNatClampNeg) → ((((25 : Int32) < (q_A S15_ a16_ (17 : Int32).toNatClampNeg) → ((((31 : Int32) < (q_A S15_ a16_ (17 : Int32).toNatClampNeg) → (∃ a29_ : Nat, (q_P (qs_I S15_ 1410 a9_ ((q_I S15_ 1410 a9_) + (4 : Int32))) 3 a0) = some a29_ ∧ (q_K (qs_I S15_ 1410 a9_ ((q_I S15_ 1410 a9_) + (4 : Int32))) a29_ = 21 ∧ (vp_in (10 : Int32) (q_N (qs_I S15_ 1410 a9_ ((q_I S15_ 1410 a9_) + (4 : Int32))) a29_) ∧ (vp_in (11 : Int32) (q_N (qs_I S15_ 1410 a9_ ((q_I S15_ 1410 a9_) + (4 : Int32))) a29_) ∧ (vp_in (12 : Int32) (q_N (qs_I S15_ 1410 a9_ ((q_I S15_ 1410 a9_) + (4 : Int32))) a29_) ∧ (wm_X0_ofLooks (qs_I S15_ 1410 a9_ ((q_I S15_ 1410 a9_) + (4 : Int32))) a0 (q_A S15_ a16_ (17 : Int32).toNatClampNeg) (q_A (qs_I S15_ 1410 a9_ ((q_I S15_ 1410 a9_) + (4 : Int32))) a29_ (10 : Int32).toNatClampNeg) (q_A (qs_I S15_ 1410 a9_ ((q_I S15_ 1410 a9_) + (4 : Int32))) a29_ (11 : Int32).toNatClampNeg) (q_A (qs_I S15_ 1410 a9_ ((q_I S15_ 1410 a9_) + (4 : Int32))) a29_ (12 : Int32).toNatClampNeg) (fun r35_ S36_ => ∃ x37_ : Int32, r35_ = some (.int x37_) ∧ (wb_X0_answer_320 S36_ a0 x37_ Q))))))))) ∧ (¬ (31 : Int32) < (q_A S15_ a16_ (17 : Int32).toNatClampNeg) → (∃ a38_ : Nat, (q_P (qs_I S15_ 1410 a9_ ((q_I S15_ 1410 a9_) + (4 : Int32))) 3 a0) = some a38_ ∧ (q_K (qs_I S15_ 1410 a9_ ((q_I S15_ 1410 a9_) + (4 : Int32))) a38_ = 21 ∧ (vp_in (10 : Int32) (q_N (qs_I S15_ 1410 a9_ ((q_I S15_ 1410 a9_) + (4 : Int32))) a38_) ∧ (wm_X0_ofOthers (qs_I S15_ 1410 a9_ ((q_I S15_ 1410 a9_) + (4 : Int32))) a0 (q_A S15_ a16_ (17 : Int32).toNatClampNeg) (q_A (qs_I S15_ 1410 a9_ ((q_I S15_ 1410 a9_) + (4 : Int32))) a38_ (10 : Int32).toNatClampNeg) (fun r42_ S43_ => ∃ x44_ : Int32, r42_ = some (.int x44_) ∧ (wb_X0_answer_320 S43_ a0 x44_ Q)))))))))) ∧ (¬ (25 : Int32) < (q_A S15_ a16_ (17 : Int32).toNatClampNeg) → (∃ a45_ : Nat, (q_P (qs_I S15_ 1410 a9_ ((q_I S15_ 1410 a9_) + (4 : Int32))) 3 a0) = some a45_ ∧ (q_K (qs_I S15_ 1410 a9_ ((q_I S15_ 1410 a9_) + (4 : Int32))) a45_ = 21 ∧ (vp_in (10 : Int32) (q_N (qs_I S15_ 1410 a9_ ((q_I S15_ 1410 a9_) + (4 : Int32))) a45_) ∧ (wm_X0_ofPartition (qs_I S15_ 1410 a9_ ((q_I S15_ 1410 a9_) + (4 : Int32))) a0 (q_A S15_ a16_ (17 : Int32).toNatClampNeg) (q_A (qs_I S15_ 1410 a9_ ((q_I S15_ 1410 a9_) + (4 : Int32))) a45_ (10 : Int32).toNatClampNeg) (fun r49_ S50_ => ∃ x51_ : Int32, r49_ = some (.int x51_) ∧ (wb_X0_answer_320 S50_ a0 x51_ Q)))))))))) ∧ (¬ (19 : Int32) < (q_A S15_ a16_ (17 : Int32).toNatClampNeg) → (((¬ (q_A S15_ a16_ (17 : Int32).toNatClampNeg) = (18 : Int32) → (∃ a53_ : Nat, (q_P (qs_I S15_ 1410 a9_ ((q_I S15_ 1410 a9_) + (4 : Int32))) 3 a0) = some a53_ ∧ (q_K (qs_I S15_ 1410 a9_ ((q_I S15_ 1410 a9_) + (4 : Int32))) a53_ = 21 ∧ (vp_in (10 : Int32) (q_N (qs_I S15_ 1410 a9_ ((q_I S15_ 1410 a9_) + (4 : Int32))) a53_) ∧ (vp_in (11 : Int32) (q_N (qs_I S15_ 1410 a9_ ((q_I S15_ 1410 a9_) + (4 : Int32))) a53_) ∧ (wm_X0_receive (qs_I S15_ 1410 a9_ ((q_I S15_ 1410 a9_) + (4 : Int32))) a0 (q_A (qs_I S15_ 1410 a9_ ((q_I S15_ 1410 a9_) + (4 : Int32))) a53_ (10 : Int32).toNatClampNeg) (q_A (qs_I S15_ 1410 a9_ ((q_I S15_ 1410 a9_) + (4 : Int32))) a53_ (11 : Int32).toNatClampNeg) (fun r58_ S59_ => ∃ x60_ : Int32, r58_ = some (.int x60_) ∧ (wb_X0_answer_236 S59_ a0 x60_ Q)))))))) ∧ ((q_A S15_ a16_ (17 : Int32).toNatClampNeg) = (18 : Int32) → (∃ a61_ : Nat, (q_P (qs_I S15_ 1410 a9_ ((q_I S15_ 1410 a9_) + (4 : Int32))) 3 a0) = some a61_ ∧ (q_K (qs_I S15_ 1410 a9_ ((q_I S15_ 1410 a9_) + (4 : Int32))) a61_ = 21 ∧ (vp_in (10 : Int32) (q_N (qs_I S15_ 1410 a9_ ((q_I S15_ 1410 a9_) + (4 : Int32))) a61_) ∧ (vp_in (11 : Int32) (q_N (qs_I S15_ 1410 a9_ ((q_I S15_ 1410 a9_) + (4 : Int32))) a61_) ∧ (vp_in (12 : Int32) (q_N (qs_I S15_ 1410 a9_ ((q_I S15_ 1410 a9_) + (4 : Int32))) a61_) ∧ (wm_X0_send (qs_I S15_ 1410 a9_ ((q_I S15_ 1410 a9_) + (4 : Int32))) a0 (q_A (qs_I S15_ 1410 a9_ ((q_I S15_ 1410 a9_) + (4 : Int32))) a61_ (10 : Int32).toNatClampNeg) (q_A (qs_I S15_ 1410 a9_ ((q_I S15_ 1410 a9_) + (4 : Int32))) a61_ (11 : Int32).toNatClampNeg) (q_A (qs_I S15_ 1410 a9_ ((q_I S15_ 1410 a9_) + (4 : Int32))) a61_ (12 : Int32).toNatClampNeg) (fun r67_ S68_ => ∃ x69_ : Int32, r67_ = some (.int x69_) ∧ (wb_X0_answer_236 S68_ a0 x69_ Q))))))))))))))) ∧ (¬ (17 : Int32) < (q_A S15_ a16_ (17 : Int32).toNatClampNeg) → (∃ a70_ : Nat, (q_P (qs_I S15_ 1410 a9_ ((q_I S15_ 1410 a9_) + (4 : Int32))) 3 a0) = some a70_ ∧ (q_K (qs_I S15_ 1410 a9_ ((q_I S15_ 1410 a9_) + (4 : Int32))) a70_ = 21 ∧ (vp_in (10 : Int32) (q_N (qs_I S15_ 1410 a9_ ((q_I S15_ 1410 a9_) + (4 : Int32))) a70_) ∧ (vp_in (11 : Int32) (q_N (qs_I S15_ 1410 a9_ ((q_I S15_ 1410 a9_) + (4 : Int32))) a70_) ∧ (vp_in (12 : Int32) (q_N (qs_I S15_ 1410 a9_ ((q_I S15_ 1410 a9_) + (4 : Int32))) a70_) ∧ (wm_X0_ofWords (qs_I S15_ 1410 a9_ ((q_I S15_ 1410 a9_) + (4 : Int32))) a0 (q_A S15_ a16_ (17 : Int32).toNatClampNeg) (q_A (qs_I S15_ 1410 a9_ ((q_I S15_ 1410 a9_) + (4 : Int32))) a70_ (10 : Int32).toNatClampNeg) (q_A (qs_I S15_ 1410 a9_ ((q_I S15_ 1410 a9_) + (4 : Int32))) a70_ (11 : Int32).toNatClampNeg) (q_A (qs_I S15_ 1410 a9_ ((q_I S15_ 1410 a9_) + (4 : Int32))) a70_ (12 : Int32).toNatClampNeg) (fun r76_ S77_ => ∃ x78_ : Int32, r76_ = some (.int x78_) ∧ (wb_X0_answer_320 S77_ a0 x78_ Q)))))))))))) ∧ (¬ (12 : Int32) < (q_A S15_ a16_ (17 : Int32).toNatClampNeg) → (∃ a79_ : Nat, (q_P (qs_I S15_ 1410 a9_ ((q_I S15_ 1410 a9_) + (4 : Int32))) 3 a0) = some a79_ ∧ (q_K (qs_I S15_ 1410 a9_ ((q_I S15_ 1410 a9_) + (4 : Int32))) a79_ = 21 ∧ (vp_in (10 : Int32) (q_N (qs_I S15_ 1410 a9_ ((q_I S15_ 1410 a9_) + (4 : Int32))) a79_) ∧ (vp_in (11 : Int32) (q_N (qs_I S15_ 1410 a9_ ((q_I S15_ 1410 a9_) + (4 : Int32))) a79_) ∧ (wm_X0_ofSignals (qs_I S15_ 1410 a9_ ((q_I S15_ 1410 a9_) + (4 : Int32))) a0 (q_A S15_ a16_ (17 : Int32).toNatClampNeg) (q_A (qs_I S15_ 1410 a9_ ((q_I S15_ 1410 a9_) + (4 : Int32))) a79_ (10 : Int32).toNatClampNeg) (q_A (qs_I S15_ 1410 a9_ ((q_I S15_ 1410 a9_) + (4 : Int32))) a79_ (11 : Int32).toNatClampNeg) (fun r84_ S85_ => ∃ x86_ : Int32, r84_ = some (.int x86_) ∧ (wb_X0_answer_320 S85_ a0 x86_ Q))))))))))) ∧ (¬ (7 : Int32) < (q_A S15_ a16_ (17 : Int32).toNatClampNeg) → (∃ a87_ : Nat, (q_P (qs_I S15_ 1410 a9_ ((q_I S15_ 1410 a9_) + (4 : Int32))) 3 a0) = some a87_ ∧ (q_K (qs_I S15_ 1410 a9_ ((q_I S15_ 1410 a9_) + (4 : Int32))) a87_ = 21 ∧ (vp_in (10 : Int32) (q_N (qs_I S15_ 1410 a9_ ((q_I S15_ 1410 a9_) + (4 : Int32))) a87_) ∧ (vp_in (11 : Int32) (q_N (qs_I S15_ 1410 a9_ ((q_I S15_ 1410 a9_) + (4 : Int32))) a87_) ∧ (wm_X0_ofProcesses (qs_I S15_ 1410 a9_ ((q_I S15_ 1410 a9_) + (4 : Int32))) a0 (q_A S15_ a16_ (17 : Int32).toNatClampNeg) (q_A (qs_I S15_ 1410 a9_ ((q_I S15_ 1410 a9_) + (4 : Int32))) a87_ (10 : Int32).toNatClampNeg) (q_A (qs_I S15_ 1410 a9_ ((q_I S15_ 1410 a9_) + (4 : Int32))) a87_ (11 : Int32).toNatClampNeg) (fun r92_ S93_ => ∃ x94_ : Int32, r92_ = some (.int x94_) ∧ (wb_X0_answer_320 S93_ a0 x94_ Q))))))))))) ∧ ((q_A S15_ a16_ (17 : Int32).toNatClampNeg) = (20 : Int32) → (Q (some (.int (3 : Int32))) S15_))))) ∧ (¬ (q_A S15_ a16_ (17 : Int32).toNatClampNeg) ≤ (36 : Int32) → (wb_X0_answer_52 S15_ Q))))))))))))))))
set_option maxHeartbeats 4000000 in
set_option maxRecDepth 100000 in
theorem cm_X0_answer {l : Launch} {D : va_G} {cy : Nat → ClassId} {lo : Nat} {S : q_S} {a0 : Nat} {r1 : Option Nat} {r2 : Option Nat} {r3 : Option Nat} {Q : Option Value → q_S → Prop} (h : wm_X0_answer S a0 r1 r2 r3 Q) : q_Met l D cy lo yX0_answer cX0_answer 6 (some .int) 6 148 0 0 [.ref a0, va_rf r1, va_rf r2, va_rf r3] S Q := by
  refine q_body (by decide) (by first | exact Nat.le_of_ble_eq_true rfl | simp [lg_sl, q_cat, q_catI, q_catJ, q_catR]) ?_
  intro p e s m below meth c ls X hnm Y hl
  have hx := X.1
  have hb := X.2.1
  have hl : lv_has ls 6 [(0, .ref a0), (1, va_rf r1), (2, va_rf r2), (3, va_rf r3)] := by first | exact hl | simpa [lv_args, q_cat, q_catI, q_catJ, q_catR] using hl
  generalize hargs : ([.ref a0, va_rf r1, va_rf r2, va_rf r3] : List Value).toArray = args at X ⊢
  unfold wm_X0_answer at h
  refine lv_aload_n hx hb dX0_answer_0 rfl (lv_at hl 0 rfl) ?_
  refine q_aload_n hx hb dX0_answer_1 rfl (lv_at hl 1 rfl) ?_
  obtain ⟨k7_, h⟩ := h
  refine q_putP X Y r1 rfl kX0 0 rfl fl_X0_9 k7_ _ rfl (Or.inl ⟨_, rfl⟩) (Or.inl rfl) dX0_answer_2 (fun H locs Y => ?_)
  refine lv_aload_n hx hb dX0_answer_5 rfl (lv_at hl 0 rfl) ?_
  refine q_aload_n hx hb dX0_answer_6 rfl (lv_at hl 2 rfl) ?_
  refine q_putP X Y r2 rfl kX0 1 rfl fl_X0_15 k7_ _ rfl (Or.inl ⟨_, rfl⟩) (Or.inl rfl) dX0_answer_7 (fun H locs Y => ?_)
  refine lv_aload_n hx hb dX0_answer_10 rfl (lv_at hl 0 rfl) ?_
  refine q_aload_n hx hb dX0_answer_11 rfl (lv_at hl 3 rfl) ?_
  refine q_putP X Y r3 rfl kX0 2 rfl fl_X0_19 k7_ _ rfl (Or.inl ⟨_, rfl⟩) (Or.inl rfl) dX0_answer_12 (fun H locs Y => ?_)
  obtain ⟨S8_, gS8_⟩ : ∃ z : q_S, z = (qs_P (qs_P (qs_P S 0 a0 r1) 1 a0 r2) 2 a0 r3) := ⟨_, rfl⟩
  replace Y : q_Y D cy lo s S8_ H locs := by rw [gS8_]; exact Y
  replace h := h S8_ gS8_
  replace k7_ : q_K S8_ a0 = 1 := by rw [gS8_]; exact k7_
  refine lv_aload_n hx hb dX0_answer_15 rfl (lv_at hl 0 rfl) ?_
  refine q_aload_n hx hb dX0_answer_16 rfl (lv_at hl 3 rfl) ?_
  obtain ⟨a9_, e10_, h⟩ := h
  refine q_nn [] e10_ ?_
  obtain ⟨k11_, h⟩ := h
  refine q_getP X Y kX7 11 rfl fl_X0_23 k11_ rfl dX0_answer_17 ?_
  refine q_putP X Y (q_P S8_ 1411 a9_) rfl kX0 3 rfl fl_X0_29 k7_ _ rfl (Or.inr ⟨_, rfl⟩) (Or.inl rfl) dX0_answer_20 (fun H locs Y => ?_)
  refine lv_aload_n hx hb dX0_answer_23 rfl (lv_at hl 0 rfl) ?_
  refine q_aload_n hx hb dX0_answer_24 rfl (lv_at hl 1 rfl) ?_
  obtain ⟨a12_, e13_, h⟩ := h
  refine q_nn [] e13_ ?_
  obtain ⟨k14_, h⟩ := h
  refine q_getI X Y kX6 11 rfl fl_X0_30 k14_ dX0_answer_25 ?_
  refine q_putI X Y kX0 4 rfl fl_X0_36 k7_ .int rfl ⟨rfl, rfl⟩ rfl dX0_answer_28 (fun H locs Y => ?_)
  obtain ⟨S15_, gS15_⟩ : ∃ z : q_S, z = (qs_I (qs_P S8_ 3 a0 (q_P S8_ 1411 a9_)) 4 a0 (q_I (qs_P S8_ 3 a0 (q_P S8_ 1411 a9_)) 1211 a12_)) := ⟨_, rfl⟩
  replace Y : q_Y D cy lo s S15_ H locs := by rw [gS15_]; exact Y
  replace h := h S15_ gS15_
  replace k7_ : q_K S15_ a0 = 1 := by rw [gS15_]; exact k7_
  replace k11_ : q_K S15_ a9_ = 8 := by rw [gS15_]; exact k11_
  replace k14_ : q_K S15_ a12_ = 7 := by rw [gS15_]; exact k14_
  refine lv_aload_n hx hb dX0_answer_31 rfl (lv_at hl 0 rfl) ?_
  refine q_getP X Y kX0 3 rfl fl_X0_29 k7_ rfl dX0_answer_32 ?_
  refine lv_bipush (v := 17) hx hb dX0_answer_35 (by decide) ?_
  obtain ⟨a16_, e17_, h⟩ := h
  refine q_nn [.int (17 : Int32)] e17_ ?_
  obtain ⟨k18_, h⟩ := h
  obtain ⟨i19_, h⟩ := h
  refine q_ild X Y k18_ i19_ dX0_answer_37 ?_
  refine lv_istore (i := 4) (lv' := [(4, .int (q_A S15_ a16_ (17 : Int32).toNatClampNeg)), (0, .ref a0), (1, va_rf r1), (2, va_rf r2), (3, va_rf r3)]) hx hb dX0_answer_38 hl (by decide) (by first | rfl | simp [q_cat, q_catI, q_catJ, q_catR]) (fun ls hl => ?_)
  refine lv_iload hx hb dX0_answer_40 (lv_at hl 0 rfl) ?_
  refine lv_if_lt (tgt := 52) hx hb dX0_answer_42 (by decide) (fun c20_ => ?_) (fun c20_ => ?_)
  · replace h := h.1 c20_
    exact cb_X0_answer_52 X Y (lv_sub hl [] rfl) h
  · replace h := h.2 c20_
    refine lv_iload hx hb dX0_answer_45 (lv_at hl 0 rfl) ?_
    refine lv_bipush (v := 36) hx hb dX0_answer_47 (by decide) ?_
    refine lv_icmp_le (tgt := 54) hx hb dX0_answer_49 (by decide) (fun c21_ => ?_) (fun c21_ => ?_)
    · replace h := h.1 c21_
      refine lv_iload hx hb dX0_answer_54 (lv_at hl 0 rfl) ?_
      refine lv_bipush (v := 20) hx hb dX0_answer_56 (by decide) ?_
      refine lv_icmp_ne (tgt := 63) hx hb dX0_answer_58 (by decide) (fun c22_ => ?_) (fun c22_ => ?_)
      · replace h := h.1 c22_
        refine q_aload_n hx hb dX0_answer_63 rfl (lv_at hl 4 rfl) ?_
        refine lv_dup hx hb dX0_answer_64 (q_cat _) ?_
        refine q_nn [] e10_ ?_
        refine q_getI X Y kX7 10 rfl fl_X0_39 k11_ dX0_answer_65 ?_
        refine lv_iconst (v := 4) hx hb dX0_answer_68 (by decide) ?_
        refine lv_iadd hx hb dX0_answer_69 ?_
        refine q_nn [.int ((q_I S15_ 1410 a9_) + (4 : Int32))] e10_ ?_
        refine q_putI X Y kX7 10 rfl fl_X0_39 k11_ .int rfl ⟨rfl, rfl⟩ rfl dX0_answer_70 (fun H locs Y => ?_)
        refine lv_iload hx hb dX0_answer_73 (lv_at hl 0 rfl) ?_
        refine lv_bipush (v := 7) hx hb dX0_answer_75 (by decide) ?_
        refine lv_icmp_gt (tgt := 105) hx hb dX0_answer_77 (by decide) (fun c23_ => ?_) (fun c23_ => ?_)
        · replace h := h.1 c23_
          refine lv_iload hx hb dX0_answer_105 (lv_at hl 0 rfl) ?_
          refine lv_bipush (v := 12) hx hb dX0_answer_107 (by decide) ?_
          refine lv_icmp_gt (tgt := 137) hx hb dX0_answer_109 (by decide) (fun c24_ => ?_) (fun c24_ => ?_)
          · replace h := h.1 c24_
            refine lv_iload hx hb dX0_answer_137 (lv_at hl 0 rfl) ?_
            refine lv_bipush (v := 17) hx hb dX0_answer_139 (by decide) ?_
            refine lv_icmp_gt (tgt := 176) hx hb dX0_answer_141 (by decide) (fun c25_ => ?_) (fun c25_ => ?_)
            · replace h := h.1 c25_
              refine lv_iload hx hb dX0_answer_176 (lv_at hl 0 rfl) ?_
              refine lv_bipush (v := 19) hx hb dX0_answer_178 (by decide) ?_
              refine lv_icmp_gt (tgt := 241) hx hb dX0_answer_180 (by decide) (fun c26_ => ?_) (fun c26_ => ?_)
              · replace h := h.1 c26_
                refine lv_iload hx hb dX0_answer_241 (lv_at hl 0 rfl) ?_
                refine lv_bipush (v := 25) hx hb dX0_answer_243 (by decide) ?_
                refine lv_icmp_gt (tgt := 266) hx hb dX0_answer_245 (by decide) (fun c27_ => ?_) (fun c27_ => ?_)
                · replace h := h.1 c27_
                  refine lv_iload hx hb dX0_answer_266 (lv_at hl 0 rfl) ?_
                  refine lv_bipush (v := 31) hx hb dX0_answer_268 (by decide) ?_
                  refine lv_icmp_gt (tgt := 291) hx hb dX0_answer_270 (by decide) (fun c28_ => ?_) (fun c28_ => ?_)
                  · replace h := h.1 c28_
                    refine lv_aload_n hx hb dX0_answer_291 rfl (lv_at hl 1 rfl) ?_
                    refine lv_iload hx hb dX0_answer_292 (lv_at hl 0 rfl) ?_
                    refine lv_aload_n hx hb dX0_answer_294 rfl (lv_at hl 1 rfl) ?_
                    refine q_getP X Y kX0 3 rfl fl_X0_29 k7_ rfl dX0_answer_295 ?_
                    refine lv_bipush (v := 10) hx hb dX0_answer_298 (by decide) ?_
                    obtain ⟨a29_, e30_, h⟩ := h
                    refine q_nn [.int (10 : Int32)] e30_ ?_
                    obtain ⟨k31_, h⟩ := h
                    obtain ⟨i32_, h⟩ := h
                    refine q_ild X Y k31_ i32_ dX0_answer_300 ?_
                    refine lv_aload_n hx hb dX0_answer_301 rfl (lv_at hl 1 rfl) ?_
                    refine q_getR X Y kX0 3 rfl fl_X0_29 k7_ e30_ dX0_answer_302 ?_
                    refine lv_bipush (v := 11) hx hb dX0_answer_305 (by decide) ?_
                    obtain ⟨i33_, h⟩ := h
                    refine q_ild X Y k31_ i33_ dX0_answer_307 ?_
                    refine lv_aload_n hx hb dX0_answer_308 rfl (lv_at hl 1 rfl) ?_
                    refine q_getR X Y kX0 3 rfl fl_X0_29 k7_ e30_ dX0_answer_309 ?_
                    refine lv_bipush (v := 12) hx hb dX0_answer_312 (by decide) ?_
                    obtain ⟨i34_, h⟩ := h
                    refine q_ild X Y k31_ i34_ dX0_answer_314 ?_
                    refine q_callV X Y hl (cm_X0_ofLooks h) mt_X0_ofLooks mi_X0_ofLooks ml_X0_66 (ci := 0) rfl k7_ (by decide) rfl rfl (by first | exact Nat.le_of_ble_eq_true rfl | simp [q_cat, q_catI, q_catJ, q_catR]) ⟨Nat.le_of_ble_eq_true rfl, Nat.le_of_ble_eq_true rfl⟩ ⟨Nat.le_of_ble_eq_true rfl, Nat.le_of_ble_eq_true rfl⟩ dX0_answer_315 (fun r35_ S36_ H locs hp Y => ?_)
                    obtain ⟨x37_, rfl, h⟩ := hp
                    refine W.eq (g2 := F0 m 318 ls [.int x37_]) rfl ?_
                    refine lv_istore (i := 5) (lv' := [(5, .int x37_), (4, .int (q_A S15_ a16_ (17 : Int32).toNatClampNeg)), (0, .ref a0), (1, va_rf r1), (2, va_rf r2), (3, va_rf r3)]) hx hb dX0_answer_318 hl (by decide) (by first | rfl | simp [q_cat, q_catI, q_catJ, q_catR]) (fun ls hl => ?_)
                    exact cb_X0_answer_320 X Y (lv_sub hl [2, 0] rfl) h
                  · replace h := h.2 c28_
                    refine lv_aload_n hx hb dX0_answer_273 rfl (lv_at hl 1 rfl) ?_
                    refine lv_iload hx hb dX0_answer_274 (lv_at hl 0 rfl) ?_
                    refine lv_aload_n hx hb dX0_answer_276 rfl (lv_at hl 1 rfl) ?_
                    refine q_getP X Y kX0 3 rfl fl_X0_29 k7_ rfl dX0_answer_277 ?_
                    refine lv_bipush (v := 10) hx hb dX0_answer_280 (by decide) ?_
                    obtain ⟨a38_, e39_, h⟩ := h
                    refine q_nn [.int (10 : Int32)] e39_ ?_
                    obtain ⟨k40_, h⟩ := h
                    obtain ⟨i41_, h⟩ := h
                    refine q_ild X Y k40_ i41_ dX0_answer_282 ?_
                    refine q_callV X Y hl (cm_X0_ofOthers h) mt_X0_ofOthers mi_X0_ofOthers ml_X0_63 (ci := 0) rfl k7_ (by decide) rfl rfl (by first | exact Nat.le_of_ble_eq_true rfl | simp [q_cat, q_catI, q_catJ, q_catR]) ⟨Nat.le_of_ble_eq_true rfl, Nat.le_of_ble_eq_true rfl⟩ ⟨Nat.le_of_ble_eq_true rfl, Nat.le_of_ble_eq_true rfl⟩ dX0_answer_283 (fun r42_ S43_ H locs hp Y => ?_)
                    obtain ⟨x44_, rfl, h⟩ := hp
                    refine W.eq (g2 := F0 m 286 ls [.int x44_]) rfl ?_
                    refine lv_istore (i := 5) (lv' := [(5, .int x44_), (4, .int (q_A S15_ a16_ (17 : Int32).toNatClampNeg)), (0, .ref a0), (1, va_rf r1), (2, va_rf r2), (3, va_rf r3)]) hx hb dX0_answer_286 hl (by decide) (by first | rfl | simp [q_cat, q_catI, q_catJ, q_catR]) (fun ls hl => ?_)
                    refine lv_goto (tgt := 320) hx hb dX0_answer_288 (by decide) ?_
                    exact cb_X0_answer_320 X Y (lv_sub hl [2, 0] rfl) h
                · replace h := h.2 c27_
                  refine lv_aload_n hx hb dX0_answer_248 rfl (lv_at hl 1 rfl) ?_
                  refine lv_iload hx hb dX0_answer_249 (lv_at hl 0 rfl) ?_
                  refine lv_aload_n hx hb dX0_answer_251 rfl (lv_at hl 1 rfl) ?_
                  refine q_getP X Y kX0 3 rfl fl_X0_29 k7_ rfl dX0_answer_252 ?_
                  refine lv_bipush (v := 10) hx hb dX0_answer_255 (by decide) ?_
                  obtain ⟨a45_, e46_, h⟩ := h
                  refine q_nn [.int (10 : Int32)] e46_ ?_
                  obtain ⟨k47_, h⟩ := h
                  obtain ⟨i48_, h⟩ := h
                  refine q_ild X Y k47_ i48_ dX0_answer_257 ?_
                  refine q_callV X Y hl (cm_X0_ofPartition h) mt_X0_ofPartition mi_X0_ofPartition ml_X0_60 (ci := 0) rfl k7_ (by decide) rfl rfl (by first | exact Nat.le_of_ble_eq_true rfl | simp [q_cat, q_catI, q_catJ, q_catR]) ⟨Nat.le_of_ble_eq_true rfl, Nat.le_of_ble_eq_true rfl⟩ ⟨Nat.le_of_ble_eq_true rfl, Nat.le_of_ble_eq_true rfl⟩ dX0_answer_258 (fun r49_ S50_ H locs hp Y => ?_)
                  obtain ⟨x51_, rfl, h⟩ := hp
                  refine W.eq (g2 := F0 m 261 ls [.int x51_]) rfl ?_
                  refine lv_istore (i := 5) (lv' := [(5, .int x51_), (4, .int (q_A S15_ a16_ (17 : Int32).toNatClampNeg)), (0, .ref a0), (1, va_rf r1), (2, va_rf r2), (3, va_rf r3)]) hx hb dX0_answer_261 hl (by decide) (by first | rfl | simp [q_cat, q_catI, q_catJ, q_catR]) (fun ls hl => ?_)
                  refine lv_goto (tgt := 320) hx hb dX0_answer_263 (by decide) ?_
                  exact cb_X0_answer_320 X Y (lv_sub hl [2, 0] rfl) h
              · replace h := h.2 c26_
                refine lv_iload hx hb dX0_answer_183 (lv_at hl 0 rfl) ?_
                refine lv_bipush (v := 18) hx hb dX0_answer_185 (by decide) ?_
                refine lv_icmp_ne (tgt := 218) hx hb dX0_answer_187 (by decide) (fun c52_ => ?_) (fun c52_ => ?_)
                · replace h := h.1 c52_
                  refine lv_aload_n hx hb dX0_answer_218 rfl (lv_at hl 1 rfl) ?_
                  refine lv_aload_n hx hb dX0_answer_219 rfl (lv_at hl 1 rfl) ?_
                  refine q_getP X Y kX0 3 rfl fl_X0_29 k7_ rfl dX0_answer_220 ?_
                  refine lv_bipush (v := 10) hx hb dX0_answer_223 (by decide) ?_
                  obtain ⟨a53_, e54_, h⟩ := h
                  refine q_nn [.int (10 : Int32)] e54_ ?_
                  obtain ⟨k55_, h⟩ := h
                  obtain ⟨i56_, h⟩ := h
                  refine q_ild X Y k55_ i56_ dX0_answer_225 ?_
                  refine lv_aload_n hx hb dX0_answer_226 rfl (lv_at hl 1 rfl) ?_
                  refine q_getR X Y kX0 3 rfl fl_X0_29 k7_ e54_ dX0_answer_227 ?_
                  refine lv_bipush (v := 11) hx hb dX0_answer_230 (by decide) ?_
                  obtain ⟨i57_, h⟩ := h
                  refine q_ild X Y k55_ i57_ dX0_answer_232 ?_
                  refine q_callV X Y hl (cm_X0_receive h) mt_X0_receive mi_X0_receive ml_X0_56 (ci := 0) rfl k7_ (by decide) rfl rfl (by first | exact Nat.le_of_ble_eq_true rfl | simp [q_cat, q_catI, q_catJ, q_catR]) ⟨Nat.le_of_ble_eq_true rfl, Nat.le_of_ble_eq_true rfl⟩ ⟨Nat.le_of_ble_eq_true rfl, Nat.le_of_ble_eq_true rfl⟩ dX0_answer_233 (fun r58_ S59_ H locs hp Y => ?_)
                  obtain ⟨x60_, rfl, h⟩ := hp
                  refine W.eq (g2 := F0 m 236 ls [.int x60_]) rfl ?_
                  exact cb_X0_answer_236 X Y (lv_sub hl [1] rfl) h
                · replace h := h.2 c52_
                  refine lv_aload_n hx hb dX0_answer_190 rfl (lv_at hl 1 rfl) ?_
                  refine lv_aload_n hx hb dX0_answer_191 rfl (lv_at hl 1 rfl) ?_
                  refine q_getP X Y kX0 3 rfl fl_X0_29 k7_ rfl dX0_answer_192 ?_
                  refine lv_bipush (v := 10) hx hb dX0_answer_195 (by decide) ?_
                  obtain ⟨a61_, e62_, h⟩ := h
                  refine q_nn [.int (10 : Int32)] e62_ ?_
                  obtain ⟨k63_, h⟩ := h
                  obtain ⟨i64_, h⟩ := h
                  refine q_ild X Y k63_ i64_ dX0_answer_197 ?_
                  refine lv_aload_n hx hb dX0_answer_198 rfl (lv_at hl 1 rfl) ?_
                  refine q_getR X Y kX0 3 rfl fl_X0_29 k7_ e62_ dX0_answer_199 ?_
                  refine lv_bipush (v := 11) hx hb dX0_answer_202 (by decide) ?_
                  obtain ⟨i65_, h⟩ := h
                  refine q_ild X Y k63_ i65_ dX0_answer_204 ?_
                  refine lv_aload_n hx hb dX0_answer_205 rfl (lv_at hl 1 rfl) ?_
                  refine q_getR X Y kX0 3 rfl fl_X0_29 k7_ e62_ dX0_answer_206 ?_
                  refine lv_bipush (v := 12) hx hb dX0_answer_209 (by decide) ?_
                  obtain ⟨i66_, h⟩ := h
                  refine q_ild X Y k63_ i66_ dX0_answer_211 ?_
                  refine q_callV X Y hl (cm_X0_send h) mt_X0_send mi_X0_send ml_X0_53 (ci := 0) rfl k7_ (by decide) rfl rfl (by first | exact Nat.le_of_ble_eq_true rfl | simp [q_cat, q_catI, q_catJ, q_catR]) ⟨Nat.le_of_ble_eq_true rfl, Nat.le_of_ble_eq_true rfl⟩ ⟨Nat.le_of_ble_eq_true rfl, Nat.le_of_ble_eq_true rfl⟩ dX0_answer_212 (fun r67_ S68_ H locs hp Y => ?_)
                  obtain ⟨x69_, rfl, h⟩ := hp
                  refine W.eq (g2 := F0 m 215 ls [.int x69_]) rfl ?_
                  refine lv_goto (tgt := 236) hx hb dX0_answer_215 (by decide) ?_
                  exact cb_X0_answer_236 X Y (lv_sub hl [1] rfl) h
            · replace h := h.2 c25_
              refine lv_aload_n hx hb dX0_answer_144 rfl (lv_at hl 1 rfl) ?_
              refine lv_iload hx hb dX0_answer_145 (lv_at hl 0 rfl) ?_
              refine lv_aload_n hx hb dX0_answer_147 rfl (lv_at hl 1 rfl) ?_
              refine q_getP X Y kX0 3 rfl fl_X0_29 k7_ rfl dX0_answer_148 ?_
              refine lv_bipush (v := 10) hx hb dX0_answer_151 (by decide) ?_
              obtain ⟨a70_, e71_, h⟩ := h
              refine q_nn [.int (10 : Int32)] e71_ ?_
              obtain ⟨k72_, h⟩ := h
              obtain ⟨i73_, h⟩ := h
              refine q_ild X Y k72_ i73_ dX0_answer_153 ?_
              refine lv_aload_n hx hb dX0_answer_154 rfl (lv_at hl 1 rfl) ?_
              refine q_getR X Y kX0 3 rfl fl_X0_29 k7_ e71_ dX0_answer_155 ?_
              refine lv_bipush (v := 11) hx hb dX0_answer_158 (by decide) ?_
              obtain ⟨i74_, h⟩ := h
              refine q_ild X Y k72_ i74_ dX0_answer_160 ?_
              refine lv_aload_n hx hb dX0_answer_161 rfl (lv_at hl 1 rfl) ?_
              refine q_getR X Y kX0 3 rfl fl_X0_29 k7_ e71_ dX0_answer_162 ?_
              refine lv_bipush (v := 12) hx hb dX0_answer_165 (by decide) ?_
              obtain ⟨i75_, h⟩ := h
              refine q_ild X Y k72_ i75_ dX0_answer_167 ?_
              refine q_callV X Y hl (cm_X0_ofWords h) mt_X0_ofWords mi_X0_ofWords ml_X0_49 (ci := 0) rfl k7_ (by decide) rfl rfl (by first | exact Nat.le_of_ble_eq_true rfl | simp [q_cat, q_catI, q_catJ, q_catR]) ⟨Nat.le_of_ble_eq_true rfl, Nat.le_of_ble_eq_true rfl⟩ ⟨Nat.le_of_ble_eq_true rfl, Nat.le_of_ble_eq_true rfl⟩ dX0_answer_168 (fun r76_ S77_ H locs hp Y => ?_)
              obtain ⟨x78_, rfl, h⟩ := hp
              refine W.eq (g2 := F0 m 171 ls [.int x78_]) rfl ?_
              refine lv_istore (i := 5) (lv' := [(5, .int x78_), (4, .int (q_A S15_ a16_ (17 : Int32).toNatClampNeg)), (0, .ref a0), (1, va_rf r1), (2, va_rf r2), (3, va_rf r3)]) hx hb dX0_answer_171 hl (by decide) (by first | rfl | simp [q_cat, q_catI, q_catJ, q_catR]) (fun ls hl => ?_)
              refine lv_goto (tgt := 320) hx hb dX0_answer_173 (by decide) ?_
              exact cb_X0_answer_320 X Y (lv_sub hl [2, 0] rfl) h
          · replace h := h.2 c24_
            refine lv_aload_n hx hb dX0_answer_112 rfl (lv_at hl 1 rfl) ?_
            refine lv_iload hx hb dX0_answer_113 (lv_at hl 0 rfl) ?_
            refine lv_aload_n hx hb dX0_answer_115 rfl (lv_at hl 1 rfl) ?_
            refine q_getP X Y kX0 3 rfl fl_X0_29 k7_ rfl dX0_answer_116 ?_
            refine lv_bipush (v := 10) hx hb dX0_answer_119 (by decide) ?_
            obtain ⟨a79_, e80_, h⟩ := h
            refine q_nn [.int (10 : Int32)] e80_ ?_
            obtain ⟨k81_, h⟩ := h
            obtain ⟨i82_, h⟩ := h
            refine q_ild X Y k81_ i82_ dX0_answer_121 ?_
            refine lv_aload_n hx hb dX0_answer_122 rfl (lv_at hl 1 rfl) ?_
            refine q_getR X Y kX0 3 rfl fl_X0_29 k7_ e80_ dX0_answer_123 ?_
            refine lv_bipush (v := 11) hx hb dX0_answer_126 (by decide) ?_
            obtain ⟨i83_, h⟩ := h
            refine q_ild X Y k81_ i83_ dX0_answer_128 ?_
            refine q_callV X Y hl (cm_X0_ofSignals h) mt_X0_ofSignals mi_X0_ofSignals ml_X0_46 (ci := 0) rfl k7_ (by decide) rfl rfl (by first | exact Nat.le_of_ble_eq_true rfl | simp [q_cat, q_catI, q_catJ, q_catR]) ⟨Nat.le_of_ble_eq_true rfl, Nat.le_of_ble_eq_true rfl⟩ ⟨Nat.le_of_ble_eq_true rfl, Nat.le_of_ble_eq_true rfl⟩ dX0_answer_129 (fun r84_ S85_ H locs hp Y => ?_)
            obtain ⟨x86_, rfl, h⟩ := hp
            refine W.eq (g2 := F0 m 132 ls [.int x86_]) rfl ?_
            refine lv_istore (i := 5) (lv' := [(5, .int x86_), (4, .int (q_A S15_ a16_ (17 : Int32).toNatClampNeg)), (0, .ref a0), (1, va_rf r1), (2, va_rf r2), (3, va_rf r3)]) hx hb dX0_answer_132 hl (by decide) (by first | rfl | simp [q_cat, q_catI, q_catJ, q_catR]) (fun ls hl => ?_)
            refine lv_goto (tgt := 320) hx hb dX0_answer_134 (by decide) ?_
            exact cb_X0_answer_320 X Y (lv_sub hl [2, 0] rfl) h
        · replace h := h.2 c23_
          refine lv_aload_n hx hb dX0_answer_80 rfl (lv_at hl 1 rfl) ?_
          refine lv_iload hx hb dX0_answer_81 (lv_at hl 0 rfl) ?_
          refine lv_aload_n hx hb dX0_answer_83 rfl (lv_at hl 1 rfl) ?_
          refine q_getP X Y kX0 3 rfl fl_X0_29 k7_ rfl dX0_answer_84 ?_
          refine lv_bipush (v := 10) hx hb dX0_answer_87 (by decide) ?_
          obtain ⟨a87_, e88_, h⟩ := h
          refine q_nn [.int (10 : Int32)] e88_ ?_
          obtain ⟨k89_, h⟩ := h
          obtain ⟨i90_, h⟩ := h
          refine q_ild X Y k89_ i90_ dX0_answer_89 ?_
          refine lv_aload_n hx hb dX0_answer_90 rfl (lv_at hl 1 rfl) ?_
          refine q_getR X Y kX0 3 rfl fl_X0_29 k7_ e88_ dX0_answer_91 ?_
          refine lv_bipush (v := 11) hx hb dX0_answer_94 (by decide) ?_
          obtain ⟨i91_, h⟩ := h
          refine q_ild X Y k89_ i91_ dX0_answer_96 ?_
          refine q_callV X Y hl (cm_X0_ofProcesses h) mt_X0_ofProcesses mi_X0_ofProcesses ml_X0_42 (ci := 0) rfl k7_ (by decide) rfl rfl (by first | exact Nat.le_of_ble_eq_true rfl | simp [q_cat, q_catI, q_catJ, q_catR]) ⟨Nat.le_of_ble_eq_true rfl, Nat.le_of_ble_eq_true rfl⟩ ⟨Nat.le_of_ble_eq_true rfl, Nat.le_of_ble_eq_true rfl⟩ dX0_answer_97 (fun r92_ S93_ H locs hp Y => ?_)
          obtain ⟨x94_, rfl, h⟩ := hp
          refine W.eq (g2 := F0 m 100 ls [.int x94_]) rfl ?_
          refine lv_istore (i := 5) (lv' := [(5, .int x94_), (4, .int (q_A S15_ a16_ (17 : Int32).toNatClampNeg)), (0, .ref a0), (1, va_rf r1), (2, va_rf r2), (3, va_rf r3)]) hx hb dX0_answer_100 hl (by decide) (by first | rfl | simp [q_cat, q_catI, q_catJ, q_catR]) (fun ls hl => ?_)
          refine lv_goto (tgt := 320) hx hb dX0_answer_102 (by decide) ?_
          exact cb_X0_answer_320 X Y (lv_sub hl [2, 0] rfl) h
      · replace h := h.2 c22_
        refine lv_iconst (v := 3) hx hb dX0_answer_61 (by decide) ?_
        exact q_iret X Y rfl (Nat.le_refl _) (Nat.le_refl _) h dX0_answer_62
    · replace h := h.2 c21_
      exact cb_X0_answer_52 X Y (lv_sub hl [] rfl) h
-- X8_init
theorem ml_X8_1 : Cond.methodLink RX8 1 Lib.objectInit ∈ q_G := q_tb (i := 981) (by decide +kernel) (by decide +kernel)
theorem ar_int : Cond.arrayClass .int ∈ q_G := q_tb (i := 74) (by decide +kernel) (by decide +kernel)
theorem dX8_init_0 : decode cX8_init 0 = .ok (.aload_n 0, 1) := by decide +kernel
theorem dX8_init_1 : decode cX8_init 1 = .ok (.invokespecial 1, 3) := by decide +kernel
theorem dX8_init_4 : decode cX8_init 4 = .ok (.aload_n 0, 1) := by decide +kernel
theorem dX8_init_5 : decode cX8_init 5 = .ok (.iconst 0, 1) := by decide +kernel
theorem dX8_init_6 : decode cX8_init 6 = .ok (.newarray .int, 2) := by decide +kernel
theorem dX8_init_8 : decode cX8_init 8 = .ok (.putfield 7, 3) := by decide +kernel
theorem dX8_init_11 : decode cX8_init 11 = .ok (.return_, 1) := by decide +kernel
def wm_X8_init (bc bs : Nat) (S : q_S) (a0 : Nat) (Q : Option Value → q_S → Prop) : Prop := (0 + 1 ≤ bc ∧ 0 + 0 ≤ bs) ∧ (∀ b1_ : Nat, q_K S b1_ = 0 → (q_K (qs_R S 21 0 b1_) a0 = 9 ∧ (Q none (qs_P (qs_R S 21 0 b1_) 1600 a0 (some b1_)))))
set_option maxHeartbeats 4000000 in
set_option maxRecDepth 100000 in
theorem cm_X8_init {l : Launch} {D : va_G} {cy : Nat → ClassId} {lo : Nat} {bc bs : Nat} {S : q_S} {a0 : Nat} {Q : Option Value → q_S → Prop} (h : wm_X8_init bc bs S a0 Q) : q_Met l D cy lo yX8_init cX8_init 1 none 1 20 bc bs [.ref a0] S Q := by
  refine q_body (by decide) (by first | exact Nat.le_of_ble_eq_true rfl | simp [lg_sl, q_cat, q_catI, q_catJ, q_catR]) ?_
  intro p e s m below meth c ls X hnm Y hl
  have hx := X.1
  have hb := X.2.1
  have hl : lv_has ls 1 [(0, .ref a0)] := by first | exact hl | simpa [lv_args, q_cat, q_catI, q_catJ, q_catR] using hl
  generalize hargs : ([.ref a0] : List Value).toArray = args at X ⊢
  have hu : 0 ≤ bc ∧ 0 ≤ bs := ⟨Nat.zero_le _, Nat.zero_le _⟩
  unfold wm_X8_init at h
  refine lv_aload_n hx hb dX8_init_0 rfl (lv_at hl 0 rfl) ?_
  refine q_obj X hl ml_X8_1 oi_ oc_ ⟨Nat.le_of_ble_eq_true rfl, (by first | exact Nat.le_of_ble_eq_true rfl | simp [q_cat, q_catI, q_catJ, q_catR])⟩ dX8_init_1 ?_
  refine lv_aload_n hx hb dX8_init_4 rfl (lv_at hl 0 rfl) ?_
  refine lv_iconst (v := 0) hx hb dX8_init_5 (by decide) ?_
  obtain ⟨w4_, h⟩ := h
  refine q_newa X Y (k := 21) (t := 1) (n := 0) (ty := .int) rfl (by decide) rfl (fun _ _ => rfl) (by first | exact rfl | decide | simp [defaultValue]) ar_int (by decide) (by decide) (by decide) w4_ dX8_init_6 (fun b1_ H h2_ h3_ Y => ?_)
  replace h := h b1_ h2_
  replace hu := w4_
  have k5_ : q_K (qs_R S 21 0 b1_) b1_ = 21 := qs_R_Ks
  obtain ⟨k6_, h⟩ := h
  refine q_putP X Y (some b1_) rfl kX8 0 rfl fl_X8_7 k6_ _ rfl (Or.inr ⟨_, rfl⟩) (Or.inl rfl) dX8_init_8 (fun H locs Y => ?_)
  exact q_vret X Y hu.1 hu.2 h dX8_init_11
-- X1_init
theorem ml_X1_3 : Cond.methodLink RX1 3 Lib.objectInit ∈ q_G := q_tb (i := 1103) (by decide +kernel) (by decide +kernel)
theorem cl_X1_9 : Cond.classLink RX1 9 RX8 ∈ q_G := q_tb (i := 1104) (by decide +kernel) (by decide +kernel)
theorem ib_X8 : Cond.instantiable RX8 4 ∈ q_G := q_tb (i := 408) (by decide +kernel) (by decide +kernel)
theorem in_X8 : Cond.initialized RX8 ∈ q_G := q_tb (i := 24) (by decide +kernel) (by decide +kernel)
theorem dv_X8 : ∀ k, k < 4 → defaultValue (tyX8 k) = vp_V ((q_F 8).map (fun q => q_dv q.1)) k := by decide +kernel
theorem mn_X1_11 : Cond.methodLinkNest RX1 11 yX8_init "PartitionWorks" ∈ q_Nw := List.mem_filter.mpr ⟨List.mem_of_getElem? (i := 1105) (by decide +kernel), rfl⟩
theorem mt_X8_init : q_Mt yX8_init cX8_init 1 none 0 := ⟨q_tb (i := 980) (by decide +kernel) (by decide +kernel), q_tb (i := 24) (by decide +kernel) (by decide +kernel), by decide +kernel, by decide +kernel, by decide +kernel⟩
theorem mj_X8_init : Cond.instanceMethod yX8_init ∈ q_G := q_tb (i := 979) (by decide +kernel) (by decide +kernel)
theorem fl_X1_18 : Cond.fieldLink RX1 18 "PartitionWorks$Channel" "inputTimes" "[I" ∈ q_G := q_tb (i := 1145) (by decide +kernel) (by decide +kernel)
theorem fl_X1_22 : Cond.fieldLink RX1 22 "PartitionWorks$Channel" "inputWords" "[I" ∈ q_G := q_tb (i := 1146) (by decide +kernel) (by decide +kernel)
theorem dX1_init_0 : decode cX1_init 0 = .ok (.aload_n 0, 1) := by decide +kernel
theorem dX1_init_1 : decode cX1_init 1 = .ok (.invokespecial 3, 3) := by decide +kernel
theorem dX1_init_4 : decode cX1_init 4 = .ok (.aload_n 0, 1) := by decide +kernel
theorem dX1_init_5 : decode cX1_init 5 = .ok (.new 9, 3) := by decide +kernel
theorem dX1_init_8 : decode cX1_init 8 = .ok (.dup, 1) := by decide +kernel
theorem dX1_init_9 : decode cX1_init 9 = .ok (.invokespecial 11, 3) := by decide +kernel
theorem dX1_init_12 : decode cX1_init 12 = .ok (.putfield 12, 3) := by decide +kernel
theorem dX1_init_15 : decode cX1_init 15 = .ok (.aload_n 0, 1) := by decide +kernel
theorem dX1_init_16 : decode cX1_init 16 = .ok (.iconst 0, 1) := by decide +kernel
theorem dX1_init_17 : decode cX1_init 17 = .ok (.newarray .int, 2) := by decide +kernel
theorem dX1_init_19 : decode cX1_init 19 = .ok (.putfield 18, 3) := by decide +kernel
theorem dX1_init_22 : decode cX1_init 22 = .ok (.aload_n 0, 1) := by decide +kernel
theorem dX1_init_23 : decode cX1_init 23 = .ok (.iconst 0, 1) := by decide +kernel
theorem dX1_init_24 : decode cX1_init 24 = .ok (.newarray .int, 2) := by decide +kernel
theorem dX1_init_26 : decode cX1_init 26 = .ok (.putfield 22, 3) := by decide +kernel
theorem dX1_init_29 : decode cX1_init 29 = .ok (.return_, 1) := by decide +kernel
def wm_X1_init (bc bs : Nat) (S : q_S) (a0 : Nat) (Q : Option Value → q_S → Prop) : Prop := (0 + 1 ≤ bc ∧ 0 + 4 ≤ bs) ∧ (∀ b1_ : Nat, q_K S b1_ = 0 → (∃ m8_ m9_ : Nat, ((0 + 1) + m8_ ≤ bc ∧ (0 + 4) + m9_ ≤ bs) ∧ (wm_X8_init m8_ m9_ (qs_O S 8 b1_) b1_ (fun r6_ S7_ => r6_ = none ∧ (q_K S7_ a0 = 2 ∧ ((((0 + 1) + m8_) + 1 ≤ bc ∧ ((0 + 4) + m9_) + 0 ≤ bs) ∧ (∀ b12_ : Nat, q_K (qs_P S7_ 204 a0 (some b1_)) b12_ = 0 → (∀ S17_ : q_S, S17_ = (qs_P (qs_R (qs_P S7_ 204 a0 (some b1_)) 21 0 b12_) 213 a0 (some b12_)) → (((((0 + 1) + m8_) + 1) + 1 ≤ bc ∧ (((0 + 4) + m9_) + 0) + 0 ≤ bs) ∧ (∀ b18_ : Nat, q_K S17_ b18_ = 0 → (Q none (qs_P (qs_R S17_ 21 0 b18_) 214 a0 (some b18_)))))))))))))
set_option maxHeartbeats 4000000 in
set_option maxRecDepth 100000 in
theorem cm_X1_init {l : Launch} {D : va_G} {cy : Nat → ClassId} {lo : Nat} {bc bs : Nat} {S : q_S} {a0 : Nat} {Q : Option Value → q_S → Prop} (h : wm_X1_init bc bs S a0 Q) : q_Met l D cy lo yX1_init cX1_init 1 none 2 40 bc bs [.ref a0] S Q := by
  refine q_body (by decide) (by first | exact Nat.le_of_ble_eq_true rfl | simp [lg_sl, q_cat, q_catI, q_catJ, q_catR]) ?_
  intro p e s m below meth c ls X hnm Y hl
  have hx := X.1
  have hb := X.2.1
  have hl : lv_has ls 1 [(0, .ref a0)] := by first | exact hl | simpa [lv_args, q_cat, q_catI, q_catJ, q_catR] using hl
  generalize hargs : ([.ref a0] : List Value).toArray = args at X ⊢
  have hu : 0 ≤ bc ∧ 0 ≤ bs := ⟨Nat.zero_le _, Nat.zero_le _⟩
  unfold wm_X1_init at h
  refine lv_aload_n hx hb dX1_init_0 rfl (lv_at hl 0 rfl) ?_
  refine q_obj X hl ml_X1_3 oi_ oc_ ⟨Nat.le_of_ble_eq_true rfl, (by first | exact Nat.le_of_ble_eq_true rfl | simp [q_cat, q_catI, q_catJ, q_catR])⟩ dX1_init_1 ?_
  refine lv_aload_n hx hb dX1_init_4 rfl (lv_at hl 0 rfl) ?_
  obtain ⟨w4_, h⟩ := h
  refine q_new X Y kX8 tyX8 tyX8_ok dv_X8 cl_X1_9 ib_X8 in_X8 w4_ dX1_init_5 (fun b1_ H h2_ h3_ Y => ?_)
  replace h := h b1_ h2_
  replace hu := w4_
  have k5_ : q_K (qs_O S 8 b1_) b1_ = 9 := qs_O_Ks
  refine lv_dup hx hb dX1_init_8 rfl ?_
  obtain ⟨m8_, m9_, w10_, h⟩ := h
  refine q_callN X Y hl (cm_X8_init h) mt_X8_init mj_X8_init rfl mn_X1_11 rfl rfl (by first | exact Nat.le_of_ble_eq_true rfl | simp [q_cat, q_catI, q_catJ, q_catR]) ⟨Nat.le_of_ble_eq_true rfl, Nat.le_of_ble_eq_true rfl⟩ w10_ dX1_init_9 (fun r6_ S7_ H locs hp Y => ?_)
  obtain ⟨rfl, h⟩ := hp
  replace hu := w10_
  refine W.eq (g2 := F0 m 12 ls [.ref b1_, .ref a0]) rfl ?_
  obtain ⟨k11_, h⟩ := h
  refine q_putP X Y (some b1_) rfl kX1 4 rfl fl_X1_12 k11_ _ rfl (Or.inl ⟨_, rfl⟩) (Or.inr ⟨rfl, hnm, rfl⟩) dX1_init_12 (fun H locs Y => ?_)
  refine lv_aload_n hx hb dX1_init_15 rfl (lv_at hl 0 rfl) ?_
  refine lv_iconst (v := 0) hx hb dX1_init_16 (by decide) ?_
  obtain ⟨w15_, h⟩ := h
  refine q_newa X Y (k := 21) (t := 1) (n := 0) (ty := .int) rfl (by decide) rfl (fun _ _ => rfl) (by first | exact rfl | decide | simp [defaultValue]) ar_int (by decide) (by decide) (by decide) w15_ dX1_init_17 (fun b12_ H h13_ h14_ Y => ?_)
  replace h := h b12_ h13_
  replace hu := w15_
  replace k11_ := qs_R_keep (j := 21) (n := 0) h13_ k11_ (by decide)
  have k16_ : q_K (qs_R (qs_P S7_ 204 a0 (some b1_)) 21 0 b12_) b12_ = 21 := qs_R_Ks
  refine q_putP X Y (some b12_) rfl kX1 13 rfl fl_X1_18 k11_ _ rfl (Or.inr ⟨_, rfl⟩) (Or.inl rfl) dX1_init_19 (fun H locs Y => ?_)
  obtain ⟨S17_, gS17_⟩ : ∃ z : q_S, z = (qs_P (qs_R (qs_P S7_ 204 a0 (some b1_)) 21 0 b12_) 213 a0 (some b12_)) := ⟨_, rfl⟩
  replace Y : q_Y D cy lo s S17_ H locs := by rw [gS17_]; exact Y
  replace h := h S17_ gS17_
  replace k11_ : q_K S17_ a0 = 2 := by rw [gS17_]; exact k11_
  replace k16_ : q_K S17_ b12_ = 21 := by rw [gS17_]; exact k16_
  refine lv_aload_n hx hb dX1_init_22 rfl (lv_at hl 0 rfl) ?_
  refine lv_iconst (v := 0) hx hb dX1_init_23 (by decide) ?_
  obtain ⟨w21_, h⟩ := h
  refine q_newa X Y (k := 21) (t := 1) (n := 0) (ty := .int) rfl (by decide) rfl (fun _ _ => rfl) (by first | exact rfl | decide | simp [defaultValue]) ar_int (by decide) (by decide) (by decide) w21_ dX1_init_24 (fun b18_ H h19_ h20_ Y => ?_)
  replace h := h b18_ h19_
  replace hu := w21_
  replace k11_ := qs_R_keep (j := 21) (n := 0) h19_ k11_ (by decide)
  replace k16_ := qs_R_keep (j := 21) (n := 0) h19_ k16_ (by decide)
  have k22_ : q_K (qs_R S17_ 21 0 b18_) b18_ = 21 := qs_R_Ks
  refine q_putP X Y (some b18_) rfl kX1 14 rfl fl_X1_22 k11_ _ rfl (Or.inr ⟨_, rfl⟩) (Or.inl rfl) dX1_init_26 (fun H locs Y => ?_)
  exact q_vret X Y hu.1 hu.2 h dX1_init_29
-- X1_reset
theorem fl_X1_25 : Cond.fieldLink RX1 25 "PartitionWorks$Channel" "number" "I" ∈ q_G := q_tb (i := 1106) (by decide +kernel) (by decide +kernel)
theorem fl_X1_29 : Cond.fieldLink RX1 29 "PartitionWorks$Channel" "queuing" "Z" ∈ q_G := q_tb (i := 1109) (by decide +kernel) (by decide +kernel)
theorem fl_X1_36 : Cond.fieldLink RX1 36 "PartitionWorks$Channel" "lost" "I" ∈ q_G := q_tb (i := 1127) (by decide +kernel) (by decide +kernel)
theorem fl_X1_39 : Cond.fieldLink RX1 39 "PartitionWorks$Channel" "goals" "I" ∈ q_G := q_tb (i := 1130) (by decide +kernel) (by decide +kernel)
theorem fl_X1_42 : Cond.fieldLink RX1 42 "PartitionWorks$Channel" "outputs" "I" ∈ q_G := q_tb (i := 1133) (by decide +kernel) (by decide +kernel)
theorem fl_X1_45 : Cond.fieldLink RX1 45 "PartitionWorks$Channel" "source" "LPartitionWorks$Partition;" ∈ q_G := q_tb (i := 1135) (by decide +kernel) (by decide +kernel)
theorem fl_X1_49 : Cond.fieldLink RX1 49 "PartitionWorks$Channel" "goal" "LPartitionWorks$Partition;" ∈ q_G := q_tb (i := 1140) (by decide +kernel) (by decide +kernel)
theorem fl_X1_52 : Cond.fieldLink RX1 52 "PartitionWorks$Channel" "inputCount" "I" ∈ q_G := q_tb (i := 1147) (by decide +kernel) (by decide +kernel)
theorem fl_X1_55 : Cond.fieldLink RX1 55 "PartitionWorks$Channel" "nextOne" "I" ∈ q_G := q_tb (i := 1149) (by decide +kernel) (by decide +kernel)
theorem dX1_reset_0 : decode cX1_reset 0 = .ok (.aload_n 0, 1) := by decide +kernel
theorem dX1_reset_1 : decode cX1_reset 1 = .ok (.iload_n 1, 1) := by decide +kernel
theorem dX1_reset_2 : decode cX1_reset 2 = .ok (.putfield 25, 3) := by decide +kernel
theorem dX1_reset_5 : decode cX1_reset 5 = .ok (.aload_n 0, 1) := by decide +kernel
theorem dX1_reset_6 : decode cX1_reset 6 = .ok (.iload_n 2, 1) := by decide +kernel
theorem dX1_reset_7 : decode cX1_reset 7 = .ok (.putfield 29, 3) := by decide +kernel
theorem dX1_reset_10 : decode cX1_reset 10 = .ok (.aload_n 0, 1) := by decide +kernel
theorem dX1_reset_11 : decode cX1_reset 11 = .ok (.iconst (-1), 1) := by decide +kernel
theorem dX1_reset_12 : decode cX1_reset 12 = .ok (.putfield 33, 3) := by decide +kernel
theorem dX1_reset_15 : decode cX1_reset 15 = .ok (.aload_n 0, 1) := by decide +kernel
theorem dX1_reset_16 : decode cX1_reset 16 = .ok (.iconst 0, 1) := by decide +kernel
theorem dX1_reset_17 : decode cX1_reset 17 = .ok (.putfield 36, 3) := by decide +kernel
theorem dX1_reset_20 : decode cX1_reset 20 = .ok (.aload_n 0, 1) := by decide +kernel
theorem dX1_reset_21 : decode cX1_reset 21 = .ok (.iconst 0, 1) := by decide +kernel
theorem dX1_reset_22 : decode cX1_reset 22 = .ok (.putfield 39, 3) := by decide +kernel
theorem dX1_reset_25 : decode cX1_reset 25 = .ok (.aload_n 0, 1) := by decide +kernel
theorem dX1_reset_26 : decode cX1_reset 26 = .ok (.iconst 0, 1) := by decide +kernel
theorem dX1_reset_27 : decode cX1_reset 27 = .ok (.putfield 42, 3) := by decide +kernel
theorem dX1_reset_30 : decode cX1_reset 30 = .ok (.aload_n 0, 1) := by decide +kernel
theorem dX1_reset_31 : decode cX1_reset 31 = .ok (.aconst_null, 1) := by decide +kernel
theorem dX1_reset_32 : decode cX1_reset 32 = .ok (.putfield 45, 3) := by decide +kernel
theorem dX1_reset_35 : decode cX1_reset 35 = .ok (.aload_n 0, 1) := by decide +kernel
theorem dX1_reset_36 : decode cX1_reset 36 = .ok (.aconst_null, 1) := by decide +kernel
theorem dX1_reset_37 : decode cX1_reset 37 = .ok (.putfield 49, 3) := by decide +kernel
theorem dX1_reset_40 : decode cX1_reset 40 = .ok (.aload_n 0, 1) := by decide +kernel
theorem dX1_reset_41 : decode cX1_reset 41 = .ok (.iconst 0, 1) := by decide +kernel
theorem dX1_reset_42 : decode cX1_reset 42 = .ok (.putfield 52, 3) := by decide +kernel
theorem dX1_reset_45 : decode cX1_reset 45 = .ok (.aload_n 0, 1) := by decide +kernel
theorem dX1_reset_46 : decode cX1_reset 46 = .ok (.iconst 0, 1) := by decide +kernel
theorem dX1_reset_47 : decode cX1_reset 47 = .ok (.putfield 55, 3) := by decide +kernel
theorem dX1_reset_50 : decode cX1_reset 50 = .ok (.return_, 1) := by decide +kernel
def wm_X1_reset (S : q_S) (a0 : Nat) (x1 : Int32) (x2 : Int32) (Q : Option Value → q_S → Prop) : Prop := q_K S a0 = 2 ∧ ((narrow .boolean (.int x2) = .int x2 ∧ fits .boolean (.int x2) = true) ∧ (∀ S3_ : q_S, S3_ = (qs_I (qs_I (qs_I S 200 a0 x1) 201 a0 x2) 205 a0 (-1 : Int32)) → (∀ S4_ : q_S, S4_ = (qs_I (qs_I (qs_I S3_ 206 a0 (0 : Int32)) 207 a0 (0 : Int32)) 208 a0 (0 : Int32)) → (∀ S5_ : q_S, S5_ = (qs_I (qs_P (qs_P S4_ 209 a0 none) 211 a0 none) 215 a0 (0 : Int32)) → (Q none (qs_I S5_ 216 a0 (0 : Int32)))))))
set_option maxHeartbeats 4000000 in
set_option maxRecDepth 100000 in
theorem cm_X1_reset {l : Launch} {D : va_G} {cy : Nat → ClassId} {lo : Nat} {S : q_S} {a0 : Nat} {x1 : Int32} {x2 : Int32} {Q : Option Value → q_S → Prop} (h : wm_X1_reset S a0 x1 x2 Q) : q_Met l D cy lo yX1_reset cX1_reset 3 none 0 0 0 0 [.ref a0, .int x1, .int x2] S Q := by
  refine q_body (by decide) (by first | exact Nat.le_of_ble_eq_true rfl | simp [lg_sl, q_cat, q_catI, q_catJ, q_catR]) ?_
  intro p e s m below meth c ls X hnm Y hl
  have hx := X.1
  have hb := X.2.1
  have hl : lv_has ls 3 [(0, .ref a0), (1, .int x1), (2, .int x2)] := by first | exact hl | simpa [lv_args, q_cat, q_catI, q_catJ, q_catR] using hl
  generalize hargs : ([.ref a0, .int x1, .int x2] : List Value).toArray = args at X ⊢
  unfold wm_X1_reset at h
  refine lv_aload_n hx hb dX1_reset_0 rfl (lv_at hl 0 rfl) ?_
  refine lv_iload_n hx hb dX1_reset_1 rfl (lv_at hl 1 rfl) ?_
  obtain ⟨k1_, h⟩ := h
  refine q_putI X Y kX1 0 rfl fl_X1_25 k1_ .int rfl ⟨rfl, rfl⟩ rfl dX1_reset_2 (fun H locs Y => ?_)
  refine lv_aload_n hx hb dX1_reset_5 rfl (lv_at hl 0 rfl) ?_
  refine lv_iload_n hx hb dX1_reset_6 rfl (lv_at hl 2 rfl) ?_
  obtain ⟨v2_, h⟩ := h
  refine q_putI X Y kX1 1 rfl fl_X1_29 k1_ .boolean rfl v2_ rfl dX1_reset_7 (fun H locs Y => ?_)
  refine lv_aload_n hx hb dX1_reset_10 rfl (lv_at hl 0 rfl) ?_
  refine lv_iconst (v := (-1)) hx hb dX1_reset_11 (by decide) ?_
  refine q_putI X Y kX1 5 rfl fl_X1_33 k1_ .int rfl ⟨rfl, rfl⟩ rfl dX1_reset_12 (fun H locs Y => ?_)
  obtain ⟨S3_, gS3_⟩ : ∃ z : q_S, z = (qs_I (qs_I (qs_I S 200 a0 x1) 201 a0 x2) 205 a0 (-1 : Int32)) := ⟨_, rfl⟩
  replace Y : q_Y D cy lo s S3_ H locs := by rw [gS3_]; exact Y
  replace h := h S3_ gS3_
  replace k1_ : q_K S3_ a0 = 2 := by rw [gS3_]; exact k1_
  refine lv_aload_n hx hb dX1_reset_15 rfl (lv_at hl 0 rfl) ?_
  refine lv_iconst (v := 0) hx hb dX1_reset_16 (by decide) ?_
  refine q_putI X Y kX1 6 rfl fl_X1_36 k1_ .int rfl ⟨rfl, rfl⟩ rfl dX1_reset_17 (fun H locs Y => ?_)
  refine lv_aload_n hx hb dX1_reset_20 rfl (lv_at hl 0 rfl) ?_
  refine lv_iconst (v := 0) hx hb dX1_reset_21 (by decide) ?_
  refine q_putI X Y kX1 7 rfl fl_X1_39 k1_ .int rfl ⟨rfl, rfl⟩ rfl dX1_reset_22 (fun H locs Y => ?_)
  refine lv_aload_n hx hb dX1_reset_25 rfl (lv_at hl 0 rfl) ?_
  refine lv_iconst (v := 0) hx hb dX1_reset_26 (by decide) ?_
  refine q_putI X Y kX1 8 rfl fl_X1_42 k1_ .int rfl ⟨rfl, rfl⟩ rfl dX1_reset_27 (fun H locs Y => ?_)
  obtain ⟨S4_, gS4_⟩ : ∃ z : q_S, z = (qs_I (qs_I (qs_I S3_ 206 a0 (0 : Int32)) 207 a0 (0 : Int32)) 208 a0 (0 : Int32)) := ⟨_, rfl⟩
  replace Y : q_Y D cy lo s S4_ H locs := by rw [gS4_]; exact Y
  replace h := h S4_ gS4_
  replace k1_ : q_K S4_ a0 = 2 := by rw [gS4_]; exact k1_
  refine lv_aload_n hx hb dX1_reset_30 rfl (lv_at hl 0 rfl) ?_
  refine lv_null hx hb dX1_reset_31 ?_
  refine W.eq (g2 := F0 m 32 ls [va_rf none, .ref a0]) rfl ?_
  refine q_putP X Y none rfl kX1 9 rfl fl_X1_45 k1_ _ rfl (Or.inl ⟨_, rfl⟩) (Or.inl rfl) dX1_reset_32 (fun H locs Y => ?_)
  refine lv_aload_n hx hb dX1_reset_35 rfl (lv_at hl 0 rfl) ?_
  refine lv_null hx hb dX1_reset_36 ?_
  refine W.eq (g2 := F0 m 37 ls [va_rf none, .ref a0]) rfl ?_
  refine q_putP X Y none rfl kX1 11 rfl fl_X1_49 k1_ _ rfl (Or.inl ⟨_, rfl⟩) (Or.inl rfl) dX1_reset_37 (fun H locs Y => ?_)
  refine lv_aload_n hx hb dX1_reset_40 rfl (lv_at hl 0 rfl) ?_
  refine lv_iconst (v := 0) hx hb dX1_reset_41 (by decide) ?_
  refine q_putI X Y kX1 15 rfl fl_X1_52 k1_ .int rfl ⟨rfl, rfl⟩ rfl dX1_reset_42 (fun H locs Y => ?_)
  obtain ⟨S5_, gS5_⟩ : ∃ z : q_S, z = (qs_I (qs_P (qs_P S4_ 209 a0 none) 211 a0 none) 215 a0 (0 : Int32)) := ⟨_, rfl⟩
  replace Y : q_Y D cy lo s S5_ H locs := by rw [gS5_]; exact Y
  replace h := h S5_ gS5_
  replace k1_ : q_K S5_ a0 = 2 := by rw [gS5_]; exact k1_
  refine lv_aload_n hx hb dX1_reset_45 rfl (lv_at hl 0 rfl) ?_
  refine lv_iconst (v := 0) hx hb dX1_reset_46 (by decide) ?_
  refine q_putI X Y kX1 16 rfl fl_X1_55 k1_ .int rfl ⟨rfl, rfl⟩ rfl dX1_reset_47 (fun H locs Y => ?_)
  exact q_vret X Y (Nat.le_refl _) (Nat.le_refl _) h dX1_reset_50
-- X8_setDepth
theorem ml_X8_23 : Cond.methodLink RX8 23 yX8_empty ∈ q_G := q_tb (i := 1063) (by decide +kernel) (by decide +kernel)
theorem mx_X8_13 : Cond.methodLink RX8 13 Lib.Math.max.name ∈ q_G := q_tb (i := 1062) (by decide +kernel) (by decide +kernel)
theorem mxs_max : Cond.static Lib.Math.max.name ∈ q_G := q_tb (i := 511) (by decide +kernel) (by decide +kernel)
theorem mxi_ : Cond.initialized "java/lang/Math" ∈ q_G := q_tb (i := 14) (by decide +kernel) (by decide +kernel)
theorem mxc_max : Cond.code Lib.Math.max.name Lib.Math.max.code 2 (some .int) ∈ q_G := q_tb (i := 512) (by decide +kernel) (by decide +kernel)
theorem dX8_setDepth_0 : decode cX8_setDepth 0 = .ok (.aload_n 0, 1) := by decide +kernel
theorem dX8_setDepth_1 : decode cX8_setDepth 1 = .ok (.iconst 0, 1) := by decide +kernel
theorem dX8_setDepth_2 : decode cX8_setDepth 2 = .ok (.iload_n 1, 1) := by decide +kernel
theorem dX8_setDepth_3 : decode cX8_setDepth 3 = .ok (.invokestatic 13, 3) := by decide +kernel
theorem dX8_setDepth_6 : decode cX8_setDepth 6 = .ok (.putfield 19, 3) := by decide +kernel
theorem dX8_setDepth_9 : decode cX8_setDepth 9 = .ok (.aload_n 0, 1) := by decide +kernel
theorem dX8_setDepth_10 : decode cX8_setDepth 10 = .ok (.getfield 19, 3) := by decide +kernel
theorem dX8_setDepth_13 : decode cX8_setDepth 13 = .ok (.aload_n 0, 1) := by decide +kernel
theorem dX8_setDepth_14 : decode cX8_setDepth 14 = .ok (.getfield 7, 3) := by decide +kernel
theorem dX8_setDepth_17 : decode cX8_setDepth 17 = .ok (.arraylength, 1) := by decide +kernel
theorem dX8_setDepth_18 : decode cX8_setDepth 18 = .ok (.if_icmp .le 13, 3) := by decide +kernel
theorem dX8_setDepth_21 : decode cX8_setDepth 21 = .ok (.aload_n 0, 1) := by decide +kernel
theorem dX8_setDepth_22 : decode cX8_setDepth 22 = .ok (.aload_n 0, 1) := by decide +kernel
theorem dX8_setDepth_23 : decode cX8_setDepth 23 = .ok (.getfield 19, 3) := by decide +kernel
theorem dX8_setDepth_26 : decode cX8_setDepth 26 = .ok (.newarray .int, 2) := by decide +kernel
theorem dX8_setDepth_28 : decode cX8_setDepth 28 = .ok (.putfield 7, 3) := by decide +kernel
theorem dX8_setDepth_31 : decode cX8_setDepth 31 = .ok (.aload_n 0, 1) := by decide +kernel
theorem dX8_setDepth_32 : decode cX8_setDepth 32 = .ok (.invokevirtual 23, 3) := by decide +kernel
theorem dX8_setDepth_35 : decode cX8_setDepth 35 = .ok (.return_, 1) := by decide +kernel
def wb_X8_setDepth_31 (bc bs : Nat)  (u v : Nat) (S : q_S) (a0 : Nat) (Q : Option Value → q_S → Prop) : Prop := q_K S a0 = 9 ∧ (wm_X8_empty S a0 (fun r2_ S3_ => r2_ = none ∧ (Q none S3_)))
set_option maxHeartbeats 4000000 in
set_option maxRecDepth 100000 in
theorem cb_X8_setDepth_31 {p : Program} {l : Launch} {e : Env} {s : State} {m : MethodId} {args : Array Value} {below : List Frame} {meth : Method} {c : Code} {D : va_G} {cy : Nat → ClassId} {lo : Nat} {bc bs : Nat}  {u v : Nat} {S : q_S} {a0 : Nat} {Q : Option Value → q_S → Prop} {H : Heap} {locs : List Loc} {ls : Array Slot} (X : q_X p s m args meth c RX8 cX8_setDepth 2 none D cy lo)  (hu : u ≤ bc ∧ v ≤ bs) (Y : q_Y D cy lo s S H locs) (hl : lv_has ls 2 [(0, .ref a0)]) (h : wb_X8_setDepth_31 bc bs u v S a0 Q) : W p l e ({ frames := 1, cells := bc, slots := bs, locals := 30 } : Room) s m args below meth c H locs u v (MQ below (q_Q D cy lo Q) args s bc bs (fun q => lo ≤ q)) (F0 m 31 ls []) := by
  have hx := X.1
  have hb := X.2.1
  unfold wb_X8_setDepth_31 at h
  refine lv_aload_n hx hb dX8_setDepth_31 rfl (lv_at hl 0 rfl) ?_
  obtain ⟨k1_, h⟩ := h
  refine q_callV X Y hl (cm_X8_empty h) mt_X8_empty mi_X8_empty ml_X8_23 (ci := 8) rfl k1_ (by decide) rfl rfl (by first | exact Nat.le_of_ble_eq_true rfl | simp [q_cat, q_catI, q_catJ, q_catR]) ⟨Nat.le_of_ble_eq_true rfl, Nat.le_of_ble_eq_true rfl⟩ hu dX8_setDepth_32 (fun r2_ S3_ H locs hp Y => ?_)
  obtain ⟨rfl, h⟩ := hp
  refine W.eq (g2 := F0 m 35 ls []) rfl ?_
  exact q_vret X Y hu.1 hu.2 h dX8_setDepth_35
def wm_X8_setDepth (bc bs : Nat) (S : q_S) (a0 : Nat) (x1 : Int32) (Q : Option Value → q_S → Prop) : Prop := q_K S a0 = 9 ∧ (∃ a5_ : Nat, (q_P (qs_I S 1601 a0 (if (0 : Int32) < x1 then x1 else (0 : Int32))) 1600 a0) = some a5_ ∧ (q_K (qs_I S 1601 a0 (if (0 : Int32) < x1 then x1 else (0 : Int32))) a5_ = 21 ∧ ((((q_I (qs_I S 1601 a0 (if (0 : Int32) < x1 then x1 else (0 : Int32))) 1601 a0) ≤ (nI (q_N (qs_I S 1601 a0 (if (0 : Int32) < x1 then x1 else (0 : Int32))) a5_)) → (wb_X8_setDepth_31 bc bs 0 0 (qs_I S 1601 a0 (if (0 : Int32) < x1 then x1 else (0 : Int32))) a0 Q)) ∧ (¬ (q_I (qs_I S 1601 a0 (if (0 : Int32) < x1 then x1 else (0 : Int32))) 1601 a0) ≤ (nI (q_N (qs_I S 1601 a0 (if (0 : Int32) < x1 then x1 else (0 : Int32))) a5_)) → (∃ n13_ : Nat, (q_I (qs_I S 1601 a0 (if (0 : Int32) < x1 then x1 else (0 : Int32))) 1601 a0) = nI n13_ ∧ n13_ < 1000000 ∧ ((0 + 1 ≤ bc ∧ 0 + n13_ ≤ bs) ∧ (∀ b9_ : Nat, q_K (qs_I S 1601 a0 (if (0 : Int32) < x1 then x1 else (0 : Int32))) b9_ = 0 → (∀ S17_ : q_S, S17_ = (qs_P (qs_R (qs_I S 1601 a0 (if (0 : Int32) < x1 then x1 else (0 : Int32))) 21 n13_ b9_) 1600 a0 (some b9_)) → (wb_X8_setDepth_31 bc bs (0 + 1) (0 + n13_) S17_ a0 Q))))))))))
set_option maxHeartbeats 4000000 in
set_option maxRecDepth 100000 in
theorem cm_X8_setDepth {l : Launch} {D : va_G} {cy : Nat → ClassId} {lo : Nat} {bc bs : Nat} {S : q_S} {a0 : Nat} {x1 : Int32} {Q : Option Value → q_S → Prop} (h : wm_X8_setDepth bc bs S a0 x1 Q) : q_Met l D cy lo yX8_setDepth cX8_setDepth 2 none 1 30 bc bs [.ref a0, .int x1] S Q := by
  refine q_body (by decide) (by first | exact Nat.le_of_ble_eq_true rfl | simp [lg_sl, q_cat, q_catI, q_catJ, q_catR]) ?_
  intro p e s m below meth c ls X hnm Y hl
  have hx := X.1
  have hb := X.2.1
  have hl : lv_has ls 2 [(0, .ref a0), (1, .int x1)] := by first | exact hl | simpa [lv_args, q_cat, q_catI, q_catJ, q_catR] using hl
  generalize hargs : ([.ref a0, .int x1] : List Value).toArray = args at X ⊢
  have hu : 0 ≤ bc ∧ 0 ≤ bs := ⟨Nat.zero_le _, Nat.zero_le _⟩
  unfold wm_X8_setDepth at h
  refine lv_aload_n hx hb dX8_setDepth_0 rfl (lv_at hl 0 rfl) ?_
  refine lv_iconst (v := 0) hx hb dX8_setDepth_1 (by decide) ?_
  refine lv_iload_n hx hb dX8_setDepth_2 rfl (lv_at hl 1 rfl) ?_
  refine va_mmax hx hb (X.2.2.1.trans hl.1.symm) X.2.2.2.1 (X.2.2.2.2.1 _ mx_X8_13) (X.2.2.2.2.1 _ mxs_max) (X.2.2.2.2.1 _ mxi_) (X.2.2.2.2.1 _ mxc_max) (Nat.le_of_ble_eq_true rfl) (by first | exact Nat.le_of_ble_eq_true rfl | simp [q_cat, q_catI, q_catJ, q_catR]) hu.1 hu.2 dX8_setDepth_3 ?_
  obtain ⟨k4_, h⟩ := h
  refine q_putI X Y kX8 1 rfl fl_X8_19 k4_ .int rfl ⟨rfl, rfl⟩ rfl dX8_setDepth_6 (fun H locs Y => ?_)
  refine lv_aload_n hx hb dX8_setDepth_9 rfl (lv_at hl 0 rfl) ?_
  refine q_getI X Y kX8 1 rfl fl_X8_19 k4_ dX8_setDepth_10 ?_
  refine lv_aload_n hx hb dX8_setDepth_13 rfl (lv_at hl 0 rfl) ?_
  refine q_getP X Y kX8 0 rfl fl_X8_7 k4_ rfl dX8_setDepth_14 ?_
  obtain ⟨a5_, e6_, h⟩ := h
  refine q_nn [] e6_ ?_
  obtain ⟨k7_, h⟩ := h
  refine q_alen X Y k7_ (by decide) (t := 1) rfl dX8_setDepth_17 ?_
  refine lv_icmp_le (tgt := 31) hx hb dX8_setDepth_18 (by decide) (fun c8_ => ?_) (fun c8_ => ?_)
  · replace h := h.1 c8_
    exact cb_X8_setDepth_31 X hu Y (lv_sub hl [0] rfl) h
  · replace h := h.2 c8_
    refine lv_aload_n hx hb dX8_setDepth_21 rfl (lv_at hl 0 rfl) ?_
    refine lv_aload_n hx hb dX8_setDepth_22 rfl (lv_at hl 0 rfl) ?_
    refine q_getI X Y kX8 1 rfl fl_X8_19 k4_ dX8_setDepth_23 ?_
    obtain ⟨n13_, e14_, e15_, h⟩ := h
    obtain ⟨w12_, h⟩ := h
    refine q_newa X Y (k := 21) (t := 1) (n := n13_) (ty := .int) rfl (by decide) rfl (fun _ _ => rfl) (by first | exact rfl | decide | simp [defaultValue]) ar_int e14_ e15_ (Nat.le_trans (Nat.mul_le_mul_right _ (Nat.le_of_lt e15_)) (by decide)) w12_ dX8_setDepth_26 (fun b9_ H h10_ h11_ Y => ?_)
    replace h := h b9_ h10_
    replace hu := w12_
    replace k4_ := qs_R_keep (j := 21) (n := n13_) h10_ k4_ (by decide)
    replace k7_ := qs_R_keep (j := 21) (n := n13_) h10_ k7_ (by decide)
    have k16_ : q_K (qs_R (qs_I S 1601 a0 (if (0 : Int32) < x1 then x1 else (0 : Int32))) 21 n13_ b9_) b9_ = 21 := qs_R_Ks
    refine q_putP X Y (some b9_) rfl kX8 0 rfl fl_X8_7 k4_ _ rfl (Or.inr ⟨_, rfl⟩) (Or.inl rfl) dX8_setDepth_28 (fun H locs Y => ?_)
    obtain ⟨S17_, gS17_⟩ : ∃ z : q_S, z = (qs_P (qs_R (qs_I S 1601 a0 (if (0 : Int32) < x1 then x1 else (0 : Int32))) 21 n13_ b9_) 1600 a0 (some b9_)) := ⟨_, rfl⟩
    replace Y : q_Y D cy lo s S17_ H locs := by rw [gS17_]; exact Y
    replace h := h S17_ gS17_
    replace k4_ : q_K S17_ a0 = 9 := by rw [gS17_]; exact k4_
    replace k7_ : q_K S17_ a5_ = 21 := by rw [gS17_]; exact k7_
    replace k16_ : q_K S17_ b9_ = 21 := by rw [gS17_]; exact k16_
    exact cb_X8_setDepth_31 X hu Y (lv_sub hl [0] rfl) h
-- X1_setLimit
theorem ml_X1_61 : Cond.methodLink RX1 61 yX8_setDepth ∈ q_G := q_tb (i := 1193) (by decide +kernel) (by decide +kernel)
theorem mt_X8_setDepth : q_Mt yX8_setDepth cX8_setDepth 2 none 1 := ⟨q_tb (i := 1061) (by decide +kernel) (by decide +kernel), q_tb (i := 24) (by decide +kernel) (by decide +kernel), by decide +kernel, by decide +kernel, by decide +kernel⟩
theorem mi_X8_setDepth : Cond.instanceMethod yX8_setDepth ∈ q_G ∧ Cond.selects yX8_setDepth.cls yX8_setDepth yX8_setDepth ∈ q_G := ⟨q_tb (i := 1059) (by decide +kernel) (by decide +kernel), q_tb (i := 1060) (by decide +kernel) (by decide +kernel)⟩
theorem fl_X1_58 : Cond.fieldLink RX1 58 "PartitionWorks$Channel" "limit" "I" ∈ q_G := q_tb (i := 1117) (by decide +kernel) (by decide +kernel)
theorem dX1_setLimit_0 : decode cX1_setLimit 0 = .ok (.aload_n 0, 1) := by decide +kernel
theorem dX1_setLimit_1 : decode cX1_setLimit 1 = .ok (.iload_n 1, 1) := by decide +kernel
theorem dX1_setLimit_2 : decode cX1_setLimit 2 = .ok (.putfield 58, 3) := by decide +kernel
theorem dX1_setLimit_5 : decode cX1_setLimit 5 = .ok (.aload_n 0, 1) := by decide +kernel
theorem dX1_setLimit_6 : decode cX1_setLimit 6 = .ok (.getfield 12, 3) := by decide +kernel
theorem dX1_setLimit_9 : decode cX1_setLimit 9 = .ok (.aload_n 0, 1) := by decide +kernel
theorem dX1_setLimit_10 : decode cX1_setLimit 10 = .ok (.getfield 29, 3) := by decide +kernel
theorem dX1_setLimit_13 : decode cX1_setLimit 13 = .ok (.ifCond .eq 7, 3) := by decide +kernel
theorem dX1_setLimit_16 : decode cX1_setLimit 16 = .ok (.iload_n 1, 1) := by decide +kernel
theorem dX1_setLimit_17 : decode cX1_setLimit 17 = .ok (.goto 4, 3) := by decide +kernel
theorem dX1_setLimit_20 : decode cX1_setLimit 20 = .ok (.iconst 1, 1) := by decide +kernel
theorem dX1_setLimit_21 : decode cX1_setLimit 21 = .ok (.invokevirtual 61, 3) := by decide +kernel
theorem dX1_setLimit_24 : decode cX1_setLimit 24 = .ok (.return_, 1) := by decide +kernel
def wb_X1_setLimit_21 (bc bs : Nat)  (u v : Nat) (S : q_S) (rs0 : Option Nat) (xs1 : Int32) (Q : Option Value → q_S → Prop) : Prop := ∃ a1_ : Nat, rs0 = some a1_ ∧ (q_K S a1_ = 9 ∧ (∃ m6_ m7_ : Nat, (u + m6_ ≤ bc ∧ v + m7_ ≤ bs) ∧ (wm_X8_setDepth m6_ m7_ S a1_ xs1 (fun r4_ S5_ => r4_ = none ∧ (Q none S5_)))))
set_option maxHeartbeats 4000000 in
set_option maxRecDepth 100000 in
theorem cb_X1_setLimit_21 {p : Program} {l : Launch} {e : Env} {s : State} {m : MethodId} {args : Array Value} {below : List Frame} {meth : Method} {c : Code} {D : va_G} {cy : Nat → ClassId} {lo : Nat} {bc bs : Nat}  {u v : Nat} {S : q_S} {rs0 : Option Nat} {xs1 : Int32} {Q : Option Value → q_S → Prop} {H : Heap} {locs : List Loc} {ls : Array Slot} (X : q_X p s m args meth c RX1 cX1_setLimit 2 none D cy lo)  (hu : u ≤ bc ∧ v ≤ bs) (Y : q_Y D cy lo s S H locs) (hl : lv_has ls 2 []) (h : wb_X1_setLimit_21 bc bs u v S rs0 xs1 Q) : W p l e ({ frames := 2, cells := bc, slots := bs, locals := 51 } : Room) s m args below meth c H locs u v (MQ below (q_Q D cy lo Q) args s bc bs (fun q => lo ≤ q)) (F0 m 21 ls [.int xs1, va_rf rs0]) := by
  have hx := X.1
  have hb := X.2.1
  unfold wb_X1_setLimit_21 at h
  obtain ⟨a1_, e2_, h⟩ := h
  refine q_nn [.int xs1] e2_ ?_
  obtain ⟨k3_, h⟩ := h
  obtain ⟨m6_, m7_, w8_, h⟩ := h
  refine q_callV X Y hl (cm_X8_setDepth h) mt_X8_setDepth mi_X8_setDepth ml_X1_61 (ci := 8) rfl k3_ (by decide) rfl rfl (by first | exact Nat.le_of_ble_eq_true rfl | simp [q_cat, q_catI, q_catJ, q_catR]) ⟨Nat.le_of_ble_eq_true rfl, Nat.le_of_ble_eq_true rfl⟩ w8_ dX1_setLimit_21 (fun r4_ S5_ H locs hp Y => ?_)
  obtain ⟨rfl, h⟩ := hp
  replace hu := w8_
  refine W.eq (g2 := F0 m 24 ls []) rfl ?_
  exact q_vret X Y hu.1 hu.2 h dX1_setLimit_24
def wm_X1_setLimit (bc bs : Nat) (S : q_S) (a0 : Nat) (x1 : Int32) (Q : Option Value → q_S → Prop) : Prop := q_K S a0 = 2 ∧ ((((q_I (qs_I S 203 a0 x1) 201 a0) = 0 → (wb_X1_setLimit_21 bc bs 0 0 (qs_I S 203 a0 x1) (q_P (qs_I S 203 a0 x1) 204 a0) (1 : Int32) Q)) ∧ (¬ (q_I (qs_I S 203 a0 x1) 201 a0) = 0 → (wb_X1_setLimit_21 bc bs 0 0 (qs_I S 203 a0 x1) (q_P (qs_I S 203 a0 x1) 204 a0) x1 Q))))
set_option maxHeartbeats 4000000 in
set_option maxRecDepth 100000 in
theorem cm_X1_setLimit {l : Launch} {D : va_G} {cy : Nat → ClassId} {lo : Nat} {bc bs : Nat} {S : q_S} {a0 : Nat} {x1 : Int32} {Q : Option Value → q_S → Prop} (h : wm_X1_setLimit bc bs S a0 x1 Q) : q_Met l D cy lo yX1_setLimit cX1_setLimit 2 none 2 51 bc bs [.ref a0, .int x1] S Q := by
  refine q_body (by decide) (by first | exact Nat.le_of_ble_eq_true rfl | simp [lg_sl, q_cat, q_catI, q_catJ, q_catR]) ?_
  intro p e s m below meth c ls X hnm Y hl
  have hx := X.1
  have hb := X.2.1
  have hl : lv_has ls 2 [(0, .ref a0), (1, .int x1)] := by first | exact hl | simpa [lv_args, q_cat, q_catI, q_catJ, q_catR] using hl
  generalize hargs : ([.ref a0, .int x1] : List Value).toArray = args at X ⊢
  have hu : 0 ≤ bc ∧ 0 ≤ bs := ⟨Nat.zero_le _, Nat.zero_le _⟩
  unfold wm_X1_setLimit at h
  refine lv_aload_n hx hb dX1_setLimit_0 rfl (lv_at hl 0 rfl) ?_
  refine lv_iload_n hx hb dX1_setLimit_1 rfl (lv_at hl 1 rfl) ?_
  obtain ⟨k9_, h⟩ := h
  refine q_putI X Y kX1 3 rfl fl_X1_58 k9_ .int rfl ⟨rfl, rfl⟩ rfl dX1_setLimit_2 (fun H locs Y => ?_)
  refine lv_aload_n hx hb dX1_setLimit_5 rfl (lv_at hl 0 rfl) ?_
  refine q_getP X Y kX1 4 rfl fl_X1_12 k9_ rfl dX1_setLimit_6 ?_
  refine lv_aload_n hx hb dX1_setLimit_9 rfl (lv_at hl 0 rfl) ?_
  refine q_getI X Y kX1 1 rfl fl_X1_29 k9_ dX1_setLimit_10 ?_
  refine lv_if_eq (tgt := 20) hx hb dX1_setLimit_13 (by decide) (fun c10_ => ?_) (fun c10_ => ?_)
  · replace h := h.1 c10_
    refine lv_iconst (v := 1) hx hb dX1_setLimit_20 (by decide) ?_
    exact cb_X1_setLimit_21 X hu Y (lv_sub hl [] rfl) h
  · replace h := h.2 c10_
    refine lv_iload_n hx hb dX1_setLimit_16 rfl (lv_at hl 1 rfl) ?_
    refine lv_goto (tgt := 21) hx hb dX1_setLimit_17 (by decide) ?_
    exact cb_X1_setLimit_21 X hu Y (lv_sub hl [] rfl) h
-- X1_latestInput
theorem dX1_latestInput_0 : decode cX1_latestInput 0 = .ok (.aload_n 0, 1) := by decide +kernel
theorem dX1_latestInput_1 : decode cX1_latestInput 1 = .ok (.getfield 52, 3) := by decide +kernel
theorem dX1_latestInput_4 : decode cX1_latestInput 4 = .ok (.ifCond .le 15, 3) := by decide +kernel
theorem dX1_latestInput_7 : decode cX1_latestInput 7 = .ok (.aload_n 0, 1) := by decide +kernel
theorem dX1_latestInput_8 : decode cX1_latestInput 8 = .ok (.getfield 52, 3) := by decide +kernel
theorem dX1_latestInput_11 : decode cX1_latestInput 11 = .ok (.aload_n 0, 1) := by decide +kernel
theorem dX1_latestInput_12 : decode cX1_latestInput 12 = .ok (.getfield 18, 3) := by decide +kernel
theorem dX1_latestInput_15 : decode cX1_latestInput 15 = .ok (.arraylength, 1) := by decide +kernel
theorem dX1_latestInput_16 : decode cX1_latestInput 16 = .ok (.if_icmp .le 7, 3) := by decide +kernel
theorem dX1_latestInput_19 : decode cX1_latestInput 19 = .ok (.iconst (-1), 1) := by decide +kernel
theorem dX1_latestInput_20 : decode cX1_latestInput 20 = .ok (.goto 14, 3) := by decide +kernel
theorem dX1_latestInput_23 : decode cX1_latestInput 23 = .ok (.aload_n 0, 1) := by decide +kernel
theorem dX1_latestInput_24 : decode cX1_latestInput 24 = .ok (.getfield 18, 3) := by decide +kernel
theorem dX1_latestInput_27 : decode cX1_latestInput 27 = .ok (.aload_n 0, 1) := by decide +kernel
theorem dX1_latestInput_28 : decode cX1_latestInput 28 = .ok (.getfield 52, 3) := by decide +kernel
theorem dX1_latestInput_31 : decode cX1_latestInput 31 = .ok (.iconst 1, 1) := by decide +kernel
theorem dX1_latestInput_32 : decode cX1_latestInput 32 = .ok (.isub, 1) := by decide +kernel
theorem dX1_latestInput_33 : decode cX1_latestInput 33 = .ok (.iaload, 1) := by decide +kernel
theorem dX1_latestInput_34 : decode cX1_latestInput 34 = .ok (.ireturn, 1) := by decide +kernel
def wb_X1_latestInput_34  (S : q_S) (xs0 : Int32) (Q : Option Value → q_S → Prop) : Prop := Q (some (.int xs0)) S
set_option maxHeartbeats 4000000 in
set_option maxRecDepth 100000 in
theorem cb_X1_latestInput_34 {p : Program} {l : Launch} {e : Env} {s : State} {m : MethodId} {args : Array Value} {below : List Frame} {meth : Method} {c : Code} {D : va_G} {cy : Nat → ClassId} {lo : Nat}  {S : q_S} {xs0 : Int32} {Q : Option Value → q_S → Prop} {H : Heap} {locs : List Loc} {ls : Array Slot} (X : q_X p s m args meth c RX1 cX1_latestInput 1 (some .int) D cy lo)  (Y : q_Y D cy lo s S H locs) (hl : lv_has ls 1 []) (h : wb_X1_latestInput_34 S xs0 Q) : W p l e ({ frames := 0, cells := 0, slots := 0, locals := 0 } : Room) s m args below meth c H locs 0 0 (MQ below (q_Q D cy lo Q) args s 0 0 (fun q => lo ≤ q)) (F0 m 34 ls [.int xs0]) := by
  have hx := X.1
  have hb := X.2.1
  unfold wb_X1_latestInput_34 at h
  exact q_iret X Y rfl (Nat.le_refl _) (Nat.le_refl _) h dX1_latestInput_34
def wb_X1_latestInput_19  (S : q_S) (Q : Option Value → q_S → Prop) : Prop := wb_X1_latestInput_34 S (-1 : Int32) Q
set_option maxHeartbeats 4000000 in
set_option maxRecDepth 100000 in
theorem cb_X1_latestInput_19 {p : Program} {l : Launch} {e : Env} {s : State} {m : MethodId} {args : Array Value} {below : List Frame} {meth : Method} {c : Code} {D : va_G} {cy : Nat → ClassId} {lo : Nat}  {S : q_S} {Q : Option Value → q_S → Prop} {H : Heap} {locs : List Loc} {ls : Array Slot} (X : q_X p s m args meth c RX1 cX1_latestInput 1 (some .int) D cy lo)  (Y : q_Y D cy lo s S H locs) (hl : lv_has ls 1 []) (h : wb_X1_latestInput_19 S Q) : W p l e ({ frames := 0, cells := 0, slots := 0, locals := 0 } : Room) s m args below meth c H locs 0 0 (MQ below (q_Q D cy lo Q) args s 0 0 (fun q => lo ≤ q)) (F0 m 19 ls []) := by
  have hx := X.1
  have hb := X.2.1
  unfold wb_X1_latestInput_19 at h
  refine lv_iconst (v := (-1)) hx hb dX1_latestInput_19 (by decide) ?_
  refine lv_goto (tgt := 34) hx hb dX1_latestInput_20 (by decide) ?_
  exact cb_X1_latestInput_34 X Y (lv_sub hl [] rfl) h
def wm_X1_latestInput (S : q_S) (a0 : Nat) (Q : Option Value → q_S → Prop) : Prop := q_K S a0 = 2 ∧ ((((q_I S 215 a0) ≤ 0 → (wb_X1_latestInput_19 S Q)) ∧ (¬ (q_I S 215 a0) ≤ 0 → (∃ a3_ : Nat, (q_P S 213 a0) = some a3_ ∧ (q_K S a3_ = 21 ∧ ((((q_I S 215 a0) ≤ (nI (q_N S a3_)) → (vp_in ((q_I S 215 a0) - (1 : Int32)) (q_N S a3_) ∧ (wb_X1_latestInput_34 S (q_A S a3_ ((q_I S 215 a0) - (1 : Int32)).toNatClampNeg) Q))) ∧ (¬ (q_I S 215 a0) ≤ (nI (q_N S a3_)) → (wb_X1_latestInput_19 S Q)))))))))
set_option maxHeartbeats 4000000 in
set_option maxRecDepth 100000 in
theorem cm_X1_latestInput {l : Launch} {D : va_G} {cy : Nat → ClassId} {lo : Nat} {S : q_S} {a0 : Nat} {Q : Option Value → q_S → Prop} (h : wm_X1_latestInput S a0 Q) : q_Met l D cy lo yX1_latestInput cX1_latestInput 1 (some .int) 0 0 0 0 [.ref a0] S Q := by
  refine q_body (by decide) (by first | exact Nat.le_of_ble_eq_true rfl | simp [lg_sl, q_cat, q_catI, q_catJ, q_catR]) ?_
  intro p e s m below meth c ls X hnm Y hl
  have hx := X.1
  have hb := X.2.1
  have hl : lv_has ls 1 [(0, .ref a0)] := by first | exact hl | simpa [lv_args, q_cat, q_catI, q_catJ, q_catR] using hl
  generalize hargs : ([.ref a0] : List Value).toArray = args at X ⊢
  unfold wm_X1_latestInput at h
  refine lv_aload_n hx hb dX1_latestInput_0 rfl (lv_at hl 0 rfl) ?_
  obtain ⟨k1_, h⟩ := h
  refine q_getI X Y kX1 15 rfl fl_X1_52 k1_ dX1_latestInput_1 ?_
  refine lv_if_le (tgt := 19) hx hb dX1_latestInput_4 (by decide) (fun c2_ => ?_) (fun c2_ => ?_)
  · replace h := h.1 c2_
    exact cb_X1_latestInput_19 X Y (lv_sub hl [] rfl) h
  · replace h := h.2 c2_
    refine lv_aload_n hx hb dX1_latestInput_7 rfl (lv_at hl 0 rfl) ?_
    refine q_getI X Y kX1 15 rfl fl_X1_52 k1_ dX1_latestInput_8 ?_
    refine lv_aload_n hx hb dX1_latestInput_11 rfl (lv_at hl 0 rfl) ?_
    refine q_getP X Y kX1 13 rfl fl_X1_18 k1_ rfl dX1_latestInput_12 ?_
    obtain ⟨a3_, e4_, h⟩ := h
    refine q_nn [] e4_ ?_
    obtain ⟨k5_, h⟩ := h
    refine q_alen X Y k5_ (by decide) (t := 1) rfl dX1_latestInput_15 ?_
    refine lv_icmp_le (tgt := 23) hx hb dX1_latestInput_16 (by decide) (fun c6_ => ?_) (fun c6_ => ?_)
    · replace h := h.1 c6_
      refine lv_aload_n hx hb dX1_latestInput_23 rfl (lv_at hl 0 rfl) ?_
      refine q_getR X Y kX1 13 rfl fl_X1_18 k1_ e4_ dX1_latestInput_24 ?_
      refine lv_aload_n hx hb dX1_latestInput_27 rfl (lv_at hl 0 rfl) ?_
      refine q_getI X Y kX1 15 rfl fl_X1_52 k1_ dX1_latestInput_28 ?_
      refine lv_iconst (v := 1) hx hb dX1_latestInput_31 (by decide) ?_
      refine lv_isub hx hb dX1_latestInput_32 ?_
      obtain ⟨i7_, h⟩ := h
      refine q_ild X Y k5_ i7_ dX1_latestInput_33 ?_
      exact cb_X1_latestInput_34 X Y (lv_sub hl [] rfl) h
    · replace h := h.2 c6_
      exact cb_X1_latestInput_19 X Y (lv_sub hl [] rfl) h
-- X1_addInput
theorem dX1_addInput_0 : decode cX1_addInput 0 = .ok (.aload_n 0, 1) := by decide +kernel
theorem dX1_addInput_1 : decode cX1_addInput 1 = .ok (.getfield 18, 3) := by decide +kernel
theorem dX1_addInput_4 : decode cX1_addInput 4 = .ok (.arraylength, 1) := by decide +kernel
theorem dX1_addInput_5 : decode cX1_addInput 5 = .ok (.ifCond .ne 19, 3) := by decide +kernel
theorem dX1_addInput_8 : decode cX1_addInput 8 = .ok (.aload_n 0, 1) := by decide +kernel
theorem dX1_addInput_9 : decode cX1_addInput 9 = .ok (.bipush 60, 2) := by decide +kernel
theorem dX1_addInput_11 : decode cX1_addInput 11 = .ok (.newarray .int, 2) := by decide +kernel
theorem dX1_addInput_13 : decode cX1_addInput 13 = .ok (.putfield 18, 3) := by decide +kernel
theorem dX1_addInput_16 : decode cX1_addInput 16 = .ok (.aload_n 0, 1) := by decide +kernel
theorem dX1_addInput_17 : decode cX1_addInput 17 = .ok (.bipush 60, 2) := by decide +kernel
theorem dX1_addInput_19 : decode cX1_addInput 19 = .ok (.newarray .int, 2) := by decide +kernel
theorem dX1_addInput_21 : decode cX1_addInput 21 = .ok (.putfield 22, 3) := by decide +kernel
theorem dX1_addInput_24 : decode cX1_addInput 24 = .ok (.aload_n 0, 1) := by decide +kernel
theorem dX1_addInput_25 : decode cX1_addInput 25 = .ok (.getfield 52, 3) := by decide +kernel
theorem dX1_addInput_28 : decode cX1_addInput 28 = .ok (.bipush 60, 2) := by decide +kernel
theorem dX1_addInput_30 : decode cX1_addInput 30 = .ok (.if_icmp .ge 33, 3) := by decide +kernel
theorem dX1_addInput_33 : decode cX1_addInput 33 = .ok (.aload_n 0, 1) := by decide +kernel
theorem dX1_addInput_34 : decode cX1_addInput 34 = .ok (.getfield 18, 3) := by decide +kernel
theorem dX1_addInput_37 : decode cX1_addInput 37 = .ok (.aload_n 0, 1) := by decide +kernel
theorem dX1_addInput_38 : decode cX1_addInput 38 = .ok (.getfield 52, 3) := by decide +kernel
theorem dX1_addInput_41 : decode cX1_addInput 41 = .ok (.iload_n 1, 1) := by decide +kernel
theorem dX1_addInput_42 : decode cX1_addInput 42 = .ok (.iastore, 1) := by decide +kernel
theorem dX1_addInput_43 : decode cX1_addInput 43 = .ok (.aload_n 0, 1) := by decide +kernel
theorem dX1_addInput_44 : decode cX1_addInput 44 = .ok (.getfield 22, 3) := by decide +kernel
theorem dX1_addInput_47 : decode cX1_addInput 47 = .ok (.aload_n 0, 1) := by decide +kernel
theorem dX1_addInput_48 : decode cX1_addInput 48 = .ok (.getfield 52, 3) := by decide +kernel
theorem dX1_addInput_51 : decode cX1_addInput 51 = .ok (.iload_n 2, 1) := by decide +kernel
theorem dX1_addInput_52 : decode cX1_addInput 52 = .ok (.iastore, 1) := by decide +kernel
theorem dX1_addInput_53 : decode cX1_addInput 53 = .ok (.aload_n 0, 1) := by decide +kernel
theorem dX1_addInput_54 : decode cX1_addInput 54 = .ok (.dup, 1) := by decide +kernel
theorem dX1_addInput_55 : decode cX1_addInput 55 = .ok (.getfield 52, 3) := by decide +kernel
theorem dX1_addInput_58 : decode cX1_addInput 58 = .ok (.iconst 1, 1) := by decide +kernel
theorem dX1_addInput_59 : decode cX1_addInput 59 = .ok (.iadd, 1) := by decide +kernel
theorem dX1_addInput_60 : decode cX1_addInput 60 = .ok (.putfield 52, 3) := by decide +kernel
theorem dX1_addInput_63 : decode cX1_addInput 63 = .ok (.return_, 1) := by decide +kernel
def wb_X1_addInput_63 (bc bs : Nat)  (u v : Nat) (S : q_S) (Q : Option Value → q_S → Prop) : Prop := Q none S
set_option maxHeartbeats 4000000 in
set_option maxRecDepth 100000 in
theorem cb_X1_addInput_63 {p : Program} {l : Launch} {e : Env} {s : State} {m : MethodId} {args : Array Value} {below : List Frame} {meth : Method} {c : Code} {D : va_G} {cy : Nat → ClassId} {lo : Nat} {bc bs : Nat}  {u v : Nat} {S : q_S} {Q : Option Value → q_S → Prop} {H : Heap} {locs : List Loc} {ls : Array Slot} (X : q_X p s m args meth c RX1 cX1_addInput 3 none D cy lo)  (hu : u ≤ bc ∧ v ≤ bs) (Y : q_Y D cy lo s S H locs) (hl : lv_has ls 3 []) (h : wb_X1_addInput_63 bc bs u v S Q) : W p l e ({ frames := 0, cells := bc, slots := bs, locals := 0 } : Room) s m args below meth c H locs u v (MQ below (q_Q D cy lo Q) args s bc bs (fun q => lo ≤ q)) (F0 m 63 ls []) := by
  have hx := X.1
  have hb := X.2.1
  unfold wb_X1_addInput_63 at h
  exact q_vret X Y hu.1 hu.2 h dX1_addInput_63
def wb_X1_addInput_24 (bc bs : Nat)  (u v : Nat) (S : q_S) (a0 : Nat) (x1 : Int32) (x2 : Int32) (Q : Option Value → q_S → Prop) : Prop := q_K S a0 = 2 ∧ ((((60 : Int32) ≤ (q_I S 215 a0) → (wb_X1_addInput_63 bc bs u v S Q)) ∧ (¬ (60 : Int32) ≤ (q_I S 215 a0) → (∃ a3_ : Nat, (q_P S 213 a0) = some a3_ ∧ (q_K S a3_ = 21 ∧ (vp_in (q_I S 215 a0) (q_N S a3_) ∧ (∃ a7_ : Nat, (q_P (qs_A S a3_ (q_I S 215 a0).toNatClampNeg x1) 214 a0) = some a7_ ∧ (q_K (qs_A S a3_ (q_I S 215 a0).toNatClampNeg x1) a7_ = 21 ∧ (vp_in (q_I (qs_A S a3_ (q_I S 215 a0).toNatClampNeg x1) 215 a0) (q_N (qs_A S a3_ (q_I S 215 a0).toNatClampNeg x1) a7_) ∧ (∀ S11_ : q_S, S11_ = (qs_A (qs_A S a3_ (q_I S 215 a0).toNatClampNeg x1) a7_ (q_I (qs_A S a3_ (q_I S 215 a0).toNatClampNeg x1) 215 a0).toNatClampNeg x2) → (wb_X1_addInput_63 bc bs u v (qs_I S11_ 215 a0 ((q_I S11_ 215 a0) + (1 : Int32))) Q)))))))))))
set_option maxHeartbeats 4000000 in
set_option maxRecDepth 100000 in
theorem cb_X1_addInput_24 {p : Program} {l : Launch} {e : Env} {s : State} {m : MethodId} {args : Array Value} {below : List Frame} {meth : Method} {c : Code} {D : va_G} {cy : Nat → ClassId} {lo : Nat} {bc bs : Nat}  {u v : Nat} {S : q_S} {a0 : Nat} {x1 : Int32} {x2 : Int32} {Q : Option Value → q_S → Prop} {H : Heap} {locs : List Loc} {ls : Array Slot} (X : q_X p s m args meth c RX1 cX1_addInput 3 none D cy lo)  (hu : u ≤ bc ∧ v ≤ bs) (Y : q_Y D cy lo s S H locs) (hl : lv_has ls 3 [(0, .ref a0), (1, .int x1), (2, .int x2)]) (h : wb_X1_addInput_24 bc bs u v S a0 x1 x2 Q) : W p l e ({ frames := 0, cells := bc, slots := bs, locals := 0 } : Room) s m args below meth c H locs u v (MQ below (q_Q D cy lo Q) args s bc bs (fun q => lo ≤ q)) (F0 m 24 ls []) := by
  have hx := X.1
  have hb := X.2.1
  unfold wb_X1_addInput_24 at h
  refine lv_aload_n hx hb dX1_addInput_24 rfl (lv_at hl 0 rfl) ?_
  obtain ⟨k1_, h⟩ := h
  refine q_getI X Y kX1 15 rfl fl_X1_52 k1_ dX1_addInput_25 ?_
  refine lv_bipush (v := 60) hx hb dX1_addInput_28 (by decide) ?_
  refine lv_icmp_ge (tgt := 63) hx hb dX1_addInput_30 (by decide) (fun c2_ => ?_) (fun c2_ => ?_)
  · replace h := h.1 c2_
    exact cb_X1_addInput_63 X hu Y (lv_sub hl [] rfl) h
  · replace h := h.2 c2_
    refine lv_aload_n hx hb dX1_addInput_33 rfl (lv_at hl 0 rfl) ?_
    refine q_getP X Y kX1 13 rfl fl_X1_18 k1_ rfl dX1_addInput_34 ?_
    refine lv_aload_n hx hb dX1_addInput_37 rfl (lv_at hl 0 rfl) ?_
    refine q_getI X Y kX1 15 rfl fl_X1_52 k1_ dX1_addInput_38 ?_
    refine lv_iload_n hx hb dX1_addInput_41 rfl (lv_at hl 1 rfl) ?_
    obtain ⟨a3_, e4_, h⟩ := h
    refine q_nn [.int x1, .int (q_I S 215 a0)] e4_ ?_
    obtain ⟨k5_, h⟩ := h
    obtain ⟨i6_, h⟩ := h
    refine q_ist X Y k5_ i6_ dX1_addInput_42 (fun H locs Y => ?_)
    refine lv_aload_n hx hb dX1_addInput_43 rfl (lv_at hl 0 rfl) ?_
    refine q_getP X Y kX1 14 rfl fl_X1_22 k1_ rfl dX1_addInput_44 ?_
    refine lv_aload_n hx hb dX1_addInput_47 rfl (lv_at hl 0 rfl) ?_
    refine q_getI X Y kX1 15 rfl fl_X1_52 k1_ dX1_addInput_48 ?_
    refine lv_iload_n hx hb dX1_addInput_51 rfl (lv_at hl 2 rfl) ?_
    obtain ⟨a7_, e8_, h⟩ := h
    refine q_nn [.int x2, .int (q_I (qs_A S a3_ (q_I S 215 a0).toNatClampNeg x1) 215 a0)] e8_ ?_
    obtain ⟨k9_, h⟩ := h
    obtain ⟨i10_, h⟩ := h
    refine q_ist X Y k9_ i10_ dX1_addInput_52 (fun H locs Y => ?_)
    obtain ⟨S11_, gS11_⟩ : ∃ z : q_S, z = (qs_A (qs_A S a3_ (q_I S 215 a0).toNatClampNeg x1) a7_ (q_I (qs_A S a3_ (q_I S 215 a0).toNatClampNeg x1) 215 a0).toNatClampNeg x2) := ⟨_, rfl⟩
    replace Y : q_Y D cy lo s S11_ H locs := by rw [gS11_]; exact Y
    replace h := h S11_ gS11_
    replace k1_ : q_K S11_ a0 = 2 := by rw [gS11_]; exact k1_
    replace k5_ : q_K S11_ a3_ = 21 := by rw [gS11_]; exact k5_
    replace k9_ : q_K S11_ a7_ = 21 := by rw [gS11_]; exact k9_
    refine lv_aload_n hx hb dX1_addInput_53 rfl (lv_at hl 0 rfl) ?_
    refine lv_dup hx hb dX1_addInput_54 rfl ?_
    refine q_getI X Y kX1 15 rfl fl_X1_52 k1_ dX1_addInput_55 ?_
    refine lv_iconst (v := 1) hx hb dX1_addInput_58 (by decide) ?_
    refine lv_iadd hx hb dX1_addInput_59 ?_
    refine q_putI X Y kX1 15 rfl fl_X1_52 k1_ .int rfl ⟨rfl, rfl⟩ rfl dX1_addInput_60 (fun H locs Y => ?_)
    exact cb_X1_addInput_63 X hu Y (lv_sub hl [] rfl) h
def wm_X1_addInput (bc bs : Nat) (S : q_S) (a0 : Nat) (x1 : Int32) (x2 : Int32) (Q : Option Value → q_S → Prop) : Prop := q_K S a0 = 2 ∧ (∃ a13_ : Nat, (q_P S 213 a0) = some a13_ ∧ (q_K S a13_ = 21 ∧ (((¬ (nI (q_N S a13_)) = 0 → (wb_X1_addInput_24 bc bs 0 0 S a0 x1 x2 Q)) ∧ ((nI (q_N S a13_)) = 0 → ((0 + 1 ≤ bc ∧ 0 + 60 ≤ bs) ∧ (∀ b17_ : Nat, q_K S b17_ = 0 → (((0 + 1) + 1 ≤ bc ∧ (0 + 60) + 60 ≤ bs) ∧ (∀ b22_ : Nat, q_K (qs_P (qs_R S 21 60 b17_) 213 a0 (some b17_)) b22_ = 0 → (∀ S27_ : q_S, S27_ = (qs_R (qs_P (qs_R S 21 60 b17_) 213 a0 (some b17_)) 21 60 b22_) → (wb_X1_addInput_24 bc bs ((0 + 1) + 1) ((0 + 60) + 60) (qs_P S27_ 214 a0 (some b22_)) a0 x1 x2 Q)))))))))))
set_option maxHeartbeats 4000000 in
set_option maxRecDepth 100000 in
theorem cm_X1_addInput {l : Launch} {D : va_G} {cy : Nat → ClassId} {lo : Nat} {bc bs : Nat} {S : q_S} {a0 : Nat} {x1 : Int32} {x2 : Int32} {Q : Option Value → q_S → Prop} (h : wm_X1_addInput bc bs S a0 x1 x2 Q) : q_Met l D cy lo yX1_addInput cX1_addInput 3 none 0 0 bc bs [.ref a0, .int x1, .int x2] S Q := by
  refine q_body (by decide) (by first | exact Nat.le_of_ble_eq_true rfl | simp [lg_sl, q_cat, q_catI, q_catJ, q_catR]) ?_
  intro p e s m below meth c ls X hnm Y hl
  have hx := X.1
  have hb := X.2.1
  have hl : lv_has ls 3 [(0, .ref a0), (1, .int x1), (2, .int x2)] := by first | exact hl | simpa [lv_args, q_cat, q_catI, q_catJ, q_catR] using hl
  generalize hargs : ([.ref a0, .int x1, .int x2] : List Value).toArray = args at X ⊢
  have hu : 0 ≤ bc ∧ 0 ≤ bs := ⟨Nat.zero_le _, Nat.zero_le _⟩
  unfold wm_X1_addInput at h
  refine lv_aload_n hx hb dX1_addInput_0 rfl (lv_at hl 0 rfl) ?_
  obtain ⟨k12_, h⟩ := h
  refine q_getP X Y kX1 13 rfl fl_X1_18 k12_ rfl dX1_addInput_1 ?_
  obtain ⟨a13_, e14_, h⟩ := h
  refine q_nn [] e14_ ?_
  obtain ⟨k15_, h⟩ := h
  refine q_alen X Y k15_ (by decide) (t := 1) rfl dX1_addInput_4 ?_
  refine lv_if_ne (tgt := 24) hx hb dX1_addInput_5 (by decide) (fun c16_ => ?_) (fun c16_ => ?_)
  · replace h := h.1 c16_
    exact cb_X1_addInput_24 X hu Y (lv_sub hl [0, 1, 2] rfl) h
  · replace h := h.2 c16_
    refine lv_aload_n hx hb dX1_addInput_8 rfl (lv_at hl 0 rfl) ?_
    refine lv_bipush (v := 60) hx hb dX1_addInput_9 (by decide) ?_
    obtain ⟨w20_, h⟩ := h
    refine q_newa X Y (k := 21) (t := 1) (n := 60) (ty := .int) rfl (by decide) rfl (fun _ _ => rfl) (by first | exact rfl | decide | simp [defaultValue]) ar_int (by decide) (by decide) (by decide) w20_ dX1_addInput_11 (fun b17_ H h18_ h19_ Y => ?_)
    replace h := h b17_ h18_
    replace hu := w20_
    replace k12_ := qs_R_keep (j := 21) (n := 60) h18_ k12_ (by decide)
    replace k15_ := qs_R_keep (j := 21) (n := 60) h18_ k15_ (by decide)
    have k21_ : q_K (qs_R S 21 60 b17_) b17_ = 21 := qs_R_Ks
    refine q_putP X Y (some b17_) rfl kX1 13 rfl fl_X1_18 k12_ _ rfl (Or.inr ⟨_, rfl⟩) (Or.inl rfl) dX1_addInput_13 (fun H locs Y => ?_)
    refine lv_aload_n hx hb dX1_addInput_16 rfl (lv_at hl 0 rfl) ?_
    refine lv_bipush (v := 60) hx hb dX1_addInput_17 (by decide) ?_
    obtain ⟨w25_, h⟩ := h
    refine q_newa X Y (k := 21) (t := 1) (n := 60) (ty := .int) rfl (by decide) rfl (fun _ _ => rfl) (by first | exact rfl | decide | simp [defaultValue]) ar_int (by decide) (by decide) (by decide) w25_ dX1_addInput_19 (fun b22_ H h23_ h24_ Y => ?_)
    replace h := h b22_ h23_
    replace hu := w25_
    replace k12_ := qs_R_keep (j := 21) (n := 60) h23_ k12_ (by decide)
    replace k15_ := qs_R_keep (j := 21) (n := 60) h23_ k15_ (by decide)
    replace k21_ := qs_R_keep (j := 21) (n := 60) h23_ k21_ (by decide)
    have k26_ : q_K (qs_R (qs_P (qs_R S 21 60 b17_) 213 a0 (some b17_)) 21 60 b22_) b22_ = 21 := qs_R_Ks
    obtain ⟨S27_, gS27_⟩ : ∃ z : q_S, z = (qs_R (qs_P (qs_R S 21 60 b17_) 213 a0 (some b17_)) 21 60 b22_) := ⟨_, rfl⟩
    replace Y : q_Y D cy lo s S27_ H locs := by rw [gS27_]; exact Y
    replace h := h S27_ gS27_
    replace k12_ : q_K S27_ a0 = 2 := by rw [gS27_]; exact k12_
    replace k15_ : q_K S27_ a13_ = 21 := by rw [gS27_]; exact k15_
    replace k21_ : q_K S27_ b17_ = 21 := by rw [gS27_]; exact k21_
    replace k26_ : q_K S27_ b22_ = 21 := by rw [gS27_]; exact k26_
    refine q_putP X Y (some b22_) rfl kX1 14 rfl fl_X1_22 k12_ _ rfl (Or.inr ⟨_, rfl⟩) (Or.inl rfl) dX1_addInput_21 (fun H locs Y => ?_)
    exact cb_X1_addInput_24 X hu Y (lv_sub hl [0, 1, 2] rfl) h
-- X1_hasInputAt
theorem dX1_hasInputAt_0 : decode cX1_hasInputAt 0 = .ok (.aload_n 0, 1) := by decide +kernel
theorem dX1_hasInputAt_1 : decode cX1_hasInputAt 1 = .ok (.getfield 55, 3) := by decide +kernel
theorem dX1_hasInputAt_4 : decode cX1_hasInputAt 4 = .ok (.aload_n 0, 1) := by decide +kernel
theorem dX1_hasInputAt_5 : decode cX1_hasInputAt 5 = .ok (.getfield 52, 3) := by decide +kernel
theorem dX1_hasInputAt_8 : decode cX1_hasInputAt 8 = .ok (.if_icmp .ge 20, 3) := by decide +kernel
theorem dX1_hasInputAt_11 : decode cX1_hasInputAt 11 = .ok (.aload_n 0, 1) := by decide +kernel
theorem dX1_hasInputAt_12 : decode cX1_hasInputAt 12 = .ok (.getfield 18, 3) := by decide +kernel
theorem dX1_hasInputAt_15 : decode cX1_hasInputAt 15 = .ok (.aload_n 0, 1) := by decide +kernel
theorem dX1_hasInputAt_16 : decode cX1_hasInputAt 16 = .ok (.getfield 55, 3) := by decide +kernel
theorem dX1_hasInputAt_19 : decode cX1_hasInputAt 19 = .ok (.iaload, 1) := by decide +kernel
theorem dX1_hasInputAt_20 : decode cX1_hasInputAt 20 = .ok (.iload_n 1, 1) := by decide +kernel
theorem dX1_hasInputAt_21 : decode cX1_hasInputAt 21 = .ok (.if_icmp .ne 7, 3) := by decide +kernel
theorem dX1_hasInputAt_24 : decode cX1_hasInputAt 24 = .ok (.iconst 1, 1) := by decide +kernel
theorem dX1_hasInputAt_25 : decode cX1_hasInputAt 25 = .ok (.goto 4, 3) := by decide +kernel
theorem dX1_hasInputAt_28 : decode cX1_hasInputAt 28 = .ok (.iconst 0, 1) := by decide +kernel
theorem dX1_hasInputAt_29 : decode cX1_hasInputAt 29 = .ok (.ireturn, 1) := by decide +kernel
def wb_X1_hasInputAt_29  (S : q_S) (xs0 : Int32) (Q : Option Value → q_S → Prop) : Prop := (narrow .boolean (.int xs0) = .int xs0 ∧ Q (some (.int xs0)) S)
set_option maxHeartbeats 4000000 in
set_option maxRecDepth 100000 in
theorem cb_X1_hasInputAt_29 {p : Program} {l : Launch} {e : Env} {s : State} {m : MethodId} {args : Array Value} {below : List Frame} {meth : Method} {c : Code} {D : va_G} {cy : Nat → ClassId} {lo : Nat}  {S : q_S} {xs0 : Int32} {Q : Option Value → q_S → Prop} {H : Heap} {locs : List Loc} {ls : Array Slot} (X : q_X p s m args meth c RX1 cX1_hasInputAt 2 (some .boolean) D cy lo)  (Y : q_Y D cy lo s S H locs) (hl : lv_has ls 2 []) (h : wb_X1_hasInputAt_29 S xs0 Q) : W p l e ({ frames := 0, cells := 0, slots := 0, locals := 0 } : Room) s m args below meth c H locs 0 0 (MQ below (q_Q D cy lo Q) args s 0 0 (fun q => lo ≤ q)) (F0 m 29 ls [.int xs0]) := by
  have hx := X.1
  have hb := X.2.1
  unfold wb_X1_hasInputAt_29 at h
  exact q_iret X Y h.1 (Nat.le_refl _) (Nat.le_refl _) h.2 dX1_hasInputAt_29
def wb_X1_hasInputAt_28  (S : q_S) (Q : Option Value → q_S → Prop) : Prop := wb_X1_hasInputAt_29 S (0 : Int32) Q
set_option maxHeartbeats 4000000 in
set_option maxRecDepth 100000 in
theorem cb_X1_hasInputAt_28 {p : Program} {l : Launch} {e : Env} {s : State} {m : MethodId} {args : Array Value} {below : List Frame} {meth : Method} {c : Code} {D : va_G} {cy : Nat → ClassId} {lo : Nat}  {S : q_S} {Q : Option Value → q_S → Prop} {H : Heap} {locs : List Loc} {ls : Array Slot} (X : q_X p s m args meth c RX1 cX1_hasInputAt 2 (some .boolean) D cy lo)  (Y : q_Y D cy lo s S H locs) (hl : lv_has ls 2 []) (h : wb_X1_hasInputAt_28 S Q) : W p l e ({ frames := 0, cells := 0, slots := 0, locals := 0 } : Room) s m args below meth c H locs 0 0 (MQ below (q_Q D cy lo Q) args s 0 0 (fun q => lo ≤ q)) (F0 m 28 ls []) := by
  have hx := X.1
  have hb := X.2.1
  unfold wb_X1_hasInputAt_28 at h
  refine lv_iconst (v := 0) hx hb dX1_hasInputAt_28 (by decide) ?_
  exact cb_X1_hasInputAt_29 X Y (lv_sub hl [] rfl) h
def wm_X1_hasInputAt (S : q_S) (a0 : Nat) (x1 : Int32) (Q : Option Value → q_S → Prop) : Prop := q_K S a0 = 2 ∧ ((((q_I S 215 a0) ≤ (q_I S 216 a0) → (wb_X1_hasInputAt_28 S Q)) ∧ (¬ (q_I S 215 a0) ≤ (q_I S 216 a0) → (∃ a3_ : Nat, (q_P S 213 a0) = some a3_ ∧ (q_K S a3_ = 21 ∧ (vp_in (q_I S 216 a0) (q_N S a3_) ∧ (((¬ (q_A S a3_ (q_I S 216 a0).toNatClampNeg) = x1 → (wb_X1_hasInputAt_28 S Q)) ∧ ((q_A S a3_ (q_I S 216 a0).toNatClampNeg) = x1 → (wb_X1_hasInputAt_29 S (1 : Int32) Q))))))))))
set_option maxHeartbeats 4000000 in
set_option maxRecDepth 100000 in
theorem cm_X1_hasInputAt {l : Launch} {D : va_G} {cy : Nat → ClassId} {lo : Nat} {S : q_S} {a0 : Nat} {x1 : Int32} {Q : Option Value → q_S → Prop} (h : wm_X1_hasInputAt S a0 x1 Q) : q_Met l D cy lo yX1_hasInputAt cX1_hasInputAt 2 (some .boolean) 0 0 0 0 [.ref a0, .int x1] S Q := by
  refine q_body (by decide) (by first | exact Nat.le_of_ble_eq_true rfl | simp [lg_sl, q_cat, q_catI, q_catJ, q_catR]) ?_
  intro p e s m below meth c ls X hnm Y hl
  have hx := X.1
  have hb := X.2.1
  have hl : lv_has ls 2 [(0, .ref a0), (1, .int x1)] := by first | exact hl | simpa [lv_args, q_cat, q_catI, q_catJ, q_catR] using hl
  generalize hargs : ([.ref a0, .int x1] : List Value).toArray = args at X ⊢
  unfold wm_X1_hasInputAt at h
  refine lv_aload_n hx hb dX1_hasInputAt_0 rfl (lv_at hl 0 rfl) ?_
  obtain ⟨k1_, h⟩ := h
  refine q_getI X Y kX1 16 rfl fl_X1_55 k1_ dX1_hasInputAt_1 ?_
  refine lv_aload_n hx hb dX1_hasInputAt_4 rfl (lv_at hl 0 rfl) ?_
  refine q_getI X Y kX1 15 rfl fl_X1_52 k1_ dX1_hasInputAt_5 ?_
  refine lv_icmp_ge (tgt := 28) hx hb dX1_hasInputAt_8 (by decide) (fun c2_ => ?_) (fun c2_ => ?_)
  · replace h := h.1 c2_
    exact cb_X1_hasInputAt_28 X Y (lv_sub hl [] rfl) h
  · replace h := h.2 c2_
    refine lv_aload_n hx hb dX1_hasInputAt_11 rfl (lv_at hl 0 rfl) ?_
    refine q_getP X Y kX1 13 rfl fl_X1_18 k1_ rfl dX1_hasInputAt_12 ?_
    refine lv_aload_n hx hb dX1_hasInputAt_15 rfl (lv_at hl 0 rfl) ?_
    refine q_getI X Y kX1 16 rfl fl_X1_55 k1_ dX1_hasInputAt_16 ?_
    obtain ⟨a3_, e4_, h⟩ := h
    refine q_nn [.int (q_I S 216 a0)] e4_ ?_
    obtain ⟨k5_, h⟩ := h
    obtain ⟨i6_, h⟩ := h
    refine q_ild X Y k5_ i6_ dX1_hasInputAt_19 ?_
    refine lv_iload_n hx hb dX1_hasInputAt_20 rfl (lv_at hl 1 rfl) ?_
    refine lv_icmp_ne (tgt := 28) hx hb dX1_hasInputAt_21 (by decide) (fun c7_ => ?_) (fun c7_ => ?_)
    · replace h := h.1 c7_
      exact cb_X1_hasInputAt_28 X Y (lv_sub hl [] rfl) h
    · replace h := h.2 c7_
      refine lv_iconst (v := 1) hx hb dX1_hasInputAt_24 (by decide) ?_
      refine lv_goto (tgt := 29) hx hb dX1_hasInputAt_25 (by decide) ?_
      exact cb_X1_hasInputAt_29 X Y (lv_sub hl [] rfl) h
-- X1_nextInput
theorem dX1_nextInput_0 : decode cX1_nextInput 0 = .ok (.aload_n 0, 1) := by decide +kernel
theorem dX1_nextInput_1 : decode cX1_nextInput 1 = .ok (.getfield 55, 3) := by decide +kernel
theorem dX1_nextInput_4 : decode cX1_nextInput 4 = .ok (.aload_n 0, 1) := by decide +kernel
theorem dX1_nextInput_5 : decode cX1_nextInput 5 = .ok (.getfield 52, 3) := by decide +kernel
theorem dX1_nextInput_8 : decode cX1_nextInput 8 = .ok (.if_icmp .lt 5, 3) := by decide +kernel
theorem dX1_nextInput_11 : decode cX1_nextInput 11 = .ok (.iconst 0, 1) := by decide +kernel
theorem dX1_nextInput_12 : decode cX1_nextInput 12 = .ok (.ireturn, 1) := by decide +kernel
theorem dX1_nextInput_13 : decode cX1_nextInput 13 = .ok (.aload_n 0, 1) := by decide +kernel
theorem dX1_nextInput_14 : decode cX1_nextInput 14 = .ok (.dup, 1) := by decide +kernel
theorem dX1_nextInput_15 : decode cX1_nextInput 15 = .ok (.getfield 55, 3) := by decide +kernel
theorem dX1_nextInput_18 : decode cX1_nextInput 18 = .ok (.iconst 1, 1) := by decide +kernel
theorem dX1_nextInput_19 : decode cX1_nextInput 19 = .ok (.iadd, 1) := by decide +kernel
theorem dX1_nextInput_20 : decode cX1_nextInput 20 = .ok (.putfield 55, 3) := by decide +kernel
theorem dX1_nextInput_23 : decode cX1_nextInput 23 = .ok (.aload_n 0, 1) := by decide +kernel
theorem dX1_nextInput_24 : decode cX1_nextInput 24 = .ok (.getfield 22, 3) := by decide +kernel
theorem dX1_nextInput_27 : decode cX1_nextInput 27 = .ok (.aload_n 0, 1) := by decide +kernel
theorem dX1_nextInput_28 : decode cX1_nextInput 28 = .ok (.getfield 55, 3) := by decide +kernel
theorem dX1_nextInput_31 : decode cX1_nextInput 31 = .ok (.iconst 1, 1) := by decide +kernel
theorem dX1_nextInput_32 : decode cX1_nextInput 32 = .ok (.isub, 1) := by decide +kernel
theorem dX1_nextInput_33 : decode cX1_nextInput 33 = .ok (.iaload, 1) := by decide +kernel
theorem dX1_nextInput_34 : decode cX1_nextInput 34 = .ok (.ireturn, 1) := by decide +kernel
def wm_X1_nextInput (S : q_S) (a0 : Nat) (Q : Option Value → q_S → Prop) : Prop := q_K S a0 = 2 ∧ ((((q_I S 216 a0) < (q_I S 215 a0) → (∃ a3_ : Nat, (q_P (qs_I S 216 a0 ((q_I S 216 a0) + (1 : Int32))) 214 a0) = some a3_ ∧ (q_K (qs_I S 216 a0 ((q_I S 216 a0) + (1 : Int32))) a3_ = 21 ∧ (vp_in ((q_I (qs_I S 216 a0 ((q_I S 216 a0) + (1 : Int32))) 216 a0) - (1 : Int32)) (q_N (qs_I S 216 a0 ((q_I S 216 a0) + (1 : Int32))) a3_) ∧ (Q (some (.int (q_A (qs_I S 216 a0 ((q_I S 216 a0) + (1 : Int32))) a3_ ((q_I (qs_I S 216 a0 ((q_I S 216 a0) + (1 : Int32))) 216 a0) - (1 : Int32)).toNatClampNeg))) (qs_I S 216 a0 ((q_I S 216 a0) + (1 : Int32)))))))) ∧ (¬ (q_I S 216 a0) < (q_I S 215 a0) → (Q (some (.int (0 : Int32))) S))))
set_option maxHeartbeats 4000000 in
set_option maxRecDepth 100000 in
theorem cm_X1_nextInput {l : Launch} {D : va_G} {cy : Nat → ClassId} {lo : Nat} {S : q_S} {a0 : Nat} {Q : Option Value → q_S → Prop} (h : wm_X1_nextInput S a0 Q) : q_Met l D cy lo yX1_nextInput cX1_nextInput 1 (some .int) 0 0 0 0 [.ref a0] S Q := by
  refine q_body (by decide) (by first | exact Nat.le_of_ble_eq_true rfl | simp [lg_sl, q_cat, q_catI, q_catJ, q_catR]) ?_
  intro p e s m below meth c ls X hnm Y hl
  have hx := X.1
  have hb := X.2.1
  have hl : lv_has ls 1 [(0, .ref a0)] := by first | exact hl | simpa [lv_args, q_cat, q_catI, q_catJ, q_catR] using hl
  generalize hargs : ([.ref a0] : List Value).toArray = args at X ⊢
  unfold wm_X1_nextInput at h
  refine lv_aload_n hx hb dX1_nextInput_0 rfl (lv_at hl 0 rfl) ?_
  obtain ⟨k1_, h⟩ := h
  refine q_getI X Y kX1 16 rfl fl_X1_55 k1_ dX1_nextInput_1 ?_
  refine lv_aload_n hx hb dX1_nextInput_4 rfl (lv_at hl 0 rfl) ?_
  refine q_getI X Y kX1 15 rfl fl_X1_52 k1_ dX1_nextInput_5 ?_
  refine lv_icmp_lt (tgt := 13) hx hb dX1_nextInput_8 (by decide) (fun c2_ => ?_) (fun c2_ => ?_)
  · replace h := h.1 c2_
    refine lv_aload_n hx hb dX1_nextInput_13 rfl (lv_at hl 0 rfl) ?_
    refine lv_dup hx hb dX1_nextInput_14 rfl ?_
    refine q_getI X Y kX1 16 rfl fl_X1_55 k1_ dX1_nextInput_15 ?_
    refine lv_iconst (v := 1) hx hb dX1_nextInput_18 (by decide) ?_
    refine lv_iadd hx hb dX1_nextInput_19 ?_
    refine q_putI X Y kX1 16 rfl fl_X1_55 k1_ .int rfl ⟨rfl, rfl⟩ rfl dX1_nextInput_20 (fun H locs Y => ?_)
    refine lv_aload_n hx hb dX1_nextInput_23 rfl (lv_at hl 0 rfl) ?_
    refine q_getP X Y kX1 14 rfl fl_X1_22 k1_ rfl dX1_nextInput_24 ?_
    refine lv_aload_n hx hb dX1_nextInput_27 rfl (lv_at hl 0 rfl) ?_
    refine q_getI X Y kX1 16 rfl fl_X1_55 k1_ dX1_nextInput_28 ?_
    refine lv_iconst (v := 1) hx hb dX1_nextInput_31 (by decide) ?_
    refine lv_isub hx hb dX1_nextInput_32 ?_
    obtain ⟨a3_, e4_, h⟩ := h
    refine q_nn [.int ((q_I (qs_I S 216 a0 ((q_I S 216 a0) + (1 : Int32))) 216 a0) - (1 : Int32))] e4_ ?_
    obtain ⟨k5_, h⟩ := h
    obtain ⟨i6_, h⟩ := h
    refine q_ild X Y k5_ i6_ dX1_nextInput_33 ?_
    exact q_iret X Y rfl (Nat.le_refl _) (Nat.le_refl _) h dX1_nextInput_34
  · replace h := h.2 c2_
    refine lv_iconst (v := 0) hx hb dX1_nextInput_11 (by decide) ?_
    exact q_iret X Y rfl (Nat.le_refl _) (Nat.le_refl _) h dX1_nextInput_12
-- X2_init
theorem ml_X2_3 : Cond.methodLink RX2 3 Lib.objectInit ∈ q_G := q_tb (i := 58) (by decide +kernel) (by decide +kernel)
theorem fl_X2_15 : Cond.fieldLink RX2 15 "PartitionWorks$Journal" "errors" "[I" ∈ q_G := q_tb (i := 60) (by decide +kernel) (by decide +kernel)
theorem dX2_init_0 : decode cX2_init 0 = .ok (.aload_n 0, 1) := by decide +kernel
theorem dX2_init_1 : decode cX2_init 1 = .ok (.invokespecial 3, 3) := by decide +kernel
theorem dX2_init_4 : decode cX2_init 4 = .ok (.aload_n 0, 1) := by decide +kernel
theorem dX2_init_5 : decode cX2_init 5 = .ok (.sipush 900, 3) := by decide +kernel
theorem dX2_init_8 : decode cX2_init 8 = .ok (.newarray .int, 2) := by decide +kernel
theorem dX2_init_10 : decode cX2_init 10 = .ok (.putfield 11, 3) := by decide +kernel
theorem dX2_init_13 : decode cX2_init 13 = .ok (.aload_n 0, 1) := by decide +kernel
theorem dX2_init_14 : decode cX2_init 14 = .ok (.sipush 384, 3) := by decide +kernel
theorem dX2_init_17 : decode cX2_init 17 = .ok (.newarray .int, 2) := by decide +kernel
theorem dX2_init_19 : decode cX2_init 19 = .ok (.putfield 15, 3) := by decide +kernel
theorem dX2_init_22 : decode cX2_init 22 = .ok (.return_, 1) := by decide +kernel
def wm_X2_init (bc bs : Nat) (S : q_S) (a0 : Nat) (Q : Option Value → q_S → Prop) : Prop := (0 + 1 ≤ bc ∧ 0 + 900 ≤ bs) ∧ (∀ b1_ : Nat, q_K S b1_ = 0 → (q_K (qs_R S 21 900 b1_) a0 = 3 ∧ (((0 + 1) + 1 ≤ bc ∧ (0 + 900) + 384 ≤ bs) ∧ (∀ b7_ : Nat, q_K (qs_P (qs_R S 21 900 b1_) 400 a0 (some b1_)) b7_ = 0 → (∀ S12_ : q_S, S12_ = (qs_R (qs_P (qs_R S 21 900 b1_) 400 a0 (some b1_)) 21 384 b7_) → (Q none (qs_P S12_ 401 a0 (some b7_))))))))
set_option maxHeartbeats 4000000 in
set_option maxRecDepth 100000 in
theorem cm_X2_init {l : Launch} {D : va_G} {cy : Nat → ClassId} {lo : Nat} {bc bs : Nat} {S : q_S} {a0 : Nat} {Q : Option Value → q_S → Prop} (h : wm_X2_init bc bs S a0 Q) : q_Met l D cy lo yX2_init cX2_init 1 none 1 20 bc bs [.ref a0] S Q := by
  refine q_body (by decide) (by first | exact Nat.le_of_ble_eq_true rfl | simp [lg_sl, q_cat, q_catI, q_catJ, q_catR]) ?_
  intro p e s m below meth c ls X hnm Y hl
  have hx := X.1
  have hb := X.2.1
  have hl : lv_has ls 1 [(0, .ref a0)] := by first | exact hl | simpa [lv_args, q_cat, q_catI, q_catJ, q_catR] using hl
  generalize hargs : ([.ref a0] : List Value).toArray = args at X ⊢
  have hu : 0 ≤ bc ∧ 0 ≤ bs := ⟨Nat.zero_le _, Nat.zero_le _⟩
  unfold wm_X2_init at h
  refine lv_aload_n hx hb dX2_init_0 rfl (lv_at hl 0 rfl) ?_
  refine q_obj X hl ml_X2_3 oi_ oc_ ⟨Nat.le_of_ble_eq_true rfl, (by first | exact Nat.le_of_ble_eq_true rfl | simp [q_cat, q_catI, q_catJ, q_catR])⟩ dX2_init_1 ?_
  refine lv_aload_n hx hb dX2_init_4 rfl (lv_at hl 0 rfl) ?_
  refine lv_sipush (v := 900) hx hb dX2_init_5 (by decide) ?_
  obtain ⟨w4_, h⟩ := h
  refine q_newa X Y (k := 21) (t := 1) (n := 900) (ty := .int) rfl (by decide) rfl (fun _ _ => rfl) (by first | exact rfl | decide | simp [defaultValue]) ar_int (by decide) (by decide) (by decide) w4_ dX2_init_8 (fun b1_ H h2_ h3_ Y => ?_)
  replace h := h b1_ h2_
  replace hu := w4_
  have k5_ : q_K (qs_R S 21 900 b1_) b1_ = 21 := qs_R_Ks
  obtain ⟨k6_, h⟩ := h
  refine q_putP X Y (some b1_) rfl kX2 0 rfl fl_X2_11 k6_ _ rfl (Or.inr ⟨_, rfl⟩) (Or.inr ⟨rfl, hnm, rfl⟩) dX2_init_10 (fun H locs Y => ?_)
  refine lv_aload_n hx hb dX2_init_13 rfl (lv_at hl 0 rfl) ?_
  refine lv_sipush (v := 384) hx hb dX2_init_14 (by decide) ?_
  obtain ⟨w10_, h⟩ := h
  refine q_newa X Y (k := 21) (t := 1) (n := 384) (ty := .int) rfl (by decide) rfl (fun _ _ => rfl) (by first | exact rfl | decide | simp [defaultValue]) ar_int (by decide) (by decide) (by decide) w10_ dX2_init_17 (fun b7_ H h8_ h9_ Y => ?_)
  replace h := h b7_ h8_
  replace hu := w10_
  replace k5_ := qs_R_keep (j := 21) (n := 384) h8_ k5_ (by decide)
  replace k6_ := qs_R_keep (j := 21) (n := 384) h8_ k6_ (by decide)
  have k11_ : q_K (qs_R (qs_P (qs_R S 21 900 b1_) 400 a0 (some b1_)) 21 384 b7_) b7_ = 21 := qs_R_Ks
  obtain ⟨S12_, gS12_⟩ : ∃ z : q_S, z = (qs_R (qs_P (qs_R S 21 900 b1_) 400 a0 (some b1_)) 21 384 b7_) := ⟨_, rfl⟩
  replace Y : q_Y D cy lo s S12_ H locs := by rw [gS12_]; exact Y
  replace h := h S12_ gS12_
  replace k5_ : q_K S12_ b1_ = 21 := by rw [gS12_]; exact k5_
  replace k6_ : q_K S12_ a0 = 3 := by rw [gS12_]; exact k6_
  replace k11_ : q_K S12_ b7_ = 21 := by rw [gS12_]; exact k11_
  refine q_putP X Y (some b7_) rfl kX2 1 rfl fl_X2_15 k6_ _ rfl (Or.inr ⟨_, rfl⟩) (Or.inr ⟨rfl, hnm, rfl⟩) dX2_init_19 (fun H locs Y => ?_)
  exact q_vret X Y hu.1 hu.2 h dX2_init_22
-- X2_clear
theorem fl_X2_22 : Cond.fieldLink RX2 22 "PartitionWorks$Journal" "errorCount" "I" ∈ q_G := q_tb (i := 63) (by decide +kernel) (by decide +kernel)
theorem dX2_clear_0 : decode cX2_clear 0 = .ok (.aload_n 0, 1) := by decide +kernel
theorem dX2_clear_1 : decode cX2_clear 1 = .ok (.iconst 0, 1) := by decide +kernel
theorem dX2_clear_2 : decode cX2_clear 2 = .ok (.putfield 18, 3) := by decide +kernel
theorem dX2_clear_5 : decode cX2_clear 5 = .ok (.aload_n 0, 1) := by decide +kernel
theorem dX2_clear_6 : decode cX2_clear 6 = .ok (.iconst 0, 1) := by decide +kernel
theorem dX2_clear_7 : decode cX2_clear 7 = .ok (.putfield 22, 3) := by decide +kernel
theorem dX2_clear_10 : decode cX2_clear 10 = .ok (.return_, 1) := by decide +kernel
def wm_X2_clear (S : q_S) (a0 : Nat) (Q : Option Value → q_S → Prop) : Prop := q_K S a0 = 3 ∧ (Q none (qs_I (qs_I S 402 a0 (0 : Int32)) 403 a0 (0 : Int32)))
set_option maxHeartbeats 4000000 in
set_option maxRecDepth 100000 in
theorem cm_X2_clear {l : Launch} {D : va_G} {cy : Nat → ClassId} {lo : Nat} {S : q_S} {a0 : Nat} {Q : Option Value → q_S → Prop} (h : wm_X2_clear S a0 Q) : q_Met l D cy lo yX2_clear cX2_clear 1 none 0 0 0 0 [.ref a0] S Q := by
  refine q_body (by decide) (by first | exact Nat.le_of_ble_eq_true rfl | simp [lg_sl, q_cat, q_catI, q_catJ, q_catR]) ?_
  intro p e s m below meth c ls X hnm Y hl
  have hx := X.1
  have hb := X.2.1
  have hl : lv_has ls 1 [(0, .ref a0)] := by first | exact hl | simpa [lv_args, q_cat, q_catI, q_catJ, q_catR] using hl
  generalize hargs : ([.ref a0] : List Value).toArray = args at X ⊢
  unfold wm_X2_clear at h
  refine lv_aload_n hx hb dX2_clear_0 rfl (lv_at hl 0 rfl) ?_
  refine lv_iconst (v := 0) hx hb dX2_clear_1 (by decide) ?_
  obtain ⟨k1_, h⟩ := h
  refine q_putI X Y kX2 2 rfl fl_X2_18 k1_ .int rfl ⟨rfl, rfl⟩ rfl dX2_clear_2 (fun H locs Y => ?_)
  refine lv_aload_n hx hb dX2_clear_5 rfl (lv_at hl 0 rfl) ?_
  refine lv_iconst (v := 0) hx hb dX2_clear_6 (by decide) ?_
  refine q_putI X Y kX2 3 rfl fl_X2_22 k1_ .int rfl ⟨rfl, rfl⟩ rfl dX2_clear_7 (fun H locs Y => ?_)
  exact q_vret X Y (Nat.le_refl _) (Nat.le_refl _) h dX2_clear_10
-- X2_shown
theorem dX2_shown_0 : decode cX2_shown 0 = .ok (.iload_n 1, 1) := by decide +kernel
theorem dX2_shown_1 : decode cX2_shown 1 = .ok (.ifCond .lt 27, 3) := by decide +kernel
theorem dX2_shown_4 : decode cX2_shown 4 = .ok (.iload_n 1, 1) := by decide +kernel
theorem dX2_shown_5 : decode cX2_shown 5 = .ok (.aload_n 0, 1) := by decide +kernel
theorem dX2_shown_6 : decode cX2_shown 6 = .ok (.getfield 18, 3) := by decide +kernel
theorem dX2_shown_9 : decode cX2_shown 9 = .ok (.if_icmp .ge 19, 3) := by decide +kernel
theorem dX2_shown_12 : decode cX2_shown 12 = .ok (.iload_n 1, 1) := by decide +kernel
theorem dX2_shown_13 : decode cX2_shown 13 = .ok (.sipush 300, 3) := by decide +kernel
theorem dX2_shown_16 : decode cX2_shown 16 = .ok (.if_icmp .ge 12, 3) := by decide +kernel
theorem dX2_shown_19 : decode cX2_shown 19 = .ok (.iload_n 2, 1) := by decide +kernel
theorem dX2_shown_20 : decode cX2_shown 20 = .ok (.ifCond .lt 8, 3) := by decide +kernel
theorem dX2_shown_23 : decode cX2_shown 23 = .ok (.iload_n 2, 1) := by decide +kernel
theorem dX2_shown_24 : decode cX2_shown 24 = .ok (.iconst 3, 1) := by decide +kernel
theorem dX2_shown_25 : decode cX2_shown 25 = .ok (.if_icmp .lt 5, 3) := by decide +kernel
theorem dX2_shown_28 : decode cX2_shown 28 = .ok (.iconst (-1), 1) := by decide +kernel
theorem dX2_shown_29 : decode cX2_shown 29 = .ok (.ireturn, 1) := by decide +kernel
theorem dX2_shown_30 : decode cX2_shown 30 = .ok (.aload_n 0, 1) := by decide +kernel
theorem dX2_shown_31 : decode cX2_shown 31 = .ok (.getfield 11, 3) := by decide +kernel
theorem dX2_shown_34 : decode cX2_shown 34 = .ok (.iload_n 1, 1) := by decide +kernel
theorem dX2_shown_35 : decode cX2_shown 35 = .ok (.iconst 3, 1) := by decide +kernel
theorem dX2_shown_36 : decode cX2_shown 36 = .ok (.imul, 1) := by decide +kernel
theorem dX2_shown_37 : decode cX2_shown 37 = .ok (.iload_n 2, 1) := by decide +kernel
theorem dX2_shown_38 : decode cX2_shown 38 = .ok (.iadd, 1) := by decide +kernel
theorem dX2_shown_39 : decode cX2_shown 39 = .ok (.iaload, 1) := by decide +kernel
theorem dX2_shown_40 : decode cX2_shown 40 = .ok (.ireturn, 1) := by decide +kernel
def wb_X2_shown_28  (S : q_S) (Q : Option Value → q_S → Prop) : Prop := Q (some (.int (-1 : Int32))) S
set_option maxHeartbeats 4000000 in
set_option maxRecDepth 100000 in
theorem cb_X2_shown_28 {p : Program} {l : Launch} {e : Env} {s : State} {m : MethodId} {args : Array Value} {below : List Frame} {meth : Method} {c : Code} {D : va_G} {cy : Nat → ClassId} {lo : Nat}  {S : q_S} {Q : Option Value → q_S → Prop} {H : Heap} {locs : List Loc} {ls : Array Slot} (X : q_X p s m args meth c RX2 cX2_shown 3 (some .int) D cy lo)  (Y : q_Y D cy lo s S H locs) (hl : lv_has ls 3 []) (h : wb_X2_shown_28 S Q) : W p l e ({ frames := 0, cells := 0, slots := 0, locals := 0 } : Room) s m args below meth c H locs 0 0 (MQ below (q_Q D cy lo Q) args s 0 0 (fun q => lo ≤ q)) (F0 m 28 ls []) := by
  have hx := X.1
  have hb := X.2.1
  unfold wb_X2_shown_28 at h
  refine lv_iconst (v := (-1)) hx hb dX2_shown_28 (by decide) ?_
  exact q_iret X Y rfl (Nat.le_refl _) (Nat.le_refl _) h dX2_shown_29
def wm_X2_shown (S : q_S) (a0 : Nat) (x1 : Int32) (x2 : Int32) (Q : Option Value → q_S → Prop) : Prop := ((x1 < 0 → (wb_X2_shown_28 S Q)) ∧ (¬ x1 < 0 → (q_K S a0 = 3 ∧ ((((q_I S 402 a0) ≤ x1 → (wb_X2_shown_28 S Q)) ∧ (¬ (q_I S 402 a0) ≤ x1 → ((((300 : Int32) ≤ x1 → (wb_X2_shown_28 S Q)) ∧ (¬ (300 : Int32) ≤ x1 → (((x2 < 0 → (wb_X2_shown_28 S Q)) ∧ (¬ x2 < 0 → (((x2 < (3 : Int32) → (∃ a7_ : Nat, (q_P S 400 a0) = some a7_ ∧ (q_K S a7_ = 21 ∧ (vp_in ((x1 * (3 : Int32)) + x2) (q_N S a7_) ∧ (Q (some (.int (q_A S a7_ ((x1 * (3 : Int32)) + x2).toNatClampNeg))) S))))) ∧ (¬ x2 < (3 : Int32) → (wb_X2_shown_28 S Q))))))))))))))))
set_option maxHeartbeats 4000000 in
set_option maxRecDepth 100000 in
theorem cm_X2_shown {l : Launch} {D : va_G} {cy : Nat → ClassId} {lo : Nat} {S : q_S} {a0 : Nat} {x1 : Int32} {x2 : Int32} {Q : Option Value → q_S → Prop} (h : wm_X2_shown S a0 x1 x2 Q) : q_Met l D cy lo yX2_shown cX2_shown 3 (some .int) 0 0 0 0 [.ref a0, .int x1, .int x2] S Q := by
  refine q_body (by decide) (by first | exact Nat.le_of_ble_eq_true rfl | simp [lg_sl, q_cat, q_catI, q_catJ, q_catR]) ?_
  intro p e s m below meth c ls X hnm Y hl
  have hx := X.1
  have hb := X.2.1
  have hl : lv_has ls 3 [(0, .ref a0), (1, .int x1), (2, .int x2)] := by first | exact hl | simpa [lv_args, q_cat, q_catI, q_catJ, q_catR] using hl
  generalize hargs : ([.ref a0, .int x1, .int x2] : List Value).toArray = args at X ⊢
  unfold wm_X2_shown at h
  refine lv_iload_n hx hb dX2_shown_0 rfl (lv_at hl 1 rfl) ?_
  refine lv_if_lt (tgt := 28) hx hb dX2_shown_1 (by decide) (fun c1_ => ?_) (fun c1_ => ?_)
  · replace h := h.1 c1_
    exact cb_X2_shown_28 X Y (lv_sub hl [] rfl) h
  · replace h := h.2 c1_
    refine lv_iload_n hx hb dX2_shown_4 rfl (lv_at hl 1 rfl) ?_
    refine lv_aload_n hx hb dX2_shown_5 rfl (lv_at hl 0 rfl) ?_
    obtain ⟨k2_, h⟩ := h
    refine q_getI X Y kX2 2 rfl fl_X2_18 k2_ dX2_shown_6 ?_
    refine lv_icmp_ge (tgt := 28) hx hb dX2_shown_9 (by decide) (fun c3_ => ?_) (fun c3_ => ?_)
    · replace h := h.1 c3_
      exact cb_X2_shown_28 X Y (lv_sub hl [] rfl) h
    · replace h := h.2 c3_
      refine lv_iload_n hx hb dX2_shown_12 rfl (lv_at hl 1 rfl) ?_
      refine lv_sipush (v := 300) hx hb dX2_shown_13 (by decide) ?_
      refine lv_icmp_ge (tgt := 28) hx hb dX2_shown_16 (by decide) (fun c4_ => ?_) (fun c4_ => ?_)
      · replace h := h.1 c4_
        exact cb_X2_shown_28 X Y (lv_sub hl [] rfl) h
      · replace h := h.2 c4_
        refine lv_iload_n hx hb dX2_shown_19 rfl (lv_at hl 2 rfl) ?_
        refine lv_if_lt (tgt := 28) hx hb dX2_shown_20 (by decide) (fun c5_ => ?_) (fun c5_ => ?_)
        · replace h := h.1 c5_
          exact cb_X2_shown_28 X Y (lv_sub hl [] rfl) h
        · replace h := h.2 c5_
          refine lv_iload_n hx hb dX2_shown_23 rfl (lv_at hl 2 rfl) ?_
          refine lv_iconst (v := 3) hx hb dX2_shown_24 (by decide) ?_
          refine lv_icmp_lt (tgt := 30) hx hb dX2_shown_25 (by decide) (fun c6_ => ?_) (fun c6_ => ?_)
          · replace h := h.1 c6_
            refine lv_aload_n hx hb dX2_shown_30 rfl (lv_at hl 0 rfl) ?_
            refine q_getP X Y kX2 0 rfl fl_X2_11 k2_ rfl dX2_shown_31 ?_
            refine lv_iload_n hx hb dX2_shown_34 rfl (lv_at hl 1 rfl) ?_
            refine lv_iconst (v := 3) hx hb dX2_shown_35 (by decide) ?_
            refine lv_imul hx hb dX2_shown_36 ?_
            refine lv_iload_n hx hb dX2_shown_37 rfl (lv_at hl 2 rfl) ?_
            refine lv_iadd hx hb dX2_shown_38 ?_
            obtain ⟨a7_, e8_, h⟩ := h
            refine q_nn [.int ((x1 * (3 : Int32)) + x2)] e8_ ?_
            obtain ⟨k9_, h⟩ := h
            obtain ⟨i10_, h⟩ := h
            refine q_ild X Y k9_ i10_ dX2_shown_39 ?_
            exact q_iret X Y rfl (Nat.le_refl _) (Nat.le_refl _) h dX2_shown_40
          · replace h := h.2 c6_
            exact cb_X2_shown_28 X Y (lv_sub hl [] rfl) h
-- X2_note
theorem dX2_note_0 : decode cX2_note 0 = .ok (.aload_n 0, 1) := by decide +kernel
theorem dX2_note_1 : decode cX2_note 1 = .ok (.getfield 22, 3) := by decide +kernel
theorem dX2_note_4 : decode cX2_note 4 = .ok (.bipush 64, 2) := by decide +kernel
theorem dX2_note_6 : decode cX2_note 6 = .ok (.irem, 1) := by decide +kernel
theorem dX2_note_7 : decode cX2_note 7 = .ok (.bipush 6, 2) := by decide +kernel
theorem dX2_note_9 : decode cX2_note 9 = .ok (.imul, 1) := by decide +kernel
theorem dX2_note_10 : decode cX2_note 10 = .ok (.istore 7, 2) := by decide +kernel
theorem dX2_note_12 : decode cX2_note 12 = .ok (.aload_n 0, 1) := by decide +kernel
theorem dX2_note_13 : decode cX2_note 13 = .ok (.getfield 15, 3) := by decide +kernel
theorem dX2_note_16 : decode cX2_note 16 = .ok (.iload 7, 2) := by decide +kernel
theorem dX2_note_18 : decode cX2_note 18 = .ok (.iload_n 1, 1) := by decide +kernel
theorem dX2_note_19 : decode cX2_note 19 = .ok (.iastore, 1) := by decide +kernel
theorem dX2_note_20 : decode cX2_note 20 = .ok (.aload_n 0, 1) := by decide +kernel
theorem dX2_note_21 : decode cX2_note 21 = .ok (.getfield 15, 3) := by decide +kernel
theorem dX2_note_24 : decode cX2_note 24 = .ok (.iload 7, 2) := by decide +kernel
theorem dX2_note_26 : decode cX2_note 26 = .ok (.iconst 1, 1) := by decide +kernel
theorem dX2_note_27 : decode cX2_note 27 = .ok (.iadd, 1) := by decide +kernel
theorem dX2_note_28 : decode cX2_note 28 = .ok (.iload_n 2, 1) := by decide +kernel
theorem dX2_note_29 : decode cX2_note 29 = .ok (.iastore, 1) := by decide +kernel
theorem dX2_note_30 : decode cX2_note 30 = .ok (.aload_n 0, 1) := by decide +kernel
theorem dX2_note_31 : decode cX2_note 31 = .ok (.getfield 15, 3) := by decide +kernel
theorem dX2_note_34 : decode cX2_note 34 = .ok (.iload 7, 2) := by decide +kernel
theorem dX2_note_36 : decode cX2_note 36 = .ok (.iconst 2, 1) := by decide +kernel
theorem dX2_note_37 : decode cX2_note 37 = .ok (.iadd, 1) := by decide +kernel
theorem dX2_note_38 : decode cX2_note 38 = .ok (.iload_n 3, 1) := by decide +kernel
theorem dX2_note_39 : decode cX2_note 39 = .ok (.iastore, 1) := by decide +kernel
theorem dX2_note_40 : decode cX2_note 40 = .ok (.aload_n 0, 1) := by decide +kernel
theorem dX2_note_41 : decode cX2_note 41 = .ok (.getfield 15, 3) := by decide +kernel
theorem dX2_note_44 : decode cX2_note 44 = .ok (.iload 7, 2) := by decide +kernel
theorem dX2_note_46 : decode cX2_note 46 = .ok (.iconst 3, 1) := by decide +kernel
theorem dX2_note_47 : decode cX2_note 47 = .ok (.iadd, 1) := by decide +kernel
theorem dX2_note_48 : decode cX2_note 48 = .ok (.iload 4, 2) := by decide +kernel
theorem dX2_note_50 : decode cX2_note 50 = .ok (.iastore, 1) := by decide +kernel
theorem dX2_note_51 : decode cX2_note 51 = .ok (.aload_n 0, 1) := by decide +kernel
theorem dX2_note_52 : decode cX2_note 52 = .ok (.getfield 15, 3) := by decide +kernel
theorem dX2_note_55 : decode cX2_note 55 = .ok (.iload 7, 2) := by decide +kernel
theorem dX2_note_57 : decode cX2_note 57 = .ok (.iconst 4, 1) := by decide +kernel
theorem dX2_note_58 : decode cX2_note 58 = .ok (.iadd, 1) := by decide +kernel
theorem dX2_note_59 : decode cX2_note 59 = .ok (.iload 5, 2) := by decide +kernel
theorem dX2_note_61 : decode cX2_note 61 = .ok (.iastore, 1) := by decide +kernel
theorem dX2_note_62 : decode cX2_note 62 = .ok (.aload_n 0, 1) := by decide +kernel
theorem dX2_note_63 : decode cX2_note 63 = .ok (.getfield 15, 3) := by decide +kernel
theorem dX2_note_66 : decode cX2_note 66 = .ok (.iload 7, 2) := by decide +kernel
theorem dX2_note_68 : decode cX2_note 68 = .ok (.iconst 5, 1) := by decide +kernel
theorem dX2_note_69 : decode cX2_note 69 = .ok (.iadd, 1) := by decide +kernel
theorem dX2_note_70 : decode cX2_note 70 = .ok (.iload 6, 2) := by decide +kernel
theorem dX2_note_72 : decode cX2_note 72 = .ok (.iastore, 1) := by decide +kernel
theorem dX2_note_73 : decode cX2_note 73 = .ok (.aload_n 0, 1) := by decide +kernel
theorem dX2_note_74 : decode cX2_note 74 = .ok (.dup, 1) := by decide +kernel
theorem dX2_note_75 : decode cX2_note 75 = .ok (.getfield 22, 3) := by decide +kernel
theorem dX2_note_78 : decode cX2_note 78 = .ok (.iconst 1, 1) := by decide +kernel
theorem dX2_note_79 : decode cX2_note 79 = .ok (.iadd, 1) := by decide +kernel
theorem dX2_note_80 : decode cX2_note 80 = .ok (.putfield 22, 3) := by decide +kernel
theorem dX2_note_83 : decode cX2_note 83 = .ok (.return_, 1) := by decide +kernel
def wm_X2_note (S : q_S) (a0 : Nat) (x1 : Int32) (x2 : Int32) (x3 : Int32) (x4 : Int32) (x5 : Int32) (x6 : Int32) (Q : Option Value → q_S → Prop) : Prop := q_K S a0 = 3 ∧ (∃ a2_ : Nat, (q_P S 401 a0) = some a2_ ∧ (q_K S a2_ = 21 ∧ (vp_in (((q_I S 403 a0) - (q_I S 403 a0) / (64 : Int32) * (64 : Int32)) * (6 : Int32)) (q_N S a2_) ∧ (∃ a6_ : Nat, (q_P (qs_A S a2_ (((q_I S 403 a0) - (q_I S 403 a0) / (64 : Int32) * (64 : Int32)) * (6 : Int32)).toNatClampNeg x1) 401 a0) = some a6_ ∧ (q_K (qs_A S a2_ (((q_I S 403 a0) - (q_I S 403 a0) / (64 : Int32) * (64 : Int32)) * (6 : Int32)).toNatClampNeg x1) a6_ = 21 ∧ (vp_in ((((q_I S 403 a0) - (q_I S 403 a0) / (64 : Int32) * (64 : Int32)) * (6 : Int32)) + (1 : Int32)) (q_N (qs_A S a2_ (((q_I S 403 a0) - (q_I S 403 a0) / (64 : Int32) * (64 : Int32)) * (6 : Int32)).toNatClampNeg x1) a6_) ∧ (∃ a10_ : Nat, (q_P (qs_A (qs_A S a2_ (((q_I S 403 a0) - (q_I S 403 a0) / (64 : Int32) * (64 : Int32)) * (6 : Int32)).toNatClampNeg x1) a6_ ((((q_I S 403 a0) - (q_I S 403 a0) / (64 : Int32) * (64 : Int32)) * (6 : Int32)) + (1 : Int32)).toNatClampNeg x2) 401 a0) = some a10_ ∧ (q_K (qs_A (qs_A S a2_ (((q_I S 403 a0) - (q_I S 403 a0) / (64 : Int32) * (64 : Int32)) * (6 : Int32)).toNatClampNeg x1) a6_ ((((q_I S 403 a0) - (q_I S 403 a0) / (64 : Int32) * (64 : Int32)) * (6 : Int32)) + (1 : Int32)).toNatClampNeg x2) a10_ = 21 ∧ (vp_in ((((q_I S 403 a0) - (q_I S 403 a0) / (64 : Int32) * (64 : Int32)) * (6 : Int32)) + (2 : Int32)) (q_N (qs_A (qs_A S a2_ (((q_I S 403 a0) - (q_I S 403 a0) / (64 : Int32) * (64 : Int32)) * (6 : Int32)).toNatClampNeg x1) a6_ ((((q_I S 403 a0) - (q_I S 403 a0) / (64 : Int32) * (64 : Int32)) * (6 : Int32)) + (1 : Int32)).toNatClampNeg x2) a10_) ∧ (∀ S14_ : q_S, S14_ = (qs_A (qs_A (qs_A S a2_ (((q_I S 403 a0) - (q_I S 403 a0) / (64 : Int32) * (64 : Int32)) * (6 : Int32)).toNatClampNeg x1) a6_ ((((q_I S 403 a0) - (q_I S 403 a0) / (64 : Int32) * (64 : Int32)) * (6 : Int32)) + (1 : Int32)).toNatClampNeg x2) a10_ ((((q_I S 403 a0) - (q_I S 403 a0) / (64 : Int32) * (64 : Int32)) * (6 : Int32)) + (2 : Int32)).toNatClampNeg x3) → (∃ a15_ : Nat, (q_P S14_ 401 a0) = some a15_ ∧ (q_K S14_ a15_ = 21 ∧ (vp_in ((((q_I S 403 a0) - (q_I S 403 a0) / (64 : Int32) * (64 : Int32)) * (6 : Int32)) + (3 : Int32)) (q_N S14_ a15_) ∧ (∃ a19_ : Nat, (q_P (qs_A S14_ a15_ ((((q_I S 403 a0) - (q_I S 403 a0) / (64 : Int32) * (64 : Int32)) * (6 : Int32)) + (3 : Int32)).toNatClampNeg x4) 401 a0) = some a19_ ∧ (q_K (qs_A S14_ a15_ ((((q_I S 403 a0) - (q_I S 403 a0) / (64 : Int32) * (64 : Int32)) * (6 : Int32)) + (3 : Int32)).toNatClampNeg x4) a19_ = 21 ∧ (vp_in ((((q_I S 403 a0) - (q_I S 403 a0) / (64 : Int32) * (64 : Int32)) * (6 : Int32)) + (4 : Int32)) (q_N (qs_A S14_ a15_ ((((q_I S 403 a0) - (q_I S 403 a0) / (64 : Int32) * (64 : Int32)) * (6 : Int32)) + (3 : Int32)).toNatClampNeg x4) a19_) ∧ (∃ a23_ : Nat, (q_P (qs_A (qs_A S14_ a15_ ((((q_I S 403 a0) - (q_I S 403 a0) / (64 : Int32) * (64 : Int32)) * (6 : Int32)) + (3 : Int32)).toNatClampNeg x4) a19_ ((((q_I S 403 a0) - (q_I S 403 a0) / (64 : Int32) * (64 : Int32)) * (6 : Int32)) + (4 : Int32)).toNatClampNeg x5) 401 a0) = some a23_ ∧ (q_K (qs_A (qs_A S14_ a15_ ((((q_I S 403 a0) - (q_I S 403 a0) / (64 : Int32) * (64 : Int32)) * (6 : Int32)) + (3 : Int32)).toNatClampNeg x4) a19_ ((((q_I S 403 a0) - (q_I S 403 a0) / (64 : Int32) * (64 : Int32)) * (6 : Int32)) + (4 : Int32)).toNatClampNeg x5) a23_ = 21 ∧ (vp_in ((((q_I S 403 a0) - (q_I S 403 a0) / (64 : Int32) * (64 : Int32)) * (6 : Int32)) + (5 : Int32)) (q_N (qs_A (qs_A S14_ a15_ ((((q_I S 403 a0) - (q_I S 403 a0) / (64 : Int32) * (64 : Int32)) * (6 : Int32)) + (3 : Int32)).toNatClampNeg x4) a19_ ((((q_I S 403 a0) - (q_I S 403 a0) / (64 : Int32) * (64 : Int32)) * (6 : Int32)) + (4 : Int32)).toNatClampNeg x5) a23_) ∧ (∀ S27_ : q_S, S27_ = (qs_A (qs_A (qs_A S14_ a15_ ((((q_I S 403 a0) - (q_I S 403 a0) / (64 : Int32) * (64 : Int32)) * (6 : Int32)) + (3 : Int32)).toNatClampNeg x4) a19_ ((((q_I S 403 a0) - (q_I S 403 a0) / (64 : Int32) * (64 : Int32)) * (6 : Int32)) + (4 : Int32)).toNatClampNeg x5) a23_ ((((q_I S 403 a0) - (q_I S 403 a0) / (64 : Int32) * (64 : Int32)) * (6 : Int32)) + (5 : Int32)).toNatClampNeg x6) → (Q none (qs_I S27_ 403 a0 ((q_I S27_ 403 a0) + (1 : Int32))))))))))))))))))))))))
set_option maxHeartbeats 4000000 in
set_option maxRecDepth 100000 in
theorem cm_X2_note {l : Launch} {D : va_G} {cy : Nat → ClassId} {lo : Nat} {S : q_S} {a0 : Nat} {x1 : Int32} {x2 : Int32} {x3 : Int32} {x4 : Int32} {x5 : Int32} {x6 : Int32} {Q : Option Value → q_S → Prop} (h : wm_X2_note S a0 x1 x2 x3 x4 x5 x6 Q) : q_Met l D cy lo yX2_note cX2_note 8 none 0 0 0 0 [.ref a0, .int x1, .int x2, .int x3, .int x4, .int x5, .int x6] S Q := by
  refine q_body (by decide) (by first | exact Nat.le_of_ble_eq_true rfl | simp [lg_sl, q_cat, q_catI, q_catJ, q_catR]) ?_
  intro p e s m below meth c ls X hnm Y hl
  have hx := X.1
  have hb := X.2.1
  have hl : lv_has ls 8 [(0, .ref a0), (1, .int x1), (2, .int x2), (3, .int x3), (4, .int x4), (5, .int x5), (6, .int x6)] := by first | exact hl | simpa [lv_args, q_cat, q_catI, q_catJ, q_catR] using hl
  generalize hargs : ([.ref a0, .int x1, .int x2, .int x3, .int x4, .int x5, .int x6] : List Value).toArray = args at X ⊢
  unfold wm_X2_note at h
  refine lv_aload_n hx hb dX2_note_0 rfl (lv_at hl 0 rfl) ?_
  obtain ⟨k1_, h⟩ := h
  refine q_getI X Y kX2 3 rfl fl_X2_22 k1_ dX2_note_1 ?_
  refine lv_bipush (v := 64) hx hb dX2_note_4 (by decide) ?_
  refine lv_irem hx hb dX2_note_6 (by decide) ?_
  refine lv_bipush (v := 6) hx hb dX2_note_7 (by decide) ?_
  refine lv_imul hx hb dX2_note_9 ?_
  refine lv_istore (i := 7) (lv' := [(7, .int (((q_I S 403 a0) - (q_I S 403 a0) / (64 : Int32) * (64 : Int32)) * (6 : Int32))), (0, .ref a0), (1, .int x1), (2, .int x2), (3, .int x3), (4, .int x4), (5, .int x5), (6, .int x6)]) hx hb dX2_note_10 hl (by decide) (by first | rfl | simp [q_cat, q_catI, q_catJ, q_catR]) (fun ls hl => ?_)
  refine lv_aload_n hx hb dX2_note_12 rfl (lv_at hl 1 rfl) ?_
  refine q_getP X Y kX2 1 rfl fl_X2_15 k1_ rfl dX2_note_13 ?_
  refine lv_iload hx hb dX2_note_16 (lv_at hl 0 rfl) ?_
  refine lv_iload_n hx hb dX2_note_18 rfl (lv_at hl 2 rfl) ?_
  obtain ⟨a2_, e3_, h⟩ := h
  refine q_nn [.int x1, .int (((q_I S 403 a0) - (q_I S 403 a0) / (64 : Int32) * (64 : Int32)) * (6 : Int32))] e3_ ?_
  obtain ⟨k4_, h⟩ := h
  obtain ⟨i5_, h⟩ := h
  refine q_ist X Y k4_ i5_ dX2_note_19 (fun H locs Y => ?_)
  refine lv_aload_n hx hb dX2_note_20 rfl (lv_at hl 1 rfl) ?_
  refine q_getP X Y kX2 1 rfl fl_X2_15 k1_ rfl dX2_note_21 ?_
  refine lv_iload hx hb dX2_note_24 (lv_at hl 0 rfl) ?_
  refine lv_iconst (v := 1) hx hb dX2_note_26 (by decide) ?_
  refine lv_iadd hx hb dX2_note_27 ?_
  refine lv_iload_n hx hb dX2_note_28 rfl (lv_at hl 3 rfl) ?_
  obtain ⟨a6_, e7_, h⟩ := h
  refine q_nn [.int x2, .int ((((q_I S 403 a0) - (q_I S 403 a0) / (64 : Int32) * (64 : Int32)) * (6 : Int32)) + (1 : Int32))] e7_ ?_
  obtain ⟨k8_, h⟩ := h
  obtain ⟨i9_, h⟩ := h
  refine q_ist X Y k8_ i9_ dX2_note_29 (fun H locs Y => ?_)
  refine lv_aload_n hx hb dX2_note_30 rfl (lv_at hl 1 rfl) ?_
  refine q_getP X Y kX2 1 rfl fl_X2_15 k1_ rfl dX2_note_31 ?_
  refine lv_iload hx hb dX2_note_34 (lv_at hl 0 rfl) ?_
  refine lv_iconst (v := 2) hx hb dX2_note_36 (by decide) ?_
  refine lv_iadd hx hb dX2_note_37 ?_
  refine lv_iload_n hx hb dX2_note_38 rfl (lv_at hl 4 rfl) ?_
  obtain ⟨a10_, e11_, h⟩ := h
  refine q_nn [.int x3, .int ((((q_I S 403 a0) - (q_I S 403 a0) / (64 : Int32) * (64 : Int32)) * (6 : Int32)) + (2 : Int32))] e11_ ?_
  obtain ⟨k12_, h⟩ := h
  obtain ⟨i13_, h⟩ := h
  refine q_ist X Y k12_ i13_ dX2_note_39 (fun H locs Y => ?_)
  obtain ⟨S14_, gS14_⟩ : ∃ z : q_S, z = (qs_A (qs_A (qs_A S a2_ (((q_I S 403 a0) - (q_I S 403 a0) / (64 : Int32) * (64 : Int32)) * (6 : Int32)).toNatClampNeg x1) a6_ ((((q_I S 403 a0) - (q_I S 403 a0) / (64 : Int32) * (64 : Int32)) * (6 : Int32)) + (1 : Int32)).toNatClampNeg x2) a10_ ((((q_I S 403 a0) - (q_I S 403 a0) / (64 : Int32) * (64 : Int32)) * (6 : Int32)) + (2 : Int32)).toNatClampNeg x3) := ⟨_, rfl⟩
  replace Y : q_Y D cy lo s S14_ H locs := by rw [gS14_]; exact Y
  replace h := h S14_ gS14_
  replace k1_ : q_K S14_ a0 = 3 := by rw [gS14_]; exact k1_
  replace k4_ : q_K S14_ a2_ = 21 := by rw [gS14_]; exact k4_
  replace k8_ : q_K S14_ a6_ = 21 := by rw [gS14_]; exact k8_
  replace k12_ : q_K S14_ a10_ = 21 := by rw [gS14_]; exact k12_
  refine lv_aload_n hx hb dX2_note_40 rfl (lv_at hl 1 rfl) ?_
  refine q_getP X Y kX2 1 rfl fl_X2_15 k1_ rfl dX2_note_41 ?_
  refine lv_iload hx hb dX2_note_44 (lv_at hl 0 rfl) ?_
  refine lv_iconst (v := 3) hx hb dX2_note_46 (by decide) ?_
  refine lv_iadd hx hb dX2_note_47 ?_
  refine lv_iload hx hb dX2_note_48 (lv_at hl 5 rfl) ?_
  obtain ⟨a15_, e16_, h⟩ := h
  refine q_nn [.int x4, .int ((((q_I S 403 a0) - (q_I S 403 a0) / (64 : Int32) * (64 : Int32)) * (6 : Int32)) + (3 : Int32))] e16_ ?_
  obtain ⟨k17_, h⟩ := h
  obtain ⟨i18_, h⟩ := h
  refine q_ist X Y k17_ i18_ dX2_note_50 (fun H locs Y => ?_)
  refine lv_aload_n hx hb dX2_note_51 rfl (lv_at hl 1 rfl) ?_
  refine q_getP X Y kX2 1 rfl fl_X2_15 k1_ rfl dX2_note_52 ?_
  refine lv_iload hx hb dX2_note_55 (lv_at hl 0 rfl) ?_
  refine lv_iconst (v := 4) hx hb dX2_note_57 (by decide) ?_
  refine lv_iadd hx hb dX2_note_58 ?_
  refine lv_iload hx hb dX2_note_59 (lv_at hl 6 rfl) ?_
  obtain ⟨a19_, e20_, h⟩ := h
  refine q_nn [.int x5, .int ((((q_I S 403 a0) - (q_I S 403 a0) / (64 : Int32) * (64 : Int32)) * (6 : Int32)) + (4 : Int32))] e20_ ?_
  obtain ⟨k21_, h⟩ := h
  obtain ⟨i22_, h⟩ := h
  refine q_ist X Y k21_ i22_ dX2_note_61 (fun H locs Y => ?_)
  refine lv_aload_n hx hb dX2_note_62 rfl (lv_at hl 1 rfl) ?_
  refine q_getP X Y kX2 1 rfl fl_X2_15 k1_ rfl dX2_note_63 ?_
  refine lv_iload hx hb dX2_note_66 (lv_at hl 0 rfl) ?_
  refine lv_iconst (v := 5) hx hb dX2_note_68 (by decide) ?_
  refine lv_iadd hx hb dX2_note_69 ?_
  refine lv_iload hx hb dX2_note_70 (lv_at hl 7 rfl) ?_
  obtain ⟨a23_, e24_, h⟩ := h
  refine q_nn [.int x6, .int ((((q_I S 403 a0) - (q_I S 403 a0) / (64 : Int32) * (64 : Int32)) * (6 : Int32)) + (5 : Int32))] e24_ ?_
  obtain ⟨k25_, h⟩ := h
  obtain ⟨i26_, h⟩ := h
  refine q_ist X Y k25_ i26_ dX2_note_72 (fun H locs Y => ?_)
  obtain ⟨S27_, gS27_⟩ : ∃ z : q_S, z = (qs_A (qs_A (qs_A S14_ a15_ ((((q_I S 403 a0) - (q_I S 403 a0) / (64 : Int32) * (64 : Int32)) * (6 : Int32)) + (3 : Int32)).toNatClampNeg x4) a19_ ((((q_I S 403 a0) - (q_I S 403 a0) / (64 : Int32) * (64 : Int32)) * (6 : Int32)) + (4 : Int32)).toNatClampNeg x5) a23_ ((((q_I S 403 a0) - (q_I S 403 a0) / (64 : Int32) * (64 : Int32)) * (6 : Int32)) + (5 : Int32)).toNatClampNeg x6) := ⟨_, rfl⟩
  replace Y : q_Y D cy lo s S27_ H locs := by rw [gS27_]; exact Y
  replace h := h S27_ gS27_
  replace k1_ : q_K S27_ a0 = 3 := by rw [gS27_]; exact k1_
  replace k4_ : q_K S27_ a2_ = 21 := by rw [gS27_]; exact k4_
  replace k8_ : q_K S27_ a6_ = 21 := by rw [gS27_]; exact k8_
  replace k12_ : q_K S27_ a10_ = 21 := by rw [gS27_]; exact k12_
  replace k17_ : q_K S27_ a15_ = 21 := by rw [gS27_]; exact k17_
  replace k21_ : q_K S27_ a19_ = 21 := by rw [gS27_]; exact k21_
  replace k25_ : q_K S27_ a23_ = 21 := by rw [gS27_]; exact k25_
  refine lv_aload_n hx hb dX2_note_73 rfl (lv_at hl 1 rfl) ?_
  refine lv_dup hx hb dX2_note_74 rfl ?_
  refine q_getI X Y kX2 3 rfl fl_X2_22 k1_ dX2_note_75 ?_
  refine lv_iconst (v := 1) hx hb dX2_note_78 (by decide) ?_
  refine lv_iadd hx hb dX2_note_79 ?_
  refine q_putI X Y kX2 3 rfl fl_X2_22 k1_ .int rfl ⟨rfl, rfl⟩ rfl dX2_note_80 (fun H locs Y => ?_)
  exact q_vret X Y (Nat.le_refl _) (Nat.le_refl _) h dX2_note_83
-- X2_noted
theorem dX2_noted_0 : decode cX2_noted 0 = .ok (.iload_n 1, 1) := by decide +kernel
theorem dX2_noted_1 : decode cX2_noted 1 = .ok (.ifCond .lt 27, 3) := by decide +kernel
theorem dX2_noted_4 : decode cX2_noted 4 = .ok (.iload_n 1, 1) := by decide +kernel
theorem dX2_noted_5 : decode cX2_noted 5 = .ok (.aload_n 0, 1) := by decide +kernel
theorem dX2_noted_6 : decode cX2_noted 6 = .ok (.getfield 22, 3) := by decide +kernel
theorem dX2_noted_9 : decode cX2_noted 9 = .ok (.if_icmp .ge 19, 3) := by decide +kernel
theorem dX2_noted_12 : decode cX2_noted 12 = .ok (.iload_n 1, 1) := by decide +kernel
theorem dX2_noted_13 : decode cX2_noted 13 = .ok (.bipush 64, 2) := by decide +kernel
theorem dX2_noted_15 : decode cX2_noted 15 = .ok (.if_icmp .ge 13, 3) := by decide +kernel
theorem dX2_noted_18 : decode cX2_noted 18 = .ok (.iload_n 2, 1) := by decide +kernel
theorem dX2_noted_19 : decode cX2_noted 19 = .ok (.ifCond .lt 9, 3) := by decide +kernel
theorem dX2_noted_22 : decode cX2_noted 22 = .ok (.iload_n 2, 1) := by decide +kernel
theorem dX2_noted_23 : decode cX2_noted 23 = .ok (.bipush 6, 2) := by decide +kernel
theorem dX2_noted_25 : decode cX2_noted 25 = .ok (.if_icmp .lt 5, 3) := by decide +kernel
theorem dX2_noted_28 : decode cX2_noted 28 = .ok (.iconst (-1), 1) := by decide +kernel
theorem dX2_noted_29 : decode cX2_noted 29 = .ok (.ireturn, 1) := by decide +kernel
theorem dX2_noted_30 : decode cX2_noted 30 = .ok (.aload_n 0, 1) := by decide +kernel
theorem dX2_noted_31 : decode cX2_noted 31 = .ok (.getfield 15, 3) := by decide +kernel
theorem dX2_noted_34 : decode cX2_noted 34 = .ok (.aload_n 0, 1) := by decide +kernel
theorem dX2_noted_35 : decode cX2_noted 35 = .ok (.getfield 22, 3) := by decide +kernel
theorem dX2_noted_38 : decode cX2_noted 38 = .ok (.iconst 1, 1) := by decide +kernel
theorem dX2_noted_39 : decode cX2_noted 39 = .ok (.isub, 1) := by decide +kernel
theorem dX2_noted_40 : decode cX2_noted 40 = .ok (.iload_n 1, 1) := by decide +kernel
theorem dX2_noted_41 : decode cX2_noted 41 = .ok (.isub, 1) := by decide +kernel
theorem dX2_noted_42 : decode cX2_noted 42 = .ok (.bipush 64, 2) := by decide +kernel
theorem dX2_noted_44 : decode cX2_noted 44 = .ok (.irem, 1) := by decide +kernel
theorem dX2_noted_45 : decode cX2_noted 45 = .ok (.bipush 6, 2) := by decide +kernel
theorem dX2_noted_47 : decode cX2_noted 47 = .ok (.imul, 1) := by decide +kernel
theorem dX2_noted_48 : decode cX2_noted 48 = .ok (.iload_n 2, 1) := by decide +kernel
theorem dX2_noted_49 : decode cX2_noted 49 = .ok (.iadd, 1) := by decide +kernel
theorem dX2_noted_50 : decode cX2_noted 50 = .ok (.iaload, 1) := by decide +kernel
theorem dX2_noted_51 : decode cX2_noted 51 = .ok (.ireturn, 1) := by decide +kernel
def wb_X2_noted_28  (S : q_S) (Q : Option Value → q_S → Prop) : Prop := Q (some (.int (-1 : Int32))) S
set_option maxHeartbeats 4000000 in
set_option maxRecDepth 100000 in
theorem cb_X2_noted_28 {p : Program} {l : Launch} {e : Env} {s : State} {m : MethodId} {args : Array Value} {below : List Frame} {meth : Method} {c : Code} {D : va_G} {cy : Nat → ClassId} {lo : Nat}  {S : q_S} {Q : Option Value → q_S → Prop} {H : Heap} {locs : List Loc} {ls : Array Slot} (X : q_X p s m args meth c RX2 cX2_noted 3 (some .int) D cy lo)  (Y : q_Y D cy lo s S H locs) (hl : lv_has ls 3 []) (h : wb_X2_noted_28 S Q) : W p l e ({ frames := 0, cells := 0, slots := 0, locals := 0 } : Room) s m args below meth c H locs 0 0 (MQ below (q_Q D cy lo Q) args s 0 0 (fun q => lo ≤ q)) (F0 m 28 ls []) := by
  have hx := X.1
  have hb := X.2.1
  unfold wb_X2_noted_28 at h
  refine lv_iconst (v := (-1)) hx hb dX2_noted_28 (by decide) ?_
  exact q_iret X Y rfl (Nat.le_refl _) (Nat.le_refl _) h dX2_noted_29
def wm_X2_noted (S : q_S) (a0 : Nat) (x1 : Int32) (x2 : Int32) (Q : Option Value → q_S → Prop) : Prop := ((x1 < 0 → (wb_X2_noted_28 S Q)) ∧ (¬ x1 < 0 → (q_K S a0 = 3 ∧ ((((q_I S 403 a0) ≤ x1 → (wb_X2_noted_28 S Q)) ∧ (¬ (q_I S 403 a0) ≤ x1 → ((((64 : Int32) ≤ x1 → (wb_X2_noted_28 S Q)) ∧ (¬ (64 : Int32) ≤ x1 → (((x2 < 0 → (wb_X2_noted_28 S Q)) ∧ (¬ x2 < 0 → (((x2 < (6 : Int32) → (∃ a7_ : Nat, (q_P S 401 a0) = some a7_ ∧ (q_K S a7_ = 21 ∧ (vp_in ((((((q_I S 403 a0) - (1 : Int32)) - x1) - (((q_I S 403 a0) - (1 : Int32)) - x1) / (64 : Int32) * (64 : Int32)) * (6 : Int32)) + x2) (q_N S a7_) ∧ (Q (some (.int (q_A S a7_ ((((((q_I S 403 a0) - (1 : Int32)) - x1) - (((q_I S 403 a0) - (1 : Int32)) - x1) / (64 : Int32) * (64 : Int32)) * (6 : Int32)) + x2).toNatClampNeg))) S))))) ∧ (¬ x2 < (6 : Int32) → (wb_X2_noted_28 S Q))))))))))))))))
set_option maxHeartbeats 4000000 in
set_option maxRecDepth 100000 in
theorem cm_X2_noted {l : Launch} {D : va_G} {cy : Nat → ClassId} {lo : Nat} {S : q_S} {a0 : Nat} {x1 : Int32} {x2 : Int32} {Q : Option Value → q_S → Prop} (h : wm_X2_noted S a0 x1 x2 Q) : q_Met l D cy lo yX2_noted cX2_noted 3 (some .int) 0 0 0 0 [.ref a0, .int x1, .int x2] S Q := by
  refine q_body (by decide) (by first | exact Nat.le_of_ble_eq_true rfl | simp [lg_sl, q_cat, q_catI, q_catJ, q_catR]) ?_
  intro p e s m below meth c ls X hnm Y hl
  have hx := X.1
  have hb := X.2.1
  have hl : lv_has ls 3 [(0, .ref a0), (1, .int x1), (2, .int x2)] := by first | exact hl | simpa [lv_args, q_cat, q_catI, q_catJ, q_catR] using hl
  generalize hargs : ([.ref a0, .int x1, .int x2] : List Value).toArray = args at X ⊢
  unfold wm_X2_noted at h
  refine lv_iload_n hx hb dX2_noted_0 rfl (lv_at hl 1 rfl) ?_
  refine lv_if_lt (tgt := 28) hx hb dX2_noted_1 (by decide) (fun c1_ => ?_) (fun c1_ => ?_)
  · replace h := h.1 c1_
    exact cb_X2_noted_28 X Y (lv_sub hl [] rfl) h
  · replace h := h.2 c1_
    refine lv_iload_n hx hb dX2_noted_4 rfl (lv_at hl 1 rfl) ?_
    refine lv_aload_n hx hb dX2_noted_5 rfl (lv_at hl 0 rfl) ?_
    obtain ⟨k2_, h⟩ := h
    refine q_getI X Y kX2 3 rfl fl_X2_22 k2_ dX2_noted_6 ?_
    refine lv_icmp_ge (tgt := 28) hx hb dX2_noted_9 (by decide) (fun c3_ => ?_) (fun c3_ => ?_)
    · replace h := h.1 c3_
      exact cb_X2_noted_28 X Y (lv_sub hl [] rfl) h
    · replace h := h.2 c3_
      refine lv_iload_n hx hb dX2_noted_12 rfl (lv_at hl 1 rfl) ?_
      refine lv_bipush (v := 64) hx hb dX2_noted_13 (by decide) ?_
      refine lv_icmp_ge (tgt := 28) hx hb dX2_noted_15 (by decide) (fun c4_ => ?_) (fun c4_ => ?_)
      · replace h := h.1 c4_
        exact cb_X2_noted_28 X Y (lv_sub hl [] rfl) h
      · replace h := h.2 c4_
        refine lv_iload_n hx hb dX2_noted_18 rfl (lv_at hl 2 rfl) ?_
        refine lv_if_lt (tgt := 28) hx hb dX2_noted_19 (by decide) (fun c5_ => ?_) (fun c5_ => ?_)
        · replace h := h.1 c5_
          exact cb_X2_noted_28 X Y (lv_sub hl [] rfl) h
        · replace h := h.2 c5_
          refine lv_iload_n hx hb dX2_noted_22 rfl (lv_at hl 2 rfl) ?_
          refine lv_bipush (v := 6) hx hb dX2_noted_23 (by decide) ?_
          refine lv_icmp_lt (tgt := 30) hx hb dX2_noted_25 (by decide) (fun c6_ => ?_) (fun c6_ => ?_)
          · replace h := h.1 c6_
            refine lv_aload_n hx hb dX2_noted_30 rfl (lv_at hl 0 rfl) ?_
            refine q_getP X Y kX2 1 rfl fl_X2_15 k2_ rfl dX2_noted_31 ?_
            refine lv_aload_n hx hb dX2_noted_34 rfl (lv_at hl 0 rfl) ?_
            refine q_getI X Y kX2 3 rfl fl_X2_22 k2_ dX2_noted_35 ?_
            refine lv_iconst (v := 1) hx hb dX2_noted_38 (by decide) ?_
            refine lv_isub hx hb dX2_noted_39 ?_
            refine lv_iload_n hx hb dX2_noted_40 rfl (lv_at hl 1 rfl) ?_
            refine lv_isub hx hb dX2_noted_41 ?_
            refine lv_bipush (v := 64) hx hb dX2_noted_42 (by decide) ?_
            refine lv_irem hx hb dX2_noted_44 (by decide) ?_
            refine lv_bipush (v := 6) hx hb dX2_noted_45 (by decide) ?_
            refine lv_imul hx hb dX2_noted_47 ?_
            refine lv_iload_n hx hb dX2_noted_48 rfl (lv_at hl 2 rfl) ?_
            refine lv_iadd hx hb dX2_noted_49 ?_
            obtain ⟨a7_, e8_, h⟩ := h
            refine q_nn [.int ((((((q_I S 403 a0) - (1 : Int32)) - x1) - (((q_I S 403 a0) - (1 : Int32)) - x1) / (64 : Int32) * (64 : Int32)) * (6 : Int32)) + x2)] e8_ ?_
            obtain ⟨k9_, h⟩ := h
            obtain ⟨i10_, h⟩ := h
            refine q_ild X Y k9_ i10_ dX2_noted_50 ?_
            exact q_iret X Y rfl (Nat.le_refl _) (Nat.le_refl _) h dX2_noted_51
          · replace h := h.2 c6_
            exact cb_X2_noted_28 X Y (lv_sub hl [] rfl) h
-- X3_init
theorem ml_X3_3 : Cond.methodLink RX3 3 Lib.objectInit ∈ q_G := q_tb (i := 252) (by decide +kernel) (by decide +kernel)
theorem dX3_init_0 : decode cX3_init 0 = .ok (.aload_n 0, 1) := by decide +kernel
theorem dX3_init_1 : decode cX3_init 1 = .ok (.invokespecial 3, 3) := by decide +kernel
theorem dX3_init_4 : decode cX3_init 4 = .ok (.return_, 1) := by decide +kernel
def wm_X3_init (S : q_S) (a0 : Nat) (Q : Option Value → q_S → Prop) : Prop := Q none S
set_option maxHeartbeats 4000000 in
set_option maxRecDepth 100000 in
theorem cm_X3_init {l : Launch} {D : va_G} {cy : Nat → ClassId} {lo : Nat} {S : q_S} {a0 : Nat} {Q : Option Value → q_S → Prop} (h : wm_X3_init S a0 Q) : q_Met l D cy lo yX3_init cX3_init 1 none 1 20 0 0 [.ref a0] S Q := by
  refine q_body (by decide) (by first | exact Nat.le_of_ble_eq_true rfl | simp [lg_sl, q_cat, q_catI, q_catJ, q_catR]) ?_
  intro p e s m below meth c ls X hnm Y hl
  have hx := X.1
  have hb := X.2.1
  have hl : lv_has ls 1 [(0, .ref a0)] := by first | exact hl | simpa [lv_args, q_cat, q_catI, q_catJ, q_catR] using hl
  generalize hargs : ([.ref a0] : List Value).toArray = args at X ⊢
  unfold wm_X3_init at h
  refine lv_aload_n hx hb dX3_init_0 rfl (lv_at hl 0 rfl) ?_
  refine q_obj X hl ml_X3_3 oi_ oc_ ⟨Nat.le_of_ble_eq_true rfl, (by first | exact Nat.le_of_ble_eq_true rfl | simp [q_cat, q_catI, q_catJ, q_catR])⟩ dX3_init_1 ?_
  exact q_vret X Y (Nat.le_refl _) (Nat.le_refl _) h dX3_init_4
-- X4_sortAt
theorem fl_X4_34 : Cond.fieldLink RX4 34 "PartitionWorks$Memory" "regions" "I" ∈ q_G := q_tb (i := 665) (by decide +kernel) (by decide +kernel)
theorem fl_X4_18 : Cond.fieldLink RX4 18 "PartitionWorks$Memory" "ends" "[I" ∈ q_G := q_tb (i := 668) (by decide +kernel) (by decide +kernel)
theorem fl_X4_21 : Cond.fieldLink RX4 21 "PartitionWorks$Memory" "sorts" "[I" ∈ q_G := q_tb (i := 670) (by decide +kernel) (by decide +kernel)
theorem dX4_sortAt_0 : decode cX4_sortAt 0 = .ok (.iconst 0, 1) := by decide +kernel
theorem dX4_sortAt_1 : decode cX4_sortAt 1 = .ok (.istore_n 2, 1) := by decide +kernel
theorem dX4_sortAt_2 : decode cX4_sortAt 2 = .ok (.iload_n 2, 1) := by decide +kernel
theorem dX4_sortAt_3 : decode cX4_sortAt 3 = .ok (.aload_n 0, 1) := by decide +kernel
theorem dX4_sortAt_4 : decode cX4_sortAt 4 = .ok (.getfield 34, 3) := by decide +kernel
theorem dX4_sortAt_7 : decode cX4_sortAt 7 = .ok (.if_icmp .ge 30, 3) := by decide +kernel
theorem dX4_sortAt_10 : decode cX4_sortAt 10 = .ok (.iload_n 1, 1) := by decide +kernel
theorem dX4_sortAt_11 : decode cX4_sortAt 11 = .ok (.ifCond .lt 26, 3) := by decide +kernel
theorem dX4_sortAt_14 : decode cX4_sortAt 14 = .ok (.iload_n 1, 1) := by decide +kernel
theorem dX4_sortAt_15 : decode cX4_sortAt 15 = .ok (.aload_n 0, 1) := by decide +kernel
theorem dX4_sortAt_16 : decode cX4_sortAt 16 = .ok (.getfield 18, 3) := by decide +kernel
theorem dX4_sortAt_19 : decode cX4_sortAt 19 = .ok (.iload_n 2, 1) := by decide +kernel
theorem dX4_sortAt_20 : decode cX4_sortAt 20 = .ok (.iaload, 1) := by decide +kernel
theorem dX4_sortAt_21 : decode cX4_sortAt 21 = .ok (.if_icmp .ge 10, 3) := by decide +kernel
theorem dX4_sortAt_24 : decode cX4_sortAt 24 = .ok (.aload_n 0, 1) := by decide +kernel
theorem dX4_sortAt_25 : decode cX4_sortAt 25 = .ok (.getfield 21, 3) := by decide +kernel
theorem dX4_sortAt_28 : decode cX4_sortAt 28 = .ok (.iload_n 2, 1) := by decide +kernel
theorem dX4_sortAt_29 : decode cX4_sortAt 29 = .ok (.iaload, 1) := by decide +kernel
theorem dX4_sortAt_30 : decode cX4_sortAt 30 = .ok (.ireturn, 1) := by decide +kernel
theorem dX4_sortAt_31 : decode cX4_sortAt 31 = .ok (.iinc 2 1, 3) := by decide +kernel
theorem dX4_sortAt_34 : decode cX4_sortAt 34 = .ok (.goto (-32), 3) := by decide +kernel
theorem dX4_sortAt_37 : decode cX4_sortAt 37 = .ok (.iconst (-1), 1) := by decide +kernel
theorem dX4_sortAt_38 : decode cX4_sortAt 38 = .ok (.ireturn, 1) := by decide +kernel
def wb_X4_sortAt_37  (S : q_S) (Q : Option Value → q_S → Prop) : Prop := Q (some (.int (-1 : Int32))) S
set_option maxHeartbeats 4000000 in
set_option maxRecDepth 100000 in
theorem cb_X4_sortAt_37 {p : Program} {l : Launch} {e : Env} {s : State} {m : MethodId} {args : Array Value} {below : List Frame} {meth : Method} {c : Code} {D : va_G} {cy : Nat → ClassId} {lo : Nat}  {S : q_S} {Q : Option Value → q_S → Prop} {H : Heap} {locs : List Loc} {ls : Array Slot} (X : q_X p s m args meth c RX4 cX4_sortAt 3 (some .int) D cy lo)  (Y : q_Y D cy lo s S H locs) (hl : lv_has ls 3 []) (h : wb_X4_sortAt_37 S Q) : W p l e ({ frames := 0, cells := 0, slots := 0, locals := 0 } : Room) s m args below meth c H locs 0 0 (MQ below (q_Q D cy lo Q) args s 0 0 (fun q => lo ≤ q)) (F0 m 37 ls []) := by
  have hx := X.1
  have hb := X.2.1
  unfold wb_X4_sortAt_37 at h
  refine lv_iconst (v := (-1)) hx hb dX4_sortAt_37 (by decide) ?_
  exact q_iret X Y rfl (Nat.le_refl _) (Nat.le_refl _) h dX4_sortAt_38
def wb_X4_sortAt_2 (B2 : q_S → Nat → Int32 → Int32 → Prop) (S : q_S) (a0 : Nat) (x1 : Int32) (x2 : Int32) (Q : Option Value → q_S → Prop) : Prop := q_K S a0 = 5 ∧ ((((q_I S 803 a0) ≤ x2 → (wb_X4_sortAt_37 S Q)) ∧ (¬ (q_I S 803 a0) ≤ x2 → (((x1 < 0 → (wb_X4_sortAt_37 S Q)) ∧ (¬ x1 < 0 → (∃ a4_ : Nat, (q_P S 804 a0) = some a4_ ∧ (q_K S a4_ = 21 ∧ (vp_in x2 (q_N S a4_) ∧ ((((q_A S a4_ x2.toNatClampNeg) ≤ x1 → (B2 S a0 x1 (x2 + 1))) ∧ (¬ (q_A S a4_ x2.toNatClampNeg) ≤ x1 → (∃ a9_ : Nat, (q_P S 805 a0) = some a9_ ∧ (q_K S a9_ = 21 ∧ (vp_in x2 (q_N S a9_) ∧ (Q (some (.int (q_A S a9_ x2.toNatClampNeg))) S))))))))))))))))
set_option maxHeartbeats 4000000 in
set_option maxRecDepth 100000 in
theorem cb_X4_sortAt_2 {p : Program} {l : Launch} {e : Env} {s : State} {m : MethodId} {args : Array Value} {below : List Frame} {meth : Method} {c : Code} {D : va_G} {cy : Nat → ClassId} {lo : Nat} {B2 : q_S → Nat → Int32 → Int32 → Prop} {S : q_S} {a0 : Nat} {x1 : Int32} {x2 : Int32} {Q : Option Value → q_S → Prop} {H : Heap} {locs : List Loc} {ls : Array Slot} (X : q_X p s m args meth c RX4 cX4_sortAt 3 (some .int) D cy lo) (hB2 : ∀ (S : q_S) (a0 : Nat) (x1 : Int32) (x2 : Int32) (H : Heap) (locs : List Loc) (ls : Array Slot), B2 S a0 x1 x2 → q_Y D cy lo s S H locs → lv_has ls 3 [(0, .ref a0), (1, .int x1), (2, .int x2)] → W p l e ({ frames := 0, cells := 0, slots := 0, locals := 0 } : Room) s m args below meth c H locs 0 0 (MQ below (q_Q D cy lo Q) args s 0 0 (fun q => lo ≤ q)) (F0 m 2 ls [])) (Y : q_Y D cy lo s S H locs) (hl : lv_has ls 3 [(0, .ref a0), (1, .int x1), (2, .int x2)]) (h : wb_X4_sortAt_2 B2 S a0 x1 x2 Q) : W p l e ({ frames := 0, cells := 0, slots := 0, locals := 0 } : Room) s m args below meth c H locs 0 0 (MQ below (q_Q D cy lo Q) args s 0 0 (fun q => lo ≤ q)) (F0 m 2 ls []) := by
  have hx := X.1
  have hb := X.2.1
  unfold wb_X4_sortAt_2 at h
  refine lv_iload_n hx hb dX4_sortAt_2 rfl (lv_at hl 2 rfl) ?_
  refine lv_aload_n hx hb dX4_sortAt_3 rfl (lv_at hl 0 rfl) ?_
  obtain ⟨k1_, h⟩ := h
  refine q_getI X Y kX4 3 rfl fl_X4_34 k1_ dX4_sortAt_4 ?_
  refine lv_icmp_ge (tgt := 37) hx hb dX4_sortAt_7 (by decide) (fun c2_ => ?_) (fun c2_ => ?_)
  · replace h := h.1 c2_
    exact cb_X4_sortAt_37 X Y (lv_sub hl [] rfl) h
  · replace h := h.2 c2_
    refine lv_iload_n hx hb dX4_sortAt_10 rfl (lv_at hl 1 rfl) ?_
    refine lv_if_lt (tgt := 37) hx hb dX4_sortAt_11 (by decide) (fun c3_ => ?_) (fun c3_ => ?_)
    · replace h := h.1 c3_
      exact cb_X4_sortAt_37 X Y (lv_sub hl [] rfl) h
    · replace h := h.2 c3_
      refine lv_iload_n hx hb dX4_sortAt_14 rfl (lv_at hl 1 rfl) ?_
      refine lv_aload_n hx hb dX4_sortAt_15 rfl (lv_at hl 0 rfl) ?_
      refine q_getP X Y kX4 4 rfl fl_X4_18 k1_ rfl dX4_sortAt_16 ?_
      refine lv_iload_n hx hb dX4_sortAt_19 rfl (lv_at hl 2 rfl) ?_
      obtain ⟨a4_, e5_, h⟩ := h
      refine q_nn [.int x2] e5_ ?_
      obtain ⟨k6_, h⟩ := h
      obtain ⟨i7_, h⟩ := h
      refine q_ild X Y k6_ i7_ dX4_sortAt_20 ?_
      refine lv_icmp_ge (tgt := 31) hx hb dX4_sortAt_21 (by decide) (fun c8_ => ?_) (fun c8_ => ?_)
      · replace h := h.1 c8_
        refine lv_iinc (v := (x2 + 1)) (lv' := [(2, .int (x2 + 1)), (0, .ref a0), (1, .int x1)]) hx hb dX4_sortAt_31 hl (k := 2) rfl (by first | rfl | decide) (by decide) (by first | rfl | simp [q_cat, q_catI, q_catJ, q_catR]) (fun ls hl => ?_)
        refine lv_goto (tgt := 2) hx hb dX4_sortAt_34 (by decide) ?_
        exact hB2 _ _ _ _ _ _ _ h Y (lv_sub hl [1, 2, 0] rfl)
      · replace h := h.2 c8_
        refine lv_aload_n hx hb dX4_sortAt_24 rfl (lv_at hl 0 rfl) ?_
        refine q_getP X Y kX4 5 rfl fl_X4_21 k1_ rfl dX4_sortAt_25 ?_
        refine lv_iload_n hx hb dX4_sortAt_28 rfl (lv_at hl 2 rfl) ?_
        obtain ⟨a9_, e10_, h⟩ := h
        refine q_nn [.int x2] e10_ ?_
        obtain ⟨k11_, h⟩ := h
        obtain ⟨i12_, h⟩ := h
        refine q_ild X Y k11_ i12_ dX4_sortAt_29 ?_
        exact q_iret X Y rfl (Nat.le_refl _) (Nat.le_refl _) h dX4_sortAt_30
def wl_X4_sortAt_2  : Nat → q_S → Nat → Int32 → Int32 → (Option Value → q_S → Prop) → Prop
  | 0, _, _, _, _, _ => False
  | n + 1, S, a0, x1, x2, Q => wb_X4_sortAt_2 (fun S a0 x1 x2 => wl_X4_sortAt_2 n S a0 x1 x2 Q) S a0 x1 x2 Q
set_option maxHeartbeats 4000000 in
set_option maxRecDepth 100000 in
theorem cl_X4_sortAt_2 {p : Program} {l : Launch} {e : Env} {s : State} {m : MethodId} {args : Array Value} {below : List Frame} {meth : Method} {c : Code} {D : va_G} {cy : Nat → ClassId} {lo : Nat}  {Q : Option Value → q_S → Prop} (X : q_X p s m args meth c RX4 cX4_sortAt 3 (some .int) D cy lo)  : ∀ (n : Nat) (S : q_S) (a0 : Nat) (x1 : Int32) (x2 : Int32) (H : Heap) (locs : List Loc) (ls : Array Slot), wl_X4_sortAt_2 n S a0 x1 x2 Q → q_Y D cy lo s S H locs → lv_has ls 3 [(0, .ref a0), (1, .int x1), (2, .int x2)] → W p l e ({ frames := 0, cells := 0, slots := 0, locals := 0 } : Room) s m args below meth c H locs 0 0 (MQ below (q_Q D cy lo Q) args s 0 0 (fun q => lo ≤ q)) (F0 m 2 ls []) := by
  intro n
  induction n with
  | zero => intro S a0 x1 x2 H locs ls h; exact absurd h id
  | succ n ih => intro S a0 x1 x2 H locs ls h Y hl; exact cb_X4_sortAt_2 X ih Y hl h
def wm_X4_sortAt (S : q_S) (a0 : Nat) (x1 : Int32) (Q : Option Value → q_S → Prop) : Prop := ∃ n13_ : Nat, wl_X4_sortAt_2 n13_ S a0 x1 (0 : Int32) Q
set_option maxHeartbeats 4000000 in
set_option maxRecDepth 100000 in
theorem cm_X4_sortAt {l : Launch} {D : va_G} {cy : Nat → ClassId} {lo : Nat} {S : q_S} {a0 : Nat} {x1 : Int32} {Q : Option Value → q_S → Prop} (h : wm_X4_sortAt S a0 x1 Q) : q_Met l D cy lo yX4_sortAt cX4_sortAt 3 (some .int) 0 0 0 0 [.ref a0, .int x1] S Q := by
  refine q_body (by decide) (by first | exact Nat.le_of_ble_eq_true rfl | simp [lg_sl, q_cat, q_catI, q_catJ, q_catR]) ?_
  intro p e s m below meth c ls X hnm Y hl
  have hx := X.1
  have hb := X.2.1
  have hl : lv_has ls 3 [(0, .ref a0), (1, .int x1)] := by first | exact hl | simpa [lv_args, q_cat, q_catI, q_catJ, q_catR] using hl
  generalize hargs : ([.ref a0, .int x1] : List Value).toArray = args at X ⊢
  unfold wm_X4_sortAt at h
  refine lv_iconst (v := 0) hx hb dX4_sortAt_0 (by decide) ?_
  refine lv_istore_n (i := 2) (lv' := [(2, .int (0 : Int32)), (0, .ref a0), (1, .int x1)]) hx hb dX4_sortAt_1 rfl hl (by decide) (by first | rfl | simp [q_cat, q_catI, q_catJ, q_catR]) (fun ls hl => ?_)
  obtain ⟨n13_, h⟩ := h
  exact cl_X4_sortAt_2 X n13_ _ _ _ _ _ _ _ h Y (lv_sub hl [1, 2, 0] rfl)
-- X4_mayRun
theorem ml_X4_53 : Cond.methodLink RX4 53 yX4_sortAt ∈ q_G := q_tb (i := 1445) (by decide +kernel) (by decide +kernel)
theorem mt_X4_sortAt : q_Mt yX4_sortAt cX4_sortAt 3 (some .int) 1 := ⟨q_tb (i := 1448) (by decide +kernel) (by decide +kernel), q_tb (i := 21) (by decide +kernel) (by decide +kernel), by decide +kernel, by decide +kernel, by decide +kernel⟩
theorem mi_X4_sortAt : Cond.instanceMethod yX4_sortAt ∈ q_G ∧ Cond.selects yX4_sortAt.cls yX4_sortAt yX4_sortAt ∈ q_G := ⟨q_tb (i := 1447) (by decide +kernel) (by decide +kernel), q_tp (i := 40) (q := (yX4_sortAt, 6)) (by decide +kernel) (by decide +kernel)⟩
theorem dX4_mayRun_0 : decode cX4_mayRun 0 = .ok (.aload_n 0, 1) := by decide +kernel
theorem dX4_mayRun_1 : decode cX4_mayRun 1 = .ok (.iload_n 1, 1) := by decide +kernel
theorem dX4_mayRun_2 : decode cX4_mayRun 2 = .ok (.invokevirtual 53, 3) := by decide +kernel
theorem dX4_mayRun_5 : decode cX4_mayRun 5 = .ok (.istore_n 2, 1) := by decide +kernel
theorem dX4_mayRun_6 : decode cX4_mayRun 6 = .ok (.iload_n 2, 1) := by decide +kernel
theorem dX4_mayRun_7 : decode cX4_mayRun 7 = .ok (.ifCond .eq 8, 3) := by decide +kernel
theorem dX4_mayRun_10 : decode cX4_mayRun 10 = .ok (.iload_n 2, 1) := by decide +kernel
theorem dX4_mayRun_11 : decode cX4_mayRun 11 = .ok (.iconst 3, 1) := by decide +kernel
theorem dX4_mayRun_12 : decode cX4_mayRun 12 = .ok (.if_icmp .ne 7, 3) := by decide +kernel
theorem dX4_mayRun_15 : decode cX4_mayRun 15 = .ok (.iconst 1, 1) := by decide +kernel
theorem dX4_mayRun_16 : decode cX4_mayRun 16 = .ok (.goto 4, 3) := by decide +kernel
theorem dX4_mayRun_19 : decode cX4_mayRun 19 = .ok (.iconst 0, 1) := by decide +kernel
theorem dX4_mayRun_20 : decode cX4_mayRun 20 = .ok (.ireturn, 1) := by decide +kernel
def wb_X4_mayRun_20  (S : q_S) (xs0 : Int32) (Q : Option Value → q_S → Prop) : Prop := (narrow .boolean (.int xs0) = .int xs0 ∧ Q (some (.int xs0)) S)
set_option maxHeartbeats 4000000 in
set_option maxRecDepth 100000 in
theorem cb_X4_mayRun_20 {p : Program} {l : Launch} {e : Env} {s : State} {m : MethodId} {args : Array Value} {below : List Frame} {meth : Method} {c : Code} {D : va_G} {cy : Nat → ClassId} {lo : Nat}  {S : q_S} {xs0 : Int32} {Q : Option Value → q_S → Prop} {H : Heap} {locs : List Loc} {ls : Array Slot} (X : q_X p s m args meth c RX4 cX4_mayRun 3 (some .boolean) D cy lo)  (Y : q_Y D cy lo s S H locs) (hl : lv_has ls 3 []) (h : wb_X4_mayRun_20 S xs0 Q) : W p l e ({ frames := 1, cells := 0, slots := 0, locals := 22 } : Room) s m args below meth c H locs 0 0 (MQ below (q_Q D cy lo Q) args s 0 0 (fun q => lo ≤ q)) (F0 m 20 ls [.int xs0]) := by
  have hx := X.1
  have hb := X.2.1
  unfold wb_X4_mayRun_20 at h
  exact q_iret X Y h.1 (Nat.le_refl _) (Nat.le_refl _) h.2 dX4_mayRun_20
def wb_X4_mayRun_15  (S : q_S) (Q : Option Value → q_S → Prop) : Prop := wb_X4_mayRun_20 S (1 : Int32) Q
set_option maxHeartbeats 4000000 in
set_option maxRecDepth 100000 in
theorem cb_X4_mayRun_15 {p : Program} {l : Launch} {e : Env} {s : State} {m : MethodId} {args : Array Value} {below : List Frame} {meth : Method} {c : Code} {D : va_G} {cy : Nat → ClassId} {lo : Nat}  {S : q_S} {Q : Option Value → q_S → Prop} {H : Heap} {locs : List Loc} {ls : Array Slot} (X : q_X p s m args meth c RX4 cX4_mayRun 3 (some .boolean) D cy lo)  (Y : q_Y D cy lo s S H locs) (hl : lv_has ls 3 []) (h : wb_X4_mayRun_15 S Q) : W p l e ({ frames := 1, cells := 0, slots := 0, locals := 22 } : Room) s m args below meth c H locs 0 0 (MQ below (q_Q D cy lo Q) args s 0 0 (fun q => lo ≤ q)) (F0 m 15 ls []) := by
  have hx := X.1
  have hb := X.2.1
  unfold wb_X4_mayRun_15 at h
  refine lv_iconst (v := 1) hx hb dX4_mayRun_15 (by decide) ?_
  refine lv_goto (tgt := 20) hx hb dX4_mayRun_16 (by decide) ?_
  exact cb_X4_mayRun_20 X Y (lv_sub hl [] rfl) h
def wm_X4_mayRun (S : q_S) (a0 : Nat) (x1 : Int32) (Q : Option Value → q_S → Prop) : Prop := q_K S a0 = 5 ∧ (wm_X4_sortAt S a0 x1 (fun r2_ S3_ => ∃ x4_ : Int32, r2_ = some (.int x4_) ∧ (((x4_ = 0 → (wb_X4_mayRun_15 S3_ Q)) ∧ (¬ x4_ = 0 → (((¬ x4_ = (3 : Int32) → (wb_X4_mayRun_20 S3_ (0 : Int32) Q)) ∧ (x4_ = (3 : Int32) → (wb_X4_mayRun_15 S3_ Q)))))))))
set_option maxHeartbeats 4000000 in
set_option maxRecDepth 100000 in
theorem cm_X4_mayRun {l : Launch} {D : va_G} {cy : Nat → ClassId} {lo : Nat} {S : q_S} {a0 : Nat} {x1 : Int32} {Q : Option Value → q_S → Prop} (h : wm_X4_mayRun S a0 x1 Q) : q_Met l D cy lo yX4_mayRun cX4_mayRun 3 (some .boolean) 1 22 0 0 [.ref a0, .int x1] S Q := by
  refine q_body (by decide) (by first | exact Nat.le_of_ble_eq_true rfl | simp [lg_sl, q_cat, q_catI, q_catJ, q_catR]) ?_
  intro p e s m below meth c ls X hnm Y hl
  have hx := X.1
  have hb := X.2.1
  have hl : lv_has ls 3 [(0, .ref a0), (1, .int x1)] := by first | exact hl | simpa [lv_args, q_cat, q_catI, q_catJ, q_catR] using hl
  generalize hargs : ([.ref a0, .int x1] : List Value).toArray = args at X ⊢
  unfold wm_X4_mayRun at h
  refine lv_aload_n hx hb dX4_mayRun_0 rfl (lv_at hl 0 rfl) ?_
  refine lv_iload_n hx hb dX4_mayRun_1 rfl (lv_at hl 1 rfl) ?_
  obtain ⟨k1_, h⟩ := h
  refine q_callV X Y hl (cm_X4_sortAt h) mt_X4_sortAt mi_X4_sortAt ml_X4_53 (ci := 4) rfl k1_ (by decide) rfl rfl (by first | exact Nat.le_of_ble_eq_true rfl | simp [q_cat, q_catI, q_catJ, q_catR]) ⟨Nat.le_of_ble_eq_true rfl, Nat.le_of_ble_eq_true rfl⟩ ⟨Nat.le_of_ble_eq_true rfl, Nat.le_of_ble_eq_true rfl⟩ dX4_mayRun_2 (fun r2_ S3_ H locs hp Y => ?_)
  obtain ⟨x4_, rfl, h⟩ := hp
  refine W.eq (g2 := F0 m 5 ls [.int x4_]) rfl ?_
  refine lv_istore_n (i := 2) (lv' := [(2, .int x4_), (0, .ref a0), (1, .int x1)]) hx hb dX4_mayRun_5 rfl hl (by decide) (by first | rfl | simp [q_cat, q_catI, q_catJ, q_catR]) (fun ls hl => ?_)
  refine lv_iload_n hx hb dX4_mayRun_6 rfl (lv_at hl 0 rfl) ?_
  refine lv_if_eq (tgt := 15) hx hb dX4_mayRun_7 (by decide) (fun c5_ => ?_) (fun c5_ => ?_)
  · replace h := h.1 c5_
    exact cb_X4_mayRun_15 X Y (lv_sub hl [] rfl) h
  · replace h := h.2 c5_
    refine lv_iload_n hx hb dX4_mayRun_10 rfl (lv_at hl 0 rfl) ?_
    refine lv_iconst (v := 3) hx hb dX4_mayRun_11 (by decide) ?_
    refine lv_icmp_ne (tgt := 19) hx hb dX4_mayRun_12 (by decide) (fun c6_ => ?_) (fun c6_ => ?_)
    · replace h := h.1 c6_
      refine lv_iconst (v := 0) hx hb dX4_mayRun_19 (by decide) ?_
      exact cb_X4_mayRun_20 X Y (lv_sub hl [] rfl) h
    · replace h := h.2 c6_
      exact cb_X4_mayRun_15 X Y (lv_sub hl [] rfl) h
-- X3_finish
theorem fl_X3_9 : Cond.fieldLink RX3 9 "PartitionWorks$Process" "pc" "I" ∈ q_G := q_tb (i := 874) (by decide +kernel) (by decide +kernel)
theorem fl_X3_38 : Cond.fieldLink RX3 38 "PartitionWorks$Process" "x" "[I" ∈ q_G := q_tb (i := 880) (by decide +kernel) (by decide +kernel)
theorem dX3_finish_0 : decode cX3_finish 0 = .ok (.iload_n 2, 1) := by decide +kernel
theorem dX3_finish_1 : decode cX3_finish 1 = .ok (.bipush 7, 2) := by decide +kernel
theorem dX3_finish_3 : decode cX3_finish 3 = .ok (.ishr, 1) := by decide +kernel
theorem dX3_finish_4 : decode cX3_finish 4 = .ok (.bipush 31, 2) := by decide +kernel
theorem dX3_finish_6 : decode cX3_finish 6 = .ok (.iand, 1) := by decide +kernel
theorem dX3_finish_7 : decode cX3_finish 7 = .ok (.istore 5, 2) := by decide +kernel
theorem dX3_finish_9 : decode cX3_finish 9 = .ok (.iload 5, 2) := by decide +kernel
theorem dX3_finish_11 : decode cX3_finish 11 = .ok (.ifCond .eq 11, 3) := by decide +kernel
theorem dX3_finish_14 : decode cX3_finish 14 = .ok (.aload_n 1, 1) := by decide +kernel
theorem dX3_finish_15 : decode cX3_finish 15 = .ok (.getfield 38, 3) := by decide +kernel
theorem dX3_finish_18 : decode cX3_finish 18 = .ok (.iload 5, 2) := by decide +kernel
theorem dX3_finish_20 : decode cX3_finish 20 = .ok (.iload_n 3, 1) := by decide +kernel
theorem dX3_finish_21 : decode cX3_finish 21 = .ok (.iastore, 1) := by decide +kernel
theorem dX3_finish_22 : decode cX3_finish 22 = .ok (.aload_n 1, 1) := by decide +kernel
theorem dX3_finish_23 : decode cX3_finish 23 = .ok (.iload 4, 2) := by decide +kernel
theorem dX3_finish_25 : decode cX3_finish 25 = .ok (.putfield 9, 3) := by decide +kernel
theorem dX3_finish_28 : decode cX3_finish 28 = .ok (.iconst (-1), 1) := by decide +kernel
theorem dX3_finish_29 : decode cX3_finish 29 = .ok (.ireturn, 1) := by decide +kernel
def wb_X3_finish_22  (S : q_S) (r1 : Option Nat) (x4 : Int32) (Q : Option Value → q_S → Prop) : Prop := ∃ a1_ : Nat, r1 = some a1_ ∧ (q_K S a1_ = 8 ∧ (Q (some (.int (-1 : Int32))) (qs_I S 1410 a1_ x4)))
set_option maxHeartbeats 4000000 in
set_option maxRecDepth 100000 in
theorem cb_X3_finish_22 {p : Program} {l : Launch} {e : Env} {s : State} {m : MethodId} {args : Array Value} {below : List Frame} {meth : Method} {c : Code} {D : va_G} {cy : Nat → ClassId} {lo : Nat}  {S : q_S} {r1 : Option Nat} {x4 : Int32} {Q : Option Value → q_S → Prop} {H : Heap} {locs : List Loc} {ls : Array Slot} (X : q_X p s m args meth c RX3 cX3_finish 6 (some .int) D cy lo)  (Y : q_Y D cy lo s S H locs) (hl : lv_has ls 6 [(1, va_rf r1), (4, .int x4)]) (h : wb_X3_finish_22 S r1 x4 Q) : W p l e ({ frames := 0, cells := 0, slots := 0, locals := 0 } : Room) s m args below meth c H locs 0 0 (MQ below (q_Q D cy lo Q) args s 0 0 (fun q => lo ≤ q)) (F0 m 22 ls []) := by
  have hx := X.1
  have hb := X.2.1
  unfold wb_X3_finish_22 at h
  refine q_aload_n hx hb dX3_finish_22 rfl (lv_at hl 0 rfl) ?_
  refine lv_iload hx hb dX3_finish_23 (lv_at hl 1 rfl) ?_
  obtain ⟨a1_, e2_, h⟩ := h
  refine q_nn [.int x4] e2_ ?_
  obtain ⟨k3_, h⟩ := h
  refine q_putI X Y kX7 10 rfl fl_X3_9 k3_ .int rfl ⟨rfl, rfl⟩ rfl dX3_finish_25 (fun H locs Y => ?_)
  refine lv_iconst (v := (-1)) hx hb dX3_finish_28 (by decide) ?_
  exact q_iret X Y rfl (Nat.le_refl _) (Nat.le_refl _) h dX3_finish_29
def wm_X3_finish (S : q_S) (a0 : Nat) (r1 : Option Nat) (x2 : Int32) (x3 : Int32) (x4 : Int32) (Q : Option Value → q_S → Prop) : Prop := ((((x2 >>> ((7 : Int32) &&& 31)) &&& (31 : Int32)) = 0 → (wb_X3_finish_22 S r1 x4 Q)) ∧ (¬ ((x2 >>> ((7 : Int32) &&& 31)) &&& (31 : Int32)) = 0 → (∃ a5_ : Nat, r1 = some a5_ ∧ (q_K S a5_ = 8 ∧ (∃ a8_ : Nat, (q_P S 1411 a5_) = some a8_ ∧ (q_K S a8_ = 21 ∧ (vp_in ((x2 >>> ((7 : Int32) &&& 31)) &&& (31 : Int32)) (q_N S a8_) ∧ (wb_X3_finish_22 (qs_A S a8_ ((x2 >>> ((7 : Int32) &&& 31)) &&& (31 : Int32)).toNatClampNeg x3) r1 x4 Q))))))))
set_option maxHeartbeats 4000000 in
set_option maxRecDepth 100000 in
theorem cm_X3_finish {l : Launch} {D : va_G} {cy : Nat → ClassId} {lo : Nat} {S : q_S} {a0 : Nat} {r1 : Option Nat} {x2 : Int32} {x3 : Int32} {x4 : Int32} {Q : Option Value → q_S → Prop} (h : wm_X3_finish S a0 r1 x2 x3 x4 Q) : q_Met l D cy lo yX3_finish cX3_finish 6 (some .int) 0 0 0 0 [.ref a0, va_rf r1, .int x2, .int x3, .int x4] S Q := by
  refine q_body (by decide) (by first | exact Nat.le_of_ble_eq_true rfl | simp [lg_sl, q_cat, q_catI, q_catJ, q_catR]) ?_
  intro p e s m below meth c ls X hnm Y hl
  have hx := X.1
  have hb := X.2.1
  have hl : lv_has ls 6 [(0, .ref a0), (1, va_rf r1), (2, .int x2), (3, .int x3), (4, .int x4)] := by first | exact hl | simpa [lv_args, q_cat, q_catI, q_catJ, q_catR] using hl
  generalize hargs : ([.ref a0, va_rf r1, .int x2, .int x3, .int x4] : List Value).toArray = args at X ⊢
  unfold wm_X3_finish at h
  refine lv_iload_n hx hb dX3_finish_0 rfl (lv_at hl 2 rfl) ?_
  refine lv_bipush (v := 7) hx hb dX3_finish_1 (by decide) ?_
  refine lv_ishr hx hb dX3_finish_3 ?_
  refine lv_bipush (v := 31) hx hb dX3_finish_4 (by decide) ?_
  refine lv_iand hx hb dX3_finish_6 ?_
  refine lv_istore (i := 5) (lv' := [(5, .int ((x2 >>> ((7 : Int32) &&& 31)) &&& (31 : Int32))), (0, .ref a0), (1, va_rf r1), (2, .int x2), (3, .int x3), (4, .int x4)]) hx hb dX3_finish_7 hl (by decide) (by first | rfl | simp [q_cat, q_catI, q_catJ, q_catR]) (fun ls hl => ?_)
  refine lv_iload hx hb dX3_finish_9 (lv_at hl 0 rfl) ?_
  refine lv_if_eq (tgt := 22) hx hb dX3_finish_11 (by decide) (fun c4_ => ?_) (fun c4_ => ?_)
  · replace h := h.1 c4_
    exact cb_X3_finish_22 X Y (lv_sub hl [2, 5] rfl) h
  · replace h := h.2 c4_
    refine q_aload_n hx hb dX3_finish_14 rfl (lv_at hl 2 rfl) ?_
    obtain ⟨a5_, e6_, h⟩ := h
    refine q_nn [] e6_ ?_
    obtain ⟨k7_, h⟩ := h
    refine q_getP X Y kX7 11 rfl fl_X3_38 k7_ rfl dX3_finish_15 ?_
    refine lv_iload hx hb dX3_finish_18 (lv_at hl 0 rfl) ?_
    refine lv_iload_n hx hb dX3_finish_20 rfl (lv_at hl 4 rfl) ?_
    obtain ⟨a8_, e9_, h⟩ := h
    refine q_nn [.int x3, .int ((x2 >>> ((7 : Int32) &&& 31)) &&& (31 : Int32))] e9_ ?_
    obtain ⟨k10_, h⟩ := h
    obtain ⟨i11_, h⟩ := h
    refine q_ist X Y k10_ i11_ dX3_finish_21 (fun H locs Y => ?_)
    exact cb_X3_finish_22 X Y (lv_sub hl [2, 5] rfl) h
-- X3_jumpOf
theorem dX3_jumpOf_0 : decode cX3_jumpOf 0 = .ok (.iload_n 1, 1) := by decide +kernel
theorem dX3_jumpOf_1 : decode cX3_jumpOf 1 = .ok (.bipush 31, 2) := by decide +kernel
theorem dX3_jumpOf_3 : decode cX3_jumpOf 3 = .ok (.ishr, 1) := by decide +kernel
theorem dX3_jumpOf_4 : decode cX3_jumpOf 4 = .ok (.bipush 20, 2) := by decide +kernel
theorem dX3_jumpOf_6 : decode cX3_jumpOf 6 = .ok (.ishl, 1) := by decide +kernel
theorem dX3_jumpOf_7 : decode cX3_jumpOf 7 = .ok (.iload_n 1, 1) := by decide +kernel
theorem dX3_jumpOf_8 : decode cX3_jumpOf 8 = .ok (.bipush 12, 2) := by decide +kernel
theorem dX3_jumpOf_10 : decode cX3_jumpOf 10 = .ok (.ishr, 1) := by decide +kernel
theorem dX3_jumpOf_11 : decode cX3_jumpOf 11 = .ok (.sipush 255, 3) := by decide +kernel
theorem dX3_jumpOf_14 : decode cX3_jumpOf 14 = .ok (.iand, 1) := by decide +kernel
theorem dX3_jumpOf_15 : decode cX3_jumpOf 15 = .ok (.bipush 12, 2) := by decide +kernel
theorem dX3_jumpOf_17 : decode cX3_jumpOf 17 = .ok (.ishl, 1) := by decide +kernel
theorem dX3_jumpOf_18 : decode cX3_jumpOf 18 = .ok (.ior, 1) := by decide +kernel
theorem dX3_jumpOf_19 : decode cX3_jumpOf 19 = .ok (.iload_n 1, 1) := by decide +kernel
theorem dX3_jumpOf_20 : decode cX3_jumpOf 20 = .ok (.bipush 20, 2) := by decide +kernel
theorem dX3_jumpOf_22 : decode cX3_jumpOf 22 = .ok (.ishr, 1) := by decide +kernel
theorem dX3_jumpOf_23 : decode cX3_jumpOf 23 = .ok (.iconst 1, 1) := by decide +kernel
theorem dX3_jumpOf_24 : decode cX3_jumpOf 24 = .ok (.iand, 1) := by decide +kernel
theorem dX3_jumpOf_25 : decode cX3_jumpOf 25 = .ok (.bipush 11, 2) := by decide +kernel
theorem dX3_jumpOf_27 : decode cX3_jumpOf 27 = .ok (.ishl, 1) := by decide +kernel
theorem dX3_jumpOf_28 : decode cX3_jumpOf 28 = .ok (.ior, 1) := by decide +kernel
theorem dX3_jumpOf_29 : decode cX3_jumpOf 29 = .ok (.iload_n 1, 1) := by decide +kernel
theorem dX3_jumpOf_30 : decode cX3_jumpOf 30 = .ok (.bipush 21, 2) := by decide +kernel
theorem dX3_jumpOf_32 : decode cX3_jumpOf 32 = .ok (.ishr, 1) := by decide +kernel
theorem dX3_jumpOf_33 : decode cX3_jumpOf 33 = .ok (.sipush 1023, 3) := by decide +kernel
theorem dX3_jumpOf_36 : decode cX3_jumpOf 36 = .ok (.iand, 1) := by decide +kernel
theorem dX3_jumpOf_37 : decode cX3_jumpOf 37 = .ok (.iconst 1, 1) := by decide +kernel
theorem dX3_jumpOf_38 : decode cX3_jumpOf 38 = .ok (.ishl, 1) := by decide +kernel
theorem dX3_jumpOf_39 : decode cX3_jumpOf 39 = .ok (.ior, 1) := by decide +kernel
theorem dX3_jumpOf_40 : decode cX3_jumpOf 40 = .ok (.ireturn, 1) := by decide +kernel
def wm_X3_jumpOf (S : q_S) (a0 : Nat) (x1 : Int32) (Q : Option Value → q_S → Prop) : Prop := Q (some (.int (((((x1 >>> ((31 : Int32) &&& 31)) <<< ((20 : Int32) &&& 31)) ||| (((x1 >>> ((12 : Int32) &&& 31)) &&& (255 : Int32)) <<< ((12 : Int32) &&& 31))) ||| (((x1 >>> ((20 : Int32) &&& 31)) &&& (1 : Int32)) <<< ((11 : Int32) &&& 31))) ||| (((x1 >>> ((21 : Int32) &&& 31)) &&& (1023 : Int32)) <<< ((1 : Int32) &&& 31))))) S
set_option maxHeartbeats 4000000 in
set_option maxRecDepth 100000 in
theorem cm_X3_jumpOf {l : Launch} {D : va_G} {cy : Nat → ClassId} {lo : Nat} {S : q_S} {a0 : Nat} {x1 : Int32} {Q : Option Value → q_S → Prop} (h : wm_X3_jumpOf S a0 x1 Q) : q_Met l D cy lo yX3_jumpOf cX3_jumpOf 2 (some .int) 0 0 0 0 [.ref a0, .int x1] S Q := by
  refine q_body (by decide) (by first | exact Nat.le_of_ble_eq_true rfl | simp [lg_sl, q_cat, q_catI, q_catJ, q_catR]) ?_
  intro p e s m below meth c ls X hnm Y hl
  have hx := X.1
  have hb := X.2.1
  have hl : lv_has ls 2 [(0, .ref a0), (1, .int x1)] := by first | exact hl | simpa [lv_args, q_cat, q_catI, q_catJ, q_catR] using hl
  generalize hargs : ([.ref a0, .int x1] : List Value).toArray = args at X ⊢
  unfold wm_X3_jumpOf at h
  refine lv_iload_n hx hb dX3_jumpOf_0 rfl (lv_at hl 1 rfl) ?_
  refine lv_bipush (v := 31) hx hb dX3_jumpOf_1 (by decide) ?_
  refine lv_ishr hx hb dX3_jumpOf_3 ?_
  refine lv_bipush (v := 20) hx hb dX3_jumpOf_4 (by decide) ?_
  refine lv_ishl hx hb dX3_jumpOf_6 ?_
  refine lv_iload_n hx hb dX3_jumpOf_7 rfl (lv_at hl 1 rfl) ?_
  refine lv_bipush (v := 12) hx hb dX3_jumpOf_8 (by decide) ?_
  refine lv_ishr hx hb dX3_jumpOf_10 ?_
  refine lv_sipush (v := 255) hx hb dX3_jumpOf_11 (by decide) ?_
  refine lv_iand hx hb dX3_jumpOf_14 ?_
  refine lv_bipush (v := 12) hx hb dX3_jumpOf_15 (by decide) ?_
  refine lv_ishl hx hb dX3_jumpOf_17 ?_
  refine lv_ior hx hb dX3_jumpOf_18 ?_
  refine lv_iload_n hx hb dX3_jumpOf_19 rfl (lv_at hl 1 rfl) ?_
  refine lv_bipush (v := 20) hx hb dX3_jumpOf_20 (by decide) ?_
  refine lv_ishr hx hb dX3_jumpOf_22 ?_
  refine lv_iconst (v := 1) hx hb dX3_jumpOf_23 (by decide) ?_
  refine lv_iand hx hb dX3_jumpOf_24 ?_
  refine lv_bipush (v := 11) hx hb dX3_jumpOf_25 (by decide) ?_
  refine lv_ishl hx hb dX3_jumpOf_27 ?_
  refine lv_ior hx hb dX3_jumpOf_28 ?_
  refine lv_iload_n hx hb dX3_jumpOf_29 rfl (lv_at hl 1 rfl) ?_
  refine lv_bipush (v := 21) hx hb dX3_jumpOf_30 (by decide) ?_
  refine lv_ishr hx hb dX3_jumpOf_32 ?_
  refine lv_sipush (v := 1023) hx hb dX3_jumpOf_33 (by decide) ?_
  refine lv_iand hx hb dX3_jumpOf_36 ?_
  refine lv_iconst (v := 1) hx hb dX3_jumpOf_37 (by decide) ?_
  refine lv_ishl hx hb dX3_jumpOf_38 ?_
  refine lv_ior hx hb dX3_jumpOf_39 ?_
  exact q_iret X Y rfl (Nat.le_refl _) (Nat.le_refl _) h dX3_jumpOf_40
-- J6_compare_7cf53
theorem dJ6_compare_7cf53_0 : decode cJ6_compare_7cf53 0 = .ok (.iload_n 0, 1) := by decide +kernel
theorem dJ6_compare_7cf53_1 : decode cJ6_compare_7cf53 1 = .ok (.iload_n 1, 1) := by decide +kernel
theorem dJ6_compare_7cf53_2 : decode cJ6_compare_7cf53 2 = .ok (.if_icmp .ge 7, 3) := by decide +kernel
theorem dJ6_compare_7cf53_5 : decode cJ6_compare_7cf53 5 = .ok (.iconst (-1), 1) := by decide +kernel
theorem dJ6_compare_7cf53_6 : decode cJ6_compare_7cf53 6 = .ok (.goto 13, 3) := by decide +kernel
theorem dJ6_compare_7cf53_9 : decode cJ6_compare_7cf53 9 = .ok (.iload_n 0, 1) := by decide +kernel
theorem dJ6_compare_7cf53_10 : decode cJ6_compare_7cf53 10 = .ok (.iload_n 1, 1) := by decide +kernel
theorem dJ6_compare_7cf53_11 : decode cJ6_compare_7cf53 11 = .ok (.if_icmp .ne 7, 3) := by decide +kernel
theorem dJ6_compare_7cf53_14 : decode cJ6_compare_7cf53 14 = .ok (.iconst 0, 1) := by decide +kernel
theorem dJ6_compare_7cf53_15 : decode cJ6_compare_7cf53 15 = .ok (.goto 4, 3) := by decide +kernel
theorem dJ6_compare_7cf53_18 : decode cJ6_compare_7cf53 18 = .ok (.iconst 1, 1) := by decide +kernel
theorem dJ6_compare_7cf53_19 : decode cJ6_compare_7cf53 19 = .ok (.ireturn, 1) := by decide +kernel
def wb_J6_compare_7cf53_19  (S : q_S) (xs0 : Int32) (Q : Option Value → q_S → Prop) : Prop := Q (some (.int xs0)) S
set_option maxHeartbeats 4000000 in
set_option maxRecDepth 100000 in
theorem cb_J6_compare_7cf53_19 {p : Program} {l : Launch} {e : Env} {s : State} {m : MethodId} {args : Array Value} {below : List Frame} {meth : Method} {c : Code} {D : va_G} {cy : Nat → ClassId} {lo : Nat}  {S : q_S} {xs0 : Int32} {Q : Option Value → q_S → Prop} {H : Heap} {locs : List Loc} {ls : Array Slot} (X : q_X p s m args meth c RJ6 cJ6_compare_7cf53 2 (some .int) D cy lo)  (Y : q_Y D cy lo s S H locs) (hl : lv_has ls 2 []) (h : wb_J6_compare_7cf53_19 S xs0 Q) : W p l e ({ frames := 0, cells := 0, slots := 0, locals := 0 } : Room) s m args below meth c H locs 0 0 (MQ below (q_Q D cy lo Q) args s 0 0 (fun q => lo ≤ q)) (F0 m 19 ls [.int xs0]) := by
  have hx := X.1
  have hb := X.2.1
  unfold wb_J6_compare_7cf53_19 at h
  exact q_iret X Y rfl (Nat.le_refl _) (Nat.le_refl _) h dJ6_compare_7cf53_19
def wm_J6_compare_7cf53 (S : q_S) (x0 : Int32) (x1 : Int32) (Q : Option Value → q_S → Prop) : Prop := ((x1 ≤ x0 → (((¬ x0 = x1 → (wb_J6_compare_7cf53_19 S (1 : Int32) Q)) ∧ (x0 = x1 → (wb_J6_compare_7cf53_19 S (0 : Int32) Q))))) ∧ (¬ x1 ≤ x0 → (wb_J6_compare_7cf53_19 S (-1 : Int32) Q)))
set_option maxHeartbeats 4000000 in
set_option maxRecDepth 100000 in
theorem cm_J6_compare_7cf53 {l : Launch} {D : va_G} {cy : Nat → ClassId} {lo : Nat} {S : q_S} {x0 : Int32} {x1 : Int32} {Q : Option Value → q_S → Prop} (h : wm_J6_compare_7cf53 S x0 x1 Q) : q_Met l D cy lo yJ6_compare_7cf53 cJ6_compare_7cf53 2 (some .int) 0 0 0 0 [.int x0, .int x1] S Q := by
  refine q_body (by decide) (by first | exact Nat.le_of_ble_eq_true rfl | simp [lg_sl, q_cat, q_catI, q_catJ, q_catR]) ?_
  intro p e s m below meth c ls X hnm Y hl
  have hx := X.1
  have hb := X.2.1
  have hl : lv_has ls 2 [(0, .int x0), (1, .int x1)] := by first | exact hl | simpa [lv_args, q_cat, q_catI, q_catJ, q_catR] using hl
  generalize hargs : ([.int x0, .int x1] : List Value).toArray = args at X ⊢
  unfold wm_J6_compare_7cf53 at h
  refine lv_iload_n hx hb dJ6_compare_7cf53_0 rfl (lv_at hl 0 rfl) ?_
  refine lv_iload_n hx hb dJ6_compare_7cf53_1 rfl (lv_at hl 1 rfl) ?_
  refine lv_icmp_ge (tgt := 9) hx hb dJ6_compare_7cf53_2 (by decide) (fun c1_ => ?_) (fun c1_ => ?_)
  · replace h := h.1 c1_
    refine lv_iload_n hx hb dJ6_compare_7cf53_9 rfl (lv_at hl 0 rfl) ?_
    refine lv_iload_n hx hb dJ6_compare_7cf53_10 rfl (lv_at hl 1 rfl) ?_
    refine lv_icmp_ne (tgt := 18) hx hb dJ6_compare_7cf53_11 (by decide) (fun c2_ => ?_) (fun c2_ => ?_)
    · replace h := h.1 c2_
      refine lv_iconst (v := 1) hx hb dJ6_compare_7cf53_18 (by decide) ?_
      exact cb_J6_compare_7cf53_19 X Y (lv_sub hl [] rfl) h
    · replace h := h.2 c2_
      refine lv_iconst (v := 0) hx hb dJ6_compare_7cf53_14 (by decide) ?_
      refine lv_goto (tgt := 19) hx hb dJ6_compare_7cf53_15 (by decide) ?_
      exact cb_J6_compare_7cf53_19 X Y (lv_sub hl [] rfl) h
  · replace h := h.2 c1_
    refine lv_iconst (v := (-1)) hx hb dJ6_compare_7cf53_5 (by decide) ?_
    refine lv_goto (tgt := 19) hx hb dJ6_compare_7cf53_6 (by decide) ?_
    exact cb_J6_compare_7cf53_19 X Y (lv_sub hl [] rfl) h
-- J6_compareUnsigned_7cf53
theorem co_J6_127 : Cond.constant RJ6 127 (-2147483648) ∈ q_G := q_tb (i := 1475) (by decide +kernel) (by decide +kernel)
theorem ml_J6_259 : Cond.methodLink RJ6 259 yJ6_compare_7cf53 ∈ q_G := q_tb (i := 1476) (by decide +kernel) (by decide +kernel)
theorem mt_J6_compare_7cf53 : q_Mt yJ6_compare_7cf53 cJ6_compare_7cf53 2 (some .int) 2 := ⟨q_tb (i := 1478) (by decide +kernel) (by decide +kernel), q_tb (i := 28) (by decide +kernel) (by decide +kernel), by decide +kernel, by decide +kernel, by decide +kernel⟩
theorem ms_J6_compare_7cf53 : Cond.static yJ6_compare_7cf53 ∈ q_G := q_tb (i := 1477) (by decide +kernel) (by decide +kernel)
theorem dJ6_compareUnsigned_7cf53_0 : decode cJ6_compareUnsigned_7cf53 0 = .ok (.iload_n 0, 1) := by decide +kernel
theorem dJ6_compareUnsigned_7cf53_1 : decode cJ6_compareUnsigned_7cf53 1 = .ok (.ldc 127, 2) := by decide +kernel
theorem dJ6_compareUnsigned_7cf53_3 : decode cJ6_compareUnsigned_7cf53 3 = .ok (.iadd, 1) := by decide +kernel
theorem dJ6_compareUnsigned_7cf53_4 : decode cJ6_compareUnsigned_7cf53 4 = .ok (.iload_n 1, 1) := by decide +kernel
theorem dJ6_compareUnsigned_7cf53_5 : decode cJ6_compareUnsigned_7cf53 5 = .ok (.ldc 127, 2) := by decide +kernel
theorem dJ6_compareUnsigned_7cf53_7 : decode cJ6_compareUnsigned_7cf53 7 = .ok (.iadd, 1) := by decide +kernel
theorem dJ6_compareUnsigned_7cf53_8 : decode cJ6_compareUnsigned_7cf53 8 = .ok (.invokestatic 259, 3) := by decide +kernel
theorem dJ6_compareUnsigned_7cf53_11 : decode cJ6_compareUnsigned_7cf53 11 = .ok (.ireturn, 1) := by decide +kernel
def wm_J6_compareUnsigned_7cf53 (S : q_S) (x0 : Int32) (x1 : Int32) (Q : Option Value → q_S → Prop) : Prop := wm_J6_compare_7cf53 S (x0 + (-2147483648 : Int32)) (x1 + (-2147483648 : Int32)) (fun r1_ S2_ => ∃ x3_ : Int32, r1_ = some (.int x3_) ∧ (Q (some (.int x3_)) S2_))
set_option maxHeartbeats 4000000 in
set_option maxRecDepth 100000 in
theorem cm_J6_compareUnsigned_7cf53 {l : Launch} {D : va_G} {cy : Nat → ClassId} {lo : Nat} {S : q_S} {x0 : Int32} {x1 : Int32} {Q : Option Value → q_S → Prop} (h : wm_J6_compareUnsigned_7cf53 S x0 x1 Q) : q_Met l D cy lo yJ6_compareUnsigned_7cf53 cJ6_compareUnsigned_7cf53 2 (some .int) 1 21 0 0 [.int x0, .int x1] S Q := by
  refine q_body (by decide) (by first | exact Nat.le_of_ble_eq_true rfl | simp [lg_sl, q_cat, q_catI, q_catJ, q_catR]) ?_
  intro p e s m below meth c ls X hnm Y hl
  have hx := X.1
  have hb := X.2.1
  have hl : lv_has ls 2 [(0, .int x0), (1, .int x1)] := by first | exact hl | simpa [lv_args, q_cat, q_catI, q_catJ, q_catR] using hl
  generalize hargs : ([.int x0, .int x1] : List Value).toArray = args at X ⊢
  unfold wm_J6_compareUnsigned_7cf53 at h
  refine lv_iload_n hx hb dJ6_compareUnsigned_7cf53_0 rfl (lv_at hl 0 rfl) ?_
  refine lv_ldc (v := (-2147483648)) hx hb X.2.2.2.1 (X.2.2.2.2.1 _ co_J6_127) dJ6_compareUnsigned_7cf53_1 ?_
  refine lv_iadd hx hb dJ6_compareUnsigned_7cf53_3 ?_
  refine lv_iload_n hx hb dJ6_compareUnsigned_7cf53_4 rfl (lv_at hl 1 rfl) ?_
  refine lv_ldc (v := (-2147483648)) hx hb X.2.2.2.1 (X.2.2.2.2.1 _ co_J6_127) dJ6_compareUnsigned_7cf53_5 ?_
  refine lv_iadd hx hb dJ6_compareUnsigned_7cf53_7 ?_
  refine q_callS X Y hl (cm_J6_compare_7cf53 h) mt_J6_compare_7cf53 ms_J6_compare_7cf53 ml_J6_259 rfl rfl (by first | exact Nat.le_of_ble_eq_true rfl | simp [q_cat, q_catI, q_catJ, q_catR]) ⟨Nat.le_of_ble_eq_true rfl, Nat.le_of_ble_eq_true rfl⟩ ⟨Nat.le_of_ble_eq_true rfl, Nat.le_of_ble_eq_true rfl⟩ dJ6_compareUnsigned_7cf53_8 (fun r1_ S2_ H locs hp Y => ?_)
  obtain ⟨x3_, rfl, h⟩ := hp
  refine W.eq (g2 := F0 m 11 ls [.int x3_]) rfl ?_
  exact q_iret X Y rfl (Nat.le_refl _) (Nat.le_refl _) h dJ6_compareUnsigned_7cf53_11
-- X3_branchOf
theorem dX3_branchOf_0 : decode cX3_branchOf 0 = .ok (.iload_n 1, 1) := by decide +kernel
theorem dX3_branchOf_1 : decode cX3_branchOf 1 = .ok (.bipush 31, 2) := by decide +kernel
theorem dX3_branchOf_3 : decode cX3_branchOf 3 = .ok (.ishr, 1) := by decide +kernel
theorem dX3_branchOf_4 : decode cX3_branchOf 4 = .ok (.bipush 12, 2) := by decide +kernel
theorem dX3_branchOf_6 : decode cX3_branchOf 6 = .ok (.ishl, 1) := by decide +kernel
theorem dX3_branchOf_7 : decode cX3_branchOf 7 = .ok (.iload_n 1, 1) := by decide +kernel
theorem dX3_branchOf_8 : decode cX3_branchOf 8 = .ok (.bipush 7, 2) := by decide +kernel
theorem dX3_branchOf_10 : decode cX3_branchOf 10 = .ok (.ishr, 1) := by decide +kernel
theorem dX3_branchOf_11 : decode cX3_branchOf 11 = .ok (.iconst 1, 1) := by decide +kernel
theorem dX3_branchOf_12 : decode cX3_branchOf 12 = .ok (.iand, 1) := by decide +kernel
theorem dX3_branchOf_13 : decode cX3_branchOf 13 = .ok (.bipush 11, 2) := by decide +kernel
theorem dX3_branchOf_15 : decode cX3_branchOf 15 = .ok (.ishl, 1) := by decide +kernel
theorem dX3_branchOf_16 : decode cX3_branchOf 16 = .ok (.ior, 1) := by decide +kernel
theorem dX3_branchOf_17 : decode cX3_branchOf 17 = .ok (.iload_n 1, 1) := by decide +kernel
theorem dX3_branchOf_18 : decode cX3_branchOf 18 = .ok (.bipush 25, 2) := by decide +kernel
theorem dX3_branchOf_20 : decode cX3_branchOf 20 = .ok (.ishr, 1) := by decide +kernel
theorem dX3_branchOf_21 : decode cX3_branchOf 21 = .ok (.bipush 63, 2) := by decide +kernel
theorem dX3_branchOf_23 : decode cX3_branchOf 23 = .ok (.iand, 1) := by decide +kernel
theorem dX3_branchOf_24 : decode cX3_branchOf 24 = .ok (.iconst 5, 1) := by decide +kernel
theorem dX3_branchOf_25 : decode cX3_branchOf 25 = .ok (.ishl, 1) := by decide +kernel
theorem dX3_branchOf_26 : decode cX3_branchOf 26 = .ok (.ior, 1) := by decide +kernel
theorem dX3_branchOf_27 : decode cX3_branchOf 27 = .ok (.iload_n 1, 1) := by decide +kernel
theorem dX3_branchOf_28 : decode cX3_branchOf 28 = .ok (.bipush 8, 2) := by decide +kernel
theorem dX3_branchOf_30 : decode cX3_branchOf 30 = .ok (.ishr, 1) := by decide +kernel
theorem dX3_branchOf_31 : decode cX3_branchOf 31 = .ok (.bipush 15, 2) := by decide +kernel
theorem dX3_branchOf_33 : decode cX3_branchOf 33 = .ok (.iand, 1) := by decide +kernel
theorem dX3_branchOf_34 : decode cX3_branchOf 34 = .ok (.iconst 1, 1) := by decide +kernel
theorem dX3_branchOf_35 : decode cX3_branchOf 35 = .ok (.ishl, 1) := by decide +kernel
theorem dX3_branchOf_36 : decode cX3_branchOf 36 = .ok (.ior, 1) := by decide +kernel
theorem dX3_branchOf_37 : decode cX3_branchOf 37 = .ok (.ireturn, 1) := by decide +kernel
def wm_X3_branchOf (S : q_S) (a0 : Nat) (x1 : Int32) (Q : Option Value → q_S → Prop) : Prop := Q (some (.int (((((x1 >>> ((31 : Int32) &&& 31)) <<< ((12 : Int32) &&& 31)) ||| (((x1 >>> ((7 : Int32) &&& 31)) &&& (1 : Int32)) <<< ((11 : Int32) &&& 31))) ||| (((x1 >>> ((25 : Int32) &&& 31)) &&& (63 : Int32)) <<< ((5 : Int32) &&& 31))) ||| (((x1 >>> ((8 : Int32) &&& 31)) &&& (15 : Int32)) <<< ((1 : Int32) &&& 31))))) S
set_option maxHeartbeats 4000000 in
set_option maxRecDepth 100000 in
theorem cm_X3_branchOf {l : Launch} {D : va_G} {cy : Nat → ClassId} {lo : Nat} {S : q_S} {a0 : Nat} {x1 : Int32} {Q : Option Value → q_S → Prop} (h : wm_X3_branchOf S a0 x1 Q) : q_Met l D cy lo yX3_branchOf cX3_branchOf 2 (some .int) 0 0 0 0 [.ref a0, .int x1] S Q := by
  refine q_body (by decide) (by first | exact Nat.le_of_ble_eq_true rfl | simp [lg_sl, q_cat, q_catI, q_catJ, q_catR]) ?_
  intro p e s m below meth c ls X hnm Y hl
  have hx := X.1
  have hb := X.2.1
  have hl : lv_has ls 2 [(0, .ref a0), (1, .int x1)] := by first | exact hl | simpa [lv_args, q_cat, q_catI, q_catJ, q_catR] using hl
  generalize hargs : ([.ref a0, .int x1] : List Value).toArray = args at X ⊢
  unfold wm_X3_branchOf at h
  refine lv_iload_n hx hb dX3_branchOf_0 rfl (lv_at hl 1 rfl) ?_
  refine lv_bipush (v := 31) hx hb dX3_branchOf_1 (by decide) ?_
  refine lv_ishr hx hb dX3_branchOf_3 ?_
  refine lv_bipush (v := 12) hx hb dX3_branchOf_4 (by decide) ?_
  refine lv_ishl hx hb dX3_branchOf_6 ?_
  refine lv_iload_n hx hb dX3_branchOf_7 rfl (lv_at hl 1 rfl) ?_
  refine lv_bipush (v := 7) hx hb dX3_branchOf_8 (by decide) ?_
  refine lv_ishr hx hb dX3_branchOf_10 ?_
  refine lv_iconst (v := 1) hx hb dX3_branchOf_11 (by decide) ?_
  refine lv_iand hx hb dX3_branchOf_12 ?_
  refine lv_bipush (v := 11) hx hb dX3_branchOf_13 (by decide) ?_
  refine lv_ishl hx hb dX3_branchOf_15 ?_
  refine lv_ior hx hb dX3_branchOf_16 ?_
  refine lv_iload_n hx hb dX3_branchOf_17 rfl (lv_at hl 1 rfl) ?_
  refine lv_bipush (v := 25) hx hb dX3_branchOf_18 (by decide) ?_
  refine lv_ishr hx hb dX3_branchOf_20 ?_
  refine lv_bipush (v := 63) hx hb dX3_branchOf_21 (by decide) ?_
  refine lv_iand hx hb dX3_branchOf_23 ?_
  refine lv_iconst (v := 5) hx hb dX3_branchOf_24 (by decide) ?_
  refine lv_ishl hx hb dX3_branchOf_25 ?_
  refine lv_ior hx hb dX3_branchOf_26 ?_
  refine lv_iload_n hx hb dX3_branchOf_27 rfl (lv_at hl 1 rfl) ?_
  refine lv_bipush (v := 8) hx hb dX3_branchOf_28 (by decide) ?_
  refine lv_ishr hx hb dX3_branchOf_30 ?_
  refine lv_bipush (v := 15) hx hb dX3_branchOf_31 (by decide) ?_
  refine lv_iand hx hb dX3_branchOf_33 ?_
  refine lv_iconst (v := 1) hx hb dX3_branchOf_34 (by decide) ?_
  refine lv_ishl hx hb dX3_branchOf_35 ?_
  refine lv_ior hx hb dX3_branchOf_36 ?_
  exact q_iret X Y rfl (Nat.le_refl _) (Nat.le_refl _) h dX3_branchOf_37
-- X3_branch
theorem ml_X3_64 : Cond.methodLink RX3 64 yX3_branchOf ∈ q_G := q_tb (i := 1479) (by decide +kernel) (by decide +kernel)
theorem mt_X3_branchOf : q_Mt yX3_branchOf cX3_branchOf 2 (some .int) 1 := ⟨q_tb (i := 1482) (by decide +kernel) (by decide +kernel), q_tb (i := 9) (by decide +kernel) (by decide +kernel), by decide +kernel, by decide +kernel, by decide +kernel⟩
theorem mi_X3_branchOf : Cond.instanceMethod yX3_branchOf ∈ q_G ∧ Cond.selects yX3_branchOf.cls yX3_branchOf yX3_branchOf ∈ q_G := ⟨q_tb (i := 1481) (by decide +kernel) (by decide +kernel), q_tp (i := 44) (q := (yX3_branchOf, 1)) (by decide +kernel) (by decide +kernel)⟩
theorem ml_X3_59 : Cond.methodLink RX3 59 yJ6_compareUnsigned_7cf53 ∈ q_G := q_tb (i := 1472) (by decide +kernel) (by decide +kernel)
theorem mt_J6_compareUnsigned_7cf53 : q_Mt yJ6_compareUnsigned_7cf53 cJ6_compareUnsigned_7cf53 2 (some .int) 2 := ⟨q_tb (i := 1474) (by decide +kernel) (by decide +kernel), q_tb (i := 28) (by decide +kernel) (by decide +kernel), by decide +kernel, by decide +kernel, by decide +kernel⟩
theorem ms_J6_compareUnsigned_7cf53 : Cond.static yJ6_compareUnsigned_7cf53 ∈ q_G := q_tb (i := 1473) (by decide +kernel) (by decide +kernel)
theorem dX3_branch_0 : decode cX3_branch 0 = .ok (.aload_n 1, 1) := by decide +kernel
theorem dX3_branch_1 : decode cX3_branch 1 = .ok (.getfield 38, 3) := by decide +kernel
theorem dX3_branch_4 : decode cX3_branch 4 = .ok (.iload_n 2, 1) := by decide +kernel
theorem dX3_branch_5 : decode cX3_branch 5 = .ok (.bipush 15, 2) := by decide +kernel
theorem dX3_branch_7 : decode cX3_branch 7 = .ok (.ishr, 1) := by decide +kernel
theorem dX3_branch_8 : decode cX3_branch 8 = .ok (.bipush 31, 2) := by decide +kernel
theorem dX3_branch_10 : decode cX3_branch 10 = .ok (.iand, 1) := by decide +kernel
theorem dX3_branch_11 : decode cX3_branch 11 = .ok (.iaload, 1) := by decide +kernel
theorem dX3_branch_12 : decode cX3_branch 12 = .ok (.istore_n 3, 1) := by decide +kernel
theorem dX3_branch_13 : decode cX3_branch 13 = .ok (.aload_n 1, 1) := by decide +kernel
theorem dX3_branch_14 : decode cX3_branch 14 = .ok (.getfield 38, 3) := by decide +kernel
theorem dX3_branch_17 : decode cX3_branch 17 = .ok (.iload_n 2, 1) := by decide +kernel
theorem dX3_branch_18 : decode cX3_branch 18 = .ok (.bipush 20, 2) := by decide +kernel
theorem dX3_branch_20 : decode cX3_branch 20 = .ok (.ishr, 1) := by decide +kernel
theorem dX3_branch_21 : decode cX3_branch 21 = .ok (.bipush 31, 2) := by decide +kernel
theorem dX3_branch_23 : decode cX3_branch 23 = .ok (.iand, 1) := by decide +kernel
theorem dX3_branch_24 : decode cX3_branch 24 = .ok (.iaload, 1) := by decide +kernel
theorem dX3_branch_25 : decode cX3_branch 25 = .ok (.istore 4, 2) := by decide +kernel
theorem dX3_branch_27 : decode cX3_branch 27 = .ok (.iload_n 2, 1) := by decide +kernel
theorem dX3_branch_28 : decode cX3_branch 28 = .ok (.bipush 13, 2) := by decide +kernel
theorem dX3_branch_30 : decode cX3_branch 30 = .ok (.ishr, 1) := by decide +kernel
theorem dX3_branch_31 : decode cX3_branch 31 = .ok (.iconst 3, 1) := by decide +kernel
theorem dX3_branch_32 : decode cX3_branch 32 = .ok (.iand, 1) := by decide +kernel
theorem dX3_branch_33 : decode cX3_branch 33 = .ok (.tableswitch 82 0 3 #[31, 82, 47, 63], 31) := by decide +kernel
theorem dX3_branch_64 : decode cX3_branch 64 = .ok (.iload_n 3, 1) := by decide +kernel
theorem dX3_branch_65 : decode cX3_branch 65 = .ok (.iload 4, 2) := by decide +kernel
theorem dX3_branch_67 : decode cX3_branch 67 = .ok (.if_icmp .ne 7, 3) := by decide +kernel
theorem dX3_branch_70 : decode cX3_branch 70 = .ok (.iconst 1, 1) := by decide +kernel
theorem dX3_branch_71 : decode cX3_branch 71 = .ok (.goto 4, 3) := by decide +kernel
theorem dX3_branch_74 : decode cX3_branch 74 = .ok (.iconst 0, 1) := by decide +kernel
theorem dX3_branch_75 : decode cX3_branch 75 = .ok (.istore 5, 2) := by decide +kernel
theorem dX3_branch_77 : decode cX3_branch 77 = .ok (.goto 40, 3) := by decide +kernel
theorem dX3_branch_80 : decode cX3_branch 80 = .ok (.iload_n 3, 1) := by decide +kernel
theorem dX3_branch_81 : decode cX3_branch 81 = .ok (.iload 4, 2) := by decide +kernel
theorem dX3_branch_83 : decode cX3_branch 83 = .ok (.if_icmp .ge 7, 3) := by decide +kernel
theorem dX3_branch_86 : decode cX3_branch 86 = .ok (.iconst 1, 1) := by decide +kernel
theorem dX3_branch_87 : decode cX3_branch 87 = .ok (.goto 4, 3) := by decide +kernel
theorem dX3_branch_90 : decode cX3_branch 90 = .ok (.iconst 0, 1) := by decide +kernel
theorem dX3_branch_91 : decode cX3_branch 91 = .ok (.istore 5, 2) := by decide +kernel
theorem dX3_branch_93 : decode cX3_branch 93 = .ok (.goto 24, 3) := by decide +kernel
theorem dX3_branch_96 : decode cX3_branch 96 = .ok (.iload_n 3, 1) := by decide +kernel
theorem dX3_branch_97 : decode cX3_branch 97 = .ok (.iload 4, 2) := by decide +kernel
theorem dX3_branch_99 : decode cX3_branch 99 = .ok (.invokestatic 59, 3) := by decide +kernel
theorem dX3_branch_102 : decode cX3_branch 102 = .ok (.ifCond .ge 7, 3) := by decide +kernel
theorem dX3_branch_105 : decode cX3_branch 105 = .ok (.iconst 1, 1) := by decide +kernel
theorem dX3_branch_106 : decode cX3_branch 106 = .ok (.goto 4, 3) := by decide +kernel
theorem dX3_branch_109 : decode cX3_branch 109 = .ok (.iconst 0, 1) := by decide +kernel
theorem dX3_branch_110 : decode cX3_branch 110 = .ok (.istore 5, 2) := by decide +kernel
theorem dX3_branch_112 : decode cX3_branch 112 = .ok (.goto 5, 3) := by decide +kernel
theorem dX3_branch_115 : decode cX3_branch 115 = .ok (.iconst 0, 1) := by decide +kernel
theorem dX3_branch_116 : decode cX3_branch 116 = .ok (.ireturn, 1) := by decide +kernel
theorem dX3_branch_117 : decode cX3_branch 117 = .ok (.iload_n 2, 1) := by decide +kernel
theorem dX3_branch_118 : decode cX3_branch 118 = .ok (.bipush 12, 2) := by decide +kernel
theorem dX3_branch_120 : decode cX3_branch 120 = .ok (.ishr, 1) := by decide +kernel
theorem dX3_branch_121 : decode cX3_branch 121 = .ok (.iconst 1, 1) := by decide +kernel
theorem dX3_branch_122 : decode cX3_branch 122 = .ok (.iand, 1) := by decide +kernel
theorem dX3_branch_123 : decode cX3_branch 123 = .ok (.ifCond .eq 7, 3) := by decide +kernel
theorem dX3_branch_126 : decode cX3_branch 126 = .ok (.iconst 1, 1) := by decide +kernel
theorem dX3_branch_127 : decode cX3_branch 127 = .ok (.goto 4, 3) := by decide +kernel
theorem dX3_branch_130 : decode cX3_branch 130 = .ok (.iconst 0, 1) := by decide +kernel
theorem dX3_branch_131 : decode cX3_branch 131 = .ok (.istore 6, 2) := by decide +kernel
theorem dX3_branch_133 : decode cX3_branch 133 = .ok (.aload_n 1, 1) := by decide +kernel
theorem dX3_branch_134 : decode cX3_branch 134 = .ok (.dup, 1) := by decide +kernel
theorem dX3_branch_135 : decode cX3_branch 135 = .ok (.getfield 9, 3) := by decide +kernel
theorem dX3_branch_138 : decode cX3_branch 138 = .ok (.iload 5, 2) := by decide +kernel
theorem dX3_branch_140 : decode cX3_branch 140 = .ok (.iload 6, 2) := by decide +kernel
theorem dX3_branch_142 : decode cX3_branch 142 = .ok (.if_icmp .eq 11, 3) := by decide +kernel
theorem dX3_branch_145 : decode cX3_branch 145 = .ok (.aload_n 0, 1) := by decide +kernel
theorem dX3_branch_146 : decode cX3_branch 146 = .ok (.iload_n 2, 1) := by decide +kernel
theorem dX3_branch_147 : decode cX3_branch 147 = .ok (.invokevirtual 64, 3) := by decide +kernel
theorem dX3_branch_150 : decode cX3_branch 150 = .ok (.goto 4, 3) := by decide +kernel
theorem dX3_branch_153 : decode cX3_branch 153 = .ok (.iconst 4, 1) := by decide +kernel
theorem dX3_branch_154 : decode cX3_branch 154 = .ok (.iadd, 1) := by decide +kernel
theorem dX3_branch_155 : decode cX3_branch 155 = .ok (.putfield 9, 3) := by decide +kernel
theorem dX3_branch_158 : decode cX3_branch 158 = .ok (.iconst (-1), 1) := by decide +kernel
theorem dX3_branch_159 : decode cX3_branch 159 = .ok (.ireturn, 1) := by decide +kernel
def wb_X3_branch_154  (S : q_S) (rs0 : Option Nat) (xs1 : Int32) (xs2 : Int32) (Q : Option Value → q_S → Prop) : Prop := ∃ a1_ : Nat, rs0 = some a1_ ∧ (q_K S a1_ = 8 ∧ (Q (some (.int (-1 : Int32))) (qs_I S 1410 a1_ (xs1 + xs2))))
set_option maxHeartbeats 4000000 in
set_option maxRecDepth 100000 in
theorem cb_X3_branch_154 {p : Program} {l : Launch} {e : Env} {s : State} {m : MethodId} {args : Array Value} {below : List Frame} {meth : Method} {c : Code} {D : va_G} {cy : Nat → ClassId} {lo : Nat}  {S : q_S} {rs0 : Option Nat} {xs1 : Int32} {xs2 : Int32} {Q : Option Value → q_S → Prop} {H : Heap} {locs : List Loc} {ls : Array Slot} (X : q_X p s m args meth c RX3 cX3_branch 7 (some .int) D cy lo)  (Y : q_Y D cy lo s S H locs) (hl : lv_has ls 7 []) (h : wb_X3_branch_154 S rs0 xs1 xs2 Q) : W p l e ({ frames := 2, cells := 0, slots := 0, locals := 42 } : Room) s m args below meth c H locs 0 0 (MQ below (q_Q D cy lo Q) args s 0 0 (fun q => lo ≤ q)) (F0 m 154 ls [.int xs2, .int xs1, va_rf rs0]) := by
  have hx := X.1
  have hb := X.2.1
  unfold wb_X3_branch_154 at h
  refine lv_iadd hx hb dX3_branch_154 ?_
  obtain ⟨a1_, e2_, h⟩ := h
  refine q_nn [.int (xs1 + xs2)] e2_ ?_
  obtain ⟨k3_, h⟩ := h
  refine q_putI X Y kX7 10 rfl fl_X3_9 k3_ .int rfl ⟨rfl, rfl⟩ rfl dX3_branch_155 (fun H locs Y => ?_)
  refine lv_iconst (v := (-1)) hx hb dX3_branch_158 (by decide) ?_
  exact q_iret X Y rfl (Nat.le_refl _) (Nat.le_refl _) h dX3_branch_159
def wb_X3_branch_131  (S : q_S) (a0 : Nat) (r1 : Option Nat) (x2 : Int32) (x5 : Int32) (xs0 : Int32) (Q : Option Value → q_S → Prop) : Prop := ∃ a4_ : Nat, r1 = some a4_ ∧ (q_K S a4_ = 8 ∧ (((x5 = xs0 → (wb_X3_branch_154 S r1 (q_I S 1410 a4_) (4 : Int32) Q)) ∧ (¬ x5 = xs0 → (q_K S a0 = 4 ∧ (wm_X3_branchOf S a0 x2 (fun r9_ S10_ => ∃ x11_ : Int32, r9_ = some (.int x11_) ∧ (wb_X3_branch_154 S10_ r1 (q_I S 1410 a4_) x11_ Q))))))))
set_option maxHeartbeats 4000000 in
set_option maxRecDepth 100000 in
theorem cb_X3_branch_131 {p : Program} {l : Launch} {e : Env} {s : State} {m : MethodId} {args : Array Value} {below : List Frame} {meth : Method} {c : Code} {D : va_G} {cy : Nat → ClassId} {lo : Nat}  {S : q_S} {a0 : Nat} {r1 : Option Nat} {x2 : Int32} {x5 : Int32} {xs0 : Int32} {Q : Option Value → q_S → Prop} {H : Heap} {locs : List Loc} {ls : Array Slot} (X : q_X p s m args meth c RX3 cX3_branch 7 (some .int) D cy lo)  (Y : q_Y D cy lo s S H locs) (hl : lv_has ls 7 [(0, .ref a0), (1, va_rf r1), (2, .int x2), (5, .int x5)]) (h : wb_X3_branch_131 S a0 r1 x2 x5 xs0 Q) : W p l e ({ frames := 2, cells := 0, slots := 0, locals := 42 } : Room) s m args below meth c H locs 0 0 (MQ below (q_Q D cy lo Q) args s 0 0 (fun q => lo ≤ q)) (F0 m 131 ls [.int xs0]) := by
  have hx := X.1
  have hb := X.2.1
  unfold wb_X3_branch_131 at h
  refine lv_istore (i := 6) (lv' := [(6, .int xs0), (0, .ref a0), (1, va_rf r1), (2, .int x2), (5, .int x5)]) hx hb dX3_branch_131 hl (by decide) (by first | rfl | simp [q_cat, q_catI, q_catJ, q_catR]) (fun ls hl => ?_)
  refine q_aload_n hx hb dX3_branch_133 rfl (lv_at hl 2 rfl) ?_
  refine lv_dup hx hb dX3_branch_134 (q_cat _) ?_
  obtain ⟨a4_, e5_, h⟩ := h
  refine q_nn [] e5_ ?_
  obtain ⟨k6_, h⟩ := h
  refine q_getI X Y kX7 10 rfl fl_X3_9 k6_ dX3_branch_135 ?_
  refine lv_iload hx hb dX3_branch_138 (lv_at hl 4 rfl) ?_
  refine lv_iload hx hb dX3_branch_140 (lv_at hl 0 rfl) ?_
  refine lv_icmp_eq (tgt := 153) hx hb dX3_branch_142 (by decide) (fun c7_ => ?_) (fun c7_ => ?_)
  · replace h := h.1 c7_
    refine lv_iconst (v := 4) hx hb dX3_branch_153 (by decide) ?_
    exact cb_X3_branch_154 X Y (lv_sub hl [] rfl) h
  · replace h := h.2 c7_
    refine lv_aload_n hx hb dX3_branch_145 rfl (lv_at hl 1 rfl) ?_
    refine lv_iload_n hx hb dX3_branch_146 rfl (lv_at hl 3 rfl) ?_
    obtain ⟨k8_, h⟩ := h
    refine q_callV X Y hl (cm_X3_branchOf h) mt_X3_branchOf mi_X3_branchOf ml_X3_64 (ci := 3) rfl k8_ (by decide) rfl rfl (by first | exact Nat.le_of_ble_eq_true rfl | simp [q_cat, q_catI, q_catJ, q_catR]) ⟨Nat.le_of_ble_eq_true rfl, Nat.le_of_ble_eq_true rfl⟩ ⟨Nat.le_of_ble_eq_true rfl, Nat.le_of_ble_eq_true rfl⟩ dX3_branch_147 (fun r9_ S10_ H locs hp Y => ?_)
    obtain ⟨x11_, rfl, h⟩ := hp
    refine W.eq (g2 := F0 m 150 ls [.int x11_, .int (q_I S 1410 a4_), va_rf r1]) rfl ?_
    refine lv_goto (tgt := 154) hx hb dX3_branch_150 (by decide) ?_
    exact cb_X3_branch_154 X Y (lv_sub hl [] rfl) h
def wb_X3_branch_117  (S : q_S) (a0 : Nat) (r1 : Option Nat) (x2 : Int32) (x5 : Int32) (Q : Option Value → q_S → Prop) : Prop := ((((x2 >>> ((12 : Int32) &&& 31)) &&& (1 : Int32)) = 0 → (wb_X3_branch_131 S a0 r1 x2 x5 (0 : Int32) Q)) ∧ (¬ ((x2 >>> ((12 : Int32) &&& 31)) &&& (1 : Int32)) = 0 → (wb_X3_branch_131 S a0 r1 x2 x5 (1 : Int32) Q)))
set_option maxHeartbeats 4000000 in
set_option maxRecDepth 100000 in
theorem cb_X3_branch_117 {p : Program} {l : Launch} {e : Env} {s : State} {m : MethodId} {args : Array Value} {below : List Frame} {meth : Method} {c : Code} {D : va_G} {cy : Nat → ClassId} {lo : Nat}  {S : q_S} {a0 : Nat} {r1 : Option Nat} {x2 : Int32} {x5 : Int32} {Q : Option Value → q_S → Prop} {H : Heap} {locs : List Loc} {ls : Array Slot} (X : q_X p s m args meth c RX3 cX3_branch 7 (some .int) D cy lo)  (Y : q_Y D cy lo s S H locs) (hl : lv_has ls 7 [(0, .ref a0), (1, va_rf r1), (2, .int x2), (5, .int x5)]) (h : wb_X3_branch_117 S a0 r1 x2 x5 Q) : W p l e ({ frames := 2, cells := 0, slots := 0, locals := 42 } : Room) s m args below meth c H locs 0 0 (MQ below (q_Q D cy lo Q) args s 0 0 (fun q => lo ≤ q)) (F0 m 117 ls []) := by
  have hx := X.1
  have hb := X.2.1
  unfold wb_X3_branch_117 at h
  refine lv_iload_n hx hb dX3_branch_117 rfl (lv_at hl 2 rfl) ?_
  refine lv_bipush (v := 12) hx hb dX3_branch_118 (by decide) ?_
  refine lv_ishr hx hb dX3_branch_120 ?_
  refine lv_iconst (v := 1) hx hb dX3_branch_121 (by decide) ?_
  refine lv_iand hx hb dX3_branch_122 ?_
  refine lv_if_eq (tgt := 130) hx hb dX3_branch_123 (by decide) (fun c12_ => ?_) (fun c12_ => ?_)
  · replace h := h.1 c12_
    refine lv_iconst (v := 0) hx hb dX3_branch_130 (by decide) ?_
    exact cb_X3_branch_131 X Y (lv_sub hl [0, 1, 2, 3] rfl) h
  · replace h := h.2 c12_
    refine lv_iconst (v := 1) hx hb dX3_branch_126 (by decide) ?_
    refine lv_goto (tgt := 131) hx hb dX3_branch_127 (by decide) ?_
    exact cb_X3_branch_131 X Y (lv_sub hl [0, 1, 2, 3] rfl) h
def wb_X3_branch_110  (S : q_S) (a0 : Nat) (r1 : Option Nat) (x2 : Int32) (xs0 : Int32) (Q : Option Value → q_S → Prop) : Prop := wb_X3_branch_117 S a0 r1 x2 xs0 Q
set_option maxHeartbeats 4000000 in
set_option maxRecDepth 100000 in
theorem cb_X3_branch_110 {p : Program} {l : Launch} {e : Env} {s : State} {m : MethodId} {args : Array Value} {below : List Frame} {meth : Method} {c : Code} {D : va_G} {cy : Nat → ClassId} {lo : Nat}  {S : q_S} {a0 : Nat} {r1 : Option Nat} {x2 : Int32} {xs0 : Int32} {Q : Option Value → q_S → Prop} {H : Heap} {locs : List Loc} {ls : Array Slot} (X : q_X p s m args meth c RX3 cX3_branch 7 (some .int) D cy lo)  (Y : q_Y D cy lo s S H locs) (hl : lv_has ls 7 [(0, .ref a0), (1, va_rf r1), (2, .int x2)]) (h : wb_X3_branch_110 S a0 r1 x2 xs0 Q) : W p l e ({ frames := 2, cells := 0, slots := 0, locals := 42 } : Room) s m args below meth c H locs 0 0 (MQ below (q_Q D cy lo Q) args s 0 0 (fun q => lo ≤ q)) (F0 m 110 ls [.int xs0]) := by
  have hx := X.1
  have hb := X.2.1
  unfold wb_X3_branch_110 at h
  refine lv_istore (i := 5) (lv' := [(5, .int xs0), (0, .ref a0), (1, va_rf r1), (2, .int x2)]) hx hb dX3_branch_110 hl (by decide) (by first | rfl | simp [q_cat, q_catI, q_catJ, q_catR]) (fun ls hl => ?_)
  refine lv_goto (tgt := 117) hx hb dX3_branch_112 (by decide) ?_
  exact cb_X3_branch_117 X Y (lv_sub hl [1, 2, 3, 0] rfl) h
def wb_X3_branch_91  (S : q_S) (a0 : Nat) (r1 : Option Nat) (x2 : Int32) (xs0 : Int32) (Q : Option Value → q_S → Prop) : Prop := wb_X3_branch_117 S a0 r1 x2 xs0 Q
set_option maxHeartbeats 4000000 in
set_option maxRecDepth 100000 in
theorem cb_X3_branch_91 {p : Program} {l : Launch} {e : Env} {s : State} {m : MethodId} {args : Array Value} {below : List Frame} {meth : Method} {c : Code} {D : va_G} {cy : Nat → ClassId} {lo : Nat}  {S : q_S} {a0 : Nat} {r1 : Option Nat} {x2 : Int32} {xs0 : Int32} {Q : Option Value → q_S → Prop} {H : Heap} {locs : List Loc} {ls : Array Slot} (X : q_X p s m args meth c RX3 cX3_branch 7 (some .int) D cy lo)  (Y : q_Y D cy lo s S H locs) (hl : lv_has ls 7 [(0, .ref a0), (1, va_rf r1), (2, .int x2)]) (h : wb_X3_branch_91 S a0 r1 x2 xs0 Q) : W p l e ({ frames := 2, cells := 0, slots := 0, locals := 42 } : Room) s m args below meth c H locs 0 0 (MQ below (q_Q D cy lo Q) args s 0 0 (fun q => lo ≤ q)) (F0 m 91 ls [.int xs0]) := by
  have hx := X.1
  have hb := X.2.1
  unfold wb_X3_branch_91 at h
  refine lv_istore (i := 5) (lv' := [(5, .int xs0), (0, .ref a0), (1, va_rf r1), (2, .int x2)]) hx hb dX3_branch_91 hl (by decide) (by first | rfl | simp [q_cat, q_catI, q_catJ, q_catR]) (fun ls hl => ?_)
  refine lv_goto (tgt := 117) hx hb dX3_branch_93 (by decide) ?_
  exact cb_X3_branch_117 X Y (lv_sub hl [1, 2, 3, 0] rfl) h
def wb_X3_branch_75  (S : q_S) (a0 : Nat) (r1 : Option Nat) (x2 : Int32) (xs0 : Int32) (Q : Option Value → q_S → Prop) : Prop := wb_X3_branch_117 S a0 r1 x2 xs0 Q
set_option maxHeartbeats 4000000 in
set_option maxRecDepth 100000 in
theorem cb_X3_branch_75 {p : Program} {l : Launch} {e : Env} {s : State} {m : MethodId} {args : Array Value} {below : List Frame} {meth : Method} {c : Code} {D : va_G} {cy : Nat → ClassId} {lo : Nat}  {S : q_S} {a0 : Nat} {r1 : Option Nat} {x2 : Int32} {xs0 : Int32} {Q : Option Value → q_S → Prop} {H : Heap} {locs : List Loc} {ls : Array Slot} (X : q_X p s m args meth c RX3 cX3_branch 7 (some .int) D cy lo)  (Y : q_Y D cy lo s S H locs) (hl : lv_has ls 7 [(0, .ref a0), (1, va_rf r1), (2, .int x2)]) (h : wb_X3_branch_75 S a0 r1 x2 xs0 Q) : W p l e ({ frames := 2, cells := 0, slots := 0, locals := 42 } : Room) s m args below meth c H locs 0 0 (MQ below (q_Q D cy lo Q) args s 0 0 (fun q => lo ≤ q)) (F0 m 75 ls [.int xs0]) := by
  have hx := X.1
  have hb := X.2.1
  unfold wb_X3_branch_75 at h
  refine lv_istore (i := 5) (lv' := [(5, .int xs0), (0, .ref a0), (1, va_rf r1), (2, .int x2)]) hx hb dX3_branch_75 hl (by decide) (by first | rfl | simp [q_cat, q_catI, q_catJ, q_catR]) (fun ls hl => ?_)
  refine lv_goto (tgt := 117) hx hb dX3_branch_77 (by decide) ?_
  exact cb_X3_branch_117 X Y (lv_sub hl [1, 2, 3, 0] rfl) h
def wm_X3_branch (S : q_S) (a0 : Nat) (r1 : Option Nat) (x2 : Int32) (Q : Option Value → q_S → Prop) : Prop := ∃ a13_ : Nat, r1 = some a13_ ∧ (q_K S a13_ = 8 ∧ (∃ a16_ : Nat, (q_P S 1411 a13_) = some a16_ ∧ (q_K S a16_ = 21 ∧ (vp_in ((x2 >>> ((15 : Int32) &&& 31)) &&& (31 : Int32)) (q_N S a16_) ∧ (vp_in ((x2 >>> ((20 : Int32) &&& 31)) &&& (31 : Int32)) (q_N S a16_) ∧ ((((((x2 >>> ((13 : Int32) &&& 31)) &&& (3 : Int32)).toInt < 0 ∨ 3 < ((x2 >>> ((13 : Int32) &&& 31)) &&& (3 : Int32)).toInt) → (Q (some (.int (0 : Int32))) S)) ∧ ((((x2 >>> ((13 : Int32) &&& 31)) &&& (3 : Int32)) = (0 : Int32)) → (((¬ (q_A S a16_ ((x2 >>> ((15 : Int32) &&& 31)) &&& (31 : Int32)).toNatClampNeg) = (q_A S a16_ ((x2 >>> ((20 : Int32) &&& 31)) &&& (31 : Int32)).toNatClampNeg) → (wb_X3_branch_75 S a0 r1 x2 (0 : Int32) Q)) ∧ ((q_A S a16_ ((x2 >>> ((15 : Int32) &&& 31)) &&& (31 : Int32)).toNatClampNeg) = (q_A S a16_ ((x2 >>> ((20 : Int32) &&& 31)) &&& (31 : Int32)).toNatClampNeg) → (wb_X3_branch_75 S a0 r1 x2 (1 : Int32) Q))))) ∧ ((((x2 >>> ((13 : Int32) &&& 31)) &&& (3 : Int32)) = (1 : Int32)) → (Q (some (.int (0 : Int32))) S)) ∧ ((((x2 >>> ((13 : Int32) &&& 31)) &&& (3 : Int32)) = (2 : Int32)) → ((((q_A S a16_ ((x2 >>> ((20 : Int32) &&& 31)) &&& (31 : Int32)).toNatClampNeg) ≤ (q_A S a16_ ((x2 >>> ((15 : Int32) &&& 31)) &&& (31 : Int32)).toNatClampNeg) → (wb_X3_branch_91 S a0 r1 x2 (0 : Int32) Q)) ∧ (¬ (q_A S a16_ ((x2 >>> ((20 : Int32) &&& 31)) &&& (31 : Int32)).toNatClampNeg) ≤ (q_A S a16_ ((x2 >>> ((15 : Int32) &&& 31)) &&& (31 : Int32)).toNatClampNeg) → (wb_X3_branch_91 S a0 r1 x2 (1 : Int32) Q))))) ∧ ((((x2 >>> ((13 : Int32) &&& 31)) &&& (3 : Int32)) = (3 : Int32)) → (wm_J6_compareUnsigned_7cf53 S (q_A S a16_ ((x2 >>> ((15 : Int32) &&& 31)) &&& (31 : Int32)).toNatClampNeg) (q_A S a16_ ((x2 >>> ((20 : Int32) &&& 31)) &&& (31 : Int32)).toNatClampNeg) (fun r23_ S24_ => ∃ x25_ : Int32, r23_ = some (.int x25_) ∧ (((0 ≤ x25_ → (wb_X3_branch_110 S24_ a0 r1 x2 (0 : Int32) Q)) ∧ (¬ 0 ≤ x25_ → (wb_X3_branch_110 S24_ a0 r1 x2 (1 : Int32) Q))))))))))))))
set_option maxHeartbeats 4000000 in
set_option maxRecDepth 100000 in
theorem cm_X3_branch {l : Launch} {D : va_G} {cy : Nat → ClassId} {lo : Nat} {S : q_S} {a0 : Nat} {r1 : Option Nat} {x2 : Int32} {Q : Option Value → q_S → Prop} (h : wm_X3_branch S a0 r1 x2 Q) : q_Met l D cy lo yX3_branch cX3_branch 7 (some .int) 2 42 0 0 [.ref a0, va_rf r1, .int x2] S Q := by
  refine q_body (by decide) (by first | exact Nat.le_of_ble_eq_true rfl | simp [lg_sl, q_cat, q_catI, q_catJ, q_catR]) ?_
  intro p e s m below meth c ls X hnm Y hl
  have hx := X.1
  have hb := X.2.1
  have hl : lv_has ls 7 [(0, .ref a0), (1, va_rf r1), (2, .int x2)] := by first | exact hl | simpa [lv_args, q_cat, q_catI, q_catJ, q_catR] using hl
  generalize hargs : ([.ref a0, va_rf r1, .int x2] : List Value).toArray = args at X ⊢
  unfold wm_X3_branch at h
  refine q_aload_n hx hb dX3_branch_0 rfl (lv_at hl 1 rfl) ?_
  obtain ⟨a13_, e14_, h⟩ := h
  refine q_nn [] e14_ ?_
  obtain ⟨k15_, h⟩ := h
  refine q_getP X Y kX7 11 rfl fl_X3_38 k15_ rfl dX3_branch_1 ?_
  refine lv_iload_n hx hb dX3_branch_4 rfl (lv_at hl 2 rfl) ?_
  refine lv_bipush (v := 15) hx hb dX3_branch_5 (by decide) ?_
  refine lv_ishr hx hb dX3_branch_7 ?_
  refine lv_bipush (v := 31) hx hb dX3_branch_8 (by decide) ?_
  refine lv_iand hx hb dX3_branch_10 ?_
  obtain ⟨a16_, e17_, h⟩ := h
  refine q_nn [.int ((x2 >>> ((15 : Int32) &&& 31)) &&& (31 : Int32))] e17_ ?_
  obtain ⟨k18_, h⟩ := h
  obtain ⟨i19_, h⟩ := h
  refine q_ild X Y k18_ i19_ dX3_branch_11 ?_
  refine lv_istore_n (i := 3) (lv' := [(3, .int (q_A S a16_ ((x2 >>> ((15 : Int32) &&& 31)) &&& (31 : Int32)).toNatClampNeg)), (0, .ref a0), (1, va_rf r1), (2, .int x2)]) hx hb dX3_branch_12 rfl hl (by decide) (by first | rfl | simp [q_cat, q_catI, q_catJ, q_catR]) (fun ls hl => ?_)
  refine q_aload_n hx hb dX3_branch_13 rfl (lv_at hl 2 rfl) ?_
  refine q_nn [] e14_ ?_
  refine q_getR X Y kX7 11 rfl fl_X3_38 k15_ e17_ dX3_branch_14 ?_
  refine lv_iload_n hx hb dX3_branch_17 rfl (lv_at hl 3 rfl) ?_
  refine lv_bipush (v := 20) hx hb dX3_branch_18 (by decide) ?_
  refine lv_ishr hx hb dX3_branch_20 ?_
  refine lv_bipush (v := 31) hx hb dX3_branch_21 (by decide) ?_
  refine lv_iand hx hb dX3_branch_23 ?_
  obtain ⟨i20_, h⟩ := h
  refine q_ild X Y k18_ i20_ dX3_branch_24 ?_
  refine lv_istore (i := 4) (lv' := [(4, .int (q_A S a16_ ((x2 >>> ((20 : Int32) &&& 31)) &&& (31 : Int32)).toNatClampNeg)), (3, .int (q_A S a16_ ((x2 >>> ((15 : Int32) &&& 31)) &&& (31 : Int32)).toNatClampNeg)), (0, .ref a0), (1, va_rf r1), (2, .int x2)]) hx hb dX3_branch_25 hl (by decide) (by first | rfl | simp [q_cat, q_catI, q_catJ, q_catR]) (fun ls hl => ?_)
  refine lv_iload_n hx hb dX3_branch_27 rfl (lv_at hl 4 rfl) ?_
  refine lv_bipush (v := 13) hx hb dX3_branch_28 (by decide) ?_
  refine lv_ishr hx hb dX3_branch_30 ?_
  refine lv_iconst (v := 3) hx hb dX3_branch_31 (by decide) ?_
  refine lv_iand hx hb dX3_branch_32 ?_
  refine q_tsw (tgt := 115) hx hb dX3_branch_33 (by decide) (by decide) (fun c27_ => ?_) (fun j28_ hj_ c27_ => ?_)
  · replace h := h.1 c27_
    refine lv_iconst (v := 0) hx hb dX3_branch_115 (by decide) ?_
    exact q_iret X Y rfl (Nat.le_refl _) (Nat.le_refl _) h dX3_branch_116
  · match j28_, hj_, c27_ with
    | 0, _, c27_ =>
      refine ⟨31, 64, rfl, by decide, ?_⟩
      replace h := h.2.1 (q_eqI c27_ (by decide))
      refine lv_iload_n hx hb dX3_branch_64 rfl (lv_at hl 1 rfl) ?_
      refine lv_iload hx hb dX3_branch_65 (lv_at hl 0 rfl) ?_
      refine lv_icmp_ne (tgt := 74) hx hb dX3_branch_67 (by decide) (fun c21_ => ?_) (fun c21_ => ?_)
      · replace h := h.1 c21_
        refine lv_iconst (v := 0) hx hb dX3_branch_74 (by decide) ?_
        exact cb_X3_branch_75 X Y (lv_sub hl [2, 3, 4] rfl) h
      · replace h := h.2 c21_
        refine lv_iconst (v := 1) hx hb dX3_branch_70 (by decide) ?_
        refine lv_goto (tgt := 75) hx hb dX3_branch_71 (by decide) ?_
        exact cb_X3_branch_75 X Y (lv_sub hl [2, 3, 4] rfl) h
    | 1, _, c27_ =>
      refine ⟨82, 115, rfl, by decide, ?_⟩
      replace h := h.2.2.1 (q_eqI c27_ (by decide))
      refine lv_iconst (v := 0) hx hb dX3_branch_115 (by decide) ?_
      exact q_iret X Y rfl (Nat.le_refl _) (Nat.le_refl _) h dX3_branch_116
    | 2, _, c27_ =>
      refine ⟨47, 80, rfl, by decide, ?_⟩
      replace h := h.2.2.2.1 (q_eqI c27_ (by decide))
      refine lv_iload_n hx hb dX3_branch_80 rfl (lv_at hl 1 rfl) ?_
      refine lv_iload hx hb dX3_branch_81 (lv_at hl 0 rfl) ?_
      refine lv_icmp_ge (tgt := 90) hx hb dX3_branch_83 (by decide) (fun c22_ => ?_) (fun c22_ => ?_)
      · replace h := h.1 c22_
        refine lv_iconst (v := 0) hx hb dX3_branch_90 (by decide) ?_
        exact cb_X3_branch_91 X Y (lv_sub hl [2, 3, 4] rfl) h
      · replace h := h.2 c22_
        refine lv_iconst (v := 1) hx hb dX3_branch_86 (by decide) ?_
        refine lv_goto (tgt := 91) hx hb dX3_branch_87 (by decide) ?_
        exact cb_X3_branch_91 X Y (lv_sub hl [2, 3, 4] rfl) h
    | 3, _, c27_ =>
      refine ⟨63, 96, rfl, by decide, ?_⟩
      replace h := h.2.2.2.2 (q_eqI c27_ (by decide))
      refine lv_iload_n hx hb dX3_branch_96 rfl (lv_at hl 1 rfl) ?_
      refine lv_iload hx hb dX3_branch_97 (lv_at hl 0 rfl) ?_
      refine q_callS X Y hl (cm_J6_compareUnsigned_7cf53 h) mt_J6_compareUnsigned_7cf53 ms_J6_compareUnsigned_7cf53 ml_X3_59 rfl rfl (by first | exact Nat.le_of_ble_eq_true rfl | simp [q_cat, q_catI, q_catJ, q_catR]) ⟨Nat.le_of_ble_eq_true rfl, Nat.le_of_ble_eq_true rfl⟩ ⟨Nat.le_of_ble_eq_true rfl, Nat.le_of_ble_eq_true rfl⟩ dX3_branch_99 (fun r23_ S24_ H locs hp Y => ?_)
      obtain ⟨x25_, rfl, h⟩ := hp
      refine W.eq (g2 := F0 m 102 ls [.int x25_]) rfl ?_
      refine lv_if_ge (tgt := 109) hx hb dX3_branch_102 (by decide) (fun c26_ => ?_) (fun c26_ => ?_)
      · replace h := h.1 c26_
        refine lv_iconst (v := 0) hx hb dX3_branch_109 (by decide) ?_
        exact cb_X3_branch_110 X Y (lv_sub hl [2, 3, 4] rfl) h
      · replace h := h.2 c26_
        refine lv_iconst (v := 1) hx hb dX3_branch_105 (by decide) ?_
        refine lv_goto (tgt := 110) hx hb dX3_branch_106 (by decide) ?_
        exact cb_X3_branch_110 X Y (lv_sub hl [2, 3, 4] rfl) h
    | z_ + 4, hj_, _ => exact absurd hj_ (by simp)
-- X3_wrongPlace
theorem fl_X3_15 : Cond.fieldLink RX3 15 "PartitionWorks$Machine" "code" "I" ∈ q_G := q_tb (i := 253) (by decide +kernel) (by decide +kernel)
theorem dX3_wrongPlace_0 : decode cX3_wrongPlace 0 = .ok (.iload_n 1, 1) := by decide +kernel
theorem dX3_wrongPlace_1 : decode cX3_wrongPlace 1 = .ok (.iload_n 2, 1) := by decide +kernel
theorem dX3_wrongPlace_2 : decode cX3_wrongPlace 2 = .ok (.iconst 1, 1) := by decide +kernel
theorem dX3_wrongPlace_3 : decode cX3_wrongPlace 3 = .ok (.isub, 1) := by decide +kernel
theorem dX3_wrongPlace_4 : decode cX3_wrongPlace 4 = .ok (.iand, 1) := by decide +kernel
theorem dX3_wrongPlace_5 : decode cX3_wrongPlace 5 = .ok (.ifCond .ne 9, 3) := by decide +kernel
theorem dX3_wrongPlace_8 : decode cX3_wrongPlace 8 = .ok (.iload_n 3, 1) := by decide +kernel
theorem dX3_wrongPlace_9 : decode cX3_wrongPlace 9 = .ok (.ifCond .eq 5, 3) := by decide +kernel
theorem dX3_wrongPlace_12 : decode cX3_wrongPlace 12 = .ok (.iconst (-1), 1) := by decide +kernel
theorem dX3_wrongPlace_13 : decode cX3_wrongPlace 13 = .ok (.ireturn, 1) := by decide +kernel
theorem dX3_wrongPlace_14 : decode cX3_wrongPlace 14 = .ok (.aload_n 0, 1) := by decide +kernel
theorem dX3_wrongPlace_15 : decode cX3_wrongPlace 15 = .ok (.iload_n 1, 1) := by decide +kernel
theorem dX3_wrongPlace_16 : decode cX3_wrongPlace 16 = .ok (.putfield 15, 3) := by decide +kernel
theorem dX3_wrongPlace_19 : decode cX3_wrongPlace 19 = .ok (.iload_n 1, 1) := by decide +kernel
theorem dX3_wrongPlace_20 : decode cX3_wrongPlace 20 = .ok (.iload_n 2, 1) := by decide +kernel
theorem dX3_wrongPlace_21 : decode cX3_wrongPlace 21 = .ok (.iconst 1, 1) := by decide +kernel
theorem dX3_wrongPlace_22 : decode cX3_wrongPlace 22 = .ok (.isub, 1) := by decide +kernel
theorem dX3_wrongPlace_23 : decode cX3_wrongPlace 23 = .ok (.iand, 1) := by decide +kernel
theorem dX3_wrongPlace_24 : decode cX3_wrongPlace 24 = .ok (.ifCond .eq 7, 3) := by decide +kernel
theorem dX3_wrongPlace_27 : decode cX3_wrongPlace 27 = .ok (.iconst 4, 1) := by decide +kernel
theorem dX3_wrongPlace_28 : decode cX3_wrongPlace 28 = .ok (.goto 4, 3) := by decide +kernel
theorem dX3_wrongPlace_31 : decode cX3_wrongPlace 31 = .ok (.iconst 1, 1) := by decide +kernel
theorem dX3_wrongPlace_32 : decode cX3_wrongPlace 32 = .ok (.ireturn, 1) := by decide +kernel
def wb_X3_wrongPlace_32  (S : q_S) (xs0 : Int32) (Q : Option Value → q_S → Prop) : Prop := Q (some (.int xs0)) S
set_option maxHeartbeats 4000000 in
set_option maxRecDepth 100000 in
theorem cb_X3_wrongPlace_32 {p : Program} {l : Launch} {e : Env} {s : State} {m : MethodId} {args : Array Value} {below : List Frame} {meth : Method} {c : Code} {D : va_G} {cy : Nat → ClassId} {lo : Nat}  {S : q_S} {xs0 : Int32} {Q : Option Value → q_S → Prop} {H : Heap} {locs : List Loc} {ls : Array Slot} (X : q_X p s m args meth c RX3 cX3_wrongPlace 4 (some .int) D cy lo)  (Y : q_Y D cy lo s S H locs) (hl : lv_has ls 4 []) (h : wb_X3_wrongPlace_32 S xs0 Q) : W p l e ({ frames := 0, cells := 0, slots := 0, locals := 0 } : Room) s m args below meth c H locs 0 0 (MQ below (q_Q D cy lo Q) args s 0 0 (fun q => lo ≤ q)) (F0 m 32 ls [.int xs0]) := by
  have hx := X.1
  have hb := X.2.1
  unfold wb_X3_wrongPlace_32 at h
  exact q_iret X Y rfl (Nat.le_refl _) (Nat.le_refl _) h dX3_wrongPlace_32
def wb_X3_wrongPlace_14  (S : q_S) (a0 : Nat) (x1 : Int32) (x2 : Int32) (Q : Option Value → q_S → Prop) : Prop := q_K S a0 = 4 ∧ ((((x1 &&& (x2 - (1 : Int32))) = 0 → (wb_X3_wrongPlace_32 (qs_I S 600 a0 x1) (1 : Int32) Q)) ∧ (¬ (x1 &&& (x2 - (1 : Int32))) = 0 → (wb_X3_wrongPlace_32 (qs_I S 600 a0 x1) (4 : Int32) Q))))
set_option maxHeartbeats 4000000 in
set_option maxRecDepth 100000 in
theorem cb_X3_wrongPlace_14 {p : Program} {l : Launch} {e : Env} {s : State} {m : MethodId} {args : Array Value} {below : List Frame} {meth : Method} {c : Code} {D : va_G} {cy : Nat → ClassId} {lo : Nat}  {S : q_S} {a0 : Nat} {x1 : Int32} {x2 : Int32} {Q : Option Value → q_S → Prop} {H : Heap} {locs : List Loc} {ls : Array Slot} (X : q_X p s m args meth c RX3 cX3_wrongPlace 4 (some .int) D cy lo)  (Y : q_Y D cy lo s S H locs) (hl : lv_has ls 4 [(0, .ref a0), (1, .int x1), (2, .int x2)]) (h : wb_X3_wrongPlace_14 S a0 x1 x2 Q) : W p l e ({ frames := 0, cells := 0, slots := 0, locals := 0 } : Room) s m args below meth c H locs 0 0 (MQ below (q_Q D cy lo Q) args s 0 0 (fun q => lo ≤ q)) (F0 m 14 ls []) := by
  have hx := X.1
  have hb := X.2.1
  unfold wb_X3_wrongPlace_14 at h
  refine lv_aload_n hx hb dX3_wrongPlace_14 rfl (lv_at hl 0 rfl) ?_
  refine lv_iload_n hx hb dX3_wrongPlace_15 rfl (lv_at hl 1 rfl) ?_
  obtain ⟨k1_, h⟩ := h
  refine q_putI X Y kX3 0 rfl fl_X3_15 k1_ .int rfl ⟨rfl, rfl⟩ rfl dX3_wrongPlace_16 (fun H locs Y => ?_)
  refine lv_iload_n hx hb dX3_wrongPlace_19 rfl (lv_at hl 1 rfl) ?_
  refine lv_iload_n hx hb dX3_wrongPlace_20 rfl (lv_at hl 2 rfl) ?_
  refine lv_iconst (v := 1) hx hb dX3_wrongPlace_21 (by decide) ?_
  refine lv_isub hx hb dX3_wrongPlace_22 ?_
  refine lv_iand hx hb dX3_wrongPlace_23 ?_
  refine lv_if_eq (tgt := 31) hx hb dX3_wrongPlace_24 (by decide) (fun c2_ => ?_) (fun c2_ => ?_)
  · replace h := h.1 c2_
    refine lv_iconst (v := 1) hx hb dX3_wrongPlace_31 (by decide) ?_
    exact cb_X3_wrongPlace_32 X Y (lv_sub hl [] rfl) h
  · replace h := h.2 c2_
    refine lv_iconst (v := 4) hx hb dX3_wrongPlace_27 (by decide) ?_
    refine lv_goto (tgt := 32) hx hb dX3_wrongPlace_28 (by decide) ?_
    exact cb_X3_wrongPlace_32 X Y (lv_sub hl [] rfl) h
def wm_X3_wrongPlace (S : q_S) (a0 : Nat) (x1 : Int32) (x2 : Int32) (x3 : Int32) (Q : Option Value → q_S → Prop) : Prop := ((¬ (x1 &&& (x2 - (1 : Int32))) = 0 → (wb_X3_wrongPlace_14 S a0 x1 x2 Q)) ∧ ((x1 &&& (x2 - (1 : Int32))) = 0 → (((x3 = 0 → (wb_X3_wrongPlace_14 S a0 x1 x2 Q)) ∧ (¬ x3 = 0 → (Q (some (.int (-1 : Int32))) S))))))
set_option maxHeartbeats 4000000 in
set_option maxRecDepth 100000 in
theorem cm_X3_wrongPlace {l : Launch} {D : va_G} {cy : Nat → ClassId} {lo : Nat} {S : q_S} {a0 : Nat} {x1 : Int32} {x2 : Int32} {x3 : Int32} {Q : Option Value → q_S → Prop} (h : wm_X3_wrongPlace S a0 x1 x2 x3 Q) : q_Met l D cy lo yX3_wrongPlace cX3_wrongPlace 4 (some .int) 0 0 0 0 [.ref a0, .int x1, .int x2, .int x3] S Q := by
  refine q_body (by decide) (by first | exact Nat.le_of_ble_eq_true rfl | simp [lg_sl, q_cat, q_catI, q_catJ, q_catR]) ?_
  intro p e s m below meth c ls X hnm Y hl
  have hx := X.1
  have hb := X.2.1
  have hl : lv_has ls 4 [(0, .ref a0), (1, .int x1), (2, .int x2), (3, .int x3)] := by first | exact hl | simpa [lv_args, q_cat, q_catI, q_catJ, q_catR] using hl
  generalize hargs : ([.ref a0, .int x1, .int x2, .int x3] : List Value).toArray = args at X ⊢
  unfold wm_X3_wrongPlace at h
  refine lv_iload_n hx hb dX3_wrongPlace_0 rfl (lv_at hl 1 rfl) ?_
  refine lv_iload_n hx hb dX3_wrongPlace_1 rfl (lv_at hl 2 rfl) ?_
  refine lv_iconst (v := 1) hx hb dX3_wrongPlace_2 (by decide) ?_
  refine lv_isub hx hb dX3_wrongPlace_3 ?_
  refine lv_iand hx hb dX3_wrongPlace_4 ?_
  refine lv_if_ne (tgt := 14) hx hb dX3_wrongPlace_5 (by decide) (fun c3_ => ?_) (fun c3_ => ?_)
  · replace h := h.1 c3_
    exact cb_X3_wrongPlace_14 X Y (lv_sub hl [0, 1, 2] rfl) h
  · replace h := h.2 c3_
    refine lv_iload_n hx hb dX3_wrongPlace_8 rfl (lv_at hl 3 rfl) ?_
    refine lv_if_eq (tgt := 14) hx hb dX3_wrongPlace_9 (by decide) (fun c4_ => ?_) (fun c4_ => ?_)
    · replace h := h.1 c4_
      exact cb_X3_wrongPlace_14 X Y (lv_sub hl [0, 1, 2] rfl) h
    · replace h := h.2 c4_
      refine lv_iconst (v := (-1)) hx hb dX3_wrongPlace_12 (by decide) ?_
      exact q_iret X Y rfl (Nat.le_refl _) (Nat.le_refl _) h dX3_wrongPlace_13
